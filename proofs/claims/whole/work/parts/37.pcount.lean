/-! THE PURE PART: counting, feeding, stones -/
theorem cn_72 (a : Int32) : ∀ (n : Nat) (T : qw_St) (z2 z3 : Int32), g_X7_count_72 a n T z2 z3 = T := by
  intro n
  induction n with
  | zero => intro T z2 z3; rfl
  | succ n ih => intro T z2 z3; rw [g_X7_count_72, ih, ite_self]
theorem cn_122 (a : Int32) : ∀ (n : Nat) (T : qw_St) (z2 z3 : Int32), g_X7_count_122 a n T z2 z3 = T := by
  intro n
  induction n with
  | zero => intro T z2 z3; rfl
  | succ n ih => intro T z2 z3; rw [g_X7_count_122, ih, ite_self]
theorem cn_147 (a : Int32) : ∀ (n : Nat) (T : qw_St) (z2 z3 : Int32), g_X7_count_147 a n T z2 z3 = T := by
  intro n
  induction n with
  | zero => intro T z2 z3; rfl
  | succ n ih => intro T z2 z3; rw [g_X7_count_147, ih, ite_self]
theorem cn_172 (a : Int32) : ∀ (n : Nat) (T : qw_St) (z2 z3 : Int32), g_X7_count_172 a n T z2 z3 = T := by
  intro n
  induction n with
  | zero => intro T z2 z3; rfl
  | succ n ih => intro T z2 z3; rw [g_X7_count_172, ih, ite_self]
theorem sc_le (T : qw_St) : ∀ k, sc_n T k ≤ k := by
  intro k
  induction k with
  | zero => exact Nat.le_refl _
  | succ k ih => rw [sc_n]; split <;> omega
theorem cf_72 {T : qw_St} {N : Nat} (a : Int32) (eN : T 143 6 = nI N) (hN : N ≤ 60) : ∀ (n k : Nat), k + n = 61 → k ≤ N → f_X7_count_72 a n T (nI (k - sc_n T k)) (nI k) = nI (N - sc_n T N) := by
  intro n
  induction n with
  | zero => intro k h1 h2; omega
  | succ n ih =>
    intro k h1 h2
    rw [f_X7_count_72]
    by_cases c : T 143 6 ≤ nI k
    · have : N ≤ k := qi_gen rfl (by omega) eN (by omega) c
      rw [if_pos c, show k = N by omega]
    · have hk : k < N := qi_ltn rfl (by omega) eN (by omega) c
      have hl := sc_le T k
      rw [if_neg c, nI_1 k, nI_clamp (by omega : k < 2 ^ 31), ← ih (k + 1) (by omega) (by omega), sc_n]
      by_cases q : 0 ≤ T 147 k
      · rw [if_pos q, if_pos q, Int32.add_zero, show k + 1 - (sc_n T k + 1) = k - sc_n T k by omega]
      · rw [if_neg q, if_neg q, nI_1, show k + 1 - (sc_n T k + 0) = k - sc_n T k + 1 by omega]
def ss (f : Nat → Int32) : Nat → Int32
  | 0 => 0
  | k + 1 => ss f k + f k
theorem ss_zero {f : Nat → Int32} {a : Nat} : ∀ b, a ≤ b → (∀ j, a ≤ j → j < b → f j = 0) → ss f b = ss f a := by
  intro b
  induction b with
  | zero => intro h _; rw [show a = 0 by omega]
  | succ b ih =>
    intro h hf
    by_cases e : a = b + 1
    · rw [e]
    · rw [ss, hf b (by omega) (by omega), Int32.add_zero, ih (by omega) (fun j h1 h2 => hf j h1 (by omega))]
theorem cf_122 (T : qw_St) (a : Int32) : ∀ (n k : Nat), k + n = 49 → k ≤ 48 → f_X7_count_122 a n T (ss (T 163) k) (nI k) = ss (T 163) 48 := by
  intro n
  induction n with
  | zero => intro k h1 h2; omega
  | succ n ih =>
    intro k h1 h2
    rw [f_X7_count_122]
    by_cases c : (48 : Int32) ≤ nI k
    · have : 48 ≤ k := qi_ge rfl (by omega) (m := 48) rfl c
      rw [if_pos c, show k = 48 by omega]
    · have hk : k < 48 := qi_lt rfl (by omega) (m := 48) rfl c
      rw [if_neg c, nI_1 k, nI_clamp (by omega : k < 2 ^ 31), ← ih (k + 1) (by omega) (by omega), ss]
theorem cf_147 (T : qw_St) (a : Int32) : ∀ (n k : Nat), k + n = 49 → k ≤ 48 → f_X7_count_147 a n T (ss (T 164) k) (nI k) = ss (T 164) 48 := by
  intro n
  induction n with
  | zero => intro k h1 h2; omega
  | succ n ih =>
    intro k h1 h2
    rw [f_X7_count_147]
    by_cases c : (48 : Int32) ≤ nI k
    · have : 48 ≤ k := qi_ge rfl (by omega) (m := 48) rfl c
      rw [if_pos c, show k = 48 by omega]
    · have hk : k < 48 := qi_lt rfl (by omega) (m := 48) rfl c
      rw [if_neg c, nI_1 k, nI_clamp (by omega : k < 2 ^ 31), ← ih (k + 1) (by omega) (by omega), ss]
theorem so_14 {S : qw_St} {f : Nat → Int32} {t : Nat} (ht : t < 8) (hf : ∀ i, i < 6 → S (81 + 8 * t + i) 4 = f (6 * t + i)) : ∀ (n k : Nat) (K : qw_St → Int32 → Int32 → Int32), k + n = 7 → k ≤ 6 → f_X6_stockOfAll_14 (nI t) K n S (ss f (6 * t + k)) (nI k) = K S (ss f (6 * t + 6)) (nI t + 1) := by
  intro n
  induction n with
  | zero => intro k K h1 h2; omega
  | succ n ih =>
    intro k K h1 h2
    rw [f_X6_stockOfAll_14]
    by_cases c : (6 : Int32) ≤ nI k
    · have : 6 ≤ k := qi_ge rfl (by omega) (m := 6) rfl c
      rw [if_pos c, show k = 6 by omega]
    · have hk : k < 6 := qi_lt rfl (by omega) (m := 6) rfl c
      rw [if_neg c, nI_1 k, nI_clamp (by omega : k < 2 ^ 31), nI_clamp (by omega : t < 2 ^ 31), hf k hk]
      exact ih (k + 1) K (by omega) (by omega)
theorem so_4 {S : qw_St} {f : Nat → Int32} {N : Nat} (hN : N ≤ 8) (eN : S 0 7 = nI N) (hf : ∀ t i, t < 8 → i < 6 → S (81 + 8 * t + i) 4 = f (6 * t + i)) : ∀ (n k : Nat), k + n = N + 1 → k ≤ N → f_X6_stockOfAll_4 n S (ss f (6 * k)) (nI k) = ss f (6 * N) := by
  intro n
  induction n with
  | zero => intro k h1 h2; omega
  | succ n ih =>
    intro k h1 h2
    rw [f_X6_stockOfAll_4]
    by_cases c : S 0 7 ≤ nI k
    · have : N ≤ k := qi_gen rfl (by omega) eN (by omega) c
      rw [if_pos c, show k = N by omega]
    · have hk : k < N := qi_ltn rfl (by omega) eN (by omega) c
      rw [if_neg c, show (0 : Int32) = nI 0 from nI_0.symm]
      rw [show ss f (6 * k) = ss f (6 * k + 0) from rfl, so_14 (t := k) (by omega) (fun i hi => hf k i (by omega) hi) 7 0 _ rfl (by omega), nI_1 k]
      exact ih (k + 1) (by omega) (by omega)
theorem hi_14 {S : qw_St} {f : Nat → Int32} {t : Nat} (ht : t < 8) (hf : ∀ i, i < 6 → S (81 + 8 * t + i) 5 = f (6 * t + i)) : ∀ (n k : Nat) (K : qw_St → Int32 → Int32 → Int32), k + n = 7 → k ≤ 6 → f_X6_hiddenOfAll_14 (nI t) K n S (ss f (6 * t + k)) (nI k) = K S (ss f (6 * t + 6)) (nI t + 1) := by
  intro n
  induction n with
  | zero => intro k K h1 h2; omega
  | succ n ih =>
    intro k K h1 h2
    rw [f_X6_hiddenOfAll_14]
    by_cases c : (6 : Int32) ≤ nI k
    · have : 6 ≤ k := qi_ge rfl (by omega) (m := 6) rfl c
      rw [if_pos c, show k = 6 by omega]
    · have hk : k < 6 := qi_lt rfl (by omega) (m := 6) rfl c
      rw [if_neg c, nI_1 k, nI_clamp (by omega : k < 2 ^ 31), nI_clamp (by omega : t < 2 ^ 31), hf k hk]
      exact ih (k + 1) K (by omega) (by omega)
theorem hi_4 {S : qw_St} {f : Nat → Int32} {N : Nat} (hN : N ≤ 8) (eN : S 0 7 = nI N) (hf : ∀ t i, t < 8 → i < 6 → S (81 + 8 * t + i) 5 = f (6 * t + i)) : ∀ (n k : Nat), k + n = N + 1 → k ≤ N → f_X6_hiddenOfAll_4 n S (ss f (6 * k)) (nI k) = ss f (6 * N) := by
  intro n
  induction n with
  | zero => intro k h1 h2; omega
  | succ n ih =>
    intro k h1 h2
    rw [f_X6_hiddenOfAll_4]
    by_cases c : S 0 7 ≤ nI k
    · have : N ≤ k := qi_gen rfl (by omega) eN (by omega) c
      rw [if_pos c, show k = N by omega]
    · have hk : k < N := qi_ltn rfl (by omega) eN (by omega) c
      rw [if_neg c, show (0 : Int32) = nI 0 from nI_0.symm]
      rw [show ss f (6 * k) = ss f (6 * k + 0) from rfl, hi_14 (t := k) (by omega) (fun i hi => hf k i (by omega) hi) 7 0 _ rfl (by omega), nI_1 k]
      exact ih (k + 1) (by omega) (by omega)
theorem set_4 {T : qw_St} (a : Int32) : ∀ (n k : Nat) (S : qw_St) (z : Int32), RA S T → k + n = 31 → k ≤ 30 → f_X6_settledLines_4 n S z (nI k) = f_X7_count_172 a n T z (nI k) := by
  intro n
  induction n with
  | zero => intro k S z _ h1 h2; omega
  | succ n ih =>
    intro k S z h h1 h2
    rw [f_X6_settledLines_4, f_X7_count_172]
    by_cases c : (30 : Int32) ≤ nI k
    · rw [if_pos c, if_pos c]
    · have hk : k < 30 := qi_lt rfl (by omega) (m := 30) rfl c
      have e9 : S 0 9 = T 143 1 := h.2.2.2.2.1.1
      have he : ∀ q, q < 4 → g_X2_compare S (nI k) (T 143 1) 9 q = f_X7_agreeing T (nI k) (nI q) (T 143 1) := fun q hq => cmp_eq h.1 h.2.2.2.2.2.1 _ _ hq
      have hR : RA (g_X2_compare S (nI k) (T 143 1)) T := h.left (fun k j q => fr_X2_compare _ _ _ _ q)
      rw [if_neg c, if_neg c, nI_1 k, e9, many_eq he]
      by_cases q : f_X7_many T (nI k) (T 143 1) = 1
      · rw [if_pos q, if_pos q]; exact ih _ _ _ hR (by omega) (by omega)
      · rw [if_neg q, if_neg q, Int32.add_zero]; exact ih _ _ _ hR (by omega) (by omega)
theorem fr_set_4 : ∀ (n : Nat) (S : qw_St) (z1 z2 : Int32) (k j : Nat), k ≠ 9 → g_X6_settledLines_4 n S z1 z2 k j = S k j := by
  intro n
  induction n with
  | zero => intro S z1 z2 k j h; rfl
  | succ n ih =>
    intro S z1 z2 k j h
    rw [g_X6_settledLines_4]
    split
    · rfl
    · split
      · rw [ih _ _ _ _ _ h, fr_X2_compare _ _ _ _ h]
      · rw [ih _ _ _ _ _ h, fr_X2_compare _ _ _ _ h]
theorem op_count {S T : qw_St} (h : RA S T) (a1 : Int32) : f_X6_count S a1 = f_X7_count T a1 ∧ RA (g_X6_count S a1) (g_X7_count T a1) := by
  have h0 := h.thr 0
  have hst : ∀ f : Nat → Int32, (∀ t i, (T 143 26).toNatClampNeg ≤ t → t < 8 → i < 6 → f (6 * t + i) = 0) → (T 143 26).toNatClampNeg ≤ 8 → ss f 48 = ss f (6 * (T 143 26).toNatClampNeg) := fun f hf hN => ss_zero 48 (by omega) (fun j h1 h2 => by
    have e : j = 6 * (j / 6) + j % 6 := by omega
    rw [e]; exact hf (j / 6) (j % 6) (by omega) (by omega) (by omega))
  obtain ⟨N, hN, eN⟩ := h.2.2.2.2.2.2.2.2.1.1
  have hNc : (T 143 26).toNatClampNeg = N := by rw [eN]; exact nI_clamp (by omega)
  have eS : S 0 7 = nI N := h.2.2.1.1.trans eN
  have hSc : (S 0 7).toNatClampNeg = N := by rw [eS]; exact nI_clamp (by omega)
  rw [hNc] at hst
  have hk := h.2.2.2.2.2.2.2.2.2.1
  unfold StkI at hk
  rw [hNc] at hk
  unfold f_X6_count g_X6_count f_X7_count g_X7_count
  by_cases c0 : a1 = 0
  · simp only [if_pos c0]; exact ⟨h.2.2.2.2.1.1, h0⟩
  by_cases c1 : a1 = 1
  · simp only [if_neg c0, if_pos c1]; exact ⟨h.1.1, h0⟩
  by_cases c2 : a1 = 2
  · simp only [if_neg c0, if_neg c1, if_pos c2, cn_72]
    refine ⟨?_, h0⟩
    obtain ⟨M, hM, eM⟩ := h.2.2.2.2.2.1.1
    have q := cf_72 (T := up2 T 143 0 0) a1 eM hM 61 0 rfl (by omega)
    rw [sc_cong (T := T) (T' := up2 T 143 0 0) (fun j => rfl) M] at q
    have x8 := h.2.2.2.2.1.2.2.2.2.2.2.2
    rw [eM, nI_clamp (by omega)] at x8
    rw [h.1.1, eM, x8, pk_sub (sc_le T M)]
    exact q.symm
  by_cases c3 : a1 = 3
  · simp only [if_neg c0, if_neg c1, if_neg c2, if_pos c3]; exact ⟨h.2.2.2.2.1.2.2.2.2.2.2.1, h0⟩
  by_cases c4 : a1 = 4
  · simp only [if_neg c0, if_neg c1, if_neg c2, if_neg c3, if_pos c4]; exact ⟨h.2.2.2.1.1, h0⟩
  by_cases c5 : a1 = 5
  · simp only [if_neg c0, if_neg c1, if_neg c2, if_neg c3, if_neg c4, if_pos c5]; exact ⟨h.2.2.1.1, h0⟩
  by_cases c6 : a1 = 6
  · simp only [if_neg c0, if_neg c1, if_neg c2, if_neg c3, if_neg c4, if_neg c5, if_pos c6, cn_122]
    refine ⟨?_, h0⟩
    have q := cf_122 (up2 T 143 0 0) a1 49 0 rfl (by omega)
    have q2 := so_4 hN eS (f := T 163) (fun t i ht hi => h.2.2.1.2.2 t i 4 ht hi (by omega)) (N + 1) 0 (by omega) (by omega)
    have q3 := hst (T 163) (fun t i h1 h2 h3 => (hk t i h1 h2 h3).1) hN
    rw [f_X6_stockOfAll, hSc]
    exact (q2.trans q3.symm).trans q.symm
  by_cases c7 : a1 = 7
  · simp only [if_neg c0, if_neg c1, if_neg c2, if_neg c3, if_neg c4, if_neg c5, if_neg c6, if_pos c7, cn_147]
    refine ⟨?_, h0⟩
    have q := cf_147 (up2 T 143 0 0) a1 49 0 rfl (by omega)
    have q2 := hi_4 hN eS (f := T 164) (fun t i ht hi => h.2.2.1.2.2 t i 5 ht hi (by omega)) (N + 1) 0 (by omega) (by omega)
    have q3 := hst (T 164) (fun t i h1 h2 h3 => (hk t i h1 h2 h3).2) hN
    rw [f_X6_hiddenOfAll, hSc]
    exact (q2.trans q3.symm).trans q.symm
  by_cases c8 : a1 = 8
  · simp only [if_neg c0, if_neg c1, if_neg c2, if_neg c3, if_neg c4, if_neg c5, if_neg c6, if_neg c7, if_pos c8, cn_172]
    refine ⟨?_, h0.left (fun k j q => fr_set_4 _ _ _ _ _ _ q)⟩
    have q := set_4 (T := up2 T 143 0 0) a1 31 0 S 0 h0 rfl (by omega)
    rw [nI_0] at q
    exact q
  · simp only [if_neg c0, if_neg c1, if_neg c2, if_neg c3, if_neg c4, if_neg c5, if_neg c6, if_neg c7, if_neg c8]
    exact ⟨trivial, h0⟩
theorem RA.tape {S S' T T' : qw_St} (h : RA S T) (hS : ∀ k j, k < 143 → k ≠ 2 → (k ≠ 1 ∨ (j ≠ 1 ∧ j ≠ 2 ∧ j ≠ 3)) → S' k j = S k j) (hT : ∀ k j, 143 ≤ k → k ≠ 156 → k ≠ 157 → (k ≠ 143 ∨ (j ≠ 0 ∧ j ≠ 19)) → T' k j = T k j) (y1 : S' 1 1 = T' 143 19) (y2 : S' 2 = T' 156) (y3 : qz (T' 143 19) 400) (y4 : ∀ j, (T' 156 j).toInt8.toInt32 = T' 156 j) : RA S' T' := by
  have c0 : ∀ k j, k < 143 → k ≠ 2 → k ≠ 1 → S' k j = S k j := fun k j h1 h2 h3 => hS k j h1 h2 (Or.inl h3)
  have cf : ∀ k, k < 143 → k ≠ 2 → k ≠ 1 → S' k = S k := fun k h1 h2 h3 => funext fun j => c0 k j h1 h2 h3
  have m0 : ∀ k j, 143 < k → (k ≠ 157 ∧ k ≠ 156) → T' k j = T k j := fun k j h1 h2 => hT k j (by omega) h2.2 h2.1 (Or.inl (by omega))
  have mf : ∀ k, 143 < k → (k ≠ 157 ∧ k ≠ 156) → T' k = T k := fun k h1 h2 => funext fun j => m0 k j h1 h2
  have ms : ∀ j, j ≠ 0 ∧ j ≠ 19 → T' 143 j = T 143 j := fun j hj => hT 143 j (by decide) (by decide) (by decide) (Or.inr hj)
  have e1 : T' 143 1 = T 143 1 := ms 1 (by decide)
  have e6 : T' 143 6 = T 143 6 := ms 6 (by decide)
  have e7 : T' 143 7 = T 143 7 := ms 7 (by decide)
  have e14 : T' 143 14 = T 143 14 := ms 14 (by decide)
  have e17 : T' 143 17 = T 143 17 := ms 17 (by decide)
  have e23 : T' 143 23 = T 143 23 := ms 23 (by decide)
  have e26 : T' 143 26 = T 143 26 := ms 26 (by decide)
  have e39 : T' 143 39 = T 143 39 := ms 39 (by decide)
  obtain ⟨⟨s1, s2, s3, s4, s5, s6⟩, ⟨n1, n2, n3⟩, ⟨t1, t2, t3⟩, ⟨d1, d2⟩, ⟨x1, x2, x3, x4, x5, x6, x7, x8⟩, i1, i2, i3, i4, i5, i6, i7, i8⟩ := h
  refine ⟨⟨?_, ?_, ?_, ?_, ?_, ?_⟩, ⟨?_, ?_, ?_⟩, ⟨?_, ?_, ?_⟩, ⟨?_, ?_⟩, ⟨?_, ?_, ?_, ?_, ?_, ?_, ?_, ?_⟩, ?_, ?_, ?_, ?_, ?_, ?_, ?_, ?_⟩
  · rw [c0 _ _ (by decide) (by decide) (by decide), e6]; exact s1
  · rw [cf _ (by decide) (by decide) (by decide), mf _ (by decide) (by decide)]; exact s2
  · rw [cf _ (by decide) (by decide) (by decide), mf _ (by decide) (by decide)]; exact s3
  · rw [cf _ (by decide) (by decide) (by decide), mf _ (by decide) (by decide)]; exact s4
  · rw [cf _ (by decide) (by decide) (by decide), mf _ (by decide) (by decide)]; exact s5
  · rw [cf _ (by decide) (by decide) (by decide), mf _ (by decide) (by decide)]; exact s6
  · rw [c0 _ _ (by decide) (by decide) (by decide), e17]; exact n1
  · rw [cf _ (by decide) (by decide) (by decide), mf _ (by decide) (by decide)]; exact n2
  · rw [cf _ (by decide) (by decide) (by decide), mf _ (by decide) (by decide)]; exact n3
  · rw [c0 _ _ (by decide) (by decide) (by decide), e26]; exact t1
  · intro t ht; rw [c0 _ _ (by omega) (by omega) (by omega), m0 _ _ (by decide) (by decide)]; exact t2 t ht
  · intro t i q ht hi hq; rw [c0 _ _ (by omega) (by omega) (by omega), m0 _ _ (by omega) (by omega)]; exact t3 t i q ht hi hq
  · rw [c0 _ _ (by decide) (by decide) (by decide), e14]; exact d1
  · intro d i hd hi
    rw [e14] at hd
    have hd2 : d ≤ 20 := by
      obtain ⟨E, hE, eE⟩ := i3.1
      rw [eE, nI_clamp (by omega)] at hd; omega
    rw [c0 _ _ (by omega) (by omega) (by omega), c0 _ _ (by omega) (by omega) (by omega), c0 _ _ (by omega) (by omega) (by omega), c0 _ _ (by omega) (by omega) (by omega), c0 _ _ (by omega) (by omega) (by omega), m0 _ _ (by decide) (by decide), m0 _ _ (by decide) (by decide), m0 _ _ (by decide) (by decide), m0 _ _ (by decide) (by decide), m0 _ _ (by decide) (by decide)]
    exact d2 d i hd hi
  · rw [c0 _ _ (by decide) (by decide) (by decide), e1]; exact x1
  · rw [c0 _ _ (by decide) (by decide) (by decide), e39]; exact x2
  · rw [cf _ (by decide) (by decide) (by decide), mf _ (by decide) (by decide)]; exact x3
  · exact y1
  · exact y2
  · rw [c0 _ _ (by decide) (by decide) (by decide), e23]; exact x6
  · rw [c0 _ _ (by decide) (by decide) (by decide), e7]; exact x7
  · rw [c0 _ _ (by decide) (by decide) (by decide), e6, sc_cong (fun j => m0 _ j (by decide) (by decide))]; exact x8
  · rw [StoI, e6, mf 145 (by decide) (by decide), mf 147 (by decide) (by decide)]; exact i1
  · rw [NewI, e17, e14, mf 154 (by decide) (by decide)]; exact i2
  · rw [DecI, e14, mf 149 (by decide) (by decide), mf 150 (by decide) (by decide), mf 151 (by decide) (by decide), mf 152 (by decide) (by decide)]; exact i3
  · rw [TowI, e26, mf 158 (by decide) (by decide), mf 160 (by decide) (by decide)]; exact i4
  · rw [StkI, e26, mf 163 (by decide) (by decide), mf 164 (by decide) (by decide)]; exact i5
  · rw [e1]; exact i6
  · exact y3
  · rw [UndI, e17, e14, mf 154 (by decide) (by decide)]; exact ⟨i8.1, i8.2.1, y4⟩
