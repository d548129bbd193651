/-! THE PURE PART: the whole relation, and the weeks -/
def sc_n (T : qw_St) : Nat → Nat
  | 0 => 0
  | k + 1 => sc_n T k + (if 0 ≤ T 147 k then 1 else 0)
theorem sc_cong {T T' : qw_St} (h : ∀ j, T' 147 j = T 147 j) : ∀ k, sc_n T' k = sc_n T k := by
  intro k
  induction k with
  | zero => rfl
  | succ k ih => rw [sc_n, sc_n, ih, h k]
def RelM (S T : qw_St) : Prop := S 0 9 = T 143 1 ∧ S 0 8 = T 143 39 ∧ S 15 = T 170 ∧ S 1 1 = T 143 19 ∧ S 2 = T 156 ∧ S 0 10 = T 143 23 ∧ S 3 8 = T 143 7 ∧ S 3 7 = nI (sc_n T (T 143 6).toNatClampNeg)
def StkI (T : qw_St) : Prop := ∀ t i, (T 143 26).toNatClampNeg ≤ t → t < 8 → i < 6 → T 163 (6 * t + i) = 0 ∧ T 164 (6 * t + i) = 0
def UndI (T : qw_St) : Prop := (T 143 17).toNatClampNeg ≤ 2 * (T 143 14).toNatClampNeg ∧ (T 143 17 = 0 ∨ T 154 ((T 143 17).toNatClampNeg - 1) = -1 ∨ (T 143 17).toNatClampNeg + 1 ≤ 2 * (T 143 14).toNatClampNeg) ∧ ∀ j, (T 156 j).toInt8.toInt32 = T 156 j
def InvT (T : qw_St) : Prop := StoI T ∧ NewI T ∧ DecI T ∧ TowI T ∧ StkI T ∧ qz (T 143 1) 5000 ∧ qz (T 143 19) 400 ∧ UndI T
def RA (S T : qw_St) : Prop := RelS S T ∧ RelN S T ∧ RelT S T ∧ RelD S T ∧ RelM S T ∧ InvT T
/-- what of the class's cells counts -/
def kC (k j : Nat) : Prop := k < 143 ∧ k ≠ 9 ∧ (k ≠ 1 ∨ (j ≠ 2 ∧ j ≠ 3))
/-- what of the reference's cells counts -/
def kM (k j : Nat) : Prop := 143 ≤ k ∧ k ≠ 157 ∧ (k ≠ 143 ∨ (j ≠ 0 ∧ j ≠ 20 ∧ j ≠ 21 ∧ j ≠ 22))
theorem RA.to {S S' T T' : qw_St} (h : RA S T) (hS : ∀ k j, kC k j → S' k j = S k j) (hT : ∀ k j, kM k j → T' k j = T k j) : RA S' T' := by
  have c0 : ∀ k j, k < 143 → k ≠ 9 → k ≠ 1 → S' k j = S k j := fun k j h1 h2 h3 => hS k j ⟨h1, h2, Or.inl h3⟩
  have cf : ∀ k, k < 143 → k ≠ 9 → k ≠ 1 → S' k = S k := fun k h1 h2 h3 => funext fun j => c0 k j h1 h2 h3
  have c11 : S' 1 1 = S 1 1 := hS 1 1 ⟨by decide, by decide, Or.inr ⟨by decide, by decide⟩⟩
  have m0 : ∀ k j, 143 < k → k ≠ 157 → T' k j = T k j := fun k j h1 h2 => hT k j ⟨by omega, h2, Or.inl (by omega)⟩
  have mf : ∀ k, 143 < k → k ≠ 157 → T' k = T k := fun k h1 h2 => funext fun j => m0 k j h1 h2
  have ms : ∀ j, j ≠ 0 ∧ j ≠ 20 ∧ j ≠ 21 ∧ j ≠ 22 → T' 143 j = T 143 j := fun j hj => hT 143 j ⟨by decide, by decide, Or.inr hj⟩
  have e1 : T' 143 1 = T 143 1 := ms 1 (by decide)
  have e6 : T' 143 6 = T 143 6 := ms 6 (by decide)
  have e7 : T' 143 7 = T 143 7 := ms 7 (by decide)
  have e14 : T' 143 14 = T 143 14 := ms 14 (by decide)
  have e17 : T' 143 17 = T 143 17 := ms 17 (by decide)
  have e19 : T' 143 19 = T 143 19 := ms 19 (by decide)
  have e23 : T' 143 23 = T 143 23 := ms 23 (by decide)
  have e26 : T' 143 26 = T 143 26 := ms 26 (by decide)
  have e39 : T' 143 39 = T 143 39 := ms 39 (by decide)
  obtain ⟨⟨s1, s2, s3, s4, s5, s6⟩, ⟨n1, n2, n3⟩, ⟨t1, t2, t3⟩, ⟨d1, d2⟩, ⟨x1, x2, x3, x4, x5, x6, x7, x8⟩, i1, i2, i3, i4, i5, i6, i7, i8⟩ := h
  refine ⟨⟨?_, ?_, ?_, ?_, ?_, ?_⟩, ⟨?_, ?_, ?_⟩, ⟨?_, ?_, ?_⟩, ⟨?_, ?_⟩, ⟨?_, ?_, ?_, ?_, ?_, ?_, ?_, ?_⟩, ?_, ?_, ?_, ?_, ?_, ?_, ?_, ?_⟩
  · rw [c0 _ _ (by decide) (by decide) (by decide), e6]; exact s1
  · rw [cf _ (by decide) (by decide) (by decide), mf _ (by decide) (by decide)]; exact s2
  · rw [cf _ (by decide) (by decide) (by decide), mf _ (by decide) (by decide)]; exact s3
  · rw [cf _ (by decide) (by decide) (by decide), mf _ (by decide) (by decide)]; exact s4
  · rw [cf _ (by decide) (by decide) (by decide), mf _ (by decide) (by decide)]; exact s5
  · rw [cf _ (by decide) (by decide) (by decide), mf _ (by decide) (by decide)]; exact s6
  · rw [c0 _ _ (by decide) (by decide) (by decide), e17]; exact n1
  · rw [cf _ (by decide) (by decide) (by decide), mf _ (by decide) (by decide)]; exact n2
  · rw [cf _ (by decide) (by decide) (by decide), mf _ (by decide) (by decide)]; exact n3
  · rw [c0 _ _ (by decide) (by decide) (by decide), e26]; exact t1
  · intro t ht; rw [c0 _ _ (by omega) (by omega) (by omega), m0 _ _ (by decide) (by decide)]; exact t2 t ht
  · intro t i q ht hi hq; rw [c0 _ _ (by omega) (by omega) (by omega), m0 _ _ (by omega) (by omega)]; exact t3 t i q ht hi hq
  · rw [c0 _ _ (by decide) (by decide) (by decide), e14]; exact d1
  · intro d i hd hi
    rw [e14] at hd
    have hd2 : d ≤ 20 := by
      obtain ⟨E, hE, eE⟩ := i3.1
      rw [eE, nI_clamp (by omega)] at hd; omega
    rw [c0 _ _ (by omega) (by omega) (by omega), c0 _ _ (by omega) (by omega) (by omega), c0 _ _ (by omega) (by omega) (by omega), c0 _ _ (by omega) (by omega) (by omega), c0 _ _ (by omega) (by omega) (by omega), m0 _ _ (by decide) (by decide), m0 _ _ (by decide) (by decide), m0 _ _ (by decide) (by decide), m0 _ _ (by decide) (by decide), m0 _ _ (by decide) (by decide)]
    exact d2 d i hd hi
  · rw [c0 _ _ (by decide) (by decide) (by decide), e1]; exact x1
  · rw [c0 _ _ (by decide) (by decide) (by decide), e39]; exact x2
  · rw [cf _ (by decide) (by decide) (by decide), mf _ (by decide) (by decide)]; exact x3
  · rw [c11, e19]; exact x4
  · rw [cf _ (by decide) (by decide) (by decide), mf _ (by decide) (by decide)]; exact x5
  · rw [c0 _ _ (by decide) (by decide) (by decide), e23]; exact x6
  · rw [c0 _ _ (by decide) (by decide) (by decide), e7]; exact x7
  · rw [c0 _ _ (by decide) (by decide) (by decide), e6, sc_cong (fun j => m0 _ j (by decide) (by decide))]; exact x8
  · rw [StoI, e6, mf 145 (by decide) (by decide), mf 147 (by decide) (by decide)]; exact i1
  · rw [NewI, e17, e14, mf 154 (by decide) (by decide)]; exact i2
  · rw [DecI, e14, mf 149 (by decide) (by decide), mf 150 (by decide) (by decide), mf 151 (by decide) (by decide), mf 152 (by decide) (by decide)]; exact i3
  · rw [TowI, e26, mf 158 (by decide) (by decide), mf 160 (by decide) (by decide)]; exact i4
  · rw [StkI, e26, mf 163 (by decide) (by decide), mf 164 (by decide) (by decide)]; exact i5
  · rw [e1]; exact i6
  · rw [e19]; exact i7
  · rw [UndI, e17, e14, mf 154 (by decide) (by decide), mf 156 (by decide) (by decide)]; exact i8
theorem RA.left {S S' T : qw_St} (h : RA S T) (hf : ∀ k j, k ≠ 9 → S' k j = S k j) : RA S' T := h.to (fun k j hk => hf k j hk.2.1) (fun _ _ _ => rfl)
theorem RA.thr {S T : qw_St} (h : RA S T) (v : Int32) : RA S (up2 T 143 0 v) := h.to (fun _ _ _ => rfl) (fun k j hk => up2_ne _ _ (hk.2.2.imp id (fun q => q.1)))
theorem RA.inv {S T : qw_St} (h : RA S T) : InvC S ∧ InvM T := by
  obtain ⟨⟨s1, -⟩, ⟨n1, n2, n3⟩, ⟨t1, -⟩, -, -, i1, i2, i3, i4, -⟩ := h
  refine ⟨⟨by rw [s1]; exact i1.1, by rw [n1]; exact i2.1, fun k hk => by rw [n3]; exact i2.2.2 k hk, by rw [t1]; exact i4.1⟩, i1.1, i1.2.1, i2.1, fun k hk => ?_, i4.1, fun j hj => qi_nneg (i4.2.2 j hj) (by decide)⟩
  exact (i2.2.2 k hk).imp (fun q => by rw [q]; decide) id
theorem RA.price {S T : qw_St} (h : RA S T) {a1 a2 : Int32} (h1 : vp_in a1 8) (h2 : vp_in a2 6) : f_X6_priceToday S a1 a2 = f_X7_priceOf T a1 a2 ∧ qz (f_X6_priceToday S a1 a2) 9999 ∧ ¬ T 160 ((6 : Int32) * a1 + a2).toNatClampNeg < f_X6_priceToday S a1 a2 :=
  price_eq h.1 h.2.2.2.2.2.1 h.2.1 h.2.2.1 h.2.2.2.1 h.2.2.2.2.2.2.1 h.2.2.2.2.2.2.2.1 h.2.2.2.2.2.2.2.2.1 h.2.2.2.2.1.1 h1 h2
theorem RA.cap {S T : qw_St} (h : RA S T) {a1 a2 : Int32} (h1 : vp_in a1 8) (h2 : vp_in a2 6) (a3 a4 : Int32) : f_X6_highest S a1 a2 a3 a4 = f_X7_capOf T a1 a2 a3 a4 ∧ (f_X6_highest S a1 a2 a3 a4 = -1 ∨ qz (f_X6_highest S a1 a2 a3 a4) 100000) :=
  cap_eq h.1 h.2.2.2.2.2.1 h.2.1 h.2.2.1 h.2.2.2.1 h.2.2.2.2.2.2.1 h.2.2.2.2.2.2.2.1 h.2.2.2.2.2.2.2.2.1 h1 h2 a3 a4
/-- one thing's week keeps the whole relation -/
theorem RA.week {S T : qw_St} (h : RA S T) {t i : Nat} (ht : t < (T 143 26).toNatClampNeg) (hi : i < 6) {y2 : Int32} (h2 : y2 = (T 143 39 * T 158 t) / (10 : Int32)) : RA (g_X5_passWeek (g_X6_priceToday S (nI t) (nI i)) t i (f_X6_priceToday S (nI t) (nI i)) y2 (S 15 i)) (g_X7_market T (nI t) (nI i)) := by
  have ht8 : t < 8 := by
    obtain ⟨E, hE, eE⟩ := h.2.2.2.2.2.2.2.2.1.1
    rw [eE, nI_clamp (by omega)] at ht; omega
  obtain ⟨p1, p2, -⟩ := h.price (vp_in_nI ht8 (by decide)) (vp_in_nI hi (by decide))
  have hp : ¬ f_X7_priceOf T (nI t) (nI i) < 0 := by rw [← p1]; exact qi_nneg p2 (by decide)
  rw [p1]
  have h' : RA (g_X6_priceToday S (nI t) (nI i)) T := h.left (fun k j hk => fr_X6_priceToday _ _ _ _ hk)
  have e15 : S 15 i = T 170 i := by rw [h.2.2.2.2.1.2.2.1]
  generalize g_X6_priceToday S (nI t) (nI i) = S1 at *
  have hw := week_eq ht8 hi (fun q hq => h'.2.2.1.2.2 t i q ht8 hi hq) h2 e15 hp
  have hj : (((6 : Int32) * nI t) + nI i).toNatClampNeg = 6 * t + i := ix6 (by omega) (by omega)
  have fS : ∀ k j, k ≠ 81 + 8 * t + i → g_X5_passWeek S1 t i (f_X7_priceOf T (nI t) (nI i)) y2 (S 15 i) k j = S1 k j := fun k j hk => fr_X5_passWeek _ _ _ _ _ _ _ hk
  have fT : ∀ k j, (k < 163 ∨ 169 < k) ∨ j ≠ 6 * t + i → g_X7_market T (nI t) (nI i) k j = T k j := fun k j hk => fm_X7 _ _ _ _ (by rw [hj]; exact hk)
  generalize g_X5_passWeek S1 t i (f_X7_priceOf T (nI t) (nI i)) y2 (S 15 i) = S2 at *
  generalize g_X7_market T (nI t) (nI i) = T2 at *
  have cf : ∀ k, k < 81 → S2 k = S1 k := fun k hk => funext fun j => fS k j (by omega)
  have mf : ∀ k, k < 163 ∨ 169 < k → T2 k = T k := fun k hk => funext fun j => fT k j (Or.inl hk)
  have e143 : T2 143 = T 143 := mf 143 (by omega)
  obtain ⟨⟨s1, s2, s3, s4, s5, s6⟩, ⟨n1, n2, n3⟩, ⟨t1, t2, t3⟩, ⟨d1, d2⟩, ⟨x1, x2, x3, x4, x5, x6, x7, x8⟩, i1, i2, i3, i4, i5, i6, i7, i8⟩ := h'
  refine ⟨⟨?_, ?_, ?_, ?_, ?_, ?_⟩, ⟨?_, ?_, ?_⟩, ⟨?_, ?_, ?_⟩, ⟨?_, ?_⟩, ⟨?_, ?_, ?_, ?_, ?_, ?_, ?_, ?_⟩, ?_, ?_, ?_, ?_, ?_, ?_, ?_, ?_⟩
  · rw [cf _ (by decide), e143]; exact s1
  · rw [cf _ (by decide), mf _ (by decide)]; exact s2
  · rw [cf _ (by decide), mf _ (by decide)]; exact s3
  · rw [cf _ (by decide), mf _ (by decide)]; exact s4
  · rw [cf _ (by decide), mf _ (by decide)]; exact s5
  · rw [cf _ (by decide), mf _ (by decide)]; exact s6
  · rw [cf _ (by decide), e143]; exact n1
  · rw [cf _ (by decide), mf _ (by decide)]; exact n2
  · rw [cf _ (by decide), mf _ (by decide)]; exact n3
  · rw [cf _ (by decide), e143]; exact t1
  · intro t' ht'; rw [fS _ _ (by omega), mf _ (by decide)]; exact t2 t' ht'
  · intro t' i' q ht' hi' hq
    by_cases e : t' = t ∧ i' = i
    · obtain ⟨rfl, rfl⟩ := e; exact hw q hq
    · rw [fS _ _ (by omega), fT _ _ (Or.inr (by omega))]; exact t3 t' i' q ht' hi' hq
  · rw [cf _ (by decide), e143]; exact d1
  · intro d i' hd hi'
    rw [e143] at hd
    have hd2 : d ≤ 20 := by
      obtain ⟨E, hE, eE⟩ := i3.1
      rw [eE, nI_clamp (by omega)] at hd; omega
    rw [cf _ (by omega), cf _ (by omega), cf _ (by omega), mf _ (by decide), mf _ (by decide), mf _ (by decide), mf _ (by decide), mf _ (by decide)]
    exact d2 d i' hd hi'
  · rw [cf _ (by decide), e143]; exact x1
  · rw [cf _ (by decide), e143]; exact x2
  · rw [cf _ (by decide), mf _ (by decide)]; exact x3
  · rw [cf _ (by decide), e143]; exact x4
  · rw [cf _ (by decide), mf _ (by decide)]; exact x5
  · rw [cf _ (by decide), e143]; exact x6
  · rw [cf _ (by decide), e143]; exact x7
  · rw [cf _ (by decide), e143, sc_cong (fun j => by rw [mf _ (by decide)])]; exact x8
  · rw [StoI, e143, mf 145 (by decide), mf 147 (by decide)]; exact i1
  · rw [NewI, e143, mf 154 (by decide)]; exact i2
  · rw [DecI, e143, mf 149 (by decide), mf 150 (by decide), mf 151 (by decide), mf 152 (by decide)]; exact i3
  · rw [TowI, e143, mf 158 (by decide), mf 160 (by decide)]; exact i4
  · intro t' i' h1 h3 h4
    rw [e143] at h1
    rw [fT _ _ (Or.inr (by omega)), fT _ _ (Or.inr (by omega))]
    exact i5 t' i' h1 h3 h4
  · rw [e143]; exact i6
  · rw [e143]; exact i7
  · rw [UndI, e143, mf 154 (by decide), mf 156 (by decide)]; exact i8
theorem RelT.cg {S S' T T' : qw_St} (h : RelT S T) (h0 : S' 0 7 = S 0 7) (hS : ∀ k j, 79 ≤ k → k < 143 → S' k j = S k j) (h26 : T' 143 26 = T 143 26) (h158 : T' 158 = T 158) (hT : ∀ k, 159 ≤ k → k ≤ 169 → T' k = T k) : RelT S' T' := by
  refine ⟨by rw [h0, h26]; exact h.1, fun t ht => ?_, fun t i q ht hi hq => ?_⟩
  · rw [hS _ _ (by omega) (by omega), h158]; exact h.2.1 t ht
  · rw [hS _ _ (by omega) (by omega), hT _ (by omega) (by omega)]; exact h.2.2 t i q ht hi hq
theorem RelD.cg {S S' T T' : qw_St} (h : RelD S T) (hq : qz (T 143 14) 20) (h0 : S' 0 6 = S 0 6) (hS : ∀ k j, 16 ≤ k → k < 79 → S' k j = S k j) (h14 : T' 143 14 = T 143 14) (hT : ∀ k, 149 ≤ k → k ≤ 153 → T' k = T k) : RelD S' T' := by
  refine ⟨by rw [h0, h14]; exact h.1, fun d i hd hi => ?_⟩
  rw [h14] at hd
  have hd2 : d ≤ 20 := by
    obtain ⟨E, hE, eE⟩ := hq
    rw [eE, nI_clamp (by omega)] at hd; omega
  rw [hS _ _ (by omega) (by omega), hS _ _ (by omega) (by omega), hS _ _ (by omega) (by omega), hS _ _ (by omega) (by omega), hS _ _ (by omega) (by omega), hT _ (by decide) (by decide), hT _ (by decide) (by decide), hT _ (by decide) (by decide), hT _ (by decide) (by decide), hT _ (by decide) (by decide)]
  exact h.2 d i hd hi
theorem up2_c (S : qw_St) (k j : Nat) (v : Int32) {a : Nat} (h : a ≠ k) : up2 S k j v a = S a := funext fun b => up2_ne _ _ (Or.inl h)
theorem RA.day {S T : qw_St} (h : RA S T) {v : Int32} (hv : qz v 5000) : RA (up2 S 0 9 v) (up2 T 143 1 v) := by
  obtain ⟨r1, r2, r3, r4, ⟨x1, x2, x3, x4, x5, x6, x7, x8⟩, i1, i2, i3, i4, i5, i6, i7, i8⟩ := h
  exact ⟨r1, r2, r3.cg rfl (fun k j h1 h2 => up2_ne _ _ (Or.inl (by omega))) rfl rfl (fun k h1 h2 => up2_c _ _ _ _ (by omega)), r4.cg i3.1 rfl (fun k j h1 h2 => up2_ne _ _ (Or.inl (by omega))) rfl (fun k h1 h2 => up2_c _ _ _ _ (by omega)), ⟨rfl, x2, x3, x4, x5, x6, x7, x8.trans (congrArg nI (sc_cong (T := T) (T' := up2 T 143 1 v) (fun j => rfl) (T 143 6).toNatClampNeg).symm)⟩, i1, i2, i3, i4, i5, hv, i7, i8⟩
theorem hold30 {t : Nat} {y2 : Int32} : ∀ (n k : Nat) (S T : qw_St), RA S T → t < (T 143 26).toNatClampNeg → y2 = (T 143 39 * T 158 t) / (10 : Int32) → k + n = 7 → k ≤ 6 → ∃ S' T' : qw_St, RA S' T' ∧ T' 143 = T 143 ∧ (∀ K, g_X6_holdMarkets_30 (nI t) y2 K n S (nI k) = K S' (nI t + 1)) ∧ (∀ a1 w K, g_X7_weeks_74 a1 w (nI t) K n T (nI k) = K T' (nI t + 1)) ∧ (∀ a1 w K, f_X7_weeks_74 a1 w (nI t) K n T (nI k) = K T' (nI t + 1)) := by
  intro n
  induction n with
  | zero => intro k S T _ _ _ h1 h2; omega
  | succ n ih =>
    intro k S T hR ht hy h1 h2
    by_cases h6 : (6 : Int32) ≤ nI k
    · exact ⟨S, T, hR, rfl, fun K => by rw [g_X6_holdMarkets_30, if_pos h6], fun a1 w K => by rw [g_X7_weeks_74, if_pos h6], fun a1 w K => by rw [f_X7_weeks_74, if_pos h6]⟩
    · have hk : k < 6 := qi_lt rfl (by omega) (m := 6) rfl h6
      have hc : (nI k).toNatClampNeg = k := nI_clamp (by omega)
      have ht8 : t < 8 := by
        obtain ⟨E, hE, eE⟩ := hR.2.2.2.2.2.2.2.2.1.1
        rw [eE, nI_clamp (by omega)] at ht; omega
      have hct : (nI t).toNatClampNeg = t := nI_clamp (by omega)
      have hw := hR.week ht hk hy
      have e143 : g_X7_market T (nI t) (nI k) 143 = T 143 := funext fun j => fm_X7 _ _ _ _ (Or.inl (by omega))
      have e158 : g_X7_market T (nI t) (nI k) 158 = T 158 := funext fun j => fm_X7 _ _ _ _ (Or.inl (by omega))
      obtain ⟨S', T', q1, q2, q3, q4, q5⟩ := ih (k + 1) _ _ hw (by rw [e143]; exact ht) (by rw [e143, e158]; exact hy) (by omega) (by omega)
      refine ⟨S', T', q1, q2.trans e143, fun K => ?_, fun a1 w K => ?_, fun a1 w K => ?_⟩
      · rw [g_X6_holdMarkets_30, if_neg h6, nI_1 k, hc, hct]; exact q3 K
      · rw [g_X7_weeks_74, if_neg h6, nI_1 k]; exact q4 a1 w K
      · rw [f_X7_weeks_74, if_neg h6, nI_1 k]; exact q5 a1 w K
theorem hold2 {N : Nat} (hN : N ≤ 8) : ∀ (n k : Nat) (S T : qw_St), RA S T → T 143 26 = nI N → k + n = N + 1 → k ≤ N → ∃ T' : qw_St, RA (g_X6_holdMarkets_2 n S (nI k)) T' ∧ T' 143 = T 143 ∧ (∀ m a1 w K, m + k = 9 → g_X7_weeks_63 a1 w K m T (nI k) = K T' (w + 1)) ∧ (∀ m a1 w K, m + k = 9 → f_X7_weeks_63 a1 w K m T (nI k) = K T' (w + 1)) := by
  intro n
  induction n with
  | zero => intro k S T _ _ h1 h2; omega
  | succ n ih =>
    intro k S T hR eN h1 h2
    rw [g_X6_holdMarkets_2, hR.2.2.1.1]
    by_cases hk : T 143 26 ≤ nI k
    · rw [if_pos hk]
      refine ⟨T, hR, rfl, fun m a1 w K hm => ?_, fun m a1 w K hm => ?_⟩
      · obtain ⟨m', rfl⟩ : ∃ m', m = m' + 1 := ⟨m - 1, by omega⟩
        rw [g_X7_weeks_63, if_pos hk]
      · obtain ⟨m', rfl⟩ : ∃ m', m = m' + 1 := ⟨m - 1, by omega⟩
        rw [f_X7_weeks_63, if_pos hk]
    · have hkN : k < N := qi_ltn rfl (by omega) eN (by omega) hk
      have hc : (nI k).toNatClampNeg = k := nI_clamp (by omega)
      rw [if_neg hk, hc, show (0 : Int32) = nI 0 from nI_0.symm, hR.2.2.2.2.1.2.1, hR.2.2.1.2.1 k (by omega)]
      obtain ⟨S1, T1, q1, q2, q3, q4, q5⟩ := hold30 (t := k) 7 0 S T hR (by rw [eN, nI_clamp (by omega)]; exact hkN) rfl (by omega) (by omega)
      rw [q3]
      obtain ⟨T2, p1, p2, p3, p4⟩ := ih (k + 1) S1 T1 q1 (by rw [q2]; exact eN) (by omega) (by omega)
      rw [nI_1 k]
      refine ⟨T2, p1, p2.trans q2, fun m a1 w K hm => ?_, fun m a1 w K hm => ?_⟩
      · obtain ⟨m', rfl⟩ : ∃ m', m = m' + 1 := ⟨m - 1, by omega⟩
        rw [g_X7_weeks_63, if_neg hk, show (0 : Int32) = nI 0 from nI_0.symm, q4, nI_1 k]
        exact p3 m' a1 w K (by omega)
      · obtain ⟨m', rfl⟩ : ∃ m', m = m' + 1 := ⟨m - 1, by omega⟩
        rw [f_X7_weeks_63, if_neg hk, show (0 : Int32) = nI 0 from nI_0.symm, q5, nI_1 k]
        exact p4 m' a1 w K (by omega)
theorem hold_eq {S T : qw_St} (hR : RA S T) : ∃ T' : qw_St, RA (g_X6_holdMarkets S) T' ∧ T' 143 = T 143 ∧ (∀ a1 w K, g_X7_weeks_63 a1 w K 9 T 0 = K T' (w + 1)) ∧ (∀ a1 w K, f_X7_weeks_63 a1 w K 9 T 0 = K T' (w + 1)) := by
  obtain ⟨N, hN, eN⟩ := hR.2.2.2.2.2.2.2.2.1.1
  obtain ⟨T', p1, p2, p3, p4⟩ := hold2 hN (N + 1) 0 S T hR eN (by omega) (by omega)
  rw [nI_0] at p1 p3 p4
  refine ⟨T', ?_, p2, fun a1 w K => p3 9 a1 w K rfl, fun a1 w K => p4 9 a1 w K rfl⟩
  rw [g_X6_holdMarkets, hR.2.2.1.1, eN, nI_clamp (by omega)]
  exact p1
