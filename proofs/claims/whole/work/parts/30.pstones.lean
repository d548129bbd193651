/-! THE PURE PART: the class's cells in S against the reference's cells in T. STONES: which figures agree. -/
def RelS (S T : qw_St) : Prop := S 3 6 = T 143 6 ∧ S 4 = T 144 ∧ S 5 = T 145 ∧ S 6 = T 146 ∧ S 7 = T 147 ∧ S 8 = T 148
def StoI (T : qw_St) : Prop := qz (T 143 6) 60 ∧ (∀ j, j < 240 → T 145 j < 0 ∨ vp_in (T 145 j) 10) ∧ (∀ j, T 147 j = -1 ∨ ¬ T 147 j < 0)
theorem RelS.left {S S' T : qw_St} (h : RelS S T) (hf : ∀ k j, k ≠ 9 → S' k j = S k j) : RelS S' T := by
  obtain ⟨h1, h2, h3, h4, h5, h6⟩ := h
  exact ⟨(hf _ _ (by decide)).trans h1, (funext fun j => hf _ _ (by decide)).trans h2, (funext fun j => hf _ _ (by decide)).trans h3, (funext fun j => hf _ _ (by decide)).trans h4, (funext fun j => hf _ _ (by decide)).trans h5, (funext fun j => hf _ _ (by decide)).trans h6⟩
def nw_v (S : qw_St) (a1 : Int32) (q : Nat) : Int32 := if S 5 (a1 * (4 : Int32) + nI q).toNatClampNeg < 0 then S 9 q else if (10 : Int32) ≤ S 5 (a1 * (4 : Int32) + nI q).toNatClampNeg then S 9 q else S 9 q &&& S 8 (S 5 (a1 * (4 : Int32) + nI q).toNatClampNeg).toNatClampNeg
theorem nw_2 (a1 : Int32) {q : Nat} (hq : q < 4) : ∀ (n k : Nat) (S : qw_St), k + n = 5 → g_X2_narrow_2 a1 n S (nI k) 9 q = if q < k then S 9 q else nw_v S a1 q := by
  intro n
  induction n with
  | zero => intro k S h; rw [if_pos (by omega)]; rfl
  | succ n ih =>
    intro k S h
    rw [g_X2_narrow_2]
    by_cases h4 : (4 : Int32) ≤ nI k
    · rw [if_pos h4]
      have : 4 ≤ k := qi_ge rfl (by omega) (m := 4) rfl h4
      rw [if_pos (by omega)]
    · rw [if_neg h4]
      have hk4 : k < 4 := qi_lt rfl (by omega) (m := 4) rfl h4
      rw [nI_1 k]
      have hc : (nI k).toNatClampNeg = k := nI_clamp (by omega)
      by_cases c1 : S 5 (a1 * (4 : Int32) + nI k).toNatClampNeg < 0
      · rw [if_pos c1, ih _ _ (by omega)]
        rcases Nat.lt_trichotomy q k with e | e | e
        · rw [if_pos (by omega), if_pos e]
        · subst e; rw [if_pos (by omega), if_neg (by omega), nw_v, if_pos c1]
        · rw [if_neg (by omega), if_neg (by omega)]
      · rw [if_neg c1]
        by_cases c2 : (10 : Int32) ≤ S 5 (a1 * (4 : Int32) + nI k).toNatClampNeg
        · rw [if_pos c2, ih _ _ (by omega)]
          rcases Nat.lt_trichotomy q k with e | e | e
          · rw [if_pos (by omega), if_pos e]
          · subst e; rw [if_pos (by omega), if_neg (by omega), nw_v, if_neg c1, if_pos c2]
          · rw [if_neg (by omega), if_neg (by omega)]
        · rw [if_neg c2, ih _ _ (by omega), hc]
          rcases Nat.lt_trichotomy q k with e | e | e
          · rw [if_pos (by omega), if_pos e, up2_ne _ _ (Or.inr (by omega))]
          · subst e; rw [if_pos (by omega), if_neg (by omega), nw_v, if_neg c1, if_neg c2, up2_same]
          · rw [if_neg (by omega), if_neg (by omega)]
            unfold nw_v
            rw [up2_ne _ _ (Or.inl (by decide)), up2_ne _ _ (Or.inr (by omega)), up2_ne _ _ (Or.inl (by decide))]
theorem nw_eq (S : qw_St) (a1 : Int32) {q : Nat} (hq : q < 4) : g_X2_narrow S a1 9 q = nw_v S a1 q := by
  rw [g_X2_narrow, show (0 : Int32) = nI 0 from nI_0.symm, nw_2 a1 hq 5 0 S rfl, if_neg (by omega)]
theorem cmp24 {T : qw_St} (hT : StoI T) (a1 a2 : Int32) {q N : Nat} (hq : q < 4) (hN : N ≤ 60) (eN : T 143 6 = nI N) : ∀ (n k : Nat) (S : qw_St), RelS S T → k + n = N + 1 → k ≤ N → g_X2_compare_24 a1 a2 n S (nI k) 9 q = f_X7_agreeing_8 a1 (nI q) a2 n T (S 9 q) (nI k) := by
  intro n
  induction n with
  | zero => intro k S hR h h9; omega
  | succ n ih =>
    intro k S hR h h9
    obtain ⟨r6, r4, r5, r46, r7, r8⟩ := hR
    have hR : RelS S T := ⟨r6, r4, r5, r46, r7, r8⟩
    rw [g_X2_compare_24, f_X7_agreeing_8, r6, nI_1 k]
    by_cases hk : T 143 6 ≤ nI k
    · rw [if_pos hk, if_pos hk]
    · rw [if_neg hk, if_neg hk]
      have hkN : k < N := qi_ltn rfl (by omega) eN (by omega) hk
      have hc : (nI k).toNatClampNeg = k := nI_clamp (by omega)
      have hRn : RelS (g_X2_narrow S (nI k)) T := hR.left (fun _ j q => fr_X2_narrow _ _ j q)
      have i1 := ih (k + 1) S hR (by omega) (by omega)
      have i2 := ih (k + 1) _ hRn (by omega) (by omega)
      rw [f_X2_isKnown, r4, r46, r7, hc]
      have hix : nI k * (4 : Int32) + nI q = (4 : Int32) * nI k + nI q := by rw [Int32.mul_comm]
      have hin : ((4 : Int32) * nI k + nI q).toNatClampNeg < 240 := by
        rw [show (4 : Int32) = nI 4 from rfl, pk_mul, nI_add, nI_clamp (by omega)]; omega
      have hv : g_X2_narrow S (nI k) 9 q = (if T 145 ((4 : Int32) * nI k + nI q).toNatClampNeg < 0 then S 9 q else S 9 q &&& T 148 (T 145 ((4 : Int32) * nI k + nI q).toNatClampNeg).toNatClampNeg) := by
        rw [nw_eq S _ hq, nw_v, hix, r5, r8]
        rcases hT.2.1 _ hin with e | e
        · rw [if_pos e, if_pos e]
        · have e1 := vp_in_iff.mp e
          rw [if_neg (by rw [Int32.lt_iff_toInt_lt]; have : (0 : Int32).toInt = 0 := rfl; omega), if_neg (by rw [Int32.le_iff_toInt_le]; have : (10 : Int32).toInt = 10 := rfl; omega), if_neg (by rw [Int32.lt_iff_toInt_lt]; have : (0 : Int32).toInt = 0 := rfl; omega)]
      have hn : (T 147 k = -1) ↔ (T 147 k < 0) := by
        rcases hT.2.2 k with e | e
        · rw [e]; simp
        · have : ¬ T 147 k = -1 := fun h => e (by rw [h]; decide)
          simp [this, e]
      simp only [hn]
      by_cases hl : T 144 k = a1
      · rw [if_pos hl]
        by_cases k1 : a2 < T 146 k
        · simp only [if_pos k1, if_true]; exact i1
        · simp only [if_neg k1]
          by_cases k2 : T 147 k < 0
          · simp only [if_pos k2, if_neg (by decide : ¬ (1 : Int32) = 0), if_pos hl]
            rw [i2, hv]
            split
            · rfl
            · rfl
          · simp only [if_neg k2]
            by_cases k3 : T 147 k ≤ a2
            · simp only [if_pos k3, if_true]; exact i1
            · simp only [if_neg k3, if_neg (by decide : ¬ (1 : Int32) = 0), if_pos hl]
              rw [i2, hv]
              split
              · rfl
              · rfl
      · rw [if_neg hl, i1]
        by_cases kk : (if a2 < T 146 k then (0 : Int32) else (if T 147 k < 0 then (1 : Int32) else (if T 147 k ≤ a2 then (0 : Int32) else (1 : Int32)))) = 0
        · rw [if_pos kk]
        · rw [if_neg kk, if_neg hl]
theorem cmp2 {T : qw_St} (hT : StoI T) (a1 a2 : Int32) {q N : Nat} (hq : q < 4) (hN : N ≤ 60) (eN : T 143 6 = nI N) : ∀ (n k : Nat) (S : qw_St), RelS S T → (∀ j, j < k → S 9 j = 1023) → k + n = 5 → k ≤ 4 → g_X2_compare_2 a1 a2 n S (nI k) 9 q = f_X7_agreeing_8 a1 (nI q) a2 (N + 1) T 1023 0 := by
  intro n
  induction n with
  | zero => intro k S hR h3 h h9; omega
  | succ n ih =>
    intro k S hR h3 h h9
    rw [g_X2_compare_2]
    by_cases h4 : (4 : Int32) ≤ nI k
    · have hk : 4 ≤ k := qi_ge rfl (by omega) (m := 4) rfl h4
      rw [if_pos h4, hR.1, eN, nI_clamp (by omega), show (0 : Int32) = nI 0 from nI_0.symm, cmp24 hT a1 a2 hq hN eN (N + 1) 0 S hR (by omega) (by omega), h3 q (by omega)]
    · have hk : k < 4 := qi_lt rfl (by omega) (m := 4) rfl h4
      rw [if_neg h4, nI_1 k, nI_clamp (by omega : k < 2 ^ 31)]
      refine ih _ _ (hR.left (fun a b hh => up2_ne _ _ (Or.inl hh))) (fun j hj => ?_) (by omega) (by omega)
      by_cases e : j = k
      · subst e; exact up2_same _ _ _ _
      · rw [up2_ne _ _ (Or.inr e)]; exact h3 j (by omega)
theorem cmp_eq {S T : qw_St} (hR : RelS S T) (hT : StoI T) (a1 a2 : Int32) {q : Nat} (hq : q < 4) : g_X2_compare S a1 a2 9 q = f_X7_agreeing T a1 (nI q) a2 := by
  obtain ⟨N, hN, eN⟩ := hT.1
  rw [g_X2_compare, f_X7_agreeing, show (0 : Int32) = nI 0 from nI_0.symm, cmp2 hT a1 a2 hq hN eN 5 0 S hR (fun j hj => absurd hj (by omega)) rfl (by omega), eN, nI_clamp (by omega), nI_0]
theorem many_5 {S' T : qw_St} {a1 a2 : Int32} (he : ∀ q, q < 4 → S' 9 q = f_X7_agreeing T a1 (nI q) a2) : ∀ (n k : Nat) (z : Int32), k + n = 5 → f_X2_agreeing_4 n S' z (nI k) = f_X7_many_5 a1 a2 n T z (nI k) := by
  intro n
  induction n with
  | zero => intro k z h; rfl
  | succ n ih =>
    intro k z h
    rw [f_X2_agreeing_4, f_X7_many_5]
    by_cases h4 : (4 : Int32) ≤ nI k
    · rw [if_pos h4, if_pos h4]
    · have hk : k < 4 := qi_lt rfl (by omega) (m := 4) rfl h4
      rw [if_neg h4, if_neg h4, nI_1 k, nI_clamp (by omega : k < 2 ^ 31), he k hk, ih _ _ (by omega)]
theorem many_eq {S' T : qw_St} {a1 a2 : Int32} (he : ∀ q, q < 4 → S' 9 q = f_X7_agreeing T a1 (nI q) a2) : f_X2_agreeing S' = f_X7_many T a1 a2 := by
  rw [f_X2_agreeing, f_X7_many, show (0 : Int32) = nI 0 from nI_0.symm]; exact many_5 he 5 0 1 rfl
/-- a row of figures: bits 0 to 9 -/
def msk (m : Int32) : Prop := m &&& 1023 = m
theorem msk_and {x : Int32} (y : Int32) (h : msk x) : msk (x &&& y) := by
  show x &&& y &&& 1023 = x &&& y
  rw [Int32.and_assoc, Int32.and_comm y, ← Int32.and_assoc, show x &&& 1023 = x from h]
theorem msk_of {x : Int32} (h : msk x) : ∃ j : Nat, j < 1024 ∧ x = nI j := by
  obtain ⟨j, hj, e⟩ := pk_andE x (m := 1023) 10 (by decide)
  exact ⟨j, hj, (show x &&& 1023 = x from h).symm.trans e⟩
theorem ag_msk8 (T : qw_St) (a1 a2 a3 : Int32) : ∀ (n : Nat) (z4 z5 : Int32), msk z4 → msk (f_X7_agreeing_8 a1 a2 a3 n T z4 z5) := by
  intro n
  induction n with
  | zero => intro z4 z5 h; exact (by decide : (0 : Int32) &&& 1023 = 0)
  | succ n ih =>
    intro z4 z5 h
    rw [f_X7_agreeing_8]
    (repeat' split) <;> first | exact h | exact ih _ _ h | exact ih _ _ (msk_and _ h)
theorem ag_msk (T : qw_St) (a1 a2 a3 : Int32) : msk (f_X7_agreeing T a1 a2 a3) := ag_msk8 T a1 a2 a3 _ _ _ (by decide : (1023 : Int32) &&& 1023 = 1023)
def bz (m : Int32) (d : Nat) : Prop := (m >>> (nI d &&& 31)) &&& (1 : Int32) = 0
theorem bz_all : ∀ j, j < 1024 → (∀ d, d < 10 → (nI j >>> (nI d &&& 31)) &&& (1 : Int32) = 0) → j = 0 := by decide +kernel
theorem bz_0 : ∀ d, d < 10 → ((0 : Int32) >>> (nI d &&& 31)) &&& (1 : Int32) = 0 := by decide +kernel
theorem bz_iff {m : Int32} (h : msk m) : (∀ d, d < 10 → bz m d) ↔ m = 0 := by
  constructor
  · intro q
    obtain ⟨j, hj, e⟩ := msk_of h
    subst e
    rw [bz_all j hj q]; rfl
  · intro e; subst e; exact bz_0
theorem in_yes {k : Nat} (h : k < 10) : ¬ f_X7_in (nI k) 0 9 = 0 := by
  have q : ∀ k, k < 10 → ¬ f_X7_in (nI k) 0 9 = 0 := by decide +kernel
  exact q k h
theorem ex_st {a1 a2 a3 y4 y5 m : Int32} {K : qw_St → Int32 → Int32 → Int32} {n k : Nat} {T : qw_St} (h : k < 10) : f_X7_extreme_34 a1 a2 a3 y4 y5 m K (n + 1) T (nI k) = (if (m >>> (nI k &&& 31)) &&& (1 : Int32) = 0 then f_X7_extreme_34 a1 a2 a3 y4 y5 m K n T (nI k + (if a3 = 0 then (1 : Int32) else (-1 : Int32))) else K T ((10 : Int32) * y4 + nI k) (y5 + (1 : Int32))) := by
  rw [f_X7_extreme_34, if_neg (in_yes h), if_neg (in_yes h)]
theorem ex_lo {a1 a2 y4 y5 m : Int32} {K : qw_St → Int32 → Int32 → Int32} {T S' : qw_St} : ∀ (n k : Nat), n + k = 10 → ((∀ d, k ≤ d → d < 10 → bz m d) → f_X7_extreme_34 a1 a2 0 y4 y5 m K (n + 1) T (nI k) = -1) ∧ ((¬ ∀ d, k ≤ d → d < 10 → bz m d) → f_X7_extreme_34 a1 a2 0 y4 y5 m K (n + 1) T (nI k) = K T ((10 : Int32) * y4 + f_X2_lowestFigure_2 m n S' (nI k)) (y5 + (1 : Int32))) := by
  intro n
  induction n with
  | zero =>
    intro k h
    have e : k = 10 := by omega
    subst e
    refine ⟨fun _ => ?_, fun q => absurd (fun d h1 h2 => absurd h1 (by omega)) q⟩
    rw [f_X7_extreme_34, if_pos (by decide +kernel), if_pos (by decide +kernel)]
  | succ n ih =>
    intro k h
    rw [ex_st (by omega), if_pos rfl, nI_1 k]
    obtain ⟨i1, i2⟩ := ih (k + 1) (by omega)
    by_cases hb : (m >>> (nI k &&& 31)) &&& (1 : Int32) = 0
    · rw [if_pos hb]
      have hk : (∀ d, k ≤ d → d < 10 → bz m d) ↔ (∀ d, k + 1 ≤ d → d < 10 → bz m d) := by
        refine ⟨fun q d h1 h2 => q d (by omega) h2, fun q d h1 h2 => ?_⟩
        by_cases e : d = k
        · subst e; exact hb
        · exact q d (by omega) h2
      refine ⟨fun q => i1 (hk.mp q), fun q => ?_⟩
      have q2 := fun h => q (hk.mpr h)
      rw [i2 q2, f_X2_lowestFigure_2, if_pos hb, nI_1 k]
      by_cases h9 : (9 : Int32) ≤ nI k
      · have : 9 ≤ k := qi_ge rfl (by omega) (m := 9) rfl h9
        exact absurd (fun d h1 h2 => absurd h1 (by omega)) q2
      · rw [if_neg h9]
    · rw [if_neg hb]
      refine ⟨fun q => absurd (q k (by omega) (by omega)) hb, fun _ => ?_⟩
      rw [f_X2_lowestFigure_2, if_neg hb]
      split <;> rfl
theorem ex_hi {a1 a2 a3 y4 y5 m : Int32} {K : qw_St → Int32 → Int32 → Int32} {T S' : qw_St} (h3 : ¬ a3 = 0) : ∀ (k : Nat), k < 10 → ((∀ d, d ≤ k → bz m d) → f_X7_extreme_34 a1 a2 a3 y4 y5 m K (k + 2) T (nI k) = -1) ∧ ((¬ ∀ d, d ≤ k → bz m d) → f_X7_extreme_34 a1 a2 a3 y4 y5 m K (k + 2) T (nI k) = K T ((10 : Int32) * y4 + f_X2_highestFigure_3 m (k + 1) S' (nI k)) (y5 + (1 : Int32))) := by
  intro k
  induction k with
  | zero =>
    intro h
    rw [ex_st (by omega), if_neg h3]
    by_cases hb : (m >>> (nI 0 &&& 31)) &&& (1 : Int32) = 0
    · rw [if_pos hb]
      refine ⟨fun _ => ?_, fun q => absurd (fun d h1 => ?_) q⟩
      · rw [f_X7_extreme_34, if_pos (by decide +kernel), if_pos (by decide +kernel)]
      · have e : d = 0 := by omega
        subst e; exact hb
    · rw [if_neg hb]
      refine ⟨fun q => absurd (q 0 (by omega)) hb, fun _ => ?_⟩
      rw [f_X2_highestFigure_3, if_pos (by decide)]
  | succ k ih =>
    intro h
    rw [ex_st (by omega), if_neg h3, pk_m1 k]
    obtain ⟨i1, i2⟩ := ih (by omega)
    rw [f_X2_highestFigure_3, if_neg (nI_nle (by omega) (by omega)), pk_m1 k]
    by_cases hb : (m >>> (nI (k + 1) &&& 31)) &&& (1 : Int32) = 0
    · rw [if_pos hb, if_pos hb]
      have hk : (∀ d, d ≤ k + 1 → bz m d) ↔ (∀ d, d ≤ k → bz m d) := by
        refine ⟨fun q d h1 => q d (by omega), fun q d h1 => ?_⟩
        by_cases e : d = k + 1
        · subst e; exact hb
        · exact q d (by omega)
      exact ⟨fun q => i1 (hk.mp q), fun q => i2 (fun h => q (hk.mpr h))⟩
    · rw [if_neg hb, if_neg hb]
      exact ⟨fun q => absurd (q (k + 1) (by omega)) hb, fun _ => rfl⟩
theorem ex_fig {a1 a2 y4 y5 m : Int32} {K : qw_St → Int32 → Int32 → Int32} {T : qw_St} (S' : qw_St) (h : msk m) : f_X7_extreme_34 a1 a2 0 y4 y5 m K 11 T 0 = (if m = 0 then -1 else K T ((10 : Int32) * y4 + f_X2_lowestFigure S' m) (y5 + (1 : Int32))) := by
  obtain ⟨i1, i2⟩ := ex_lo (a1 := a1) (a2 := a2) (y4 := y4) (y5 := y5) (m := m) (K := K) (T := T) (S' := S') 10 0 rfl
  rw [nI_0] at i1 i2
  by_cases e : m = 0
  · rw [if_pos e]; exact i1 (fun d _ h2 => (bz_iff h).mpr e d h2)
  · rw [if_neg e]; exact i2 (fun q => e ((bz_iff h).mp (fun d h2 => q d (by omega) h2)))
theorem ex_figh {a1 a2 y4 y5 m : Int32} {K : qw_St → Int32 → Int32 → Int32} {T : qw_St} (S' : qw_St) (h : msk m) : f_X7_extreme_34 a1 a2 1 y4 y5 m K 11 T 9 = (if m = 0 then -1 else K T ((10 : Int32) * y4 + f_X2_highestFigure S' m) (y5 + (1 : Int32))) := by
  obtain ⟨i1, i2⟩ := ex_hi (a1 := a1) (a2 := a2) (a3 := 1) (y4 := y4) (y5 := y5) (m := m) (K := K) (T := T) (S' := S') (by decide) 9 (by omega)
  by_cases e : m = 0
  · rw [if_pos e]; exact i1 (fun d h2 => (bz_iff h).mpr e d (by omega))
  · rw [if_neg e]; exact i2 (fun q => e ((bz_iff h).mp (fun d h2 => q d (by omega))))
theorem bc_all : ∀ j, j < 1024 → (f_J6_bitCount_0f7a4 (nI j)).toNatClampNeg ≤ 10 ∧ f_J6_bitCount_0f7a4 (nI j) = nI (f_J6_bitCount_0f7a4 (nI j)).toNatClampNeg ∧ ((f_J6_bitCount_0f7a4 (nI j)).toNatClampNeg = 0 ↔ j = 0) := by decide +kernel
theorem bc_of {m : Int32} (h : msk m) : ∃ b : Nat, b ≤ 10 ∧ f_J6_bitCount_0f7a4 m = nI b ∧ (b = 0 ↔ m = 0) := by
  obtain ⟨j, hj, e⟩ := msk_of h
  subst e
  obtain ⟨h1, h2, h3⟩ := bc_all j hj
  refine ⟨_, h1, h2, h3.trans ⟨fun q => by rw [q]; rfl, fun q => ?_⟩⟩
  exact (nI_eq (by omega) (by omega)).mp (q.trans nI_0.symm)
theorem ag_prod (S : qw_St) : f_X2_agreeing S = 1 * f_J6_bitCount_0f7a4 (S 9 0) * f_J6_bitCount_0f7a4 (S 9 1) * f_J6_bitCount_0f7a4 (S 9 2) * f_J6_bitCount_0f7a4 (S 9 3) := by
  rw [f_X2_agreeing, f_X2_agreeing_4, if_neg (by decide), f_X2_agreeing_4, if_neg (by decide), f_X2_agreeing_4, if_neg (by decide), f_X2_agreeing_4, if_neg (by decide), f_X2_agreeing_4, if_pos (by decide)]
  rfl
theorem ag_zero {S : qw_St} (hm : ∀ q, q < 4 → msk (S 9 q)) : f_X2_agreeing S = 0 ↔ ∃ q, q < 4 ∧ S 9 q = 0 := by
  obtain ⟨b0, l0, e0, z0⟩ := bc_of (hm 0 (by omega))
  obtain ⟨b1, l1, e1, z1⟩ := bc_of (hm 1 (by omega))
  obtain ⟨b2, l2, e2, z2⟩ := bc_of (hm 2 (by omega))
  obtain ⟨b3, l3, e3, z3⟩ := bc_of (hm 3 (by omega))
  have hb : b0 * b1 * b2 * b3 ≤ 10 * 10 * 10 * 10 := Nat.mul_le_mul (Nat.mul_le_mul (Nat.mul_le_mul l0 l1) l2) l3
  rw [ag_prod, e0, e1, e2, e3, Int32.one_mul, pk_mul, pk_mul, pk_mul, show (0 : Int32) = nI 0 from nI_0.symm, nI_eq (by omega) (by omega), Nat.mul_eq_zero, Nat.mul_eq_zero, Nat.mul_eq_zero, z0, z1, z2, z3, nI_0]
  constructor
  · rintro (((h | h) | h) | h)
    · exact ⟨0, by omega, h⟩
    · exact ⟨1, by omega, h⟩
    · exact ⟨2, by omega, h⟩
    · exact ⟨3, by omega, h⟩
  · rintro ⟨q, hq, h⟩
    match q, hq with
    | 0, _ => exact Or.inl (Or.inl (Or.inl h))
    | 1, _ => exact Or.inl (Or.inl (Or.inr h))
    | 2, _ => exact Or.inl (Or.inr h)
    | 3, _ => exact Or.inr h
theorem ex_least {S T : qw_St} {a1 a2 : Int32} (he : ∀ q, q < 4 → S 9 q = f_X7_agreeing T a1 (nI q) a2) : ∀ (n k : Nat) (y : Int32), k + n = 5 → k ≤ 4 → ((∀ q, k ≤ q → q < 4 → ¬ S 9 q = 0) → f_X7_extreme_6 a1 a2 0 n T y (nI k) = f_X2_least_13 n S y (nI k)) ∧ (∀ q, k ≤ q → q < 4 → S 9 q = 0 → f_X7_extreme_6 a1 a2 0 n T y (nI k) = -1) := by
  intro n
  induction n with
  | zero => intro k y h h9; omega
  | succ n ih =>
    intro k y h h9
    rw [f_X7_extreme_6, f_X2_least_13]
    by_cases h4 : (4 : Int32) ≤ nI k
    · have hk : 4 ≤ k := qi_ge rfl (by omega) (m := 4) rfl h4
      rw [if_pos h4, if_pos h4]
      exact ⟨fun _ => rfl, fun q h1 h2 => absurd h1 (by omega)⟩
    · have hk : k < 4 := qi_lt rfl (by omega) (m := 4) rfl h4
      have hc : (nI k).toNatClampNeg = k := nI_clamp (by omega)
      rw [if_neg h4, if_neg h4, if_pos rfl, ← he k hk, ex_fig S (by rw [he k hk]; exact ag_msk _ _ _ _), nI_1 k, hc, Int32.mul_comm y]
      obtain ⟨i1, i2⟩ := ih (k + 1) ((10 : Int32) * y + f_X2_lowestFigure S (S 9 k)) (by omega) (by omega)
      by_cases e : S 9 k = 0
      · rw [if_pos e]
        exact ⟨fun q => absurd e (q k (by omega) hk), fun _ _ _ _ => rfl⟩
      · rw [if_neg e]
        refine ⟨fun q => i1 (fun d h1 h2 => q d (by omega) h2), fun q h1 h2 h3 => i2 q ?_ h2 h3⟩
        have : q ≠ k := fun h => e (h ▸ h3)
        omega
theorem ex_great {S T : qw_St} {a1 a2 : Int32} (he : ∀ q, q < 4 → S 9 q = f_X7_agreeing T a1 (nI q) a2) : ∀ (n k : Nat) (y : Int32), k + n = 5 → k ≤ 4 → ((∀ q, k ≤ q → q < 4 → ¬ S 9 q = 0) → f_X7_extreme_6 a1 a2 1 n T y (nI k) = f_X2_greatest_13 n S y (nI k)) ∧ (∀ q, k ≤ q → q < 4 → S 9 q = 0 → f_X7_extreme_6 a1 a2 1 n T y (nI k) = -1) := by
  intro n
  induction n with
  | zero => intro k y h h9; omega
  | succ n ih =>
    intro k y h h9
    rw [f_X7_extreme_6, f_X2_greatest_13]
    by_cases h4 : (4 : Int32) ≤ nI k
    · have hk : 4 ≤ k := qi_ge rfl (by omega) (m := 4) rfl h4
      rw [if_pos h4, if_pos h4]
      exact ⟨fun _ => rfl, fun q h1 h2 => absurd h1 (by omega)⟩
    · have hk : k < 4 := qi_lt rfl (by omega) (m := 4) rfl h4
      have hc : (nI k).toNatClampNeg = k := nI_clamp (by omega)
      rw [if_neg h4, if_neg h4, if_neg (by decide), ← he k hk, ex_figh S (by rw [he k hk]; exact ag_msk _ _ _ _), nI_1 k, hc, Int32.mul_comm y]
      obtain ⟨i1, i2⟩ := ih (k + 1) ((10 : Int32) * y + f_X2_highestFigure S (S 9 k)) (by omega) (by omega)
      by_cases e : S 9 k = 0
      · rw [if_pos e]
        exact ⟨fun q => absurd e (q k (by omega) hk), fun _ _ _ _ => rfl⟩
      · rw [if_neg e]
        refine ⟨fun q => i1 (fun d h1 h2 => q d (by omega) h2), fun q h1 h2 h3 => i2 q ?_ h2 h3⟩
        have : q ≠ k := fun h => e (h ▸ h3)
        omega
theorem he_msk {S T : qw_St} {a1 a2 : Int32} (he : ∀ q, q < 4 → S 9 q = f_X7_agreeing T a1 (nI q) a2) : ∀ q, q < 4 → msk (S 9 q) := fun q hq => by rw [he q hq]; exact ag_msk _ _ _ _
theorem least_eq {S T : qw_St} {a1 a2 : Int32} (he : ∀ q, q < 4 → S 9 q = f_X7_agreeing T a1 (nI q) a2) : f_X2_least S = f_X7_extreme T a1 a2 0 := by
  obtain ⟨i1, i2⟩ := ex_least he 5 0 0 rfl (by omega)
  rw [nI_0] at i1 i2
  rw [f_X2_least, f_X7_extreme]
  by_cases h : f_X2_agreeing S = 0
  · obtain ⟨q, hq, e⟩ := (ag_zero (he_msk he)).mp h
    rw [if_pos h, i2 q (by omega) hq e]
  · rw [if_neg h, i1 (fun q _ hq e => h ((ag_zero (he_msk he)).mpr ⟨q, hq, e⟩))]
theorem great_eq {S T : qw_St} {a1 a2 : Int32} (he : ∀ q, q < 4 → S 9 q = f_X7_agreeing T a1 (nI q) a2) : f_X2_greatest S = f_X7_extreme T a1 a2 1 := by
  obtain ⟨i1, i2⟩ := ex_great he 5 0 0 rfl (by omega)
  rw [nI_0] at i1 i2
  rw [f_X2_greatest, f_X7_extreme]
  by_cases h : f_X2_agreeing S = 0
  · obtain ⟨q, hq, e⟩ := (ag_zero (he_msk he)).mp h
    rw [if_pos h, i2 q (by omega) hq e]
  · rw [if_neg h, i1 (fun q _ hq e => h ((ag_zero (he_msk he)).mpr ⟨q, hq, e⟩))]
theorem hi_b (m : Int32) (S : qw_St) : ∀ (n k : Nat), k < 10 → ∃ d : Nat, d < 10 ∧ f_X2_highestFigure_3 m n S (nI k) = nI d := by
  intro n
  induction n with
  | zero => intro k h; exact ⟨0, by omega, rfl⟩
  | succ n ih =>
    intro k h
    rw [f_X2_highestFigure_3]
    split
    · exact ⟨k, h, rfl⟩
    · next c =>
      split
      · cases k with
        | zero => exact absurd (by decide) c
        | succ k => rw [pk_m1]; exact ih k (by omega)
      · exact ⟨k, h, rfl⟩
theorem gr_b (S : qw_St) : ∃ v : Nat, v < 10000 ∧ f_X2_greatest_13 5 S 0 0 = nI v := by
  have e : f_X2_greatest_13 5 S 0 0 = (((0 * 10 + f_X2_highestFigure S (S 9 0)) * 10 + f_X2_highestFigure S (S 9 1)) * 10 + f_X2_highestFigure S (S 9 2)) * 10 + f_X2_highestFigure S (S 9 3) := by
    rw [f_X2_greatest_13, if_neg (by decide), f_X2_greatest_13, if_neg (by decide), f_X2_greatest_13, if_neg (by decide), f_X2_greatest_13, if_neg (by decide), f_X2_greatest_13, if_pos (by decide)]
    rfl
  obtain ⟨d0, h0, e0⟩ := hi_b (S 9 0) S 10 9 (by omega)
  obtain ⟨d1, h1, e1⟩ := hi_b (S 9 1) S 10 9 (by omega)
  obtain ⟨d2, h2, e2⟩ := hi_b (S 9 2) S 10 9 (by omega)
  obtain ⟨d3, h3, e3⟩ := hi_b (S 9 3) S 10 9 (by omega)
  refine ⟨((d0 * 10 + d1) * 10 + d2) * 10 + d3, by omega, ?_⟩
  rw [e, show f_X2_highestFigure S (S 9 0) = nI d0 from e0, show f_X2_highestFigure S (S 9 1) = nI d1 from e1, show f_X2_highestFigure S (S 9 2) = nI d2 from e2, show f_X2_highestFigure S (S 9 3) = nI d3 from e3, Int32.zero_mul, Int32.zero_add, show (10 : Int32) = nI 10 from rfl, pk_mul, nI_add, pk_mul, nI_add, pk_mul, nI_add]
