/-! THE PURE PART: what was heard, the highest price, the price today -/
def RelN (S T : qw_St) : Prop := S 11 2 = T 143 17 ∧ S 12 = T 155 ∧ S 13 = T 154
def RelD (S T : qw_St) : Prop := S 0 6 = T 143 14 ∧ ∀ d i, d < (T 143 14).toNatClampNeg → i < 6 → S (17 + 3 * d) i = T 149 (6 * d + i) ∧ S (18 + 3 * d) i = T 150 (6 * d + i) ∧ S (16 + 3 * d) 2 = T 151 d ∧ S (16 + 3 * d) 3 = T 152 d ∧ S (16 + 3 * d) 4 = T 153 d
def RelT (S T : qw_St) : Prop := S 0 7 = T 143 26 ∧ (∀ t, t < 8 → S (79 + 8 * t) 1 = T 158 t) ∧ ∀ t i q, t < 8 → i < 6 → q < 11 → S (81 + 8 * t + i) q = T (159 + q) (6 * t + i)
def NewI (T : qw_St) : Prop := qz (T 143 17) 40 ∧ (∀ k, k < (T 143 17).toNatClampNeg → T 154 k = -1 ∨ ∃ d, d < (T 143 14).toNatClampNeg ∧ T 154 k = nI d) ∧ ∀ k, k < 40 → T 154 k = -1 ∨ vp_in (T 154 k) 21
def DecI (T : qw_St) : Prop := qz (T 143 14) 20 ∧ ∀ d i, d < (T 143 14).toNatClampNeg → i < 6 → (T 149 (6 * d + i) = -1 ∨ qz (T 149 (6 * d + i)) 9999) ∧ (T 150 (6 * d + i) = -1 ∨ ¬ T 150 (6 * d + i) < 0) ∧ qz (T 151 d) 99 ∧ qz (T 152 d) 100
def TowI (T : qw_St) : Prop := qz (T 143 26) 8 ∧ (∀ t, t < 8 → qz (T 158 t) 2000) ∧ (∀ j, j < 48 → qz (T 160 j) 9999)
def hd_v (T : qw_St) (a b : Int32) : Nat → Int32
  | 0 => -1
  | k + 1 => if b < T 155 k + a then hd_v T a b k else T 154 k
theorem hd_C {S T : qw_St} (hR : RelN S T) (a b : Int32) {N : Nat} (hN : N ≤ 40) (eN : T 143 17 = nI N) : ∀ (n k : Nat), k + n = N + 1 → k ≤ N → f_X1_heard_5 a b n S (hd_v T a b k) (nI k) = hd_v T a b N := by
  intro n
  induction n with
  | zero => intro k h h9; omega
  | succ n ih =>
    intro k h h9
    rw [f_X1_heard_5, hR.1, hR.2.1, hR.2.2]
    by_cases hk : T 143 17 ≤ nI k
    · rw [if_pos hk]
      have : N ≤ k := qi_gen rfl (by omega) eN (by omega) hk
      rw [show k = N by omega]
    · have hkN : k < N := qi_ltn rfl (by omega) eN (by omega) hk
      rw [if_neg hk, nI_1 k, nI_clamp (by omega : k < 2 ^ 31), ← ih (k + 1) (by omega) (by omega), hd_v]
      split <;> rfl
theorem hd_M {T : qw_St} (a1 a2 : Int32) : ∀ (k : Nat), k ≤ 40 → f_X7_forceOf_7 a1 a2 (k + 1) T (nI k - 1) = hd_v T (T 158 a1.toNatClampNeg / (10 : Int32)) a2 k := by
  intro k
  induction k with
  | zero => intro _; rw [f_X7_forceOf_7, if_pos (by decide)]; rfl
  | succ k ih =>
    intro h
    rw [f_X7_forceOf_7, nI_pred, if_neg (nI_pos (by omega)), nI_clamp (by omega : k < 2 ^ 31), hd_v, ← ih (by omega), Int32.sub_eq_add_neg]
theorem hd_val (T : qw_St) (hN : NewI T) (a b : Int32) : ∀ k, k ≤ (T 143 17).toNatClampNeg → hd_v T a b k = -1 ∨ ∃ d, d < (T 143 14).toNatClampNeg ∧ hd_v T a b k = nI d := by
  intro k
  induction k with
  | zero => intro _; exact Or.inl rfl
  | succ k ih =>
    intro h
    rw [hd_v]
    split
    · exact ih (by omega)
    · exact hN.2.1 k (by omega)
theorem force_hd {T : qw_St} (hT : NewI T) (a1 a2 : Int32) : f_X7_forceOf T a1 a2 = hd_v T (T 158 a1.toNatClampNeg / (10 : Int32)) a2 (T 143 17).toNatClampNeg := by
  obtain ⟨N, hN, eN⟩ := hT.1
  rw [f_X7_forceOf]
  have e : (T 143 17).toNatClampNeg = N := by rw [eN]; exact nI_clamp (by omega)
  rw [e, eN, hd_M a1 a2 N hN]
theorem force_eq {S T : qw_St} (hR : RelN S T) (hW : RelT S T) (hT : NewI T) {a1 : Int32} (h1 : vp_in a1 8) (a2 : Int32) : f_X6_inForce S a1 a2 = f_X7_forceOf T a1 a2 := by
  obtain ⟨N, hN, eN⟩ := hT.1
  have e : (T 143 17).toNatClampNeg = N := by rw [eN]; exact nI_clamp (by omega)
  rw [force_hd hT, e, f_X6_inForce, f_X1_heard, f_X4_tensOfMiles, hW.2.1 _ (vp_lt h1), hR.1, e]
  have := hd_C hR (T 158 a1.toNatClampNeg / (10 : Int32)) a2 hN eN (N + 1) 0 (by omega) (by omega)
  rw [nI_0] at this
  exact this
theorem force_val {T : qw_St} (hT : NewI T) (a1 a2 : Int32) : f_X7_forceOf T a1 a2 = -1 ∨ ∃ d, d < (T 143 14).toNatClampNeg ∧ f_X7_forceOf T a1 a2 = nI d := by
  rw [force_hd hT]; exact hd_val T hT _ _ _ (Nat.le_refl _)
/-- the price that the edict names -/
theorem told_eq {S T : qw_St} (hR : RelS S T) (hS : StoI T) (hD : RelD S T) (hI : DecI T) {d i : Nat} (hd : d < (T 143 14).toNatClampNeg) (hi : i < 6) {a2 : Int32} (h2 : a2 = nI i) (a4 : Int32) :
    f_X6_toldCap S d a2 a4 = (if T 150 (6 * d + i) < 0 then T 149 (6 * d + i) else (if 0 ≤ f_X7_extreme T (T 150 (6 * d + i)) a4 1 then f_X7_extreme T (T 150 (6 * d + i)) a4 1 else (9999 : Int32))) ∧ (f_X6_toldCap S d a2 a4 = -1 ∨ qz (f_X6_toldCap S d a2 a4) 9999) := by
  have hc : a2.toNatClampNeg = i := by rw [h2]; exact nI_clamp (by omega)
  obtain ⟨r1, r2, -⟩ := hD.2 d i hd hi
  obtain ⟨i1, i2, -⟩ := hI.2 d i hd hi
  rw [f_X6_toldCap, hc, r1, r2]
  by_cases hl : T 150 (6 * d + i) < 0
  · have e : T 150 (6 * d + i) = -1 := i2.elim id (fun q => absurd hl q)
    rw [if_pos e, if_pos hl]
    exact ⟨rfl, i1⟩
  · have e : ¬ T 150 (6 * d + i) = -1 := fun q => hl (by rw [q]; decide)
    rw [if_neg e, if_neg hl]
    have he : ∀ q, q < 4 → g_X2_compare S (T 150 (6 * d + i)) a4 9 q = f_X7_agreeing T (T 150 (6 * d + i)) (nI q) a4 := fun q hq => cmp_eq hR hS _ _ hq
    rw [← great_eq he]
    by_cases hz : f_X2_agreeing (g_X2_compare S (T 150 (6 * d + i)) a4) = 0
    · rw [if_pos hz, f_X2_greatest, if_pos hz, if_neg (by decide)]
      exact ⟨rfl, Or.inr ⟨9999, by omega, rfl⟩⟩
    · rw [if_neg hz, f_X2_greatest, if_neg hz]
      obtain ⟨v, hv, ev⟩ := gr_b (g_X2_compare S (T 150 (6 * d + i)) a4)
      rw [ev, if_pos (nI_pos' (by omega))]
      exact ⟨rfl, Or.inr ⟨v, by omega, rfl⟩⟩
theorem qz_nn {x : Int32} {N : Nat} (h : x = -1 ∨ qz x N) (hN : N < 2 ^ 31) : (x = -1) ↔ ¬ (0 ≤ x) := by
  rcases h with h | ⟨k, hk, h⟩
  · rw [h]; decide
  · have e : 0 ≤ x := by rw [h]; exact nI_pos' (by omega)
    have e2 : ¬ x = -1 := fun q => by rw [q] at e; revert e; decide
    simp [e, e2]
theorem ix6 {d i : Nat} (hd : d < 1000) (hi : i < 1000) : ((6 : Int32) * nI d + nI i).toNatClampNeg = 6 * d + i := by
  rw [show (6 : Int32) = nI 6 from rfl, pk_mul, nI_add, nI_clamp (by omega)]
theorem cap_eq {S T : qw_St} (hR : RelS S T) (hS : StoI T) (hN : RelN S T) (hW : RelT S T) (hD : RelD S T) (nI1 : NewI T) (hI : DecI T) (hT : TowI T) {a1 a2 : Int32} (h1 : vp_in a1 8) (h2 : vp_in a2 6) (a3 a4 : Int32) : f_X6_highest S a1 a2 a3 a4 = f_X7_capOf T a1 a2 a3 a4 ∧ (f_X6_highest S a1 a2 a3 a4 = -1 ∨ qz (f_X6_highest S a1 a2 a3 a4) 100000) := by
  obtain ⟨t, ht, e1⟩ := vp_in_of h1 (by omega)
  obtain ⟨i, hi, e2⟩ := vp_in_of h2 (by omega)
  have hc1 : a1.toNatClampNeg = t := by rw [e1]; exact nI_clamp (by omega)
  obtain ⟨E, hE, eE⟩ := hI.1
  have hEc : (T 143 14).toNatClampNeg = E := by rw [eE]; exact nI_clamp (by omega)
  unfold f_X6_highest f_X7_capOf
  rw [force_eq hN hW nI1 h1]
  rcases force_val nI1 a1 a4 with e | ⟨d, hd, e⟩
  · rw [e, if_pos (by decide), if_pos (by decide)]
    exact ⟨rfl, Or.inl rfl⟩
  · have hd2 : d < 20 := by omega
    have hlt : nI d < S 0 6 := by rw [hD.1, eE]; exact nI_lt (a := d) (b := E) (by omega) (by omega)
    rw [e, if_neg (nI_pos (by omega)), if_pos hlt, if_neg (nI_pos (by omega)), nI_clamp (by omega : d < 2 ^ 31), hc1]
    obtain ⟨tv, tb⟩ := told_eq hR hS hD hI hd hi e2 a4
    obtain ⟨r1, r2, r3, r4, r5⟩ := hD.2 d i hd hi
    obtain ⟨-, -, q3, q4⟩ := hI.2 d i hd hi
    have ex : (((6 : Int32) * nI d) + a2).toNatClampNeg = 6 * d + i := by rw [e2, ix6 (by omega) (by omega)]
    rw [ex]
    unfold f_X0_frees
    rw [r5]
    by_cases hf : ((T 153 d) >>> (a1 &&& 31)) &&& (1 : Int32) = (1 : Int32)
    · simp only [if_pos hf, if_neg (by decide : ¬ (1 : Int32) = 0), if_true]
      exact ⟨trivial, Or.inl trivial⟩
    · simp only [if_neg hf, if_true]
      rw [← tv]
      have h16 : ∀ j, g_X6_toldCap S d a2 a4 (16 + 3 * d) j = S (16 + 3 * d) j := fun j => fr_X6_toldCap _ _ _ _ _ (by omega)
      have hm : f_X4_tensOfMiles (g_X6_toldCap S d a2 a4) t = T 158 t / (10 : Int32) := by rw [f_X4_tensOfMiles, fr_X6_toldCap _ _ _ _ _ (by omega), hW.2.1 t ht]
      rw [h16, h16, r3, r4, hm]
      generalize hc : f_X6_toldCap S d a2 a4 = c at tb
      have hq := qz_nn tb (by omega)
      by_cases h0 : 0 ≤ c
      · rw [if_neg (fun q => hq.mp q h0), if_pos h0]
        obtain ⟨v, hv, ev⟩ := tb.resolve_left (fun q => by rw [q] at h0; revert h0; decide)
        obtain ⟨g, hg, eg⟩ := q3
        obtain ⟨w, hw, ew⟩ := q4
        obtain ⟨u, hu, eu⟩ := hT.2.1 t ht
        rw [ev, eg, ew, eu, show (10 : Int32) = nI 10 from rfl, show (100 : Int32) = nI 100 from rfl, pk_div (by omega) (by omega) (by omega), pk_mul, nI_add]
        have b1 : g * (u / 10) ≤ 99 * 200 := Nat.mul_le_mul hg (by omega)
        have b2 : (v + g * (u / 10)) * w ≤ 29799 * 100 := Nat.mul_le_mul (by omega) hw
        split
        · exact ⟨rfl, Or.inr ⟨_, by omega, rfl⟩⟩
        · rw [pk_mul, pk_div (by omega) (by omega) (by omega), nI_add]
          exact ⟨rfl, Or.inr ⟨_, by omega, rfl⟩⟩
      · rw [if_pos (hq.mpr h0), if_neg h0]
        exact ⟨rfl, Or.inl rfl⟩
theorem price_eq {S T : qw_St} (hR : RelS S T) (hS : StoI T) (hN : RelN S T) (hW : RelT S T) (hD : RelD S T) (nI1 : NewI T) (hI : DecI T) (hT : TowI T) (hday : S 0 9 = T 143 1) {a1 a2 : Int32} (h1 : vp_in a1 8) (h2 : vp_in a2 6) : f_X6_priceToday S a1 a2 = f_X7_priceOf T a1 a2 ∧ qz (f_X6_priceToday S a1 a2) 9999 ∧ ¬ T 160 ((6 : Int32) * a1 + a2).toNatClampNeg < f_X6_priceToday S a1 a2 := by
  obtain ⟨t, ht, e1⟩ := vp_in_of h1 (by omega)
  obtain ⟨i, hi, e2⟩ := vp_in_of h2 (by omega)
  have hc1 : a1.toNatClampNeg = t := by rw [e1]; exact nI_clamp (by omega)
  have hc2 : a2.toNatClampNeg = i := by rw [e2]; exact nI_clamp (by omega)
  have ex : (((6 : Int32) * a1) + a2).toNatClampNeg = 6 * t + i := by rw [e1, e2, ix6 (by omega) (by omega)]
  obtain ⟨c1, c2⟩ := cap_eq hR hS hN hW hD nI1 hI hT h1 h2 0 (S 0 9)
  rw [f_X6_priceToday, f_X7_priceOf, ← hday, ← c1, ex, hc1, hc2, hW.2.2 t i 1 ht hi (by omega)]
  obtain ⟨b, hb, eb⟩ := hT.2.2 (6 * t + i) (by omega)
  rw [eb]
  generalize hc : f_X6_highest S a1 a2 0 (S 0 9) = c at c2
  rcases c2 with q | ⟨v, hv, q⟩
  · rw [q, if_pos rfl, if_pos (by decide)]
    exact ⟨rfl, ⟨b, hb, rfl⟩, nI_nlt (Nat.le_refl _) (by omega)⟩
  · rw [q, if_neg (fun h => by have h9 := nI_pos (n := v) (by omega); rw [h] at h9; exact h9 (by decide)), if_neg (nI_pos (by omega))]
    by_cases hvb : v < b
    · rw [if_pos (nI_lt hvb (by omega)), if_neg (nI_ge hvb (by omega))]
      exact ⟨rfl, ⟨v, by omega, rfl⟩, nI_nlt (by omega) (by omega)⟩
    · rw [if_neg (nI_nlt (by omega) (by omega)), if_pos (nI_le (by omega) (by omega))]
      exact ⟨rfl, ⟨b, hb, rfl⟩, nI_nlt (Nat.le_refl _) (by omega)⟩
