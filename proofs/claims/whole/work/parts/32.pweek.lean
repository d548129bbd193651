/-! THE PURE PART: a market's week -/
theorem lt11 {P : Nat → Prop} (h0 : P 0) (h1 : P 1) (h2 : P 2) (h3 : P 3) (h4 : P 4) (h5 : P 5) (h6 : P 6) (h7 : P 7) (h8 : P 8) (h9 : P 9) (h10 : P 10) : ∀ q, q < 11 → P q := by
  intro q hq
  match q, hq with
  | 0, _ => exact h0
  | 1, _ => exact h1
  | 2, _ => exact h2
  | 3, _ => exact h3
  | 4, _ => exact h4
  | 5, _ => exact h5
  | 6, _ => exact h6
  | 7, _ => exact h7
  | 8, _ => exact h8
  | 9, _ => exact h9
  | 10, _ => exact h10
def RW (S T : qw_St) (c j : Nat) : Prop := ∀ q, q < 11 → S c q = T (159 + q) j
theorem wk_bring {S T : qw_St} {t i j : Nat} (h : RW S T (81 + 8 * t + i) j) {A1 A2 y3 a1 a2 : Int32} (hj : y3.toNatClampNeg = j) (ha : a2 = (T 143 39 * T 158 A1.toNatClampNeg) / (10 : Int32)) :
    RW (if a1 < S (81 + 8 * t + i) 0 + a2 then S else g_X5_bring S t i) (s_X7_market_71 T A1 A2 y3 a1) (81 + 8 * t + i) j := by
  unfold s_X7_market_71 g_X5_bring
  rw [hj, ← ha]
  generalize 81 + 8 * t + i = c at *
  have h0 : S c 0 = T 159 j := h 0 (by omega)
  have h1 : S c 1 = T 160 j := h 1 (by omega)
  have h2 : S c 2 = T 161 j := h 2 (by omega)
  have h3 : S c 3 = T 162 j := h 3 (by omega)
  have h4 : S c 4 = T 163 j := h 4 (by omega)
  have h5 : S c 5 = T 164 j := h 5 (by omega)
  have h6 : S c 6 = T 165 j := h 6 (by omega)
  have h7 : S c 7 = T 166 j := h 7 (by omega)
  have h8 : S c 8 = T 167 j := h 8 (by omega)
  have h9 : S c 9 = T 168 j := h 9 (by omega)
  have h10 : S c 10 = T 169 j := h 10 (by omega)
  rw [h0]
  by_cases k : a1 < T 159 j + a2
  · rw [if_pos k, if_pos k]; exact h
  · rw [if_neg k, if_neg k]
    refine lt11 ?_ ?_ ?_ ?_ ?_ ?_ ?_ ?_ ?_ ?_ ?_ <;> simp [up2_at, h0, h1, h2, h3, h4, h5, h6, h7, h8, h9, h10]
theorem wk_hide {S T : qw_St} {t i j : Nat} (h : RW S T (81 + 8 * t + i) j) {A1 A2 y3 a1 : Int32} (hj : y3.toNatClampNeg = j) :
    RW (if S (81 + 8 * t + i) 1 ≤ a1 then g_X5_showAll S t i else g_X5_hideHalf S t i) (s_X7_market_124 T A1 A2 y3 a1) (81 + 8 * t + i) j := by
  unfold s_X7_market_124 g_X5_showAll g_X5_hideHalf
  rw [hj]
  generalize 81 + 8 * t + i = c at *
  have h0 : S c 0 = T 159 j := h 0 (by omega)
  have h1 : S c 1 = T 160 j := h 1 (by omega)
  have h2 : S c 2 = T 161 j := h 2 (by omega)
  have h3 : S c 3 = T 162 j := h 3 (by omega)
  have h4 : S c 4 = T 163 j := h 4 (by omega)
  have h5 : S c 5 = T 164 j := h 5 (by omega)
  have h6 : S c 6 = T 165 j := h 6 (by omega)
  have h7 : S c 7 = T 166 j := h 7 (by omega)
  have h8 : S c 8 = T 167 j := h 8 (by omega)
  have h9 : S c 9 = T 168 j := h 9 (by omega)
  have h10 : S c 10 = T 169 j := h 10 (by omega)
  rw [h1]
  by_cases k : T 160 j ≤ a1
  · simp only [if_pos k]
    refine lt11 ?_ ?_ ?_ ?_ ?_ ?_ ?_ ?_ ?_ ?_ ?_ <;> simp [up2_at, h0, h1, h2, h3, h4, h5, h6, h7, h8, h9, h10, Int32.sub_eq_add_neg, Int32.add_right_neg]
  · simp only [if_neg k]
    refine lt11 ?_ ?_ ?_ ?_ ?_ ?_ ?_ ?_ ?_ ?_ ?_ <;> simp [up2_at, h0, h1, h2, h3, h4, h5, h6, h7, h8, h9, h10]
theorem wk_sell {S T : qw_St} {t i j : Nat} (h : RW S T (81 + 8 * t + i) j) {A1 A2 y3 a1 : Int32} (hj : y3.toNatClampNeg = j) (hp : ¬ a1 < 0) :
    RW (g_X5_sell S t i a1) (s_X7_market_217 T A1 A2 y3 a1) (81 + 8 * t + i) j := by
  unfold s_X7_market_217 g_X5_sell f_X5_weightOfPiece
  rw [hj]
  generalize 81 + 8 * t + i = c at *
  have h0 : S c 0 = T 159 j := h 0 (by omega)
  have h1 : S c 1 = T 160 j := h 1 (by omega)
  have h2 : S c 2 = T 161 j := h 2 (by omega)
  have h3 : S c 3 = T 162 j := h 3 (by omega)
  have h4 : S c 4 = T 163 j := h 4 (by omega)
  have h5 : S c 5 = T 164 j := h 5 (by omega)
  have h6 : S c 6 = T 165 j := h 6 (by omega)
  have h7 : S c 7 = T 166 j := h 7 (by omega)
  have h8 : S c 8 = T 167 j := h 8 (by omega)
  have h9 : S c 9 = T 168 j := h 9 (by omega)
  have h10 : S c 10 = T 169 j := h 10 (by omega)
  have hw : (if T 160 j ≤ 0 then (100 : Int32) else (if T 160 j ≤ a1 then (100 : Int32) else (a1 * (100 : Int32)) / T 160 j)) = (if T 160 j ≤ a1 then (100 : Int32) else ((100 : Int32) * a1) / T 160 j) := by
    rw [Int32.mul_comm a1]
    by_cases k : T 160 j ≤ 0
    · rw [if_pos k, if_pos]
      rw [Int32.lt_iff_toInt_lt] at hp
      rw [Int32.le_iff_toInt_le] at k ⊢
      have : (0 : Int32).toInt = 0 := rfl
      omega
    · rw [if_neg k]
  refine lt11 ?_ ?_ ?_ ?_ ?_ ?_ ?_ ?_ ?_ ?_ ?_ <;> simp [up2_at, h0, h1, h2, h3, h4, h5, h6, h7, h8, h9, h10, hw]
def m_rot (T : qw_St) (a2 : Int32) (j : Nat) : qw_St := up2 (up2 (up2 T 163 j (T 163 j - (T 163 j * T 170 a2.toNatClampNeg + (99 : Int32)) / (100 : Int32))) 164 j (T 164 j - (T 164 j * T 170 a2.toNatClampNeg + (99 : Int32)) / (100 : Int32))) 167 j (T 167 j + ((T 163 j * T 170 a2.toNatClampNeg + (99 : Int32)) / (100 : Int32) + (T 164 j * T 170 a2.toNatClampNeg + (99 : Int32)) / (100 : Int32)))
theorem market_eq (T : qw_St) (a1 a2 : Int32) : g_X7_market T a1 a2 = m_rot (s_X7_market_217 (s_X7_market_124 (s_X7_market_71 T a1 a2 (((6 : Int32) * a1) + a2) (f_X7_priceOf T a1 a2)) a1 a2 (((6 : Int32) * a1) + a2) (f_X7_priceOf T a1 a2)) a1 a2 (((6 : Int32) * a1) + a2) (f_X7_priceOf T a1 a2)) a2 (((6 : Int32) * a1) + a2).toNatClampNeg := rfl
theorem wk_rot {S T : qw_St} {t i j : Nat} (h : RW S T (81 + 8 * t + i) j) {A2 a3 : Int32} (h3 : a3 = T 170 A2.toNatClampNeg) :
    RW (g_X5_rot S t i a3) (m_rot T A2 j) (81 + 8 * t + i) j := by
  unfold m_rot g_X5_rot f_X5_hundredthsUp
  rw [← h3]
  generalize 81 + 8 * t + i = c at *
  have h0 : S c 0 = T 159 j := h 0 (by omega)
  have h1 : S c 1 = T 160 j := h 1 (by omega)
  have h2 : S c 2 = T 161 j := h 2 (by omega)
  have h33 : S c 3 = T 162 j := h 3 (by omega)
  have h4 : S c 4 = T 163 j := h 4 (by omega)
  have h5 : S c 5 = T 164 j := h 5 (by omega)
  have h6 : S c 6 = T 165 j := h 6 (by omega)
  have h7 : S c 7 = T 166 j := h 7 (by omega)
  have h8 : S c 8 = T 167 j := h 8 (by omega)
  have h9 : S c 9 = T 168 j := h 9 (by omega)
  have h10 : S c 10 = T 169 j := h 10 (by omega)
  refine lt11 ?_ ?_ ?_ ?_ ?_ ?_ ?_ ?_ ?_ ?_ ?_ <;> simp [up2_at, h0, h1, h2, h33, h4, h5, h6, h7, h8, h9, h10]
theorem fm_71 (T : qw_St) (a1 a2 y3 y4 : Int32) {k : Nat} (j : Nat) (h : (k < 163 ∨ 169 < k) ∨ j ≠ y3.toNatClampNeg) : s_X7_market_71 T a1 a2 y3 y4 k j = T k j := by
  unfold s_X7_market_71
  split
  · rfl
  · rw [up2_ne _ _ (h.imp (fun q => by omega) id), up2_ne _ _ (h.imp (fun q => by omega) id)]
theorem fm_124 (T : qw_St) (a1 a2 y3 y4 : Int32) {k : Nat} (j : Nat) (h : (k < 163 ∨ 169 < k) ∨ j ≠ y3.toNatClampNeg) : s_X7_market_124 T a1 a2 y3 y4 k j = T k j := by
  unfold s_X7_market_124
  rw [up2_ne _ _ (h.imp (fun q => by omega) id), up2_ne _ _ (h.imp (fun q => by omega) id)]
theorem fm_217 (T : qw_St) (a1 a2 y3 y4 : Int32) {k : Nat} (j : Nat) (h : (k < 163 ∨ 169 < k) ∨ j ≠ y3.toNatClampNeg) : s_X7_market_217 T a1 a2 y3 y4 k j = T k j := by
  unfold s_X7_market_217
  rw [up2_ne _ _ (h.imp (fun q => by omega) id), up2_ne _ _ (h.imp (fun q => by omega) id), up2_ne _ _ (h.imp (fun q => by omega) id), up2_ne _ _ (h.imp (fun q => by omega) id)]
theorem fm_rot (T : qw_St) (a2 : Int32) (y : Nat) {k : Nat} (j : Nat) (h : (k < 163 ∨ 169 < k) ∨ j ≠ y) : m_rot T a2 y k j = T k j := by
  unfold m_rot
  rw [up2_ne _ _ (h.imp (fun q => by omega) id), up2_ne _ _ (h.imp (fun q => by omega) id), up2_ne _ _ (h.imp (fun q => by omega) id)]
theorem fm_X7 (T : qw_St) (a1 a2 : Int32) {k : Nat} (j : Nat) (h : (k < 163 ∨ 169 < k) ∨ j ≠ ((6 : Int32) * a1 + a2).toNatClampNeg) : g_X7_market T a1 a2 k j = T k j := by
  rw [market_eq, fm_rot _ _ _ _ h, fm_217 _ _ _ _ _ _ h, fm_124 _ _ _ _ _ _ h, fm_71 _ _ _ _ _ _ h]
/-- one thing's week: the class's and the reference's -/
theorem week_eq {S T : qw_St} {t i : Nat} (ht : t < 8) (hi : i < 6) (h : RW S T (81 + 8 * t + i) (6 * t + i)) {y2 y3 : Int32} (h2 : y2 = (T 143 39 * T 158 t) / (10 : Int32)) (h3 : y3 = T 170 i) (hp : ¬ f_X7_priceOf T (nI t) (nI i) < 0) :
    RW (g_X5_passWeek S t i (f_X7_priceOf T (nI t) (nI i)) y2 y3) (g_X7_market T (nI t) (nI i)) (81 + 8 * t + i) (6 * t + i) := by
  have hj : (((6 : Int32) * nI t) + nI i).toNatClampNeg = 6 * t + i := ix6 (by omega) (by omega)
  rw [market_eq, g_X5_passWeek]
  generalize f_X7_priceOf T (nI t) (nI i) = p at *
  have b1 := wk_bring (A1 := nI t) (A2 := nI i) (a1 := p) (a2 := y2) h hj (by rw [nI_clamp (by omega : t < 2 ^ 31)]; exact h2)
  have b2 := wk_hide (A1 := nI t) (A2 := nI i) (a1 := p) b1 hj
  have b3 := wk_sell (A1 := nI t) (A2 := nI i) (a1 := p) b2 hj hp
  rw [hj]
  refine wk_rot b3 ?_
  rw [nI_clamp (by omega : i < 2 ^ 31), fm_217 _ _ _ _ _ _ (Or.inl (by omega)), fm_124 _ _ _ _ _ _ (Or.inl (by omega)), fm_71 _ _ _ _ _ _ (Or.inl (by omega))]
  exact h3
