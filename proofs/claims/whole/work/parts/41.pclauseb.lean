/-! THE PURE PART: reading a text: one clause -/
theorem k20 : (20 : Int32).toNatClampNeg = 20 := by decide
theorem RD.set {S T : qw_St} {d i : Nat} (h : RD S T d) (hi : i < 6) {v w : Int32} (hv : v = -1 ∨ qz v 9999) (hw : w = -1 ∨ ¬ w < 0) : RD (up2 (up2 S (17 + 3 * d) i v) (18 + 3 * d) i w) (up2 (up2 T 149 (120 + i) v) 150 (120 + i) w) d := by
  refine ⟨fun i' hi' => ?_, ?_, ?_, ?_⟩
  · have q1 : up2 (up2 S (17 + 3 * d) i v) (18 + 3 * d) i w (17 + 3 * d) i' = up2 S (17 + 3 * d) i v (17 + 3 * d) i' := up2_ne _ _ (Or.inl (by omega))
    have q2 : up2 (up2 T 149 (120 + i) v) 150 (120 + i) w 149 (120 + i') = up2 T 149 (120 + i) v 149 (120 + i') := up2_ne _ _ (Or.inl (by omega))
    rw [q1, q2]
    by_cases e : i' = i
    · subst e
      rw [up2_same, up2_same, up2_same, up2_same]
      exact ⟨rfl, rfl, hv, hw⟩
    · have q3 : up2 (up2 S (17 + 3 * d) i v) (18 + 3 * d) i w (18 + 3 * d) i' = S (18 + 3 * d) i' := (up2_ne _ _ (Or.inr e)).trans (up2_ne _ _ (Or.inl (by omega)))
      have q4 : up2 (up2 T 149 (120 + i) v) 150 (120 + i) w 150 (120 + i') = T 150 (120 + i') := (up2_ne _ _ (Or.inr (by omega))).trans (up2_ne _ _ (Or.inl (by omega)))
      rw [q3, q4, up2_ne _ _ (Or.inr e), up2_ne _ _ (Or.inr (by omega))]
      exact h.1 i' hi'
  · rw [up2_ne _ _ (Or.inl (by omega)), up2_ne _ _ (Or.inl (by omega)), up2_ne _ _ (Or.inl (by omega)), up2_ne _ _ (Or.inl (by omega))]; exact h.2.1
  · rw [up2_ne _ _ (Or.inl (by omega)), up2_ne _ _ (Or.inl (by omega)), up2_ne _ _ (Or.inl (by omega)), up2_ne _ _ (Or.inl (by omega))]; exact h.2.2.1
  · rw [up2_ne _ _ (Or.inl (by omega)), up2_ne _ _ (Or.inl (by omega)), up2_ne _ _ (Or.inl (by omega)), up2_ne _ _ (Or.inl (by omega))]; exact h.2.2.2
theorem m1_lt : ¬ (0 : Int32) ≤ -1 := by decide
theorem m1_ng : (-1 : Int32) < 0 := by decide
section PD
variable {S T : qw_St} {f : Nat → Int32} {L d : Nat}
theorem co_cap (h : BS S T d f L) (hL : L ≤ 400) (hb : ∀ j, isB (f j)) {p : Nat} (hp : p ≤ L) (b : Int32) : CO d f L p (g_X3_readCap (SP S p) d)
    (if 0 ≤ f_X7_number (TP T p b) 0 5 then (if 0 ≤ f_X7_number (g_X7_number (TP T p b) 0 5) 1 9999 then up2 (up2 (g_X7_number (g_X7_number (TP T p b) 0 5) 1 9999) 149 ((120 : Int32) + f_X7_number (TP T p b) 0 5).toNatClampNeg (f_X7_number (g_X7_number (TP T p b) 0 5) 1 9999)) 150 ((120 : Int32) + f_X7_number (TP T p b) 0 5).toNatClampNeg (-1) else g_X7_number (g_X7_number (TP T p b) 0 5) 1 9999) else g_X7_number (TP T p b) 0 5)
    (if 0 ≤ f_X7_number (TP T p b) 0 5 then (if 0 ≤ f_X7_number (g_X7_number (TP T p b) 0 5) 1 9999 then 1 else 0) else 0) := by
  obtain ⟨e1, e2, e3, e4, e5, hR⟩ := h
  obtain ⟨c1, c2⟩ := numC (S := S) 0 5 e1 e2 e5 hL hb hp
  obtain ⟨m1, m2⟩ := numM (T := T) 0 5 e3 e4 hL hb b hp
  have hq0 := n0_b (f := f) hp
  have hq1 := n1_b (f := f) hp
  have hr0 := n0_b (f := f) hq1.2
  have hr1 := n1_b (f := f) hq1.2
  unfold g_X3_readCap
  rw [c1, c2, m1, m2]
  by_cases k1 : nk 0 5 f L p
  · simp only [if_pos k1]
    obtain ⟨i, hi, ei⟩ := nk_qz (N := 5) k1 (by decide) rfl (by decide)
    have g1 : 0 ≤ nv f L p := by rw [ei]; exact nI_pos' (by omega)
    obtain ⟨c3, c4⟩ := numC (S := S) 1 9999 e1 e2 e5 hL hb hq1.2
    obtain ⟨m3, m4⟩ := numM (T := T) 1 9999 e3 e4 hL hb (nI (n0 f L p)) hq1.2
    rw [c3, c4, m3, m4]
    simp only [if_pos g1]
    by_cases k2 : nk 1 9999 f L (n1 f L p)
    · obtain ⟨v, hv, ev⟩ := nk_qz (N := 9999) k2 (by decide) rfl (by decide)
      have g2 : 0 ≤ nv f L (n1 f L p) := by rw [ev]; exact nI_pos' (by omega)
      simp only [if_pos k2, if_pos g2]
      rw [if_pos (show SP S (n1 f L (n1 f L p)) 1 3 = -1 from e5), ei, ev]
      refine Or.inl ⟨rfl, n1 f L (n1 f L p), up2 (up2 S (17 + 3 * d) i (nI v)) (18 + 3 * d) i (-1), up2 (up2 T 149 (120 + i) (nI v)) 150 (120 + i) (-1), nI (n0 f L (n1 f L p)), ?_, ?_, by omega, hr1.2, ?_, ?_, e3, e4, ?_, hR.set (by omega) (Or.inr ⟨v, hv, rfl⟩) (Or.inl rfl)⟩
      · rw [g_X0_capByPrice, if_neg (nI_pos (by omega)), if_neg (show ¬ (6 : Int32) ≤ nI i from nI_ge (a := i) (b := 6) (by omega) (by omega)), nI_clamp (by omega : i < 2 ^ 31), SP_o _ _ _ (by omega), SP_o _ _ _ (by omega)]
      · rw [show (120 : Int32) = nI 120 from rfl, nI_add, nI_clamp (by omega : 120 + i < 2 ^ 31), TP_o _ _ _ _ (by decide), TP_o _ _ _ _ (by decide)]
      · rw [up2_ne _ _ (Or.inl (by omega)), up2_ne _ _ (Or.inl (by omega))]; exact e1
      · rw [up2_c _ _ _ _ (by omega), up2_c _ _ _ _ (by omega)]; exact e2
      · rw [up2_ne _ _ (Or.inl (by omega)), up2_ne _ _ (Or.inl (by omega))]; exact e5
    · simp only [if_neg k2, if_neg m1_lt]
      rw [if_neg (show ¬ up2 (SP S (n1 f L (n1 f L p))) 1 3 (nI (n0 f L (n1 f L p))) 1 3 = -1 from by rw [up2_same]; exact nI_ne1 (by omega))]
      exact Or.inr ⟨rfl, n0 f L (n1 f L p), by omega, up2_same _ _ _ _, TP22 _ _ _⟩
  · simp only [if_neg k1, if_neg m1_lt]
    have hw : ¬ up2 (SP S (n1 f L p)) 1 3 (nI (n0 f L p)) 1 3 = -1 := by rw [up2_same]; exact nI_ne1 (by omega)
    have hg : g_X3_readNumber (up2 (SP S (n1 f L p)) 1 3 (nI (n0 f L p))) 1 9999 = up2 (SP S (n1 f L p)) 1 3 (nI (n0 f L p)) := by rw [g_X3_readNumber, if_neg hw]
    rw [hg, if_neg hw]
    exact Or.inr ⟨rfl, n0 f L p, by omega, up2_same _ _ _ _, TP22 _ _ _⟩
theorem co_line (h : BS S T d f L) (hL : L ≤ 400) (hb : ∀ j, isB (f j)) {p : Nat} (hp : p ≤ L) (b : Int32) : CO d f L p (g_X3_readLine (SP S p) d)
    (if 0 ≤ f_X7_number (TP T p b) 0 5 then (if 0 ≤ f_X7_number (g_X7_number (TP T p b) 0 5) 0 29 then up2 (up2 (g_X7_number (g_X7_number (TP T p b) 0 5) 0 29) 149 ((120 : Int32) + f_X7_number (TP T p b) 0 5).toNatClampNeg (-1)) 150 ((120 : Int32) + f_X7_number (TP T p b) 0 5).toNatClampNeg (f_X7_number (g_X7_number (TP T p b) 0 5) 0 29) else g_X7_number (g_X7_number (TP T p b) 0 5) 0 29) else g_X7_number (TP T p b) 0 5)
    (if 0 ≤ f_X7_number (TP T p b) 0 5 then (if 0 ≤ f_X7_number (g_X7_number (TP T p b) 0 5) 0 29 then 1 else 0) else 0) := by
  obtain ⟨e1, e2, e3, e4, e5, hR⟩ := h
  obtain ⟨c1, c2⟩ := numC (S := S) 0 5 e1 e2 e5 hL hb hp
  obtain ⟨m1, m2⟩ := numM (T := T) 0 5 e3 e4 hL hb b hp
  have hq0 := n0_b (f := f) hp
  have hq1 := n1_b (f := f) hp
  have hr0 := n0_b (f := f) hq1.2
  have hr1 := n1_b (f := f) hq1.2
  unfold g_X3_readLine
  rw [c1, c2, m1, m2]
  by_cases k1 : nk 0 5 f L p
  · simp only [if_pos k1]
    obtain ⟨i, hi, ei⟩ := nk_qz (N := 5) k1 (by decide) rfl (by decide)
    have g1 : 0 ≤ nv f L p := by rw [ei]; exact nI_pos' (by omega)
    obtain ⟨c3, c4⟩ := numC (S := S) 0 29 e1 e2 e5 hL hb hq1.2
    obtain ⟨m3, m4⟩ := numM (T := T) 0 29 e3 e4 hL hb (nI (n0 f L p)) hq1.2
    rw [c3, c4, m3, m4]
    simp only [if_pos g1]
    by_cases k2 : nk 0 29 f L (n1 f L p)
    · obtain ⟨v, hv, ev⟩ := nk_qz (N := 29) k2 (by decide) rfl (by decide)
      have g2 : 0 ≤ nv f L (n1 f L p) := by rw [ev]; exact nI_pos' (by omega)
      simp only [if_pos k2, if_pos g2]
      rw [if_pos (show SP S (n1 f L (n1 f L p)) 1 3 = -1 from e5), ei, ev]
      refine Or.inl ⟨rfl, n1 f L (n1 f L p), up2 (up2 S (17 + 3 * d) i (-1)) (18 + 3 * d) i (nI v), up2 (up2 T 149 (120 + i) (-1)) 150 (120 + i) (nI v), nI (n0 f L (n1 f L p)), ?_, ?_, by omega, hr1.2, ?_, ?_, e3, e4, ?_, hR.set (by omega) (Or.inl rfl) (Or.inr (nI_pos (by omega)))⟩
      · rw [g_X0_capByLine, if_neg (nI_pos (by omega)), if_neg (show ¬ (6 : Int32) ≤ nI i from nI_ge (a := i) (b := 6) (by omega) (by omega)), nI_clamp (by omega : i < 2 ^ 31), SP_o _ _ _ (by omega), SP_o _ _ _ (by omega)]
      · rw [show (120 : Int32) = nI 120 from rfl, nI_add, nI_clamp (by omega : 120 + i < 2 ^ 31), TP_o _ _ _ _ (by decide), TP_o _ _ _ _ (by decide)]
      · rw [up2_ne _ _ (Or.inl (by omega)), up2_ne _ _ (Or.inl (by omega))]; exact e1
      · rw [up2_c _ _ _ _ (by omega), up2_c _ _ _ _ (by omega)]; exact e2
      · rw [up2_ne _ _ (Or.inl (by omega)), up2_ne _ _ (Or.inl (by omega))]; exact e5
    · simp only [if_neg k2, if_neg m1_lt]
      rw [if_neg (show ¬ up2 (SP S (n1 f L (n1 f L p))) 1 3 (nI (n0 f L (n1 f L p))) 1 3 = -1 from by rw [up2_same]; exact nI_ne1 (by omega))]
      exact Or.inr ⟨rfl, n0 f L (n1 f L p), by omega, up2_same _ _ _ _, TP22 _ _ _⟩
  · simp only [if_neg k1, if_neg m1_lt]
    have hw : ¬ up2 (SP S (n1 f L p)) 1 3 (nI (n0 f L p)) 1 3 = -1 := by rw [up2_same]; exact nI_ne1 (by omega)
    have hg : g_X3_readNumber (up2 (SP S (n1 f L p)) 1 3 (nI (n0 f L p))) 0 29 = up2 (SP S (n1 f L p)) 1 3 (nI (n0 f L p)) := by rw [g_X3_readNumber, if_neg hw]
    rw [hg, if_neg hw]
    exact Or.inr ⟨rfl, n0 f L p, by omega, up2_same _ _ _ _, TP22 _ _ _⟩
theorem co_carriage (h : BS S T d f L) (hL : L ≤ 400) (hb : ∀ j, isB (f j)) {p : Nat} (hp : p ≤ L) (b : Int32) : CO d f L p (g_X3_readCarriage (SP S p) d)
    (if f_X7_number (TP T p b) 0 99 < 0 then up2 (g_X7_number (TP T p b) 0 99) 151 (20 : Int32).toNatClampNeg (f_X7_number (TP T p b) 0 99) else up2 (g_X7_number (TP T p b) 0 99) 151 (20 : Int32).toNatClampNeg (f_X7_number (TP T p b) 0 99))
    (if f_X7_number (TP T p b) 0 99 < 0 then 0 else 1) := by
  obtain ⟨e1, e2, e3, e4, e5, hR⟩ := h
  obtain ⟨c1, c2⟩ := numC (S := S) 0 99 e1 e2 e5 hL hb hp
  obtain ⟨m1, m2⟩ := numM (T := T) 0 99 e3 e4 hL hb b hp
  have hq0 := n0_b (f := f) hp
  have hq1 := n1_b (f := f) hp
  unfold g_X3_readCarriage
  rw [c1, c2, m1, m2, k20]
  by_cases k1 : nk 0 99 f L p
  · have hz := nk_qz (N := 99) k1 (by decide) rfl (by decide)
    have g1 : ¬ nv f L p < 0 := qi_nneg hz (by decide)
    simp only [if_pos k1, if_neg g1]
    rw [if_pos (show SP S (n1 f L p) 1 3 = -1 from e5)]
    refine Or.inl ⟨rfl, n1 f L p, up2 S (16 + 3 * d) 2 (nv f L p), up2 T 151 20 (nv f L p), nI (n0 f L p), SP_o _ _ _ (by omega), TP_o _ _ _ _ (by decide), by omega, hq1.2, ?_, ?_, e3, e4, ?_, ?_⟩
    · rw [up2_ne _ _ (Or.inl (by omega))]; exact e1
    · rw [up2_c _ _ _ _ (by omega)]; exact e2
    · rw [up2_ne _ _ (Or.inl (by omega))]; exact e5
    · refine ⟨fun i hi => ?_, ?_, ?_, ?_⟩
      · rw [up2_ne _ _ (Or.inl (by omega)), up2_ne _ _ (Or.inl (by omega)), up2_ne _ _ (Or.inl (by omega)), up2_ne _ _ (Or.inl (by omega))]; exact hR.1 i hi
      · rw [up2_same, up2_same]; exact ⟨rfl, hz⟩
      · rw [up2_ne _ _ (Or.inr (by decide)), up2_ne _ _ (Or.inl (by decide))]; exact hR.2.2.1
      · rw [up2_ne _ _ (Or.inr (by decide)), up2_ne _ _ (Or.inl (by decide))]; exact hR.2.2.2
  · simp only [if_neg k1, if_pos m1_ng]
    rw [if_neg (show ¬ up2 (SP S (n1 f L p)) 1 3 (nI (n0 f L p)) 1 3 = -1 from by rw [up2_same]; exact nI_ne1 (by omega))]
    exact Or.inr ⟨rfl, n0 f L p, by omega, up2_same _ _ _ _, (up2_ne _ _ (Or.inl (by decide))).trans (TP22 _ _ _)⟩
theorem co_credit (h : BS S T d f L) (hL : L ≤ 400) (hb : ∀ j, isB (f j)) {p : Nat} (hp : p ≤ L) (b : Int32) : CO d f L p (g_X3_readCredit (SP S p) d)
    (if f_X7_number (TP T p b) 0 100 < 0 then up2 (g_X7_number (TP T p b) 0 100) 152 (20 : Int32).toNatClampNeg (f_X7_number (TP T p b) 0 100) else up2 (g_X7_number (TP T p b) 0 100) 152 (20 : Int32).toNatClampNeg (f_X7_number (TP T p b) 0 100))
    (if f_X7_number (TP T p b) 0 100 < 0 then 0 else 1) := by
  obtain ⟨e1, e2, e3, e4, e5, hR⟩ := h
  obtain ⟨c1, c2⟩ := numC (S := S) 0 100 e1 e2 e5 hL hb hp
  obtain ⟨m1, m2⟩ := numM (T := T) 0 100 e3 e4 hL hb b hp
  have hq0 := n0_b (f := f) hp
  have hq1 := n1_b (f := f) hp
  unfold g_X3_readCredit
  rw [c1, c2, m1, m2, k20]
  by_cases k1 : nk 0 100 f L p
  · have hz := nk_qz (N := 100) k1 (by decide) rfl (by decide)
    have g1 : ¬ nv f L p < 0 := qi_nneg hz (by decide)
    simp only [if_pos k1, if_neg g1]
    rw [if_pos (show SP S (n1 f L p) 1 3 = -1 from e5)]
    refine Or.inl ⟨rfl, n1 f L p, up2 S (16 + 3 * d) 3 (nv f L p), up2 T 152 20 (nv f L p), nI (n0 f L p), SP_o _ _ _ (by omega), TP_o _ _ _ _ (by decide), by omega, hq1.2, ?_, ?_, e3, e4, ?_, ?_⟩
    · rw [up2_ne _ _ (Or.inl (by omega))]; exact e1
    · rw [up2_c _ _ _ _ (by omega)]; exact e2
    · rw [up2_ne _ _ (Or.inl (by omega))]; exact e5
    · refine ⟨fun i hi => ?_, ?_, ?_, ?_⟩
      · rw [up2_ne _ _ (Or.inl (by omega)), up2_ne _ _ (Or.inl (by omega)), up2_ne _ _ (Or.inl (by omega)), up2_ne _ _ (Or.inl (by omega))]; exact hR.1 i hi
      · rw [up2_ne _ _ (Or.inr (by decide)), up2_ne _ _ (Or.inl (by decide))]; exact hR.2.1
      · rw [up2_same, up2_same]; exact ⟨rfl, hz⟩
      · rw [up2_ne _ _ (Or.inr (by decide)), up2_ne _ _ (Or.inl (by decide))]; exact hR.2.2.2
  · simp only [if_neg k1, if_pos m1_ng]
    rw [if_neg (show ¬ up2 (SP S (n1 f L p)) 1 3 (nI (n0 f L p)) 1 3 = -1 from by rw [up2_same]; exact nI_ne1 (by omega))]
    exact Or.inr ⟨rfl, n0 f L p, by omega, up2_same _ _ _ _, (up2_ne _ _ (Or.inl (by decide))).trans (TP22 _ _ _)⟩
theorem co_free (h : BS S T d f L) (hL : L ≤ 400) (hb : ∀ j, isB (f j)) {p : Nat} (hp : p ≤ L) (b : Int32) : CO d f L p (g_X3_readFree (SP S p) d)
    (if 0 ≤ f_X7_number (TP T p b) 0 7 then up2 (g_X7_number (TP T p b) 0 7) 153 (20 : Int32).toNatClampNeg ((g_X7_number (TP T p b) 0 7) 153 (20 : Int32).toNatClampNeg ||| (1 : Int32) <<< (f_X7_number (TP T p b) 0 7 &&& 31)) else g_X7_number (TP T p b) 0 7)
    (if 0 ≤ f_X7_number (TP T p b) 0 7 then 1 else 0) := by
  obtain ⟨e1, e2, e3, e4, e5, hR⟩ := h
  obtain ⟨c1, c2⟩ := numC (S := S) 0 7 e1 e2 e5 hL hb hp
  obtain ⟨m1, m2⟩ := numM (T := T) 0 7 e3 e4 hL hb b hp
  have hq0 := n0_b (f := f) hp
  have hq1 := n1_b (f := f) hp
  unfold g_X3_readFree
  rw [c1, c2, m1, m2, k20]
  by_cases k1 : nk 0 7 f L p
  · have hz := nk_qz (N := 7) k1 (by decide) rfl (by decide)
    have g1 : 0 ≤ nv f L p := Int32.not_lt.mp (qi_nneg hz (by decide))
    simp only [if_pos k1, if_pos g1]
    rw [if_pos (show SP S (n1 f L p) 1 3 = -1 from e5), g_X0_setFree]
    have q1 : SP S (n1 f L p) (16 + 3 * d) 4 = T 153 20 := (up2_ne _ _ (Or.inl (by omega))).trans hR.2.2.2
    have q2 : TP T (n1 f L p) (nI (n0 f L p)) 153 20 = T 153 20 := rfl
    rw [q1, q2]
    refine Or.inl ⟨rfl, n1 f L p, up2 S (16 + 3 * d) 4 (T 153 20 ||| (1 : Int32) <<< (nv f L p &&& 31)), up2 T 153 20 (T 153 20 ||| (1 : Int32) <<< (nv f L p &&& 31)), nI (n0 f L p), SP_o _ _ _ (by omega), TP_o _ _ _ _ (by decide), by omega, hq1.2, ?_, ?_, e3, e4, ?_, ?_⟩
    · rw [up2_ne _ _ (Or.inl (by omega))]; exact e1
    · rw [up2_c _ _ _ _ (by omega)]; exact e2
    · rw [up2_ne _ _ (Or.inl (by omega))]; exact e5
    · refine ⟨fun i hi => ?_, ?_, ?_, ?_⟩
      · rw [up2_ne _ _ (Or.inl (by omega)), up2_ne _ _ (Or.inl (by omega)), up2_ne _ _ (Or.inl (by omega)), up2_ne _ _ (Or.inl (by omega))]; exact hR.1 i hi
      · rw [up2_ne _ _ (Or.inr (by decide)), up2_ne _ _ (Or.inl (by decide))]; exact hR.2.1
      · rw [up2_ne _ _ (Or.inr (by decide)), up2_ne _ _ (Or.inl (by decide))]; exact hR.2.2.1
      · rw [up2_same, up2_same]
  · simp only [if_neg k1, if_neg m1_lt]
    rw [if_neg (show ¬ up2 (SP S (n1 f L p)) 1 3 (nI (n0 f L p)) 1 3 = -1 from by rw [up2_same]; exact nI_ne1 (by omega))]
    exact Or.inr ⟨rfl, n0 f L p, by omega, up2_same _ _ _ _, TP22 _ _ _⟩
theorem rc_loop (e1 : T 143 21 = nI L) (e2 : T 156 = f) (hL : L ≤ 400) : ∀ n p b, p ≤ L → L < p + n → g_X7_readClause_4 n (TP T p b) = g_X7_readClause_4 1 (TP T (skp 97 122 f L n p) b) ∧ f_X7_readClause_4 n (TP T p b) = f_X7_readClause_4 1 (TP T (skp 97 122 f L n p) b) := by
  intro n
  induction n with
  | zero => intro p b h1 h2; omega
  | succ n ih =>
    intro p b h1 h2
    have k2 : TP T p b 143 20 = nI p := up2_same _ _ _ _
    have hi := iat (T := TP T p b) 97 122 e1 e2 hL h1 k2
    rw [skp]
    by_cases c : p < L ∧ qR 97 122 (f p)
    · rw [if_pos c, g_X7_readClause_4, f_X7_readClause_4, if_neg (fun h => hi.mp h c), if_neg (fun h => hi.mp h c), k2, TP_up]
      exact ih (p + 1) b (by omega) (by omega)
    · have h0 := hi.mpr c
      rw [if_neg c]
      constructor
      · rw [g_X7_readClause_4, g_X7_readClause_4, if_pos h0, if_pos h0]
      · rw [f_X7_readClause_4, f_X7_readClause_4, if_pos h0, if_pos h0]
theorem CO.up {p p2 : Nat} {S1 T1 : qw_St} {r : Int32} (h : CO d f L p2 S1 T1 r) (hp : p < p2) : (r = 1 ∧ ∃ (p' : Nat) (S' T' : qw_St) (b' : Int32), S1 = SP S' p' ∧ T1 = TP T' p' b' ∧ p < p' ∧ p' ≤ L ∧ BS S' T' d f L) ∨ (r = 0 ∧ ∃ w : Nat, w ≤ 400 ∧ S1 1 3 = nI w ∧ T1 143 22 = nI w) := by
  rcases h with ⟨h1, p', S', T', b', h2, h3, h4, h5, h6⟩ | h
  · exact Or.inl ⟨h1, p', S', T', b', h2, h3, by omega, h5, h6⟩
  · exact Or.inr h
theorem cl_eq (h : BS S T d f L) (hL : L ≤ 400) (hb : ∀ j, isB (f j)) {p : Nat} (hp : p ≤ L) (b : Int32) : (f_X7_readClause (TP T p b) = 1 ∧ ∃ (p' : Nat) (S' T' : qw_St) (b' : Int32), g_X3_readClause (SP S p) d = SP S' p' ∧ g_X7_readClause (TP T p b) = TP T' p' b' ∧ p < p' ∧ p' ≤ L ∧ BS S' T' d f L) ∨ (f_X7_readClause (TP T p b) = 0 ∧ ∃ w : Nat, w ≤ 400 ∧ g_X3_readClause (SP S p) d 1 3 = nI w ∧ g_X7_readClause (TP T p b) 143 22 = nI w) := by
  have h' := h
  obtain ⟨e1, e2, e3, e4, e5, hR⟩ := h'
  have hq0 := n0_b (f := f) hp
  have hs : g_X3_skipBlanks (SP S p) = SP S (n0 f L p) := sbC e1 e2 hL hb 401 p hp (by omega)
  have hm : g_X7_blanks (TP T p b) = TP T (n0 f L p) (nI (n0 f L p)) := sbM e3 e4 hL 401 p b hp (by omega)
  have hw : g_X3_skipWord (SP S (n0 f L p)) = SP S (skp 97 122 f L 401 (n0 f L p)) := swC e1 e2 hL hb 401 _ hq0.2 (by omega)
  obtain ⟨l1, l2⟩ := rc_loop (T := T) e3 e4 hL 401 (n0 f L p) (nI (n0 f L p)) hq0.2 (by omega)
  have hwb := skp_b 97 122 f L 401 _ hq0.2
  have hwe := skp_e 97 122 f L 401 _ hq0.2 (by omega)
  rw [g_X7_readClause, f_X7_readClause, hm, l1, l2]
  unfold g_X3_readClause
  have kb : SP S (n0 f L p) 1 2 = nI (n0 f L p) := up2_same _ _ _ _
  rw [hs, hw, kb]
  generalize skp 97 122 f L 401 (n0 f L p) = pw at *
  have k2 : TP T pw (nI (n0 f L p)) 143 20 = nI pw := up2_same _ _ _ _
  have h0 : f_X7_isAt (TP T pw (nI (n0 f L p))) 97 122 = 0 := (iat (T := TP T pw (nI (n0 f L p))) 97 122 e3 e4 hL hwb.2 k2).mpr hwe
  obtain ⟨w1, x1⟩ := wd_eq (S := S) (T := T) e1 e2 e4 hL hb tx_cap tk_cap (by decide) hwb.1 hwb.2
  obtain ⟨w2, x2⟩ := wd_eq (S := S) (T := T) e1 e2 e4 hL hb tx_line tk_line (by decide) hwb.1 hwb.2
  obtain ⟨w3, x3⟩ := wd_eq (S := S) (T := T) e1 e2 e4 hL hb tx_carriage tk_carriage (by decide) hwb.1 hwb.2
  obtain ⟨w4, x4⟩ := wd_eq (S := S) (T := T) e1 e2 e4 hL hb tx_credit tk_credit (by decide) hwb.1 hwb.2
  obtain ⟨w5, x5⟩ := wd_eq (S := S) (T := T) e1 e2 e4 hL hb tx_free tk_free (by decide) hwb.1 hwb.2
  rw [w1] at x1
  rw [w2] at x2
  rw [w3] at x3
  rw [w4] at x4
  rw [w5] at x5
  rw [w1, w2, w3, w4, w5, g_X7_readClause_4, f_X7_readClause_4, if_pos h0, if_pos h0]
  by_cases c1 : f_X7_isWord (TP T pw (nI (n0 f L p))) tx_cap = 0
  · by_cases c2 : f_X7_isWord (TP T pw (nI (n0 f L p))) tx_line = 0
    · by_cases c3 : f_X7_isWord (TP T pw (nI (n0 f L p))) tx_carriage = 0
      · by_cases c4 : f_X7_isWord (TP T pw (nI (n0 f L p))) tx_credit = 0
        · by_cases c5 : f_X7_isWord (TP T pw (nI (n0 f L p))) tx_free = 0
          · simp only [if_pos c1, if_pos c2, if_pos c3, if_pos c4, if_pos c5]
            exact Or.inr ⟨trivial, n0 f L p, by omega, up2_same _ _ _ _, TP22 _ _ _⟩
          · simp only [if_pos c1, if_pos c2, if_pos c3, if_pos c4, if_neg c5]
            exact (co_free h hL hb hwb.2 _).up (by have := x5 c5; have : tx_free.length = 4 := rfl; omega)
        · simp only [if_pos c1, if_pos c2, if_pos c3, if_neg c4]
          exact (co_credit h hL hb hwb.2 _).up (by have := x4 c4; have : tx_credit.length = 6 := rfl; omega)
      · simp only [if_pos c1, if_pos c2, if_neg c3]
        exact (co_carriage h hL hb hwb.2 _).up (by have := x3 c3; have : tx_carriage.length = 8 := rfl; omega)
    · simp only [if_pos c1, if_neg c2]
      exact (co_line h hL hb hwb.2 _).up (by have := x2 c2; have : tx_line.length = 4 := rfl; omega)
  · simp only [if_neg c1]
    exact (co_cap h hL hb hwb.2 _).up (by have := x1 c1; have : tx_cap.length = 3 := rfl; omega)
end PD
