/-! THE PURE PART: reading a text: all of it -/
section PE
variable {f : Nat → Int32} {L d : Nat}
theorem RD.sp {S T : qw_St} (h : RD S T d) (p q : Nat) (b : Int32) : RD (SP S p) (TP T q b) d := by
  refine ⟨fun i hi => ?_, ?_, ?_, ?_⟩
  · have q1 : SP S p (17 + 3 * d) i = S (17 + 3 * d) i := up2_ne _ _ (Or.inl (by omega))
    have q2 : SP S p (18 + 3 * d) i = S (18 + 3 * d) i := up2_ne _ _ (Or.inl (by omega))
    rw [q1, q2]; exact h.1 i hi
  · have q1 : SP S p (16 + 3 * d) 2 = S (16 + 3 * d) 2 := up2_ne _ _ (Or.inl (by omega))
    rw [q1]; exact h.2.1
  · have q1 : SP S p (16 + 3 * d) 3 = S (16 + 3 * d) 3 := up2_ne _ _ (Or.inl (by omega))
    rw [q1]; exact h.2.2.1
  · have q1 : SP S p (16 + 3 * d) 4 = S (16 + 3 * d) 4 := up2_ne _ _ (Or.inl (by omega))
    rw [q1]; exact h.2.2.2
theorem ri_0 {n : Nat} (S : qw_St) (z : Int32) : g_X3_readInto_18 d (n + 1) S 0 z = S ∧ f_X3_readInto_18 d (n + 1) S 0 z = S 1 3 := by
  rw [g_X3_readInto_18, f_X3_readInto_18, if_pos rfl, if_pos rfl]; exact ⟨rfl, rfl⟩
theorem rd_loop (hL : L ≤ 400) (hb : ∀ j, isB (f j)) (y : Int32) : ∀ (n k : Nat) (S T : qw_St) (p : Nat) (b : Int32), BS S T d f L → p ≤ L → 2 * k ≤ p → k + n = 401 →
    (f_X7_readAll_76 y n (TP T p b) = 1 ∧ f_X3_readInto_18 d n (SP S p) 1 (nI k) = -1 ∧ RD (g_X3_readInto_18 d n (SP S p) 1 (nI k)) (g_X7_readAll_76 y n (TP T p b)) d) ∨ (f_X7_readAll_76 y n (TP T p b) = 0 ∧ ∃ w : Nat, w ≤ 400 ∧ f_X3_readInto_18 d n (SP S p) 1 (nI k) = nI w ∧ g_X7_readAll_76 y n (TP T p b) 143 22 = nI w) := by
  intro n
  induction n with
  | zero => intro k S T p b h1 h2 h3 h4; omega
  | succ n ih =>
    intro k S T p b h hp hk hn
    obtain ⟨m, em⟩ : ∃ m, n = m + 1 := ⟨n - 1, by omega⟩
    have g1 : ¬ (1 : Int32) = 0 := by decide
    have g2 : ¬ (400 : Int32) ≤ nI k := nI_ge (a := k) (b := 400) (by omega) (by omega)
    rw [f_X7_readAll_76, f_X3_readInto_18, g_X3_readInto_18, g_X7_readAll_76, nI_1 k]
    simp only [if_neg g1, if_neg g2]
    rcases cl_eq h hL hb hp b with ⟨r1, p', S', T', b', eC, eM, h1, h2, hB⟩ | ⟨r0, w, hw, eC, eM⟩
    · have r1' : ¬ f_X7_readClause (TP T p b) = 0 := by rw [r1]; decide
      simp only [if_neg r1']
      rw [eC, eM]
      obtain ⟨e1, e2, e3, e4, e5, hR⟩ := hB
      have hB : BS S' T' d f L := ⟨e1, e2, e3, e4, e5, hR⟩
      have hq := n0_b (f := f) h2
      have hs : g_X3_skipBlanks (SP S' p') = SP S' (n0 f L p') := sbC e1 e2 hL hb 401 p' h2 (by omega)
      have hm : g_X7_blanks (TP T' p' b') = TP T' (n0 f L p') (nI (n0 f L p')) := sbM e3 e4 hL 401 p' b' h2 (by omega)
      rw [hm]
      have hS : g_X3_readSemicolon (SP S' p') = (if nI (n0 f L p') < nI L then (if f_X3_byteAt (SP S' (n0 f L p')) (nI (n0 f L p')) = 59 then up2 (SP S' (n0 f L p')) 1 2 (nI (n0 f L p') + 1) else up2 (SP S' (n0 f L p')) 1 3 (nI (n0 f L p'))) else SP S' (n0 f L p')) := by
        rw [g_X3_readSemicolon, if_pos (show SP S' p' 1 3 = -1 from e5), hs, show SP S' p' 1 1 = nI L from e1, show SP S' (n0 f L p') 1 2 = nI (n0 f L p') from up2_same _ _ _ _]
      have hF : f_X3_readSemicolon (SP S' p') = (if nI (n0 f L p') < nI L then (if f_X3_byteAt (SP S' (n0 f L p')) (nI (n0 f L p')) = 59 then 1 else 0) else 0) := by
        rw [f_X3_readSemicolon, if_pos (show SP S' p' 1 3 = -1 from e5), hs, show SP S' p' 1 1 = nI L from e1, show SP S' (n0 f L p') 1 2 = nI (n0 f L p') from up2_same _ _ _ _]
      rw [hS, hF]
      generalize n0 f L p' = q at *
      have k20 : TP T' q (nI q) 143 20 = nI q := up2_same _ _ _ _
      have k21 : TP T' p' b' 143 21 = nI L := e3
      rw [k20, k21]
      by_cases c : q = L
      · have c1 : nI q = nI L := by rw [c]
        have c2 : ¬ nI q < nI L := nI_nlt (by omega) (by omega)
        simp only [if_pos c1, if_neg c2]
        rw [em, (ri_0 (d := d) (n := m) (SP S' q) (nI (k + 1))).1, (ri_0 (d := d) (n := m) (SP S' q) (nI (k + 1))).2]
        exact Or.inl ⟨trivial, e5, hR.sp _ _ _⟩
      · have c1 : ¬ nI q = nI L := fun h => c ((nI_eq (by omega) (by omega)).mp h)
        have c0 : q < L := by omega
        have c2 : nI q < nI L := nI_lt c0 (by omega)
        simp only [if_neg c1, if_pos c2]
        rw [bat (S := SP S' q) e1 e2 hL c0]
        have hi := iat (T := TP T' q (nI q)) 59 59 e3 e4 hL hq.2 k20
        by_cases z : qR 59 59 (f q)
        · have z1 := (by_59 (hb q)).mpr z
          have z2 : ¬ f_X7_isAt (TP T' q (nI q)) 59 59 = 0 := fun h => hi.mp h ⟨c0, z⟩
          simp only [if_pos z1, if_neg z2]
          rw [SP_up, TP_up]
          exact ih (k + 1) S' T' (q + 1) (nI q) hB (by omega) (by omega) (by omega)
        · have z1 : ¬ f q &&& 255 = 59 := fun h => z ((by_59 (hb q)).mp h)
          have z2 : f_X7_isAt (TP T' q (nI q)) 59 59 = 0 := hi.mpr (fun h => z h.2)
          simp only [if_neg z1, if_pos z2]
          rw [em, (ri_0 (d := d) (n := m) _ (nI (k + 1))).2]
          exact Or.inr ⟨trivial, q, by omega, up2_same _ _ _ _, TP22 _ _ _⟩
    · simp only [if_pos r0]
      have hne : ¬ g_X3_readClause (SP S p) d 1 3 = -1 := by rw [eC]; exact nI_ne1 (by omega)
      have hS : g_X3_readSemicolon (g_X3_readClause (SP S p) d) = g_X3_readClause (SP S p) d := by rw [g_X3_readSemicolon, if_neg hne]
      have hF : f_X3_readSemicolon (g_X3_readClause (SP S p) d) = 0 := by rw [f_X3_readSemicolon, if_neg hne]
      rw [hS, hF, em, (ri_0 (d := d) (n := m) _ (nI (k + 1))).2]
      exact Or.inr ⟨trivial, w, hw, eC, eM⟩
theorem clr_2 : ∀ (n k : Nat) (S : qw_St), k + n = 7 → k ≤ 6 → (∀ i, i < k → S (17 + 3 * d) i = -1 ∧ S (18 + 3 * d) i = -1) → (∀ i, i < 6 → g_X0_clear_2 d n S (nI k) (17 + 3 * d) i = -1 ∧ g_X0_clear_2 d n S (nI k) (18 + 3 * d) i = -1) ∧ g_X0_clear_2 d n S (nI k) (16 + 3 * d) 2 = 0 ∧ g_X0_clear_2 d n S (nI k) (16 + 3 * d) 3 = 0 ∧ g_X0_clear_2 d n S (nI k) (16 + 3 * d) 4 = 0 := by
  intro n
  induction n with
  | zero => intro k S h1 h2; omega
  | succ n ih =>
    intro k S h1 h2 h3
    rw [g_X0_clear_2]
    by_cases c : (6 : Int32) ≤ nI k
    · have : 6 ≤ k := qi_ge rfl (by omega) (m := 6) rfl c
      simp only [if_pos c]
      refine ⟨fun i hi => ?_, ?_, ?_, ?_⟩
      · rw [up2_ne _ _ (Or.inl (by omega)), up2_ne _ _ (Or.inl (by omega)), up2_ne _ _ (Or.inl (by omega)), up2_ne _ _ (Or.inl (by omega)), up2_ne _ _ (Or.inl (by omega)), up2_ne _ _ (Or.inl (by omega))]; exact h3 i (by omega)
      · rw [up2_ne _ _ (Or.inr (by decide)), up2_ne _ _ (Or.inr (by decide)), up2_same]
      · rw [up2_ne _ _ (Or.inr (by decide)), up2_same]
      · rw [up2_same]
    · have hk : k < 6 := qi_lt rfl (by omega) (m := 6) rfl c
      simp only [if_neg c]
      rw [nI_1 k, nI_clamp (by omega : k < 2 ^ 31)]
      refine ih (k + 1) _ (by omega) (by omega) (fun i hi => ?_)
      by_cases e : i = k
      · subst e; rw [up2_same]
        refine ⟨?_, rfl⟩
        rw [up2_ne _ _ (Or.inl (by omega)), up2_same]
      · rw [up2_ne _ _ (Or.inl (by omega)), up2_ne _ _ (Or.inr e), up2_ne _ _ (Or.inr e), up2_ne _ _ (Or.inl (by omega))]; exact h3 i (by omega)
theorem ra_44 : ∀ (n k : Nat) (T : qw_St), k + n = 7 → k ≤ 6 → (∀ i, i < k → T 149 (120 + i) = -1 ∧ T 150 (120 + i) = -1) → ∃ T1 : qw_St, g_X7_readAll_44 n T (nI k) = g_X7_readAll_76 (nI 6) 401 T1 ∧ f_X7_readAll_44 n T (nI k) = f_X7_readAll_76 (nI 6) 401 T1 ∧ (∀ i, i < 6 → T1 149 (120 + i) = -1 ∧ T1 150 (120 + i) = -1) ∧ (∀ c j, (c ≠ 149 ∧ c ≠ 150) ∨ j < 120 → T1 c j = T c j) := by
  intro n
  induction n with
  | zero => intro k S h1 h2; omega
  | succ n ih =>
    intro k T h1 h2 h3
    rw [g_X7_readAll_44, f_X7_readAll_44]
    by_cases c : (6 : Int32) ≤ nI k
    · have : 6 ≤ k := qi_ge rfl (by omega) (m := 6) rfl c
      have hk : k = 6 := by omega
      subst hk
      simp only [if_pos c]
      exact ⟨T, rfl, rfl, h3, fun _ _ _ => rfl⟩
    · have hk : k < 6 := qi_lt rfl (by omega) (m := 6) rfl c
      simp only [if_neg c]
      rw [nI_1 k, show (120 : Int32) = nI 120 from rfl, nI_add, nI_clamp (by omega : 120 + k < 2 ^ 31)]
      obtain ⟨T1, q1, q2, q3, q4⟩ := ih (k + 1) (up2 (up2 T 149 (120 + k) (-1)) 150 (120 + k) (-1)) (by omega) (by omega) (fun i hi => by
        by_cases e : i = k
        · subst e; rw [up2_same]
          refine ⟨?_, rfl⟩
          rw [up2_ne _ _ (Or.inl (by omega)), up2_same]
        · rw [up2_ne _ _ (Or.inl (by omega)), up2_ne _ _ (Or.inr (by omega)), up2_ne _ _ (Or.inr (by omega)), up2_ne _ _ (Or.inl (by omega))]; exact h3 i (by omega))
      exact ⟨T1, q1, q2, q3, fun c j h => (q4 c j h).trans ((up2_ne _ _ (by omega)).trans (up2_ne _ _ (by omega)))⟩
/-- the reference's scratch edict is the only one that reading touches -/
def fz (k j : Nat) : Prop := k ≠ 143 ∧ ((k < 149 ∨ 153 < k) ∨ ((k = 149 ∨ k = 150) ∧ j < 120) ∨ (151 ≤ k ∧ k ≤ 153 ∧ j < 20))
theorem num_rg : ∀ (n : Nat) (T : qw_St) (z : Int32), 0 ≤ f_X7_number_6 0 5 n T z → ∃ i : Nat, i ≤ 5 ∧ f_X7_number_6 0 5 n T z = nI i := by
  intro n
  induction n with
  | zero => intro T z _; exact ⟨0, by omega, rfl⟩
  | succ n ih =>
    intro T z
    rw [f_X7_number_6]
    split
    · split
      · intro h; exact absurd h (by decide)
      · split
        · intro h; exact absurd h (by decide)
        · split
          · intro h; exact absurd h (by decide)
          · next c1 =>
            split
            · next c2 => intro _; exact nI_of2 (n := 5) rfl c1 c2
            · intro h; exact absurd h (by decide)
    · exact ih _ _
theorem fz_4 : ∀ (n : Nat) (S : qw_St) (k j : Nat), fz k j → g_X7_readClause_4 n S k j = S k j := by
  intro n
  induction n with
  | zero => intro S k j h; rfl
  | succ n ih =>
    intro S k j h
    have hn : ∀ (S : qw_St) (a b : Int32), g_X7_number S a b k j = S k j := fun S a b => fr_X7_number S a b j (Or.inl h.1)
    have hu : ∀ (S : qw_St) (c : Nat) (v : Int32), 151 ≤ c → c ≤ 153 → up2 S c (20 : Int32).toNatClampNeg v k j = S k j := fun S c v h3 h4 => by
      rw [k20]; refine up2_ne _ _ ?_; have := h.2; omega
    have hw : ∀ (S1 S : qw_St) (c : Nat) (v : Int32), 0 ≤ f_X7_number S 0 5 → 149 ≤ c → c ≤ 150 → up2 S1 c ((120 : Int32) + f_X7_number S 0 5).toNatClampNeg v k j = S1 k j := fun S1 S c v h2 h3 h4 => by
      obtain ⟨i, hi, ei⟩ := num_rg 401 (g_X7_blanks S) 0 h2
      rw [show f_X7_number S 0 5 = nI i from ei, show (120 : Int32) = nI 120 from rfl, nI_add, nI_clamp (by omega)]
      refine up2_ne _ _ ?_; have := h.2; omega
    rw [g_X7_readClause_4]
    split
    · split
      · split
        · split
          · split
            · split
              · rfl
              · split
                · rw [hu _ _ _ (by decide) (by decide), hn]
                · rw [hn]
            · split
              · rw [hu _ _ _ (by decide) (by decide), hn]
              · rw [hu _ _ _ (by decide) (by decide), hn]
          · split
            · rw [hu _ _ _ (by decide) (by decide), hn]
            · rw [hu _ _ _ (by decide) (by decide), hn]
        · split
          · next c => split
                      · rw [hw _ _ _ _ c (by decide) (by decide), hw _ _ _ _ c (by decide) (by decide), hn, hn]
                      · rw [hn, hn]
          · rw [hn]
      · split
        · next c => split
                    · rw [hw _ _ _ _ c (by decide) (by decide), hw _ _ _ _ c (by decide) (by decide), hn, hn]
                    · rw [hn, hn]
        · rw [hn]
    · rw [ih _ _ _ h, up2_ne _ _ (Or.inl h.1)]
theorem fz_76 (y : Int32) : ∀ (n : Nat) (S : qw_St) (k j : Nat), fz k j → g_X7_readAll_76 y n S k j = S k j := by
  intro n
  induction n with
  | zero => intro S k j h; rfl
  | succ n ih =>
    intro S k j h
    have e1 : g_X7_readClause S k j = S k j := by rw [g_X7_readClause, fz_4 _ _ _ _ h, fr_X7_blanks _ _ (Or.inl h.1)]
    have e2 : g_X7_blanks (g_X7_readClause S) k j = S k j := (fr_X7_blanks _ _ (Or.inl h.1)).trans e1
    rw [g_X7_readAll_76]
    split
    · exact e1
    · split
      · exact e2
      · split
        · exact e2
        · rw [ih _ _ _ h, up2_ne _ _ (Or.inl h.1)]; exact e2
end PE
theorem rd_all {S T : qw_St} {f : Nat → Int32} {L E : Nat} (hL : L ≤ 400) (hb : ∀ j, isB (f j)) (hE : E < 21) (e1 : S 1 1 = nI L) (e2 : S 2 = f) (e3 : T 143 19 = nI L) (e4 : T 156 = f) :
    ((f_X7_readAll T = 1 ∧ f_X3_readInto S E = -1 ∧ RD (g_X3_readInto S E) (g_X7_readAll T) E) ∨ (f_X7_readAll T = 0 ∧ ∃ w : Nat, w ≤ 400 ∧ f_X3_readInto S E = nI w ∧ g_X7_readAll T 143 22 = nI w)) ∧ (∀ k j, fz k j → g_X7_readAll T k j = T k j) := by
  obtain ⟨c1, c2, c3, c4⟩ := clr_2 (d := E) 7 0 S rfl (by omega) (fun i hi => absurd hi (by omega))
  rw [nI_0] at c1 c2 c3 c4
  have ec : ∀ k j, (k < 16 + 3 * E ∨ 18 + 3 * E < k) → g_X0_clear S E k j = S k j := fun k j h => fr_X0_clear _ _ _ h
  rw [f_X7_readAll, g_X7_readAll, k20]
  obtain ⟨T1, q1, q2, q3, q4⟩ := ra_44 7 0 (up2 (up2 (up2 (up2 (up2 (up2 T 143 21 (T 143 19)) 143 19 0) 143 20 0) 151 20 0) 152 20 0) 153 20 0) rfl (by omega) (fun i hi => absurd hi (by omega))
  rw [nI_0] at q1 q2
  rw [q1, q2]
  constructor
  · have k20' : T1 143 20 = nI 0 := (q4 143 20 (Or.inl (by decide))).trans rfl
    have k21 : T1 143 21 = nI L := ((q4 143 21 (Or.inl (by decide))).trans rfl).trans e3
    have eT : T1 = TP T1 0 (T1 143 22) := by
      rw [TP, up2_self (up2 T1 143 22 (T1 143 22)) ((up2_ne _ _ (Or.inr (by decide))).trans k20'), up2_self T1 rfl]
    have eS : up2 (up2 (g_X0_clear S E) 1 2 0) 1 3 (-1) = SP (up2 (g_X0_clear S E) 1 3 (-1)) 0 := by
      rw [SP, up2_comm _ _ _ (Or.inr (by decide)), nI_0]
    have hB : BS (up2 (g_X0_clear S E) 1 3 (-1)) T1 E f L := by
      refine ⟨?_, ?_, k21, ?_, up2_same _ _ _ _, fun i hi => ?_, ?_, ?_, ?_⟩
      · rw [up2_ne _ _ (Or.inr (by decide)), ec _ _ (by omega)]; exact e1
      · rw [up2_c _ _ _ _ (by decide)]; exact (funext fun j => ec 2 j (by omega)).trans e2
      · exact (funext fun j => (q4 156 j (Or.inl (by decide))).trans rfl).trans e4
      · rw [up2_ne _ _ (Or.inl (by omega)), up2_ne _ _ (Or.inl (by omega)), (q3 i hi).1, (q3 i hi).2]
        exact ⟨(c1 i hi).1, (c1 i hi).2, Or.inl rfl, Or.inl rfl⟩
      · rw [up2_ne _ _ (Or.inl (by omega)), q4 151 20 (Or.inl (by decide))]
        exact ⟨c2, ⟨0, by omega, rfl⟩⟩
      · rw [up2_ne _ _ (Or.inl (by omega)), q4 152 20 (Or.inl (by decide))]
        exact ⟨c3, ⟨0, by omega, rfl⟩⟩
      · rw [up2_ne _ _ (Or.inl (by omega)), q4 153 20 (Or.inl (by decide))]
        exact c4
    have hl := rd_loop hL hb (nI 6) 401 0 _ T1 0 (T1 143 22) hB (by omega) (by omega) rfl
    rw [← eT, ← eS, nI_0] at hl
    rw [f_X3_readInto, g_X3_readInto]
    exact hl
  · intro k j h
    rw [fz_76 _ _ _ _ _ h, q4 k j (by have := h.2; omega), up2_ne _ _ (by have := h.2; omega), up2_ne _ _ (by have := h.2; omega), up2_ne _ _ (by have := h.2; omega), up2_ne _ _ (Or.inl h.1), up2_ne _ _ (Or.inl h.1), up2_ne _ _ (Or.inl h.1)]
