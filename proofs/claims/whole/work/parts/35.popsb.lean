/-! THE PURE PART: call by call, again -/
theorem what_in {a : Int32} {n : Nat} {c : Int32} (hc : c = nI n) (hn : n + 1 < 2 ^ 31) (h : ok_X6_needWhat a c = true) : ∃ k : Nat, k ≤ n ∧ a = nI k := by
  have h1 := nd_what.mp h
  exact nI_of2 (by rw [hc]; exact nI_toInt (by omega)) h1.1 h1.2
theorem what_no {a c : Int32} (h : ¬ ok_X6_needWhat a c = true) {k : Int32} (h0 : ¬ k < 0) (hk : k ≤ c) : (a = k) = False := eq_false (fun q => h (nd_what.mpr (by rw [q]; exact ⟨h0, hk⟩)))
theorem op_look {S T : qw_St} (h : RA S T) (a1 a2 a3 : Int32) : agr tbN (f_X6_look S a1 a2 a3) (g_X7_look T a1 a2 a3 143 0) (f_X7_look T a1 a2 a3) ∧ RA (g_X6_look S a1 a2 a3) (g_X7_look T a1 a2 a3) := by
  have h0 := h.thr 0
  unfold f_X6_look g_X6_look g_X7_look f_X7_look
  by_cases n1 : ok_X6_needTown S a1 = true
  · by_cases n2 : ok_X6_needThing a2 = true
    · simp only [n1, n2, tw_0 h0 n1, nt_0 n2, if_true, if_false, o10, thr0]
      have v1 := nd_town_in h.towS n1
      have v2 := nd_thing_in n2
      by_cases n3 : ok_X6_needWhat a3 7 = true
      · simp only [n3, if_true]
        obtain ⟨t, ht, e1⟩ := vp_in_of v1 (by omega)
        obtain ⟨i, hi, e2⟩ := vp_in_of v2 (by omega)
        have hc1 : a1.toNatClampNeg = t := by rw [e1]; exact nI_clamp (by omega)
        have hc2 : a2.toNatClampNeg = i := by rw [e2]; exact nI_clamp (by omega)
        have ex : (((6 : Int32) * a1) + a2).toNatClampNeg = 6 * t + i := by rw [e1, e2, ix6 (by omega) (by omega)]
        have w := fun q hq => h.2.2.1.2.2 t i q ht hi hq
        obtain ⟨k, hk, ek⟩ := what_in (n := 7) rfl (by decide) n3
        rw [hc1, hc2, ex]
        subst ek
        match k, hk with
        | 0, _ =>
          simp only [eq_true (by decide : nI 0 = (0 : Int32)), if_true, if_false]
          exact ⟨agr_ok (w 4 (by omega)), h0⟩
        | 1, _ =>
          simp only [eq_false (by decide : ¬ nI 1 = (0 : Int32)), eq_true (by decide : nI 1 = (1 : Int32)), if_true, if_false]
          exact ⟨agr_ok (w 5 (by omega)), h0⟩
        | 2, _ =>
          simp only [eq_false (by decide : ¬ nI 2 = (0 : Int32)), eq_false (by decide : ¬ nI 2 = (1 : Int32)), eq_true (by decide : nI 2 = (2 : Int32)), if_true, if_false]
          exact ⟨agr_ok (w 6 (by omega)), h0⟩
        | 3, _ =>
          simp only [eq_false (by decide : ¬ nI 3 = (0 : Int32)), eq_false (by decide : ¬ nI 3 = (1 : Int32)), eq_false (by decide : ¬ nI 3 = (2 : Int32)), eq_true (by decide : nI 3 = (3 : Int32)), if_true, if_false]
          exact ⟨agr_ok (w 7 (by omega)), h0⟩
        | 4, _ =>
          simp only [eq_false (by decide : ¬ nI 4 = (0 : Int32)), eq_false (by decide : ¬ nI 4 = (1 : Int32)), eq_false (by decide : ¬ nI 4 = (2 : Int32)), eq_false (by decide : ¬ nI 4 = (3 : Int32)), eq_true (by decide : nI 4 = (4 : Int32)), if_true, if_false]
          exact ⟨agr_ok (w 8 (by omega)), h0⟩
        | 5, _ =>
          simp only [eq_false (by decide : ¬ nI 5 = (0 : Int32)), eq_false (by decide : ¬ nI 5 = (1 : Int32)), eq_false (by decide : ¬ nI 5 = (2 : Int32)), eq_false (by decide : ¬ nI 5 = (3 : Int32)), eq_false (by decide : ¬ nI 5 = (4 : Int32)), eq_true (by decide : nI 5 = (5 : Int32)), if_true, if_false]
          exact ⟨agr_ok (w 9 (by omega)), h0⟩
        | 6, _ =>
          simp only [eq_false (by decide : ¬ nI 6 = (0 : Int32)), eq_false (by decide : ¬ nI 6 = (1 : Int32)), eq_false (by decide : ¬ nI 6 = (2 : Int32)), eq_false (by decide : ¬ nI 6 = (3 : Int32)), eq_false (by decide : ¬ nI 6 = (4 : Int32)), eq_false (by decide : ¬ nI 6 = (5 : Int32)), eq_true (by decide : nI 6 = (6 : Int32)), if_true, if_false]
          exact ⟨agr_ok (w 10 (by omega)), h0⟩
        | 7, _ =>
          simp only [eq_false (by decide : ¬ nI 7 = (0 : Int32)), eq_false (by decide : ¬ nI 7 = (1 : Int32)), eq_false (by decide : ¬ nI 7 = (2 : Int32)), eq_false (by decide : ¬ nI 7 = (3 : Int32)), eq_false (by decide : ¬ nI 7 = (4 : Int32)), eq_false (by decide : ¬ nI 7 = (5 : Int32)), eq_false (by decide : ¬ nI 7 = (6 : Int32)), eq_true (by decide : nI 7 = (7 : Int32)), if_true, if_false]
          exact ⟨agr_ok (h0.price v1 v2).1, h0.left (fun k j q => fr_X6_priceToday _ _ _ _ q)⟩
      · simp only [n3, if_false, what_no n3 (k := 0) (by decide) (by decide), what_no n3 (k := 1) (by decide) (by decide), what_no n3 (k := 2) (by decide) (by decide), what_no n3 (k := 3) (by decide) (by decide), what_no n3 (k := 4) (by decide) (by decide), what_no n3 (k := 5) (by decide) (by decide), what_no n3 (k := 6) (by decide) (by decide), what_no n3 (k := 7) (by decide) (by decide)]
        exact ⟨agr_er (k := 2) rfl (by decide), h0.thr 2⟩
    · simp only [n1, n2, tw_0 h0 n1, nt_1 n2, if_true, if_false, o10, thr0, thr1]
      exact ⟨agr_er (k := 1) rfl (by decide), h0.thr 1⟩
  · simp only [n1, tw_1 h0 n1, if_true, if_false, o10, thr0, thr1]
    exact ⟨agr_er (k := 1) rfl (by decide), h0.thr 1⟩
theorem op_buys {S T : qw_St} (h : RA S T) (a1 a2 a3 : Int32) : agr tbG (f_X6_buys S a1 a2 a3) (g_X7_buys T a1 a2 a3 143 0) (f_X7_buys T a1 a2 a3) ∧ RA (g_X6_buys S a1 a2 a3) (g_X7_buys T a1 a2 a3) := by
  have h0 := h.thr 0
  unfold f_X6_buys g_X6_buys g_X7_buys f_X7_buys
  by_cases n1 : ok_X6_needTown S a1 = true
  · by_cases n2 : ok_X6_needThing a2 = true
    · have v1 := nd_town_in h.towS n1
      have v2 := nd_thing_in n2
      by_cases n3 : ok_X6_needWithin a3 0 100000 = true
      · simp only [n1, n2, n3, tw_0 h0 n1, nt_0 n2, nw_in.mp n3, if_true, if_false, o10, thr0, ite_self]
        obtain ⟨t, ht, e1⟩ := vp_in_of v1 (by omega)
        obtain ⟨i, hi, e2⟩ := vp_in_of v2 (by omega)
        have hc1 : a1.toNatClampNeg = t := by rw [e1]; exact nI_clamp (by omega)
        have hc2 : a2.toNatClampNeg = i := by rw [e2]; exact nI_clamp (by omega)
        have ex : (((6 : Int32) * a1) + a2).toNatClampNeg = 6 * t + i := by rw [e1, e2, ix6 (by omega) (by omega)]
        have w : S (81 + 8 * t + i) 4 = T 163 (6 * t + i) := h.2.2.1.2.2 t i 4 ht hi (by omega)
        obtain ⟨p1, ⟨p, hp, ep⟩, -⟩ := h0.price v1 v2
        refine ⟨?_, h0.left (fun k j q => fr_X6_priceToday _ _ _ _ q)⟩
        rw [hc1, hc2, ex, ← p1, w]
        by_cases hz : f_X6_priceToday S a1 a2 = 0
        · rw [if_pos (by rw [hz]; decide), if_pos hz]
          exact agr_ok rfl
        · have hz2 : ¬ f_X6_priceToday S a1 a2 ≤ 0 := by
            rw [ep] at hz ⊢
            cases p with
            | zero => exact absurd rfl hz
            | succ p => exact nI_nle (by omega) (by omega)
          rw [if_neg hz2, if_neg hz]
          refine agr_ok ?_
          generalize a3 / f_X6_priceToday S a1 a2 = x
          generalize T 163 (6 * t + i) = y
          by_cases c1 : y < x
          · rw [if_pos c1, if_neg (fun q => by rw [Int32.lt_iff_toInt_lt] at c1 q; omega)]
          · rw [if_neg c1]
            by_cases c2 : x < y
            · rw [if_pos c2]
            · rw [if_neg c2]
              rw [Int32.lt_iff_toInt_lt] at c1 c2
              exact Int32.toInt_inj.mp (by omega)
      · simp only [n1, n2, n3, tw_0 h0 n1, nt_0 n2, nw_in0 n3, if_true, if_false, o10, thr0, thr1]
        exact ⟨agr_er (k := 2) rfl (by decide), h0.thr 2⟩
    · simp only [n1, n2, tw_0 h0 n1, nt_1 n2, if_true, if_false, o10, thr0, thr1]
      exact ⟨agr_er (k := 1) rfl (by decide), h0.thr 1⟩
  · simp only [n1, tw_1 h0 n1, if_true, if_false, o10, thr0, thr1]
    exact ⟨agr_er (k := 1) rfl (by decide), h0.thr 1⟩
theorem op_agree {S T : qw_St} (h : RA S T) (a1 a2 a3 : Int32) : agr tbN (f_X6_agree S a1 a2 a3) (g_X7_agree T a1 a2 a3 143 0) (f_X7_agree T a1 a2 a3) ∧ RA (g_X6_agree S a1 a2 a3) (g_X7_agree T a1 a2 a3) := by
  have h0 := h.thr 0
  unfold f_X6_agree g_X6_agree g_X7_agree f_X7_agree
  by_cases n1 : ok_X6_needLine a1 = true
  · simp only [n1, nl_0 n1, if_true, if_false, o10, thr0, ite_self]
    have he : ∀ q, q < 4 → g_X2_compare S a1 a2 9 q = f_X7_agreeing (up2 T 143 0 0) a1 (nI q) a2 := fun q hq => cmp_eq h0.1 h0.2.2.2.2.2.1 a1 a2 hq
    have hR : RA (g_X2_compare S a1 a2) (up2 T 143 0 0) := h0.left (fun k j q => fr_X2_compare _ _ _ _ q)
    by_cases n3 : ok_X6_needWhat a3 3 = true
    · simp only [n3, if_true]
      obtain ⟨k, hk, ek⟩ := what_in (n := 3) rfl (by decide) n3
      subst ek
      match k, hk with
      | 0, _ =>
        simp only [eq_true (by decide : nI 0 = (0 : Int32)), if_true, if_false]
        exact ⟨agr_ok (many_eq he), hR⟩
      | 1, _ =>
        simp only [eq_false (by decide : ¬ nI 1 = (0 : Int32)), eq_true (by decide : nI 1 = (1 : Int32)), if_true, if_false]
        exact ⟨agr_ok (least_eq he), hR⟩
      | 2, _ =>
        simp only [eq_false (by decide : ¬ nI 2 = (0 : Int32)), eq_false (by decide : ¬ nI 2 = (1 : Int32)), eq_true (by decide : nI 2 = (2 : Int32)), if_true, if_false]
        exact ⟨agr_ok (great_eq he), hR⟩
      | 3, _ =>
        simp only [eq_false (by decide : ¬ nI 3 = (0 : Int32)), eq_false (by decide : ¬ nI 3 = (1 : Int32)), eq_false (by decide : ¬ nI 3 = (2 : Int32)), eq_true (by decide : nI 3 = (3 : Int32)), if_true, if_false]
        refine ⟨?_, hR⟩
        rw [many_eq he]
        split
        · exact agr_ok rfl
        · exact agr_ok rfl
    · simp only [n3, if_false, what_no n3 (k := 0) (by decide) (by decide), what_no n3 (k := 1) (by decide) (by decide), what_no n3 (k := 2) (by decide) (by decide), what_no n3 (k := 3) (by decide) (by decide)]
      exact ⟨agr_er (k := 2) rfl (by decide), h0.thr 2⟩
  · simp only [n1, nl_1 n1, if_true, if_false, o10, thr0, thr1]
    exact ⟨agr_er (k := 1) rfl (by decide), h0.thr 1⟩
theorem sc_ge {T : qw_St} {j : Nat} {v : Int32} : ∀ k, k ≤ j → sc_n (up2 T 147 j v) k = sc_n T k := by
  intro k
  induction k with
  | zero => intro _; rfl
  | succ k ih => intro h; rw [sc_n, sc_n, ih (by omega), up2_ne _ _ (Or.inr (by omega))]
theorem sc_up {T : qw_St} {j : Nat} {v : Int32} (h1 : T 147 j = -1) (h2 : 0 ≤ v) : ∀ k, j < k → sc_n (up2 T 147 j v) k = sc_n T k + 1 := by
  intro k
  induction k with
  | zero => intro h; omega
  | succ k ih =>
    intro h
    rw [sc_n, sc_n]
    by_cases e : k = j
    · subst e
      rw [sc_ge _ (Nat.le_refl _), up2_same, if_pos h2, h1, if_neg (by decide)]
    · rw [ih (by omega), up2_ne _ _ (Or.inr e)]; omega
theorem RA.strike {S T : qw_St} (h : RA S T) {j : Nat} (hj : j < (T 143 6).toNatClampNeg) (hm : T 147 j = -1) : RA (up2 (up2 S 7 j (S 0 9)) 3 7 (S 3 7 + 1)) (up2 T 147 j (T 143 1)) := by
  obtain ⟨⟨s1, s2, s3, s4, s5, s6⟩, r2, r3, r4, ⟨x1, x2, x3, x4, x5, x6, x7, x8⟩, i1, i2, i3, i4, i5, i6, i7, i8⟩ := h
  have hd : 0 ≤ T 143 1 := by obtain ⟨d, hd, ed⟩ := i6; rw [ed]; exact nI_pos' (by omega)
  refine ⟨⟨s1, s2, s3, s4, ?_, s6⟩, r2, r3.cg rfl (fun k j h1 h2 => (up2_ne _ _ (Or.inl (by omega))).trans (up2_ne _ _ (Or.inl (by omega)))) rfl rfl (fun k h1 h2 => up2_c _ _ _ _ (by omega)), r4.cg i3.1 rfl (fun k j h1 h2 => (up2_ne _ _ (Or.inl (by omega))).trans (up2_ne _ _ (Or.inl (by omega)))) rfl (fun k h1 h2 => up2_c _ _ _ _ (by omega)), ⟨x1, x2, x3, x4, x5, x6, x7, ?_⟩, ⟨i1.1, i1.2.1, ?_⟩, i2, i3, i4, i5, i6, i7, i8⟩
  · show upd (S 7) j (S 0 9) = upd (T 147) j (T 143 1)
    rw [s5, x1]
  · show S 3 7 + 1 = nI (sc_n (up2 T 147 j (T 143 1)) (T 143 6).toNatClampNeg)
    rw [sc_up hm hd _ hj, x8, nI_1]
  · intro j'
    by_cases e : j' = j
    · subst e; rw [up2_same]; exact Or.inr (Int32.not_lt.mpr hd)
    · rw [up2_ne _ _ (Or.inr e)]; exact i1.2.2 j'
theorem op_strike {S T : qw_St} (h : RA S T) (a1 : Int32) : agr tbI (f_X6_strike S a1) (g_X7_strike T a1 143 0) (f_X7_strike T a1) ∧ RA (g_X6_strike S a1) (g_X7_strike T a1) := by
  have h0 := h.thr 0
  unfold f_X6_strike g_X6_strike g_X7_strike f_X7_strike f_X2_strikeOut g_X2_strikeOut
  have e6 : S 3 6 = T 143 6 := h.1.1
  have e7 : S 7 = T 147 := h.1.2.2.2.2.1
  have hz := h.2.2.2.2.2.1.1
  rw [e6, e7]
  by_cases n1 : ¬ a1 < 0 ∧ a1 < T 143 6
  · have m1 := (cnt_in hz (by decide)).mpr n1
    simp only [n1.1, n1.2, m1, if_true, if_false, o10, thr0]
    have hj : a1.toNatClampNeg < (T 143 6).toNatClampNeg := by
      obtain ⟨k, hk, e⟩ := nI_of n1.1
      obtain ⟨N, hN, eN⟩ := hz
      have n2 := n1.2
      rw [e, eN] at n2 ⊢
      rw [nI_clamp hk, nI_clamp (by omega)]
      exact (nI_ltI hk (by omega)).mp n2
    rcases h.2.2.2.2.2.1.2.2 a1.toNatClampNeg with e | e
    · have e9 : T 147 a1.toNatClampNeg < 0 := by rw [e]; decide
      simp only [e9, if_true]
      rw [if_pos e, if_pos e]
      exact ⟨agr_ok rfl, h0.strike hj e⟩
    · have e9 : ¬ T 147 a1.toNatClampNeg = -1 := fun q => e (by rw [q]; decide)
      simp only [e, e9, if_false]
      exact ⟨agr_ok rfl, h0⟩
  · have m0 : f_X7_in a1 0 (T 143 6 - 1) = 0 := (in_01 _ _ _).resolve_right (fun q => n1 ((cnt_in hz (by decide)).mp q))
    simp only [m0, if_true, if_false, o10, thr0, thr1]
    by_cases c1 : a1 < 0
    · simp only [c1, if_true]
      exact ⟨agr_er (k := 1) rfl (by decide), h0.thr 1⟩
    · have c2 : ¬ a1 < T 143 6 := fun q => n1 ⟨c1, q⟩
      simp only [c1, c2, if_false]
      exact ⟨agr_er (k := 1) rfl (by decide), h0.thr 1⟩
theorem RA.habit {S T : qw_St} (h : RA S T) (j1 j2 : Nat) (v1 v2 : Int32) : RA (up2 (up2 (up2 S 8 j1 v1) 8 j2 v2) 3 8 (S 3 8 + 1)) (up2 (up2 (up2 T 148 j1 v1) 148 j2 v2) 143 7 (T 143 7 + 1)) := by
  obtain ⟨⟨s1, s2, s3, s4, s5, s6⟩, r2, r3, r4, ⟨x1, x2, x3, x4, x5, x6, x7, x8⟩, i1, i2, i3, i4, i5, i6, i7, i8⟩ := h
  refine ⟨⟨s1, s2, s3, s4, s5, ?_⟩, r2, r3.cg rfl (fun k j h1 h2 => (up2_ne _ _ (Or.inl (by omega))).trans ((up2_ne _ _ (Or.inl (by omega))).trans (up2_ne _ _ (Or.inl (by omega))))) rfl rfl (fun k h1 h2 => (up2_c _ _ _ _ (by omega)).trans ((up2_c _ _ _ _ (by omega)).trans (up2_c _ _ _ _ (by omega)))), r4.cg i3.1 rfl (fun k j h1 h2 => (up2_ne _ _ (Or.inl (by omega))).trans ((up2_ne _ _ (Or.inl (by omega))).trans (up2_ne _ _ (Or.inl (by omega))))) rfl (fun k h1 h2 => (up2_c _ _ _ _ (by omega)).trans ((up2_c _ _ _ _ (by omega)).trans (up2_c _ _ _ _ (by omega)))), ⟨x1, x2, x3, x4, x5, x6, ?_, x8.trans (congrArg nI (sc_cong (T := T) (T' := up2 (up2 (up2 T 148 j1 v1) 148 j2 v2) 143 7 (T 143 7 + 1)) (fun j => rfl) (T 143 6).toNatClampNeg).symm)⟩, i1, i2, i3, i4, i5, i6, i7, i8⟩
  · show upd (upd (S 8) j1 v1) j2 v2 = upd (upd (T 148) j1 v1) j2 v2
    rw [s6]
  · show S 3 8 + 1 = T 143 7 + 1
    rw [x7]
theorem op_habit {S T : qw_St} (h : RA S T) (a1 a2 : Int32) : agr tbA (f_X6_habit S a1 a2) (g_X7_habit T a1 a2 143 0) (f_X7_habit T a1 a2) ∧ RA (g_X6_habit S a1 a2) (g_X7_habit T a1 a2) := by
  have h0 := h.thr 0
  unfold f_X6_habit g_X6_habit g_X7_habit f_X7_habit f_X2_confuse g_X2_confuse
  have e8 : S 8 = T 148 := h.1.2.2.2.2.2
  by_cases n1 : ok_X6_needWithin a1 0 9 = true
  · by_cases n2 : ok_X6_needWithin a2 0 9 = true
    · by_cases n3 : a1 = a2
      · simp only [n1, n2, nw_in.mp n1, nw_in.mp n2, if_pos n3, if_true, if_false, o10, thr0, thr1]
        exact ⟨agr_er (k := 1) rfl (by decide), h0.thr 1⟩
      · simp only [n1, n2, nw_in.mp n1, nw_in.mp n2, if_neg n3, if_true, if_false, o10, thr0]
        rw [e8]
        by_cases c1 : ((T 148 a1.toNatClampNeg) >>> (a2 &&& 31)) &&& (1 : Int32) = 1
        · simp only [if_pos c1]
          exact ⟨agr_ok rfl, h0⟩
        · simp only [if_neg c1]
          refine ⟨agr_ok rfl, ?_⟩
          have e1 : up2 S 8 a1.toNatClampNeg (T 148 a1.toNatClampNeg ||| 1 <<< (a2 &&& 31)) 8 = up2 (up2 T 143 0 0) 148 a1.toNatClampNeg (T 148 a1.toNatClampNeg ||| 1 <<< (a2 &&& 31)) 148 := by
            show upd (S 8) _ _ = upd (T 148) _ _
            rw [e8]
          rw [e1]
          exact h0.habit _ _ _ _
    · simp only [n1, n2, nw_in.mp n1, nw_in0 n2, if_true, if_false, o10, thr0, thr1]
      exact ⟨agr_er (k := 1) rfl (by decide), h0.thr 1⟩
  · simp only [n1, nw_in0 n1, if_true, if_false, o10, thr0, thr1]
    exact ⟨agr_er (k := 1) rfl (by decide), h0.thr 1⟩
