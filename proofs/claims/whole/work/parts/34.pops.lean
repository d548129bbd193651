/-! THE PURE PART: call by call -/
def kd (t : List (String × Int32)) (F : Except String Int32) : Int32 := match F with
  | .ok _ => 0
  | .error N => (t.lookup N).getD 0
def agr (t : List (String × Int32)) (F : Except String Int32) (th b : Int32) : Prop := th = kd t F ∧ (∀ v, F = .ok v → v = b) ∧ (∀ N, F = .error N → ¬ kd t F = 0)
theorem agr_ok {t : List (String × Int32)} {v b : Int32} (h : v = b) : agr t (.ok v) 0 b := ⟨rfl, fun w e => by cases e; exact h, fun N e => by cases e⟩
theorem agr_er {t : List (String × Int32)} {N : String} {k b : Int32} (h : kd t (.error N) = k) (hk : ¬ k = 0) : agr t (.error N) k b := ⟨h.symm, (fun w e => by cases e), (fun M e => by rw [h]; exact hk)⟩
def tbS : List (String × Int32) := [("java/lang/IndexOutOfBoundsException", 1), ("java/lang/IllegalArgumentException", 2), ("java/lang/UnsupportedOperationException", 3)]
def tbI : List (String × Int32) := [("java/lang/IndexOutOfBoundsException", 1)]
def tbA : List (String × Int32) := [("java/lang/IllegalArgumentException", 1)]
def tbN : List (String × Int32) := [("java/lang/IndexOutOfBoundsException", 1), ("java/util/NoSuchElementException", 2)]
def tbU : List (String × Int32) := [("java/lang/IllegalArgumentException", 1), ("java/lang/UnsupportedOperationException", 2)]
def tbG : List (String × Int32) := [("java/lang/IndexOutOfBoundsException", 1), ("java/lang/IllegalArgumentException", 2)]
theorem o10 : ((1 : Int32) = 0) = False := eq_false (by decide)
theorem thr0 (T : qw_St) (c : Int32) : g_X7_throwsIf T 0 c = T := by rw [g_X7_throwsIf, if_pos rfl]
theorem thr1 (T : qw_St) (c : Int32) : g_X7_throwsIf T 1 c = up2 T 143 0 c := by rw [g_X7_throwsIf, if_neg (by decide)]
theorem in_01 (a b c : Int32) : f_X7_in a b c = 0 ∨ f_X7_in a b c = 1 := by unfold f_X7_in; repeat' (first | split | exact Or.inl rfl | exact Or.inr rfl)
theorem in_iff {a b c : Int32} : f_X7_in a b c = 1 ↔ b.toInt ≤ a.toInt ∧ a.toInt ≤ c.toInt := by
  unfold f_X7_in
  by_cases h1 : a < b
  · rw [if_pos h1]
    rw [Int32.lt_iff_toInt_lt] at h1
    exact ⟨fun q => absurd q (by decide), fun q => by omega⟩
  · rw [if_neg h1]
    rw [Int32.lt_iff_toInt_lt] at h1
    by_cases h2 : c < a
    · rw [if_pos h2]
      rw [Int32.lt_iff_toInt_lt] at h2
      exact ⟨fun q => absurd q (by decide), fun q => by omega⟩
    · rw [if_neg h2]
      rw [Int32.lt_iff_toInt_lt] at h2
      exact ⟨fun _ => by omega, fun _ => rfl⟩
theorem nw_in {a b c : Int32} : ok_X6_needWithin a b c = true ↔ f_X7_in a b c = 1 := by
  rw [nd_within, in_iff, Int32.lt_iff_toInt_lt, Int32.le_iff_toInt_le]; omega
theorem nw_in0 {a b c : Int32} (h : ¬ ok_X6_needWithin a b c = true) : f_X7_in a b c = 0 := (in_01 a b c).resolve_right (fun q => h (nw_in.mpr q))
theorem nl_0 {a : Int32} (h : ok_X6_needLine a = true) : f_X7_noLine a = 0 := by
  have h1 := nd_line.mp h
  have e : f_X7_in a 0 29 = 1 := by
    rw [in_iff]
    rw [Int32.lt_iff_toInt_lt, Int32.lt_iff_toInt_lt] at h1
    have : (0 : Int32).toInt = 0 := rfl
    have : (29 : Int32).toInt = 29 := rfl
    have : (30 : Int32).toInt = 30 := rfl
    omega
  rw [f_X7_noLine, e, if_neg (by decide)]
theorem nl_1 {a : Int32} (h : ¬ ok_X6_needLine a = true) : f_X7_noLine a = 1 := by
  have e : f_X7_in a 0 29 = 0 := (in_01 _ _ _).resolve_right (fun q => h (nd_line.mpr (by
    rw [in_iff] at q
    rw [Int32.lt_iff_toInt_lt, Int32.lt_iff_toInt_lt]
    have : (0 : Int32).toInt = 0 := rfl
    have : (29 : Int32).toInt = 29 := rfl
    have : (30 : Int32).toInt = 30 := rfl
    omega)))
  rw [f_X7_noLine, e, if_pos rfl]
theorem nt_0 {a : Int32} (h : ok_X6_needThing a = true) : f_X7_noThing a = 0 := by
  have h1 := nd_thing.mp h
  have e : f_X7_in a 0 5 = 1 := by
    rw [in_iff]
    rw [Int32.lt_iff_toInt_lt, Int32.lt_iff_toInt_lt] at h1
    have : (0 : Int32).toInt = 0 := rfl
    have : (5 : Int32).toInt = 5 := rfl
    have : (6 : Int32).toInt = 6 := rfl
    omega
  rw [f_X7_noThing, e, if_neg (by decide)]
theorem nt_1 {a : Int32} (h : ¬ ok_X6_needThing a = true) : f_X7_noThing a = 1 := by
  have e : f_X7_in a 0 5 = 0 := (in_01 _ _ _).resolve_right (fun q => h (nd_thing.mpr (by
    rw [in_iff] at q
    rw [Int32.lt_iff_toInt_lt, Int32.lt_iff_toInt_lt]
    have : (0 : Int32).toInt = 0 := rfl
    have : (5 : Int32).toInt = 5 := rfl
    have : (6 : Int32).toInt = 6 := rfl
    omega)))
  rw [f_X7_noThing, e, if_pos rfl]
theorem pre_toInt {x : Int32} {N : Nat} (h : qz x N) (hN : N < 2 ^ 31) : (x - 1).toInt = x.toInt - 1 := by
  obtain ⟨k, hk, e⟩ := h
  subst e
  cases k with
  | zero => decide
  | succ k => rw [nI_pred, nI_toInt (by omega), nI_toInt (by omega)]; omega
theorem cnt_in {x a : Int32} {N : Nat} (h : qz x N) (hN : N < 2 ^ 31) : f_X7_in a 0 (x - 1) = 1 ↔ ¬ a < 0 ∧ a < x := by
  rw [in_iff, pre_toInt h hN, Int32.lt_iff_toInt_lt, Int32.lt_iff_toInt_lt]
  have : (0 : Int32).toInt = 0 := rfl
  omega
theorem tw_0 {S T : qw_St} (h : RA S T) {a : Int32} (q : ok_X6_needTown S a = true) : f_X7_noTown T a = 0 := by
  have h1 := nd_town.mp q
  rw [h.2.2.1.1] at h1
  rw [f_X7_noTown, (cnt_in h.2.2.2.2.2.2.2.2.1.1 (by decide)).mpr h1, if_neg (by decide)]
theorem tw_1 {S T : qw_St} (h : RA S T) {a : Int32} (q : ¬ ok_X6_needTown S a = true) : f_X7_noTown T a = 1 := by
  have e : f_X7_in a 0 (T 143 26 - 1) = 0 := (in_01 _ _ _).resolve_right (fun k => q (nd_town.mpr (by
    rw [h.2.2.1.1]; exact (cnt_in h.2.2.2.2.2.2.2.2.1.1 (by decide)).mp k)))
  rw [f_X7_noTown, e, if_pos rfl]
theorem RA.towS {S T : qw_St} (h : RA S T) : qz (S 0 7) 8 := by rw [h.2.2.1.1]; exact h.2.2.2.2.2.2.2.2.1.1
theorem RA.spoil {S T : qw_St} (h : RA S T) (j : Nat) (v : Int32) : RA (up2 S 15 j v) (up2 T 170 j v) := by
  obtain ⟨r1, r2, r3, r4, ⟨x1, x2, x3, x4, x5, x6, x7, x8⟩, i1, i2, i3, i4, i5, i6, i7, i8⟩ := h
  refine ⟨r1, r2, r3.cg rfl (fun k j h1 h2 => up2_ne _ _ (Or.inl (by omega))) rfl rfl (fun k h1 h2 => up2_c _ _ _ _ (by omega)), r4.cg i3.1 rfl (fun k j h1 h2 => up2_ne _ _ (Or.inl (by omega))) rfl (fun k h1 h2 => up2_c _ _ _ _ (by omega)), ⟨x1, x2, ?_, x4, x5, x6, x7, x8.trans (congrArg nI (sc_cong (T := T) (T' := up2 T 170 j v) (fun j => rfl) (T 143 6).toNatClampNeg).symm)⟩, i1, i2, i3, i4, i5, i6, i7, i8⟩
  show upd (S 15) j v = upd (T 170) j v
  rw [x3]
theorem op_spoil {S T : qw_St} (h : RA S T) (a1 a2 : Int32) : agr tbG (f_X6_spoil a1 a2) (g_X7_spoil T a1 a2 143 0) 0 ∧ RA (g_X6_spoil S a1 a2) (g_X7_spoil T a1 a2) := by
  have h0 := h.thr 0
  unfold f_X6_spoil g_X6_spoil g_X7_spoil
  by_cases n1 : ok_X6_needThing a1 = true
  · by_cases n2 : ok_X6_needWithin a2 0 100 = true
    · simp only [n1, n2, nt_0 n1, nw_in.mp n2, if_true, if_false, o10, thr0]
      exact ⟨agr_ok rfl, h0.spoil _ _⟩
    · simp only [n1, n2, nt_0 n1, nw_in0 n2, if_true, if_false, o10, thr0, thr1]
      exact ⟨agr_er (k := 2) rfl (by decide), h0.thr 2⟩
  · simp only [n1, nt_1 n1, if_true, if_false, o10, thr0, thr1]
    exact ⟨agr_er (k := 1) rfl (by decide), h0.thr 1⟩
theorem RA.carry {S T : qw_St} (h : RA S T) (v : Int32) : RA (up2 S 0 8 v) (up2 T 143 39 v) := by
  obtain ⟨r1, r2, r3, r4, ⟨x1, x2, x3, x4, x5, x6, x7, x8⟩, i1, i2, i3, i4, i5, i6, i7, i8⟩ := h
  exact ⟨r1, r2, r3.cg rfl (fun k j h1 h2 => up2_ne _ _ (Or.inl (by omega))) rfl rfl (fun k h1 h2 => up2_c _ _ _ _ (by omega)), r4.cg i3.1 rfl (fun k j h1 h2 => up2_ne _ _ (Or.inl (by omega))) rfl (fun k h1 h2 => up2_c _ _ _ _ (by omega)), ⟨x1, rfl, x3, x4, x5, x6, x7, x8.trans (congrArg nI (sc_cong (T := T) (T' := up2 T 143 39 v) (fun j => rfl) (T 143 6).toNatClampNeg).symm)⟩, i1, i2, i3, i4, i5, i6, i7, i8⟩
theorem op_carry {S T : qw_St} (h : RA S T) (a1 : Int32) : agr tbA (f_X6_carry a1) (g_X7_carry T a1 143 0) 0 ∧ RA (g_X6_carry S a1) (g_X7_carry T a1) := by
  have h0 := h.thr 0
  unfold f_X6_carry g_X6_carry g_X7_carry
  by_cases n1 : ok_X6_needWithin a1 0 99 = true
  · simp only [n1, nw_in.mp n1, if_true, if_false, o10, thr0]
    exact ⟨agr_ok rfl, h0.carry _⟩
  · simp only [n1, nw_in0 n1, if_true, if_false, o10, thr0, thr1]
    exact ⟨agr_er (k := 1) rfl (by decide), h0.thr 1⟩
theorem op_days {S T : qw_St} (h : RA S T) (a1 : Int32) : agr tbA (f_X6_days S a1) (g_X7_days T a1 143 0) (f_X7_days T a1) ∧ RA (g_X6_days S a1) (g_X7_days T a1) := by
  have h0 := h.thr 0
  unfold f_X6_days g_X6_days g_X7_days f_X7_days
  by_cases n1 : ok_X6_needWithin a1 0 100 = true
  · simp only [n1, nw_in.mp n1, if_true, if_false, o10, thr0]
    obtain ⟨d, hd, ed⟩ := h.2.2.2.2.2.2.2.2.2.2.1
    obtain ⟨k, hk, ek⟩ := nd_within_qz (N := 100) rfl (by decide) n1
    have e9 : S 0 9 = T 143 1 := h.2.2.2.2.1.1
    have e : (if (5000 : Int32) < S 0 9 + a1 then (5000 : Int32) else S 0 9 + a1) = (if T 143 1 + a1 < (5000 : Int32) then T 143 1 + a1 else (5000 : Int32)) := by
      rw [e9, ed, ek, nI_add, show (5000 : Int32) = nI 5000 from rfl]
      rcases Nat.lt_trichotomy (d + k) 5000 with q | q | q
      · rw [if_neg (nI_nlt (by omega) (by omega)), if_pos (nI_lt q (by omega))]
      · rw [q, if_neg (nI_nlt (by omega) (by omega))]
      · rw [if_pos (nI_lt q (by omega)), if_neg (nI_nlt (by omega) (by omega))]
    have hq : qz (if T 143 1 + a1 < (5000 : Int32) then T 143 1 + a1 else (5000 : Int32)) 5000 := by
      split
      · next c =>
        rw [ed, ek, nI_add] at c ⊢
        exact ⟨d + k, Nat.le_of_lt (qi_lt' rfl (by omega) (m := 5000) rfl c), rfl⟩
      · exact ⟨5000, by omega, rfl⟩
    rw [e]
    exact ⟨agr_ok rfl, h0.day hq⟩
  · simp only [n1, nw_in0 n1, if_true, if_false, o10, thr0, thr1]
    exact ⟨agr_er (k := 1) rfl (by decide), h0.thr 1⟩
theorem op_force {S T : qw_St} (h : RA S T) (a1 a2 : Int32) : agr tbI (f_X6_force S a1 a2) (g_X7_force T a1 a2 143 0) (f_X7_force T a1 a2) ∧ RA S (g_X7_force T a1 a2) := by
  have h0 := h.thr 0
  unfold f_X6_force g_X7_force f_X7_force
  by_cases n1 : ok_X6_needTown S a1 = true
  · simp only [n1, tw_0 h0 n1, if_true, if_false, o10, thr0]
    exact ⟨agr_ok (force_eq h0.2.1 h0.2.2.1 h0.2.2.2.2.2.2.1 (nd_town_in h.towS n1) a2), h0⟩
  · simp only [n1, tw_1 h0 n1, if_true, if_false, o10, thr0, thr1]
    exact ⟨agr_er (k := 1) rfl (by decide), h0.thr 1⟩
theorem op_cap {S T : qw_St} (h : RA S T) (a1 a2 a3 a4 : Int32) : agr tbI (f_X6_cap S a1 a2 a3 a4) (g_X7_cap T a1 a2 a3 a4 143 0) (f_X7_cap T a1 a2 a3 a4) ∧ RA (g_X6_cap S a1 a2 a3 a4) (g_X7_cap T a1 a2 a3 a4) := by
  have h0 := h.thr 0
  unfold f_X6_cap g_X6_cap g_X7_cap f_X7_cap
  by_cases n1 : ok_X6_needTown S a1 = true
  · by_cases n2 : ok_X6_needThing a2 = true
    · simp only [n1, n2, tw_0 h0 n1, nt_0 n2, if_true, if_false, o10, thr0]
      exact ⟨agr_ok (h0.cap (nd_town_in h.towS n1) (nd_thing_in n2) a3 a4).1, h0.left (fun k j q => fr_X6_highest _ _ _ _ _ _ q)⟩
    · simp only [n1, n2, tw_0 h0 n1, nt_1 n2, if_true, if_false, o10, thr0, thr1]
      exact ⟨agr_er (k := 1) rfl (by decide), h0.thr 1⟩
  · simp only [n1, tw_1 h0 n1, if_true, if_false, o10, thr0, thr1]
    exact ⟨agr_er (k := 1) rfl (by decide), h0.thr 1⟩
theorem op_judge {S T : qw_St} (h : RA S T) (a1 a2 a3 a4 a5 : Int32) : agr tbG (f_X6_judge S a1 a2 a3 a4 a5) (g_X7_judge T a1 a2 a3 a4 a5 143 0) (f_X7_judge T a1 a2 a3 a4 a5) ∧ RA (g_X6_judge S a1 a2 a3 a4 a5) (g_X7_judge T a1 a2 a3 a4 a5) := by
  have h0 := h.thr 0
  unfold f_X6_judge g_X6_judge g_X7_judge f_X7_judge
  by_cases n1 : ok_X6_needTown S a1 = true
  · by_cases n2 : ok_X6_needThing a2 = true
    · by_cases n3 : 0 ≤ a3
      · simp only [n1, n2, n3, tw_0 h0 n1, nt_0 n2, if_true, if_false, o10, thr0, ite_self]
        obtain ⟨c1, c2⟩ := h0.cap (nd_town_in h.towS n1) (nd_thing_in n2) a4 a5
        refine ⟨?_, h0.left (fun k j q => fr_X6_highest _ _ _ _ _ _ q)⟩
        rw [← c1]
        have hq := qz_nn c2 (by decide)
        by_cases hc : f_X6_highest S a1 a2 a4 a5 = -1
        · rw [if_pos hc, if_pos (Int32.not_le.mp (hq.mp hc))]
          exact agr_ok rfl
        · rw [if_neg hc, if_neg (fun q => hc (hq.mpr (Int32.not_le.mpr q)))]
          split
          · exact agr_ok rfl
          · exact agr_ok rfl
      · simp only [n1, n2, n3, tw_0 h0 n1, nt_0 n2, if_true, if_false, o10, thr0, thr1]
        exact ⟨agr_er (k := 2) rfl (by decide), h0.thr 2⟩
    · simp only [n1, n2, tw_0 h0 n1, nt_1 n2, if_true, if_false, o10, thr0, thr1]
      exact ⟨agr_er (k := 1) rfl (by decide), h0.thr 1⟩
  · simp only [n1, tw_1 h0 n1, if_true, if_false, o10, thr0, thr1]
    exact ⟨agr_er (k := 1) rfl (by decide), h0.thr 1⟩
theorem op_weeks9 {a1 : Int32} {m : Nat} (hm : m ≤ 50) (em : a1 = nI m) : ∀ (n k : Nat) (S T : qw_St), RA S T → k + n = 51 → k ≤ m → RA (g_X6_weeks_9 a1 n S (nI k)) (g_X7_weeks_32 a1 n T (nI k)) ∧ f_X6_weeks_9 a1 n S (nI k) = .ok (f_X7_weeks_32 a1 n T (nI k)) ∧ g_X7_weeks_32 a1 n T (nI k) 143 0 = T 143 0 := by
  intro n
  induction n with
  | zero => intro k S T _ h1 h2; omega
  | succ n ih =>
    intro k S T h h1 h2
    have e9 : S 0 9 = T 143 1 := h.2.2.2.2.1.1
    rw [g_X6_weeks_9, f_X6_weeks_9, g_X7_weeks_32, f_X7_weeks_32, e9]
    by_cases c1 : a1 ≤ nI k
    · simp only [c1, if_true]
      exact ⟨h, trivial, trivial⟩
    · have hk : k < m := qi_ltn rfl (by omega) em (by omega) c1
      simp only [c1, if_false]
      by_cases c2 : (5000 : Int32) < T 143 1 + 7
      · simp only [c2, if_true]
        exact ⟨h, trivial, trivial⟩
      · simp only [c2, if_false]
        obtain ⟨d, hd, ed⟩ := h.2.2.2.2.2.2.2.2.2.2.1
        have hq : qz (T 143 1 + 7) 5000 := by
          rw [ed, show (7 : Int32) = nI 7 from rfl, nI_add] at c2 ⊢
          exact ⟨d + 7, Nat.not_lt.mp (fun q => c2 (nI_lt q (by omega))), rfl⟩
        obtain ⟨T', p1, p2, p3, p4⟩ := hold_eq (h.day hq)
        obtain ⟨q1, q2, q3⟩ := ih (k + 1) _ _ p1 (by omega) (by omega)
        rw [p3, p4, nI_1 k]
        refine ⟨q1, q2, q3.trans ?_⟩
        rw [p2]; rfl
theorem op_weeks {S T : qw_St} (h : RA S T) (a1 : Int32) : agr tbA (f_X6_weeks S a1) (g_X7_weeks T a1 143 0) (f_X7_weeks T a1) ∧ RA (g_X6_weeks S a1) (g_X7_weeks T a1) := by
  have h0 := h.thr 0
  unfold f_X6_weeks g_X6_weeks g_X7_weeks f_X7_weeks
  by_cases n1 : ok_X6_needWithin a1 0 50 = true
  · obtain ⟨m, hm, em⟩ := nd_within_qz (N := 50) rfl (by decide) n1
    obtain ⟨q1, q2, q3⟩ := op_weeks9 hm em 51 0 S _ h0 rfl (by omega)
    rw [nI_0] at q1 q2 q3
    simp only [n1, nw_in.mp n1, if_true, if_false, o10, thr0]
    rw [q2, q3]
    exact ⟨agr_ok rfl, q1⟩
  · simp only [n1, nw_in0 n1, if_true, if_false, o10, thr0, thr1]
    exact ⟨agr_er (k := 1) rfl (by decide), h0.thr 1⟩
