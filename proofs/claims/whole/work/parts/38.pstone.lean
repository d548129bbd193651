/-! THE PURE PART: feeding the tape, laying a stone -/
def bb (a s : Int32) : Int32 := vp_nar .byte ((a >>> (s &&& 31)).toInt8.toInt32)
def bt (five : Nat → Int32) (i : Nat) : Int32 := vp_nar .byte ((five (nI i / (4 : Int32)).toNatClampNeg >>> (((24 : Int32) - ((8 : Int32) * (nI i - nI i / (4 : Int32) * (4 : Int32)))) &&& 31)).toInt8.toInt32)
def wr (f five : Nat → Int32) (L : Nat) : Nat → Nat → Int32
  | 0 => f
  | k + 1 => upd (wr f five L k) (L + k) (bt five k)
theorem bt_eq (five : Nat → Int32) {i q : Nat} {s : Int32} (h1 : (nI i / (4 : Int32)).toNatClampNeg = q) (h2 : (24 : Int32) - ((8 : Int32) * (nI i - nI i / (4 : Int32) * (4 : Int32))) = s) : bt five i = bb (five q) s := by
  unfold bt bb; rw [h1, h2]
theorem i8_b (x : Int32) : (vp_nar .byte x.toInt8.toInt32).toInt8.toInt32 = vp_nar .byte x.toInt8.toInt32 := by rw [pk_vb, Int8.toInt8_toInt32]
theorem wr_b {f : Nat → Int32} (five : Nat → Int32) (L : Nat) (h : ∀ j, (f j).toInt8.toInt32 = f j) : ∀ n j, (wr f five L n j).toInt8.toInt32 = wr f five L n j := by
  intro n
  induction n with
  | zero => exact h
  | succ n ih =>
    intro j
    rw [wr]
    unfold upd
    split
    · exact i8_b _
    · exact ih j
theorem fd_60 {f five : Nat → Int32} {L : Nat} (hL : L + 20 ≤ 400) (a1 a2 a3 a4 a5 : Int32) : ∀ (n k : Nat) (T : qw_St), k + n = 21 → k ≤ 20 → T 143 19 = nI L → T 157 = five → T 156 = wr f five L k → g_X7_feed_60 a1 a2 a3 a4 a5 n T (nI k) 156 = wr f five L 20 ∧ g_X7_feed_60 a1 a2 a3 a4 a5 n T (nI k) 143 19 = nI (L + 20) ∧ (∀ c j, c ≠ 156 → (c ≠ 143 ∨ j ≠ 19) → g_X7_feed_60 a1 a2 a3 a4 a5 n T (nI k) c j = T c j) ∧ f_X7_feed_60 a1 a2 a3 a4 a5 n T (nI k) = nI (L + 20) := by
  intro n
  induction n with
  | zero => intro k T h1 h2; omega
  | succ n ih =>
    intro k T h1 h2 e19 e157 e156
    rw [g_X7_feed_60, f_X7_feed_60]
    by_cases c : (20 : Int32) ≤ nI k
    · have : 20 ≤ k := qi_ge rfl (by omega) (m := 20) rfl c
      have hk : k = 20 := by omega
      subst hk
      simp only [if_pos c]
      refine ⟨e156, ?_, fun c j h3 h4 => up2_ne _ _ h4, ?_⟩
      · rw [up2_same, e19, show (20 : Int32) = nI 20 from rfl, nI_add]
      · rw [e19, show (20 : Int32) = nI 20 from rfl, nI_add]
    · have hk : k < 20 := qi_lt rfl (by omega) (m := 20) rfl c
      simp only [if_neg c]
      rw [nI_1 k, e19, nI_add, nI_clamp (by omega : L + k < 2 ^ 31), e157]
      obtain ⟨q1, q2, q3, q4⟩ := ih (k + 1) (up2 T 156 (L + k) (vp_nar .byte ((five (nI k / (4 : Int32)).toNatClampNeg >>> (((24 : Int32) - ((8 : Int32) * (nI k - nI k / (4 : Int32) * (4 : Int32)))) &&& 31)).toInt8.toInt32))) (by omega) (by omega) e19 e157 (by
        show upd (T 156) _ _ = _
        rw [e156]; rfl)
      exact ⟨q1, q2, fun c j h3 h4 => (q3 c j h3 h4).trans (up2_ne _ _ (Or.inl h3)), q4⟩
theorem ap_st {S : qw_St} {L n : Nat} {a z : Int32} (hz : ¬ z < 0) (e : S 1 1 = nI L) (hL : L < 400) : g_X3_append_3 a (n + 1) S z = g_X3_append_3 a n (up2 (up2 S 2 L (bb a z)) 1 1 (nI (L + 1))) (z + (-8)) := by
  rw [g_X3_append_3, if_neg hz, e, if_neg (show ¬ (400 : Int32) ≤ nI L from nI_ge (a := L) (b := 400) hL (by omega)), nI_clamp (by omega : L < 2 ^ 31), nI_1]
  rfl
theorem ap_eq {S : qw_St} {L : Nat} (a : Int32) (e : S 1 1 = nI L) (hL : L + 4 ≤ 400) : g_X3_append S a = up2 (up2 (up2 (up2 (up2 (up2 (up2 (up2 S 2 L (bb a 24)) 1 1 (nI (L + 1))) 2 (L + 1) (bb a 16)) 1 1 (nI (L + 2))) 2 (L + 2) (bb a 8)) 1 1 (nI (L + 3))) 2 (L + 3) (bb a 0)) 1 1 (nI (L + 4)) := by
  rw [g_X3_append, ap_st (L := L) (by decide) e (by omega), ap_st (L := L + 1) (by decide) (up2_same _ _ _ _) (by omega), ap_st (L := L + 2) (by decide) (up2_same _ _ _ _) (by omega), ap_st (L := L + 3) (by decide) (up2_same _ _ _ _) (by omega), g_X3_append_3, if_pos (by decide), show (24 : Int32) + (-8) = 16 from by decide, show (16 : Int32) + (-8) = 8 from by decide, show (8 : Int32) + (-8) = 0 from by decide]
theorem ap_wr {S : qw_St} {f five : Nat → Int32} {L : Nat} (q : Nat) (hL : L + 4 * q + 4 ≤ 400) (e : S 1 1 = nI (L + 4 * q)) (e2 : S 2 = wr f five L (4 * q)) (b0 : bt five (4 * q) = bb (five q) 24) (b1 : bt five (4 * q + 1) = bb (five q) 16) (b2 : bt five (4 * q + 2) = bb (five q) 8) (b3 : bt five (4 * q + 3) = bb (five q) 0) :
    g_X3_append S (five q) 1 1 = nI (L + 4 * q + 4) ∧ g_X3_append S (five q) 2 = wr f five L (4 * q + 4) ∧ ∀ k j, k ≠ 2 → (k ≠ 1 ∨ j ≠ 1) → g_X3_append S (five q) k j = S k j := by
  rw [ap_eq (five q) e hL]
  refine ⟨up2_same _ _ _ _, ?_, fun k j h1 h2 => ?_⟩
  · show upd (upd (upd (upd (S 2) (L + 4 * q) (bb (five q) 24)) (L + 4 * q + 1) (bb (five q) 16)) (L + 4 * q + 2) (bb (five q) 8)) (L + 4 * q + 3) (bb (five q) 0) = wr f five L (4 * q + 1 + 1 + 1 + 1)
    rw [wr, wr, wr, wr, e2, b0, b1, show 4 * q + 1 + 1 = 4 * q + 2 from rfl, b2, show 4 * q + 2 + 1 = 4 * q + 3 from rfl, b3]
    rfl
  · rw [up2_ne _ _ h2, up2_ne _ _ (Or.inl h1), up2_ne _ _ h2, up2_ne _ _ (Or.inl h1), up2_ne _ _ h2, up2_ne _ _ (Or.inl h1), up2_ne _ _ h2, up2_ne _ _ (Or.inl h1)]
theorem ap_all {S : qw_St} (five : Nat → Int32) {L : Nat} (hL : L + 20 ≤ 400) (e : S 1 1 = nI L) : ∃ S' : qw_St, g_X3_append (g_X3_append (g_X3_append (g_X3_append (g_X3_append S (five 0)) (five 1)) (five 2)) (five 3)) (five 4) = S' ∧ S' 1 1 = nI (L + 20) ∧ S' 2 = wr (S 2) five L 20 ∧ ∀ k j, k ≠ 2 → (k ≠ 1 ∨ j ≠ 1) → S' k j = S k j := by
  obtain ⟨a1, a2, a3⟩ := ap_wr (S := S) (f := S 2) (five := five) (L := L) 0 (by omega) e rfl (bt_eq _ (by decide +kernel) (by decide +kernel)) (bt_eq _ (by decide +kernel) (by decide +kernel)) (bt_eq _ (by decide +kernel) (by decide +kernel)) (bt_eq _ (by decide +kernel) (by decide +kernel))
  obtain ⟨b1, b2, b3⟩ := ap_wr (f := S 2) (five := five) (L := L) 1 (by omega) a1 a2 (bt_eq _ (by decide +kernel) (by decide +kernel)) (bt_eq _ (by decide +kernel) (by decide +kernel)) (bt_eq _ (by decide +kernel) (by decide +kernel)) (bt_eq _ (by decide +kernel) (by decide +kernel))
  obtain ⟨c1, c2, c3⟩ := ap_wr (f := S 2) (five := five) (L := L) 2 (by omega) b1 b2 (bt_eq _ (by decide +kernel) (by decide +kernel)) (bt_eq _ (by decide +kernel) (by decide +kernel)) (bt_eq _ (by decide +kernel) (by decide +kernel)) (bt_eq _ (by decide +kernel) (by decide +kernel))
  obtain ⟨d1, d2, d3⟩ := ap_wr (f := S 2) (five := five) (L := L) 3 (by omega) c1 c2 (bt_eq _ (by decide +kernel) (by decide +kernel)) (bt_eq _ (by decide +kernel) (by decide +kernel)) (bt_eq _ (by decide +kernel) (by decide +kernel)) (bt_eq _ (by decide +kernel) (by decide +kernel))
  obtain ⟨e1, e2, e3⟩ := ap_wr (f := S 2) (five := five) (L := L) 4 (by omega) d1 d2 (bt_eq _ (by decide +kernel) (by decide +kernel)) (bt_eq _ (by decide +kernel) (by decide +kernel)) (bt_eq _ (by decide +kernel) (by decide +kernel)) (bt_eq _ (by decide +kernel) (by decide +kernel))
  exact ⟨_, rfl, e1, e2, fun k j h1 h2 => (e3 k j h1 h2).trans ((d3 k j h1 h2).trans ((c3 k j h1 h2).trans ((b3 k j h1 h2).trans (a3 k j h1 h2))))⟩
theorem op_feed {S T : qw_St} (h : RA S T) (a1 a2 a3 a4 a5 : Int32) : f_X6_feed S a1 a2 a3 a4 a5 = f_X7_feed T a1 a2 a3 a4 a5 ∧ RA (g_X6_feed S a1 a2 a3 a4 a5) (g_X7_feed T a1 a2 a3 a4 a5) := by
  have h0 := h.thr 0
  obtain ⟨L, hL, eL⟩ := h.2.2.2.2.2.2.2.2.2.2.2.1
  have e11 : S 1 1 = T 143 19 := h.2.2.2.2.1.2.2.2.1
  have e2 : S 2 = T 156 := h.2.2.2.2.1.2.2.2.2.1
  unfold f_X6_feed g_X6_feed f_X7_feed g_X7_feed
  rw [e11, eL]
  by_cases c : nI L + (20 : Int32) ≤ (400 : Int32)
  · have hL2 : L + 20 ≤ 400 := by
      rw [show (20 : Int32) = nI 20 from rfl, nI_add] at c
      exact (nI_leI (a := L + 20) (b := 400) (by omega) (by omega)).mp c
    simp only [if_pos c]
    have k0 : (0 : Int32).toNatClampNeg = 0 := by decide
    have k1 : (1 : Int32).toNatClampNeg = 1 := by decide
    have k2 : (2 : Int32).toNatClampNeg = 2 := by decide
    have k3 : (3 : Int32).toNatClampNeg = 3 := by decide
    have k4 : (4 : Int32).toNatClampNeg = 4 := by decide
    rw [k0, k1, k2, k3, k4]
    generalize hT0 : up2 (up2 (up2 (up2 (up2 (up2 T 143 0 0) 157 0 a1) 157 1 a2) 157 2 a3) 157 3 a4) 157 4 a5 = T0
    have f0 : T0 157 0 = a1 := by rw [← hT0]; rfl
    have f1 : T0 157 1 = a2 := by rw [← hT0]; rfl
    have f2 : T0 157 2 = a3 := by rw [← hT0]; rfl
    have f3 : T0 157 3 = a4 := by rw [← hT0]; rfl
    have f4 : T0 157 4 = a5 := by rw [← hT0]; rfl
    have f19 : T0 143 19 = nI L := by rw [← hT0]; exact eL
    have f156 : T0 156 = T 156 := by rw [← hT0]; rfl
    have fT : ∀ k j, k ≠ 157 → (k ≠ 143 ∨ j ≠ 0) → T0 k j = T k j := fun k j h1 h2 => by
      rw [← hT0, up2_ne _ _ (Or.inl h1), up2_ne _ _ (Or.inl h1), up2_ne _ _ (Or.inl h1), up2_ne _ _ (Or.inl h1), up2_ne _ _ (Or.inl h1), up2_ne _ _ h2]
    obtain ⟨q1, q2, q3, q4⟩ := fd_60 (f := T 156) (five := T0 157) hL2 a1 a2 a3 a4 a5 21 0 T0 rfl (by omega) f19 rfl f156
    rw [nI_0] at q1 q2 q3 q4
    obtain ⟨S', p0, p1, p2, p3⟩ := ap_all (S := S) (T0 157) hL2 (e11.trans eL)
    rw [f0, f1, f2, f3, f4] at p0
    rw [p0, q4, p1]
    refine ⟨rfl, h.tape (fun k j h1 h2 h3 => p3 k j h2 (h3.imp id (fun q => q.1))) (fun k j h1 h2 h3 h4 => (q3 k j h2 (h4.imp id (fun q => q.2))).trans (fT k j h3 (h4.imp id (fun q => q.1)))) (by rw [p1, q2]) (by rw [p2, q1, e2]) (by rw [q2]; exact ⟨L + 20, hL2, rfl⟩) (by rw [q1]; exact wr_b _ _ (by have := h.2.2.2.2.2.2.2.2.2.2.2.2.2.2; exact this) 20)⟩
  · simp only [if_neg c]
    exact ⟨trivial, h0⟩
theorem ly_eq {S : qw_St} {N : Nat} (hN : N < 60) (e : S 3 6 = nI N) (a1 d a2 a3 a4 a5 : Int32) : g_X2_lay S a1 d a2 a3 a4 a5 = up2 (up2 (up2 (up2 (up2 (up2 (up2 (up2 S 4 N a1) 6 N d) 7 N (-1)) 5 (4 * N) a2) 5 (4 * N + 1) a3) 5 (4 * N + 2) a4) 5 (4 * N + 3) a5) 3 6 (nI (N + 1)) := by
  have i0 : (nI N * (4 : Int32)).toNatClampNeg = 4 * N := by rw [show (4 : Int32) = nI 4 from rfl, pk_mul, nI_clamp (by omega)]; omega
  have i1 : (nI N * (4 : Int32) + 1).toNatClampNeg = 4 * N + 1 := by rw [show (1 : Int32) = nI 1 from rfl, show (4 : Int32) = nI 4 from rfl, pk_mul, nI_add, nI_clamp (by omega)]; omega
  have i2 : (nI N * (4 : Int32) + 2).toNatClampNeg = 4 * N + 2 := by rw [show (2 : Int32) = nI 2 from rfl, show (4 : Int32) = nI 4 from rfl, pk_mul, nI_add, nI_clamp (by omega)]; omega
  have i3 : (nI N * (4 : Int32) + 3).toNatClampNeg = 4 * N + 3 := by rw [show (3 : Int32) = nI 3 from rfl, show (4 : Int32) = nI 4 from rfl, pk_mul, nI_add, nI_clamp (by omega)]; omega
  rw [g_X2_lay, if_pos (by rw [e]; exact nI_lt (a := N) (b := 60) hN (by omega)), e, i0, i1, i2, i3, nI_clamp (by omega : N < 2 ^ 31), nI_1]
theorem lyf_eq {S : qw_St} {N : Nat} (hN : N < 60) (e : S 3 6 = nI N) (a1 d a2 a3 a4 a5 : Int32) : f_X2_lay S a1 d a2 a3 a4 a5 = nI N := by
  rw [f_X2_lay, if_pos (by rw [e]; exact nI_lt (a := N) (b := 60) hN (by omega)), e]
theorem st_eq {S : qw_St} {N : Nat} (hN : N < 60) (e : S 3 6 = nI N) (a1 a2 a3 a4 a5 d : Int32) : ∃ S' : qw_St, g_X2_lay S a1 d a2 a3 a4 a5 = S' ∧ S' 3 6 = nI (N + 1) ∧ S' 4 = upd (S 4) N a1 ∧ S' 6 = upd (S 6) N d ∧ S' 7 = upd (S 7) N (-1) ∧ S' 5 = upd (upd (upd (upd (S 5) (4 * N) a2) (4 * N + 1) a3) (4 * N + 2) a4) (4 * N + 3) a5 ∧ (∀ k j, k ≠ 4 → k ≠ 5 → k ≠ 6 → k ≠ 7 → (k ≠ 3 ∨ j ≠ 6) → S' k j = S k j) := by
  refine ⟨_, ly_eq hN e a1 d a2 a3 a4 a5, up2_same _ _ _ _, rfl, rfl, rfl, rfl, ?_⟩
  intro k j h4 h5 h6 h7 h3
  rw [up2_ne _ _ h3, up2_ne _ _ (Or.inl h5), up2_ne _ _ (Or.inl h5), up2_ne _ _ (Or.inl h5), up2_ne _ _ (Or.inl h5), up2_ne _ _ (Or.inl h7), up2_ne _ _ (Or.inl h6), up2_ne _ _ (Or.inl h4)]
theorem fig_of {a : Int32} (h : ok_X6_needWithin a (-1) 9 = true) : a < 0 ∨ vp_in a 10 := by
  have h1 := nd_within.mp h
  rw [Int32.lt_iff_toInt_lt, Int32.le_iff_toInt_le] at h1
  have : (9 : Int32).toInt = 9 := rfl
  have z : (0 : Int32).toInt = 0 := rfl
  by_cases q : a < 0
  · exact Or.inl q
  · rw [Int32.lt_iff_toInt_lt] at q
    exact Or.inr (vp_in_iff.mpr ⟨by omega, by omega⟩)
theorem RA.stone {S T S' : qw_St} (h : RA S T) {N : Nat} (hN : N < 60) (e : T 143 6 = nI N) {a1 a2 a3 a4 a5 : Int32} (f2 : a2 < 0 ∨ vp_in a2 10) (f3 : a3 < 0 ∨ vp_in a3 10) (f4 : a4 < 0 ∨ vp_in a4 10) (f5 : a5 < 0 ∨ vp_in a5 10)
    (p1 : S' 3 6 = nI (N + 1)) (p4 : S' 4 = upd (S 4) N a1) (p6 : S' 6 = upd (S 6) N (S 0 9)) (p7 : S' 7 = upd (S 7) N (-1)) (p5 : S' 5 = upd (upd (upd (upd (S 5) (4 * N) a2) (4 * N + 1) a3) (4 * N + 2) a4) (4 * N + 3) a5) (pf : ∀ k j, k ≠ 4 → k ≠ 5 → k ≠ 6 → k ≠ 7 → (k ≠ 3 ∨ j ≠ 6) → S' k j = S k j) :
    RA S' (up2 (up2 (up2 (up2 (up2 (up2 (up2 (up2 T 144 N a1) 145 (4 * N) a2) 145 (4 * N + 1) a3) 145 (4 * N + 2) a4) 145 (4 * N + 3) a5) 146 N (T 143 1)) 147 N (-1)) 143 6 (T 143 6 + 1)) := by
  have hc : (T 143 6).toNatClampNeg = N := by rw [e]; exact nI_clamp (by omega)
  have gf : ∀ k, k ≠ 4 → k ≠ 5 → k ≠ 6 → k ≠ 7 → k ≠ 3 → S' k = S k := fun k h1 h2 h3 h4 h5 => funext fun j => pf k j h1 h2 h3 h4 (Or.inl h5)
  obtain ⟨⟨s1, s2, s3, s4, s5, s6⟩, ⟨n1, n2, n3⟩, r3, r4, ⟨x1, x2, x3, x4, x5, x6, x7, x8⟩, i1, i2, i3, i4, i5, i6, i7, i8⟩ := h
  generalize hT' : up2 (up2 (up2 (up2 (up2 (up2 (up2 (up2 T 144 N a1) 145 (4 * N) a2) 145 (4 * N + 1) a3) 145 (4 * N + 2) a4) 145 (4 * N + 3) a5) 146 N (T 143 1)) 147 N (-1)) 143 6 (T 143 6 + 1) = T'
  have m6 : T' 143 6 = nI (N + 1) := by rw [← hT', up2_same, e, nI_1]
  have m144 : T' 144 = upd (T 144) N a1 := by rw [← hT']; rfl
  have m145 : T' 145 = upd (upd (upd (upd (T 145) (4 * N) a2) (4 * N + 1) a3) (4 * N + 2) a4) (4 * N + 3) a5 := by rw [← hT']; rfl
  have m146 : T' 146 = upd (T 146) N (T 143 1) := by rw [← hT']; rfl
  have m147 : T' 147 = upd (T 147) N (-1) := by rw [← hT']; rfl
  have mf : ∀ k j, k ≠ 144 → k ≠ 145 → k ≠ 146 → k ≠ 147 → (k ≠ 143 ∨ j ≠ 6) → T' k j = T k j := fun k j h4 h5 h6 h7 h3 => by
    rw [← hT', up2_ne _ _ h3, up2_ne _ _ (Or.inl h7), up2_ne _ _ (Or.inl h6), up2_ne _ _ (Or.inl h5), up2_ne _ _ (Or.inl h5), up2_ne _ _ (Or.inl h5), up2_ne _ _ (Or.inl h5), up2_ne _ _ (Or.inl h4)]
  have mff : ∀ k, 147 < k → T' k = T k := fun k hk => funext fun j => mf k j (by omega) (by omega) (by omega) (by omega) (Or.inl (by omega))
  have ms : ∀ j, j ≠ 6 → T' 143 j = T 143 j := fun j hj => mf 143 j (by decide) (by decide) (by decide) (by decide) (Or.inr hj)
  have hcc : (T' 143 6).toNatClampNeg = N + 1 := by rw [m6]; exact nI_clamp (by omega)
  have hsc : sc_n T' (N + 1) = sc_n T N := by
    have q : ∀ k, k ≤ N → sc_n T' k = sc_n T k := by
      intro k
      induction k with
      | zero => intro _; rfl
      | succ k ih => intro hk; rw [sc_n, sc_n, ih (by omega), show T' 147 k = T 147 k from by rw [m147]; unfold upd; exact if_neg (by omega)]
    rw [sc_n, q N (Nat.le_refl _), show T' 147 N = -1 from by rw [m147]; unfold upd; exact if_pos rfl, if_neg (by decide), Nat.add_zero]
  refine ⟨⟨p1.trans m6.symm, by rw [p4, m144, s2], by rw [p5, m145, s3], by rw [p6, m146, s4, x1], by rw [p7, m147, s5], by rw [gf 8 (by decide) (by decide) (by decide) (by decide) (by decide), mff 148 (by decide)]; exact s6⟩, ⟨?_, ?_, ?_⟩, r3.cg (pf _ _ (by decide) (by decide) (by decide) (by decide) (Or.inl (by decide))) (fun k j h1 h2 => pf k j (by omega) (by omega) (by omega) (by omega) (Or.inl (by omega))) (ms _ (by decide)) (mff _ (by decide)) (fun k h1 h2 => mff k (by omega)), r4.cg i3.1 (pf _ _ (by decide) (by decide) (by decide) (by decide) (Or.inl (by decide))) (fun k j h1 h2 => pf k j (by omega) (by omega) (by omega) (by omega) (Or.inl (by omega))) (ms _ (by decide)) (fun k h1 h2 => mff k (by omega)), ⟨?_, ?_, ?_, ?_, ?_, ?_, ?_, ?_⟩, ⟨?_, ?_, ?_⟩, ?_, ?_, ?_, ?_, ?_, ?_, ?_⟩
  · rw [pf 11 2 (by decide) (by decide) (by decide) (by decide) (Or.inl (by decide)), ms 17 (by decide)]; exact n1
  · rw [gf 12 (by decide) (by decide) (by decide) (by decide) (by decide), mff 155 (by decide)]; exact n2
  · rw [gf 13 (by decide) (by decide) (by decide) (by decide) (by decide), mff 154 (by decide)]; exact n3
  · rw [pf 0 9 (by decide) (by decide) (by decide) (by decide) (Or.inl (by decide)), ms 1 (by decide)]; exact x1
  · rw [pf 0 8 (by decide) (by decide) (by decide) (by decide) (Or.inl (by decide)), ms 39 (by decide)]; exact x2
  · rw [gf 15 (by decide) (by decide) (by decide) (by decide) (by decide), mff 170 (by decide)]; exact x3
  · rw [pf 1 1 (by decide) (by decide) (by decide) (by decide) (Or.inl (by decide)), ms 19 (by decide)]; exact x4
  · rw [gf 2 (by decide) (by decide) (by decide) (by decide) (by decide), mff 156 (by decide)]; exact x5
  · rw [pf 0 10 (by decide) (by decide) (by decide) (by decide) (Or.inl (by decide)), ms 23 (by decide)]; exact x6
  · rw [pf 3 8 (by decide) (by decide) (by decide) (by decide) (Or.inr (by decide)), ms 7 (by decide)]; exact x7
  · rw [pf 3 7 (by decide) (by decide) (by decide) (by decide) (Or.inr (by decide)), hcc, hsc, x8, hc]
  · rw [m6]; exact ⟨N + 1, by omega, rfl⟩
  · intro j hj
    rw [m145]
    unfold upd
    by_cases q3 : j = 4 * N + 3
    · rw [if_pos q3]; exact f5
    · by_cases q2 : j = 4 * N + 2
      · rw [if_neg q3, if_pos q2]; exact f4
      · by_cases q1 : j = 4 * N + 1
        · rw [if_neg q3, if_neg q2, if_pos q1]; exact f3
        · by_cases q0 : j = 4 * N
          · rw [if_neg q3, if_neg q2, if_neg q1, if_pos q0]; exact f2
          · rw [if_neg q3, if_neg q2, if_neg q1, if_neg q0]; exact i1.2.1 j hj
  · intro j
    rw [m147]
    unfold upd
    by_cases q : j = N
    · rw [if_pos q]; exact Or.inl rfl
    · rw [if_neg q]; exact i1.2.2 j
  · rw [NewI, ms 17 (by decide), ms 14 (by decide), mff 154 (by decide)]; exact i2
  · rw [DecI, ms 14 (by decide), mff 149 (by decide), mff 150 (by decide), mff 151 (by decide), mff 152 (by decide)]; exact i3
  · rw [TowI, ms 26 (by decide), mff 158 (by decide), mff 160 (by decide)]; exact i4
  · rw [StkI, ms 26 (by decide), mff 163 (by decide), mff 164 (by decide)]; exact i5
  · rw [ms 1 (by decide)]; exact i6
  · rw [ms 19 (by decide)]; exact i7
  · rw [UndI, ms 17 (by decide), ms 14 (by decide), mff 154 (by decide), mff 156 (by decide)]; exact i8
theorem op_stone {S T : qw_St} (h : RA S T) (a1 a2 a3 a4 a5 : Int32) : agr tbS (f_X6_stone S a1 a2 a3 a4 a5) (g_X7_stone T a1 a2 a3 a4 a5 143 0) (f_X7_stone T a1 a2 a3 a4 a5) ∧ RA (g_X6_stone S a1 a2 a3 a4 a5) (g_X7_stone T a1 a2 a3 a4 a5) := by
  have h0 := h.thr 0
  have e6 : S 3 6 = T 143 6 := h.1.1
  have hz := h.2.2.2.2.2.1.1
  unfold f_X6_stone g_X6_stone g_X7_stone f_X7_stone
  by_cases n1 : ok_X6_needLine a1 = true
  · by_cases n2 : ok_X6_needWithin a2 (-1) 9 = true
    · by_cases n3 : ok_X6_needWithin a3 (-1) 9 = true
      · by_cases n4 : ok_X6_needWithin a4 (-1) 9 = true
        · by_cases n5 : ok_X6_needWithin a5 (-1) 9 = true
          · by_cases c : T 143 6 = 60
            · have c2 : ¬ T 143 6 < 60 := fun q => (qz_lt hz (by decide) rfl).mp q c
              rw [e6]
              simp only [n1, n2, n3, n4, n5, nl_0 n1, nw_in.mp n2, nw_in.mp n3, nw_in.mp n4, nw_in.mp n5, if_pos c, if_neg c2, if_true, if_false, o10, thr0, thr1]
              exact ⟨agr_er (k := 3) rfl (by decide), h0.thr 3⟩
            · obtain ⟨N, hN, eN⟩ := qz_up hz (by decide) c
              have c2 : T 143 6 < 60 := (qz_lt hz (by decide) rfl).mpr c
              rw [e6]
              simp only [n1, n2, n3, n4, n5, nl_0 n1, nw_in.mp n2, nw_in.mp n3, nw_in.mp n4, nw_in.mp n5, if_neg c, if_pos c2, if_true, if_false, o10, thr0]
              have j0 : ((4 : Int32) * nI N).toNatClampNeg = 4 * N := by rw [show (4 : Int32) = nI 4 from rfl, pk_mul, nI_clamp (by omega)]
              have j1 : ((4 : Int32) * nI N + 1).toNatClampNeg = 4 * N + 1 := by rw [show (4 : Int32) = nI 4 from rfl, show (1 : Int32) = nI 1 from rfl, pk_mul, nI_add, nI_clamp (by omega)]
              have j2 : ((4 : Int32) * nI N + 2).toNatClampNeg = 4 * N + 2 := by rw [show (4 : Int32) = nI 4 from rfl, show (2 : Int32) = nI 2 from rfl, pk_mul, nI_add, nI_clamp (by omega)]
              have j3 : ((4 : Int32) * nI N + 3).toNatClampNeg = 4 * N + 3 := by rw [show (4 : Int32) = nI 4 from rfl, show (3 : Int32) = nI 3 from rfl, pk_mul, nI_add, nI_clamp (by omega)]
              obtain ⟨S', q0, q1, q4, q6, q7, q5, qf⟩ := st_eq hN (e6.trans eN) a1 a2 a3 a4 a5 (S 0 9)
              have hR := h0.stone hN (show up2 T 143 0 0 143 6 = nI N from eN) (a1 := a1) (fig_of n2) (fig_of n3) (fig_of n4) (fig_of n5) q1 q4 q6 q7 q5 qf
              have hc : (T 143 6).toNatClampNeg = N := by rw [eN]; exact nI_clamp (by omega)
              rw [hc]
              rw [eN, q0, lyf_eq hN (e6.trans eN) a1 (S 0 9) a2 a3 a4 a5, j0, j1, j2, j3]
              refine ⟨agr_ok (by rw [nI_1, nI_pred]), ?_⟩
              rw [show (up2 T 143 0 0) 143 6 = nI N from eN] at hR
              exact hR
          · simp only [n1, n2, n3, n4, n5, nl_0 n1, nw_in.mp n2, nw_in.mp n3, nw_in.mp n4, nw_in0 n5, if_true, if_false, o10, thr0, thr1]
            exact ⟨agr_er (k := 2) rfl (by decide), h0.thr 2⟩
        · simp only [n1, n2, n3, n4, nl_0 n1, nw_in.mp n2, nw_in.mp n3, nw_in0 n4, if_true, if_false, o10, thr0, thr1]
          exact ⟨agr_er (k := 2) rfl (by decide), h0.thr 2⟩
      · simp only [n1, n2, n3, nl_0 n1, nw_in.mp n2, nw_in0 n3, if_true, if_false, o10, thr0, thr1]
        exact ⟨agr_er (k := 2) rfl (by decide), h0.thr 2⟩
    · simp only [n1, n2, nl_0 n1, nw_in0 n2, if_true, if_false, o10, thr0, thr1]
      exact ⟨agr_er (k := 2) rfl (by decide), h0.thr 2⟩
  · simp only [n1, nl_1 n1, if_true, if_false, o10, thr0, thr1]
    exact ⟨agr_er (k := 1) rfl (by decide), h0.thr 1⟩
