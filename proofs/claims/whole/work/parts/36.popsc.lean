/-! THE PURE PART: call by call, the third -/
theorem qz_lt {x M : Int32} {N : Nat} (h : qz x N) (hN : N < 2 ^ 31) (hM : M = nI N) : (x < M) ↔ ¬ x = M := by
  obtain ⟨k, hk, e⟩ := h
  rw [e, hM, nI_ltI (by omega) hN, nI_eq (by omega) hN]; omega
theorem qz_up {x : Int32} {N : Nat} (h : qz x N) (hN : N < 2 ^ 31) (hM : ¬ x = nI N) : ∃ k : Nat, k < N ∧ x = nI k := by
  obtain ⟨k, hk, e⟩ := h
  exact ⟨k, Nat.lt_of_le_of_ne hk (fun q => hM (by rw [e, q])), e⟩
theorem RA.town {S T : qw_St} (h : RA S T) {n : Nat} (hn : n < 8) (e : T 143 26 = nI n) {a : Int32} (ha : qz a 2000) : RA (up2 (up2 S (79 + 8 * n) 1 a) 0 7 (S 0 7 + 1)) (up2 (up2 T 158 n a) 143 26 (T 143 26 + 1)) := by
  have g0 : ∀ k j, k ≠ 0 → k ≠ 79 + 8 * n → up2 (up2 S (79 + 8 * n) 1 a) 0 7 (S 0 7 + 1) k j = S k j := fun k j h1 h2 => (up2_ne _ _ (Or.inl h1)).trans (up2_ne _ _ (Or.inl h2))
  have g1 : ∀ j, j ≠ 7 → up2 (up2 S (79 + 8 * n) 1 a) 0 7 (S 0 7 + 1) 0 j = S 0 j := fun j h1 => (up2_ne _ _ (Or.inr h1)).trans (up2_ne _ _ (Or.inl (by omega)))
  have gf : ∀ k, k ≠ 0 → k ≠ 79 + 8 * n → up2 (up2 S (79 + 8 * n) 1 a) 0 7 (S 0 7 + 1) k = S k := fun k h1 h2 => funext fun j => g0 k j h1 h2
  have hc : (T 143 26).toNatClampNeg = n := by rw [e]; exact nI_clamp (by omega)
  obtain ⟨⟨s1, s2, s3, s4, s5, s6⟩, ⟨n1, n2, n3⟩, ⟨t1, t2, t3⟩, r4, ⟨x1, x2, x3, x4, x5, x6, x7, x8⟩, i1, i2, i3, i4, i5, i6, i7, i8⟩ := h
  refine ⟨⟨(g0 _ _ (by omega) (by omega)).trans s1, (gf _ (by omega) (by omega)).trans s2, (gf _ (by omega) (by omega)).trans s3, (gf _ (by omega) (by omega)).trans s4, (gf _ (by omega) (by omega)).trans s5, (gf _ (by omega) (by omega)).trans s6⟩, ⟨(g0 _ _ (by omega) (by omega)).trans n1, (gf _ (by omega) (by omega)).trans n2, (gf _ (by omega) (by omega)).trans n3⟩, ⟨?_, fun t ht => ?_, fun t i q ht hi hq => ?_⟩, r4.cg i3.1 (g1 _ (by omega)) (fun k j h1 h2 => g0 _ _ (by omega) (by omega)) rfl (fun k h1 h2 => (up2_c _ _ _ _ (by omega)).trans (up2_c _ _ _ _ (by omega))), ⟨(g1 _ (by omega)).trans x1, (g1 _ (by omega)).trans x2, (gf _ (by omega) (by omega)).trans x3, (g0 _ _ (by omega) (by omega)).trans x4, (gf _ (by omega) (by omega)).trans x5, (g1 _ (by omega)).trans x6, (g0 _ _ (by omega) (by omega)).trans x7, (g0 _ _ (by omega) (by omega)).trans (x8.trans (congrArg nI (sc_cong (T := T) (T' := up2 (up2 T 158 n a) 143 26 (T 143 26 + 1)) (fun j => rfl) (T 143 6).toNatClampNeg).symm))⟩, i1, i2, i3, ⟨?_, fun t ht => ?_, i4.2.2⟩, fun t i h1 h2 h3 => ?_, i6, i7, i8⟩
  · rw [up2_same, up2_same, t1]
  · have q1 : up2 (up2 S (79 + 8 * n) 1 a) 0 7 (S 0 7 + 1) (79 + 8 * t) 1 = up2 S (79 + 8 * n) 1 a (79 + 8 * t) 1 := up2_ne _ _ (Or.inl (by omega))
    have q2 : up2 (up2 T 158 n a) 143 26 (T 143 26 + 1) 158 t = up2 T 158 n a 158 t := up2_ne _ _ (Or.inl (by omega))
    rw [q1, q2]
    by_cases q : t = n
    · subst q; rw [up2_same, up2_same]
    · rw [up2_ne _ _ (Or.inl (by omega)), up2_ne _ _ (Or.inr q)]; exact t2 t ht
  · rw [g0 _ _ (by omega) (by omega), up2_ne _ _ (Or.inl (by omega)), up2_ne _ _ (Or.inl (by omega))]; exact t3 t i q ht hi hq
  · rw [up2_same, e, nI_1]; exact ⟨n + 1, by omega, rfl⟩
  · rw [up2_ne _ _ (Or.inl (by omega))]
    by_cases q : t = n
    · subst q; rw [up2_same]; exact ha
    · rw [up2_ne _ _ (Or.inr q)]; exact i4.2.1 t ht
  · rw [up2_same, e, nI_1, nI_clamp (by omega)] at h1
    exact i5 t i (by omega) h2 h3
theorem op_town {S T : qw_St} (h : RA S T) (a1 : Int32) : agr tbU (f_X6_town S a1) (g_X7_town T a1 143 0) (f_X7_town T a1) ∧ RA (g_X6_town S a1) (g_X7_town T a1) := by
  have h0 := h.thr 0
  unfold f_X6_town g_X6_town g_X7_town f_X7_town
  have e7 : S 0 7 = T 143 26 := h.2.2.1.1
  have hz := h.2.2.2.2.2.2.2.2.1.1
  by_cases n1 : ok_X6_needWithin a1 0 2000 = true
  · by_cases c : T 143 26 = 8
    · have c2 : ¬ T 143 26 < 8 := fun q => (qz_lt hz (by decide) rfl).mp q c
      rw [e7]
      simp only [n1, nw_in.mp n1, if_pos c, if_neg c2, if_true, if_false, o10, thr0, thr1]
      exact ⟨agr_er (k := 2) rfl (by decide), h0.thr 2⟩
    · obtain ⟨n, hn, en⟩ := qz_up hz (by decide) c
      have c2 : T 143 26 < 8 := (qz_lt hz (by decide) rfl).mpr c
      have hR := h0.town hn en (nd_within_qz (N := 2000) rfl (by decide) n1)
      have hc : (T 143 26).toNatClampNeg = n := by rw [en]; exact nI_clamp (by omega)
      rw [e7] at hR ⊢
      simp only [n1, nw_in.mp n1, if_neg c, if_pos c2, if_true, if_false, o10, thr0]
      rw [hc]
      exact ⟨agr_ok (by rw [en, nI_1, nI_pred]), hR⟩
  · simp only [n1, nw_in0 n1, if_true, if_false, o10, thr0, thr1]
    exact ⟨agr_er (k := 1) rfl (by decide), h0.thr 1⟩
theorem RA.goods {S T : qw_St} (h : RA S T) {t i : Nat} (ht : t < 8) (hi : i < 6) (v0 v1 v2 v3 : Int32) (hv : qz v1 9999) : RA (g_X5_arrange S t i v0 v1 v2 v3) (up2 (up2 (up2 (up2 T 159 (6 * t + i) v0) 160 (6 * t + i) v1) 161 (6 * t + i) v2) 162 (6 * t + i) v3) := by
  have g0 : ∀ k j, k ≠ 81 + 8 * t + i → g_X5_arrange S t i v0 v1 v2 v3 k j = S k j := fun k j h1 => fr_X5_arrange _ _ _ _ _ _ _ _ h1
  have gf : ∀ k, k ≠ 81 + 8 * t + i → g_X5_arrange S t i v0 v1 v2 v3 k = S k := fun k h1 => funext fun j => g0 k j h1
  obtain ⟨⟨s1, s2, s3, s4, s5, s6⟩, ⟨n1, n2, n3⟩, ⟨t1, t2, t3⟩, r4, ⟨x1, x2, x3, x4, x5, x6, x7, x8⟩, i1, i2, i3, i4, i5, i6, i7, i8⟩ := h
  have fT : ∀ k j, (k < 159 ∨ 162 < k) ∨ j ≠ 6 * t + i → up2 (up2 (up2 (up2 T 159 (6 * t + i) v0) 160 (6 * t + i) v1) 161 (6 * t + i) v2) 162 (6 * t + i) v3 k j = T k j := fun k j hk => by
    rw [up2_ne _ _ (hk.imp (fun q => by omega) id), up2_ne _ _ (hk.imp (fun q => by omega) id), up2_ne _ _ (hk.imp (fun q => by omega) id), up2_ne _ _ (hk.imp (fun q => by omega) id)]
  refine ⟨⟨(g0 _ _ (by omega)).trans s1, (gf _ (by omega)).trans s2, (gf _ (by omega)).trans s3, (gf _ (by omega)).trans s4, (gf _ (by omega)).trans s5, (gf _ (by omega)).trans s6⟩, ⟨(g0 _ _ (by omega)).trans n1, (gf _ (by omega)).trans n2, (gf _ (by omega)).trans n3⟩, ⟨(g0 _ _ (by omega)).trans t1, fun t' ht' => (g0 _ _ (by omega)).trans (t2 t' ht'), fun t' i' q ht' hi' hq => ?_⟩, r4.cg i3.1 (g0 _ _ (by omega)) (fun k j h1 h2 => g0 _ _ (by omega)) rfl (fun k h1 h2 => funext fun j => fT k j (Or.inl (by omega))), ⟨(g0 _ _ (by omega)).trans x1, (g0 _ _ (by omega)).trans x2, (gf _ (by omega)).trans x3, (g0 _ _ (by omega)).trans x4, (gf _ (by omega)).trans x5, (g0 _ _ (by omega)).trans x6, (g0 _ _ (by omega)).trans x7, (g0 _ _ (by omega)).trans (x8.trans (congrArg nI (sc_cong (fun j => fT 147 j (Or.inl (by omega))) (T 143 6).toNatClampNeg).symm))⟩, i1, i2, i3, ⟨i4.1, i4.2.1, fun j hj => ?_⟩, i5, i6, i7, i8⟩
  · by_cases e : t' = t ∧ i' = i
    · obtain ⟨rfl, rfl⟩ := e
      unfold g_X5_arrange
      revert q
      have w0 := t3 t' i' 0 ht hi (by omega)
      have w1 := t3 t' i' 1 ht hi (by omega)
      have w2 := t3 t' i' 2 ht hi (by omega)
      have w3 := t3 t' i' 3 ht hi (by omega)
      have w4 := t3 t' i' 4 ht hi (by omega)
      have w5 := t3 t' i' 5 ht hi (by omega)
      have w6 := t3 t' i' 6 ht hi (by omega)
      have w7 := t3 t' i' 7 ht hi (by omega)
      have w8 := t3 t' i' 8 ht hi (by omega)
      have w9 := t3 t' i' 9 ht hi (by omega)
      have w10 := t3 t' i' 10 ht hi (by omega)
      refine lt11 ?_ ?_ ?_ ?_ ?_ ?_ ?_ ?_ ?_ ?_ ?_ <;> simp [up2_at, w0, w1, w2, w3, w4, w5, w6, w7, w8, w9, w10]
    · rw [g0 _ _ (by omega), fT _ _ (Or.inr (by omega))]; exact t3 t' i' q ht' hi' hq
  · by_cases e : j = 6 * t + i
    · subst e; rw [up2_ne _ _ (Or.inl (by omega)), up2_ne _ _ (Or.inl (by omega)), up2_same]; exact hv
    · rw [fT _ _ (Or.inr e)]; exact i4.2.2 j hj
theorem op_goods {S T : qw_St} (h : RA S T) (a1 a2 a3 a4 a5 a6 : Int32) : agr tbG (f_X6_goods S a1 a2 a3 a4 a5 a6) (g_X7_goods T a1 a2 a3 a4 a5 a6 143 0) 0 ∧ RA (g_X6_goods S a1 a2 a3 a4 a5 a6) (g_X7_goods T a1 a2 a3 a4 a5 a6) := by
  have h0 := h.thr 0
  unfold f_X6_goods g_X6_goods g_X7_goods
  by_cases n1 : ok_X6_needTown S a1 = true
  · by_cases n2 : ok_X6_needThing a2 = true
    · simp only [n1, n2, tw_0 h0 n1, nt_0 n2, if_true, if_false, o10, thr0]
      by_cases n3 : ok_X6_needWithin a3 0 9999 = true
      · by_cases n4 : ok_X6_needWithin a4 0 9999 = true
        · by_cases n5 : ok_X6_needWithin a5 0 1000 = true
          · by_cases n6 : ok_X6_needWithin a6 0 1000 = true
            · simp only [n3, n4, n5, n6, nw_in.mp n3, nw_in.mp n4, nw_in.mp n5, nw_in.mp n6, if_true, if_false, o10, thr0]
              obtain ⟨t, ht, e1⟩ := vp_in_of (nd_town_in h.towS n1) (by omega)
              obtain ⟨i, hi, e2⟩ := vp_in_of (nd_thing_in n2) (by omega)
              have hc1 : a1.toNatClampNeg = t := by rw [e1]; exact nI_clamp (by omega)
              have hc2 : a2.toNatClampNeg = i := by rw [e2]; exact nI_clamp (by omega)
              have ex : (((6 : Int32) * a1) + a2).toNatClampNeg = 6 * t + i := by rw [e1, e2, ix6 (by omega) (by omega)]
              rw [hc1, hc2, ex]
              exact ⟨agr_ok rfl, h0.goods ht hi _ _ _ _ (nd_within_qz (N := 9999) rfl (by decide) n4)⟩
            · simp only [n3, n4, n5, n6, nw_in.mp n3, nw_in.mp n4, nw_in.mp n5, nw_in0 n6, if_true, if_false, o10, thr0, thr1]
              exact ⟨agr_er (k := 2) rfl (by decide), h0.thr 2⟩
          · simp only [n3, n4, n5, nw_in.mp n3, nw_in.mp n4, nw_in0 n5, if_true, if_false, o10, thr0, thr1]
            exact ⟨agr_er (k := 2) rfl (by decide), h0.thr 2⟩
        · simp only [n3, n4, nw_in.mp n3, nw_in0 n4, if_true, if_false, o10, thr0, thr1]
          exact ⟨agr_er (k := 2) rfl (by decide), h0.thr 2⟩
      · simp only [n3, nw_in0 n3, if_true, if_false, o10, thr0, thr1]
        exact ⟨agr_er (k := 2) rfl (by decide), h0.thr 2⟩
    · simp only [n1, n2, tw_0 h0 n1, nt_1 n2, if_true, if_false, o10, thr0, thr1]
      exact ⟨agr_er (k := 1) rfl (by decide), h0.thr 1⟩
  · simp only [n1, tw_1 h0 n1, if_true, if_false, o10, thr0, thr1]
    exact ⟨agr_er (k := 1) rfl (by decide), h0.thr 1⟩
theorem RA.len {S T : qw_St} (h : RA S T) {v : Int32} (hv : qz v 400) : RA (up2 S 1 1 v) (up2 T 143 19 v) := by
  obtain ⟨r1, r2, r3, r4, ⟨x1, x2, x3, x4, x5, x6, x7, x8⟩, i1, i2, i3, i4, i5, i6, i7, i8⟩ := h
  exact ⟨r1, r2, r3.cg rfl (fun k j h1 h2 => up2_ne _ _ (Or.inl (by omega))) rfl rfl (fun k h1 h2 => up2_c _ _ _ _ (by omega)), r4.cg i3.1 rfl (fun k j h1 h2 => up2_ne _ _ (Or.inl (by omega))) rfl (fun k h1 h2 => up2_c _ _ _ _ (by omega)), ⟨x1, x2, x3, rfl, x5, x6, x7, x8.trans (congrArg nI (sc_cong (T := T) (T' := up2 T 143 19 v) (fun j => rfl) (T 143 6).toNatClampNeg).symm)⟩, i1, i2, i3, i4, i5, i6, hv, i8⟩
theorem op_end {S T : qw_St} (h : RA S T) (a1 : Int32) : f_X6_end S a1 = f_X7_end T a1 ∧ RA (g_X6_end S a1) (g_X7_end T a1) := by
  have h0 := h.thr 0
  unfold f_X6_end g_X6_end g_X7_end f_X7_end
  have e : S 1 1 = T 143 19 := h.2.2.2.2.1.2.2.2.1
  rw [e]
  by_cases c1 : a1 < 0
  · simp only [c1, if_true]; exact ⟨trivial, h0⟩
  · by_cases c2 : a1 ≤ T 143 19
    · simp only [c1, c2, if_true, if_false]
      refine ⟨trivial, h0.len ?_⟩
      obtain ⟨L, hL, eL⟩ := h.2.2.2.2.2.2.2.2.2.2.2.1
      obtain ⟨k, hk, ek⟩ := nI_of2 (n := L) (by rw [eL]; exact nI_toInt (by omega)) c1 c2
      exact ⟨k, by omega, ek⟩
    · simp only [c1, c2, if_false]; exact ⟨trivial, h0⟩
theorem op_fault {S T : qw_St} (h : RA S T) : f_X6_fault S = f_X7_fault T ∧ RA S (g_X7_fault T) := ⟨h.2.2.2.2.1.2.2.2.2.2.1, h.thr 0⟩
theorem RA.undo {S T : qw_St} (h : RA S T) {n : Nat} (e : T 143 17 = nI n) (h1 : n + 1 ≤ 2 * (T 143 14).toNatClampNeg) : RA (g_X1_tell S (S 0 9) (-1)) (g_X7_tells T (-1)) := by
  have hE : (T 143 14).toNatClampNeg ≤ 20 := by obtain ⟨E, hE, eE⟩ := h.2.2.2.2.2.2.2.1.1; rw [eE, nI_clamp (by omega)]; exact hE
  have hc : (T 143 17).toNatClampNeg = n := by rw [e]; exact nI_clamp (by omega)
  obtain ⟨r1, ⟨n1, n2, n3⟩, r3, r4, ⟨x1, x2, x3, x4, x5, x6, x7, x8⟩, i1, i2, i3, i4, i5, i6, i7, i8⟩ := h
  unfold g_X1_tell g_X7_tells
  rw [n1, if_neg (by rw [e]; exact nI_ge (a := n) (b := 40) (by omega) (by omega)), hc]
  have g0 : ∀ k j, k ≠ 11 → k ≠ 12 → k ≠ 13 → up2 (up2 (up2 S 12 n (S 0 9)) 13 n (-1)) 11 2 (T 143 17 + 1) k j = S k j := fun k j h1 h2 h3 => (up2_ne _ _ (Or.inl h1)).trans ((up2_ne _ _ (Or.inl h3)).trans (up2_ne _ _ (Or.inl h2)))
  refine ⟨r1, ⟨rfl, ?_, ?_⟩, r3.cg rfl (fun k j h1 h2 => g0 _ _ (by omega) (by omega) (by omega)) rfl rfl (fun k h1 h2 => (up2_c _ _ _ _ (by omega)).trans ((up2_c _ _ _ _ (by omega)).trans (up2_c _ _ _ _ (by omega)))), r4.cg i3.1 rfl (fun k j h1 h2 => g0 _ _ (by omega) (by omega) (by omega)) rfl (fun k h1 h2 => (up2_c _ _ _ _ (by omega)).trans ((up2_c _ _ _ _ (by omega)).trans (up2_c _ _ _ _ (by omega)))), ⟨x1, x2, x3, x4, x5, x6, x7, x8.trans (congrArg nI (sc_cong (T := T) (T' := up2 (up2 (up2 T 154 n (-1)) 155 n (T 143 1)) 143 17 (T 143 17 + 1)) (fun j => rfl) (T 143 6).toNatClampNeg).symm)⟩, i1, ⟨?_, ?_, ?_⟩, i3, i4, i5, i6, i7, ?_, ?_, i8.2.2⟩
  · show upd (S 12) n (S 0 9) = upd (T 155) n (T 143 1)
    rw [n2, x1]
  · show upd (S 13) n (-1) = upd (T 154) n (-1)
    rw [n3]
  · rw [up2_same, e, nI_1]; exact ⟨n + 1, by omega, rfl⟩
  · intro k hk
    rw [up2_same, e, nI_1, nI_clamp (by omega)] at hk
    show upd (T 154) n (-1) k = -1 ∨ ∃ d, d < (T 143 14).toNatClampNeg ∧ upd (T 154) n (-1) k = nI d
    unfold upd
    by_cases q : k = n
    · rw [if_pos q]; exact Or.inl rfl
    · rw [if_neg q]; exact i2.2.1 k (by omega)
  · intro k hk
    show upd (T 154) n (-1) k = -1 ∨ vp_in (upd (T 154) n (-1) k) 21
    unfold upd
    by_cases q : k = n
    · rw [if_pos q]; exact Or.inl rfl
    · rw [if_neg q]; exact i2.2.2 k hk
  · rw [up2_same, e, nI_1, nI_clamp (by omega)]; exact h1
  · refine Or.inr (Or.inl ?_)
    rw [up2_same, e, nI_1, nI_clamp (by omega)]
    show upd (T 154) n (-1) (n + 1 - 1) = -1
    unfold upd
    rw [if_pos (by omega)]
theorem op_undo {S T : qw_St} (h : RA S T) : f_X6_undo S = f_X7_undo T ∧ RA (g_X6_undo S) (g_X7_undo T) := by
  have h0 := h.thr 0
  unfold f_X6_undo g_X6_undo g_X7_undo f_X7_undo f_X1_latest
  have e17 : S 11 2 = T 143 17 := h.2.1.1
  have e13 : S 13 = T 154 := h.2.1.2.2
  rw [e17, e13]
  obtain ⟨n, hn, en⟩ := h.2.2.2.2.2.2.1.1
  have hu := h.2.2.2.2.2.2.2.2.2.2.2.2.2.1
  have hc : (T 143 17).toNatClampNeg = n := by rw [en]; exact nI_clamp (by omega)
  cases n with
  | zero =>
    have c : T 143 17 = 0 := en
    have c2 : T 143 17 ≤ 0 := by rw [c]; decide
    simp only [c2, if_pos c, if_true]
    exact ⟨trivial, h0⟩
  | succ n =>
    have c : ¬ T 143 17 = 0 := by rw [en]; exact nI_ne0 (by omega) (by omega)
    have c2 : ¬ T 143 17 ≤ 0 := by rw [en]; exact nI_nle (by omega) (by omega)
    have ci : (T 143 17 - 1).toNatClampNeg = n := by rw [en, nI_pred, nI_clamp (by omega)]
    simp only [c2, if_neg c, if_false, ci]
    by_cases c3 : T 154 n = -1
    · simp only [if_pos c3]; exact ⟨trivial, h0⟩
    · simp only [if_neg c3]
      refine ⟨trivial, ?_⟩
      have hu2 : n + 1 + 1 ≤ 2 * (T 143 14).toNatClampNeg := by
        rcases hu with q | q | q
        · exact absurd q c
        · rw [hc] at q; exact absurd q c3
        · rw [hc] at q; exact q
      exact h0.undo (n := n + 1) en hu2
