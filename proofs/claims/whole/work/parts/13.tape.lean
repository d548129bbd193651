theorem qi_in3 {x y : Int32} {N : Nat} (h0 : ¬ x < 0) (h : ¬ y ≤ x) (hy : qz y N) (hN : N < 2 ^ 31) : vp_in x N := by
  obtain ⟨k, hk, e⟩ := hy
  rw [vp_in_iff]
  rw [Int32.lt_iff_toInt_lt] at h0
  rw [Int32.le_iff_toInt_le, e, nI_toInt (by omega)] at h
  have h9 : (0 : Int32).toInt = 0 := rfl
  omega
theorem qz_succ {x M : Int32} {N : Nat} (h : qz x N) (hN : N < 2 ^ 31) (hM : M.toInt = N) (h1 : ¬ M ≤ x) : qz (x + 1) N := by
  obtain ⟨k, hk, e⟩ := h
  exact ⟨k + 1, qi_lt e (by omega) hM h1, qi_add e⟩
theorem qi_sub8 {x : Int32} (h0 : -1000000 ≤ x.toInt) (h1 : x.toInt ≤ 1000000) : (x + (-8)).toInt = x.toInt - 8 := by
  rw [Int32.toInt_add, show (-8 : Int32).toInt = -8 from rfl]
  rw [Int.bmod_def]
  split <;> omega
theorem ap_pos {z : Int32} {k : Nat} (h : z.toInt = 8 * (k : Int) - 8) (c : ¬ z < 0) : 0 < k := by
  rw [Int32.lt_iff_toInt_lt] at c
  have h9 : (0 : Int32).toInt = 0 := rfl
  omega
/-- the class's tape: its length and its place -/
def TI (S : qw_St) : Prop := qz (S 1 1) 400 ∧ qz (S 1 2) 400
def g_X3_append_3 (a1 : Int32) : Nat → qw_St → Int32 → qw_St
  | 0, S, _ => S
  | n + 1, S, z2 => (if z2 < 0 then S else (if (400 : Int32) ≤ (S 1 1) then S else (g_X3_append_3 a1 n (up2 (up2 S 2 (S 1 1).toNatClampNeg (vp_nar .byte ((a1 >>> (z2 &&& 31)).toInt8.toInt32))) 1 1 ((S 1 1) + (1 : Int32))) (z2 + (-8 : Int32)))))
def g_X3_append (S : qw_St) (a1 : Int32) : qw_St := (g_X3_append_3 a1 5 S (24 : Int32))
set_option maxHeartbeats 4000000 in
set_option maxRecDepth 100000 in
theorem c_X3_append (l : Launch) (D : va_G) {r : Nat → Nat} (c : Nat → ClassId) (g : Nat → Int64) (hr : qw_inj r) (S : qw_St) (a1 : Int32) (hz : qz (S 1 1) 400) : MV l D r c g yX3_append wsX3_append ({ frames := 0, cells := 0, slots := 0, locals := 0 }) [.ref (r 1), .int a1] S (g_X3_append S a1) := by
  have hiX3 : ∀ w ∈ wsX30, w ∈ wsX3_append := by decide +kernel
  refine wx_of (cc := cX3_append) (nL := 3) (ret := none) (lvs := [(0, .ref (r 1)), (1, .int a1)]) (by decide) rfl rfl (Nat.le_of_ble_eq_true rfl) ?_
  intro p e s m below meth c0 ls hx hb hret hml hts hown hlk hK hP hS hl
  have hP : qw_P D r c g S s.heap := hP
  refine lv_bipush (v := 24) hx hb dX3_append_0 (by decide) ?_
  refine lv_istore_n (lv' := [(2, .int (24 : Int32)), (0, .ref (r 1)), (1, .int a1)]) hx hb dX3_append_2 rfl hl (by decide) rfl (fun ls hl => ?_)
  have L_3 : ∀ (n : Nat) (k : Nat) (z2 : Int32) (S1 : qw_St) (H : Heap) (locs : List Loc) (ls : Array Slot) (hk : n = k + 1 ∧ k ≤ 4) (hz2 : z2.toInt = 8 * (k : Int) - 8) (hL : qz (S1 1 1) 400) (hg_3 : g_X3_append_3 a1 n S1 z2 = (g_X3_append S a1)), qw_P D r c g S1 H → va_S (qw_A r) s.heap H locs → lv_has ls 3 [(2, .int z2), (0, .ref (r 1)), (1, .int a1)] → W p l e ({ frames := 0, cells := 0, slots := 0, locals := 0 }) s m [.ref (r 1), .int a1].toArray below meth c0 H locs 0 0 (MQ below (qw_Qv D r c g (g_X3_append S a1)) [.ref (r 1), .int a1].toArray s 0 0 (qw_A r)) (F0 m 3 ls []) := by
    intro n
    induction n with
    | zero =>
      intro k z2 S1 H locs ls hk hz2 hL hg_3 hP hS hl
      omega
    | succ n ih_3 =>
      intro k z2 S1 H locs ls hk hz2 hL hg_3 hP hS hl
      refine lv_iload_n hx hb dX3_append_3 rfl (lv_at hl 0 rfl) ?_
      refine lv_if_lt (tgt := 48) hx hb dX3_append_4 (by decide) (fun c_4 => ?_) (fun c_4 => ?_)
      · exact wx_vret hx hb hret hlk hK hP hS (by rw [← hg_3, g_X3_append_3]; rw [if_pos c_4]) dX3_append_48
      · have hk0 : 0 < k := ap_pos hz2 c_4
        refine lv_aload_n hx hb dX3_append_7 rfl (lv_at hl 1 rfl) ?_
        refine wx_get hx hb hts hiX3 hown hK hP 1 (by decide) qc_1 rfl 1 (by decide) (hts (.fieldLink RX3 15 "PriceEdict$Tape" "length" "I") (by decide +kernel)) rfl dX3_append_8 ?_
        refine lv_aload_n hx hb dX3_append_11 rfl (lv_at hl 1 rfl) ?_
        refine wx_get hx hb hts hiX3 hown hK hP 1 (by decide) qc_1 rfl 0 (by decide) (hts (.fieldLink RX3 9 "PriceEdict$Tape" "bytes" "[B") (by decide +kernel)) rfl dX3_append_12 ?_
        refine wx_len hx hb hK hP 1 rfl 2 (by decide) (qc_2 _) (v := 400) rfl dX3_append_15 ?_
        refine lv_icmp_ge (tgt := 48) hx hb dX3_append_16 (by decide) (fun c_16 => ?_) (fun c_16 => ?_)
        · exact wx_vret hx hb hret hlk hK hP hS (by rw [← hg_3, g_X3_append_3]; rw [if_neg c_4, if_pos c_16]) dX3_append_48
        · refine lv_aload_n hx hb dX3_append_19 rfl (lv_at hl 1 rfl) ?_
          refine wx_get hx hb hts hiX3 hown hK hP 1 (by decide) qc_1 rfl 0 (by decide) (hts (.fieldLink RX3 9 "PriceEdict$Tape" "bytes" "[B") (by decide +kernel)) rfl dX3_append_20 ?_
          refine lv_aload_n hx hb dX3_append_23 rfl (lv_at hl 1 rfl) ?_
          refine wx_get hx hb hts hiX3 hown hK hP 1 (by decide) qc_1 rfl 1 (by decide) (hts (.fieldLink RX3 15 "PriceEdict$Tape" "length" "I") (by decide +kernel)) rfl dX3_append_24 ?_
          refine lv_iload_n hx hb dX3_append_27 rfl (lv_at hl 2 rfl) ?_
          refine lv_iload_n hx hb dX3_append_28 rfl (lv_at hl 0 rfl) ?_
          refine lv_ishr hx hb dX3_append_29 ?_
          refine lv_i2b hx hb dX3_append_30 rfl ?_
          refine wx_bst hr hx hb hK hP hS 2 (by decide) qc_2 (qi_sz hL (by decide) rfl c_16) dX3_append_31 (fun H locs hP hS => ?_)
          refine lv_aload_n hx hb dX3_append_32 rfl (lv_at hl 1 rfl) ?_
          refine lv_dup hx hb dX3_append_33 rfl ?_
          refine wx_get hx hb hts hiX3 hown hK hP 1 (by decide) qc_1 rfl 1 (by decide) (hts (.fieldLink RX3 15 "PriceEdict$Tape" "length" "I") (by decide +kernel)) rfl dX3_append_34 ?_
          refine lv_tope (S1 1 1) ((up2_ne _ _ (Or.inl (by decide)))) ?_
          refine lv_iconst (v := 1) hx hb dX3_append_37 (by decide) ?_
          refine lv_iadd hx hb dX3_append_38 ?_
          refine wx_put hr hx hb hts hiX3 tyX3 tyX3_ok nmX3 hown hK hP hS 1 (by decide) qc_1 rfl 1 (by decide) (hts (.fieldLink RX3 15 "PriceEdict$Tape" "length" "I") (by decide +kernel)) rfl (by decide +kernel) (fun _ => rfl) (Nat.le_of_ble_eq_true rfl) dX3_append_39 (fun H locs hP hS => ?_)
          obtain ⟨x_1, ex_1⟩ : ∃ y : Int32, y = (z2 + (-8 : Int32)) := ⟨_, rfl⟩
          refine lv_iinc (v := x_1) (lv' := [(2, .int x_1), (0, .ref (r 1)), (1, .int a1)]) hx hb dX3_append_42 hl (k := 0) rfl (by rw [ex_1]; rfl) (by decide) rfl (fun ls hl => ?_)
          refine lv_goto (tgt := 3) hx hb dX3_append_45 (by decide) ?_
          exact ih_3 (k - 1) x_1 (up2 (up2 S1 2 (S1 1 1).toNatClampNeg (vp_nar .byte ((a1 >>> (z2 &&& 31)).toInt8.toInt32))) 1 1 ((S1 1 1) + (1 : Int32))) _ _ _ (by omega) (by rw [ex_1, qi_sub8 (by omega) (by omega)]; omega) (by rw [up2_same]; exact qz_succ hL (by decide) (M := 400) rfl c_16) (by subst ex_1; rw [← hg_3, g_X3_append_3]; rw [if_neg c_4, if_neg c_16]) hP hS (lv_sub hl [0, 1, 2] rfl)
  exact L_3 5 4 (24 : Int32) S _ _ _ (by omega) (by decide) hz (by rw [g_X3_append]) hP hS (lv_sub hl [0, 1, 2] rfl)
def f_X3_byteAt (S : qw_St) (a1 : Int32) : Int32 := (if a1 < 0 then (-1 : Int32) else (if (S 1 1) ≤ a1 then (-1 : Int32) else ((S 2 a1.toNatClampNeg) &&& (255 : Int32))))
set_option maxHeartbeats 4000000 in
set_option maxRecDepth 100000 in
theorem c_X3_byteAt (l : Launch) (D : va_G) {r : Nat → Nat} (c : Nat → ClassId) (g : Nat → Int64) (hr : qw_inj r) (S : qw_St) (a1 : Int32) (hz : qz (S 1 1) 400) : MI l D r c g yX3_byteAt wsX3_byteAt ({ frames := 0, cells := 0, slots := 0, locals := 0 }) [.ref (r 1), .int a1] S (f_X3_byteAt S a1) S := by
  have hiX3 : ∀ w ∈ wsX30, w ∈ wsX3_byteAt := by decide +kernel
  refine wx_of (cc := cX3_byteAt) (nL := 2) (ret := (some .int)) (lvs := [(0, .ref (r 1)), (1, .int a1)]) (by decide) rfl rfl (Nat.le_of_ble_eq_true rfl) ?_
  intro p e s m below meth c0 ls hx hb hret hml hts hown hlk hK hP hS hl
  have hP : qw_P D r c g S s.heap := hP
  refine lv_iload_n hx hb dX3_byteAt_0 rfl (lv_at hl 1 rfl) ?_
  refine lv_if_lt (tgt := 25) hx hb dX3_byteAt_1 (by decide) (fun c_1 => ?_) (fun c_1 => ?_)
  · refine lv_iconst (v := (-1)) hx hb dX3_byteAt_25 (by decide) ?_
    exact wx_iret hx hb hret hlk hK hP hS (by unfold f_X3_byteAt; rw [if_pos c_1]) rfl dX3_byteAt_26
  · refine lv_iload_n hx hb dX3_byteAt_4 rfl (lv_at hl 1 rfl) ?_
    refine lv_aload_n hx hb dX3_byteAt_5 rfl (lv_at hl 0 rfl) ?_
    refine wx_get hx hb hts hiX3 hown hK hP 1 (by decide) qc_1 rfl 1 (by decide) (hts (.fieldLink RX3 15 "PriceEdict$Tape" "length" "I") (by decide +kernel)) rfl dX3_byteAt_6 ?_
    refine lv_icmp_ge (tgt := 25) hx hb dX3_byteAt_9 (by decide) (fun c_9 => ?_) (fun c_9 => ?_)
    · refine lv_iconst (v := (-1)) hx hb dX3_byteAt_25 (by decide) ?_
      exact wx_iret hx hb hret hlk hK hP hS (by unfold f_X3_byteAt; rw [if_neg c_1, if_pos c_9]) rfl dX3_byteAt_26
    · refine lv_aload_n hx hb dX3_byteAt_12 rfl (lv_at hl 0 rfl) ?_
      refine wx_get hx hb hts hiX3 hown hK hP 1 (by decide) qc_1 rfl 0 (by decide) (hts (.fieldLink RX3 9 "PriceEdict$Tape" "bytes" "[B") (by decide +kernel)) rfl dX3_byteAt_13 ?_
      refine lv_iload_n hx hb dX3_byteAt_16 rfl (lv_at hl 1 rfl) ?_
      refine wx_bld hx hb hK hP 2 (by decide) qc_2 (qi_in3 c_1 c_9 hz (by decide)) dX3_byteAt_17 ?_
      refine lv_sipush (v := 255) hx hb dX3_byteAt_18 (by decide) ?_
      refine lv_iand hx hb dX3_byteAt_21 ?_
      refine lv_goto (tgt := 26) hx hb dX3_byteAt_22 (by decide) ?_
      exact wx_iret hx hb hret hlk hK hP hS (by unfold f_X3_byteAt; rw [if_neg c_1, if_neg c_9]) rfl dX3_byteAt_26
def g_X3_skipBlanks_0 : Nat → qw_St → qw_St
  | 0, S => S
  | n + 1, S => (if (S 1 1) ≤ (S 1 2) then S else (if (f_X3_byteAt S (S 1 2)) = (32 : Int32) then (g_X3_skipBlanks_0 n (up2 S 1 2 ((S 1 2) + (1 : Int32)))) else S))
def g_X3_skipBlanks (S : qw_St) : qw_St := (g_X3_skipBlanks_0 401 S)
set_option maxHeartbeats 4000000 in
set_option maxRecDepth 100000 in
theorem c_X3_skipBlanks (l : Launch) (D : va_G) {r : Nat → Nat} (c : Nat → ClassId) (g : Nat → Int64) (hr : qw_inj r) (S : qw_St) (hT : TI S) : MV l D r c g yX3_skipBlanks wsX3_skipBlanks ({ frames := 1, cells := 0, slots := 0, locals := 21 }) [.ref (r 1)] S (g_X3_skipBlanks S) := by
  have hiX3 : ∀ w ∈ wsX30, w ∈ wsX3_skipBlanks := by decide +kernel
  refine wx_of (cc := cX3_skipBlanks) (nL := 1) (ret := none) (lvs := [(0, .ref (r 1))]) (by decide) rfl rfl (Nat.le_of_ble_eq_true rfl) ?_
  intro p e s m below meth c0 ls hx hb hret hml hts hown hlk hK hP hS hl
  obtain ⟨m1, hm1, em1⟩ := id hT.1
  obtain ⟨m0, hm0, em0⟩ := id hT.2
  have hP : qw_P D r c g S s.heap := hP
  have L_0 : ∀ (n : Nat) (k : Nat) (S1 : qw_St) (H : Heap) (locs : List Loc) (ls : Array Slot) (hk : k ≤ 400 ∧ 401 ≤ k + n) (hp1 : S1 1 2 = nI k) (he1 : S1 1 1 = nI m1) (hg_0 : g_X3_skipBlanks_0 n S1 = (g_X3_skipBlanks S)), qw_P D r c g S1 H → va_S (qw_A r) s.heap H locs → lv_has ls 1 [(0, .ref (r 1))] → W p l e ({ frames := 1, cells := 0, slots := 0, locals := 21 }) s m [.ref (r 1)].toArray below meth c0 H locs 0 0 (MQ below (qw_Qv D r c g (g_X3_skipBlanks S)) [.ref (r 1)].toArray s 0 0 (qw_A r)) (F0 m 0 ls []) := by
    intro n
    induction n with
    | zero =>
      intro k S1 H locs ls hk hp1 he1 hg_0 hP hS hl
      omega
    | succ n ih_0 =>
      intro k S1 H locs ls hk hp1 he1 hg_0 hP hS hl
      refine lv_aload_n hx hb dX3_skipBlanks_0 rfl (lv_at hl 0 rfl) ?_
      refine wx_get hx hb hts hiX3 hown hK hP 1 (by decide) qc_1 rfl 2 (by decide) (hts (.fieldLink RX3 19 "PriceEdict$Tape" "at" "I") (by decide +kernel)) rfl dX3_skipBlanks_1 ?_
      refine lv_aload_n hx hb dX3_skipBlanks_4 rfl (lv_at hl 0 rfl) ?_
      refine wx_get hx hb hts hiX3 hown hK hP 1 (by decide) qc_1 rfl 1 (by decide) (hts (.fieldLink RX3 15 "PriceEdict$Tape" "length" "I") (by decide +kernel)) rfl dX3_skipBlanks_5 ?_
      refine lv_icmp_ge (tgt := 37) hx hb dX3_skipBlanks_8 (by decide) (fun c_8 => ?_) (fun c_8 => ?_)
      · exact wx_vret hx hb hret hlk hK hP hS (by rw [← hg_0, g_X3_skipBlanks_0]; rw [if_pos c_8]) dX3_skipBlanks_37
      · have hlt : k < m1 := qi_ltn hp1 (by omega) he1 (by omega) c_8
        refine lv_aload_n hx hb dX3_skipBlanks_11 rfl (lv_at hl 0 rfl) ?_
        refine lv_aload_n hx hb dX3_skipBlanks_12 rfl (lv_at hl 0 rfl) ?_
        refine wx_get hx hb hts hiX3 hown hK hP 1 (by decide) qc_1 rfl 2 (by decide) (hts (.fieldLink RX3 19 "PriceEdict$Tape" "at" "I") (by decide +kernel)) rfl dX3_skipBlanks_13 ?_
        refine wc_iV (k := 1) (C := RX3) (As := [.int (S1 1 2)]) (rest := []) ⟨hx, hb, hml, hown, hts⟩ (c_X3_byteAt l D c g hr S1 (S1 1 2) ⟨m1, hm1, he1⟩) (cwV 1 hts gX3_skipBlanks_X3_byteAt rfl rfl rfl (by decide +kernel) ⟨Nat.le_of_ble_eq_true rfl, Nat.le_of_ble_eq_true rfl⟩) (wx_recv hK hP (by decide) qc_1 rfl) hK hP hS (fun _ h => h) rfl hl.1 rfl (lv_room (Nat.le_of_ble_eq_true rfl)) dX3_skipBlanks_16 ⟨Nat.zero_le _, Nat.zero_le _⟩ (fun H locs hP hS => ?_)
        refine lv_bipush (v := 32) hx hb dX3_skipBlanks_19 (by decide) ?_
        refine lv_icmp_ne (tgt := 37) hx hb dX3_skipBlanks_21 (by decide) (fun c_21 => ?_) (fun c_21 => ?_)
        · exact wx_vret hx hb hret hlk hK hP hS (by rw [← hg_0, g_X3_skipBlanks_0]; rw [if_neg c_8, if_neg c_21]) dX3_skipBlanks_37
        · refine lv_aload_n hx hb dX3_skipBlanks_24 rfl (lv_at hl 0 rfl) ?_
          refine lv_dup hx hb dX3_skipBlanks_25 rfl ?_
          refine wx_get hx hb hts hiX3 hown hK hP 1 (by decide) qc_1 rfl 2 (by decide) (hts (.fieldLink RX3 19 "PriceEdict$Tape" "at" "I") (by decide +kernel)) rfl dX3_skipBlanks_26 ?_
          refine lv_iconst (v := 1) hx hb dX3_skipBlanks_29 (by decide) ?_
          refine lv_iadd hx hb dX3_skipBlanks_30 ?_
          refine wx_put hr hx hb hts hiX3 tyX3 tyX3_ok nmX3 hown hK hP hS 1 (by decide) qc_1 rfl 2 (by decide) (hts (.fieldLink RX3 19 "PriceEdict$Tape" "at" "I") (by decide +kernel)) rfl (by decide +kernel) (fun _ => rfl) (Nat.le_of_ble_eq_true rfl) dX3_skipBlanks_31 (fun H locs hP hS => ?_)
          refine lv_goto (tgt := 0) hx hb dX3_skipBlanks_34 (by decide) ?_
          exact ih_0 (k + 1) (up2 S1 1 2 ((S1 1 2) + (1 : Int32))) _ _ _ (by omega) (by rw [up2_same]; exact qi_add hp1) (by rw [up2_ne _ _ (Or.inr (by decide))]; exact he1) (by rw [← hg_0, g_X3_skipBlanks_0]; rw [if_neg c_8, if_pos c_21]) hP hS (lv_sub hl [0] rfl)
  exact L_0 401 m0 S _ _ _ (by omega) em0 em1 (by rw [g_X3_skipBlanks]) hP hS (lv_sub hl [0] rfl)
theorem fr_X3_skipBlanks_0 : ∀ (n : Nat) (S : qw_St) (k j : Nat), (k ≠ 1 ∨ j ≠ 2) → g_X3_skipBlanks_0 n S k j = S k j := by
  intro n
  induction n with
  | zero => intro S k j h; rfl
  | succ n ih =>
    intro S k j h
    rw [g_X3_skipBlanks_0]
    split
    · rfl
    · split
      · rw [ih _ _ _ h, up2_ne _ _ h]
      · rfl
theorem fr_X3_skipBlanks (S : qw_St) {k : Nat} (j : Nat) (h : k ≠ 1 ∨ j ≠ 2) : g_X3_skipBlanks S k j = S k j := fr_X3_skipBlanks_0 _ _ _ _ h
theorem ti_X3_skipBlanks_0 : ∀ (n : Nat) (S : qw_St), TI S → TI (g_X3_skipBlanks_0 n S) := by
  intro n
  induction n with
  | zero => intro S h; exact h
  | succ n ih =>
    intro S h
    rw [g_X3_skipBlanks_0]
    split
    · exact h
    · next c =>
      obtain ⟨m1, hm1, em1⟩ := id h.1
      obtain ⟨m0, hm0, em0⟩ := id h.2
      have hlt : m0 < m1 := qi_ltn em0 (by omega) em1 (by omega) c
      have h2 : TI (up2 S 1 2 (S 1 2 + 1)) := ⟨by rw [up2_ne _ _ (Or.inr (by decide))]; exact h.1, by rw [up2_same]; exact ⟨m0 + 1, by omega, qi_add em0⟩⟩
      split
      · first | exact h | exact ih _ h2
      · first | exact h | exact ih _ h2
theorem ti_X3_skipBlanks {S : qw_St} (h : TI S) : TI (g_X3_skipBlanks S) := ti_X3_skipBlanks_0 _ _ h
def f_X3_isBetween (S : qw_St) (a1 : Int32) (a2 : Int32) : Int32 := (if (f_X3_byteAt S (S 1 2)) < a1 then (0 : Int32) else (if a2 < (f_X3_byteAt S (S 1 2)) then (0 : Int32) else (1 : Int32)))
set_option maxHeartbeats 4000000 in
set_option maxRecDepth 100000 in
theorem c_X3_isBetween (l : Launch) (D : va_G) {r : Nat → Nat} (c : Nat → ClassId) (g : Nat → Int64) (hr : qw_inj r) (S : qw_St) (a1 : Int32) (a2 : Int32) (hz : qz (S 1 1) 400) : MI l D r c g yX3_isBetween wsX3_isBetween ({ frames := 1, cells := 0, slots := 0, locals := 21 }) [.ref (r 1), .int a1, .int a2] S (f_X3_isBetween S a1 a2) S := by
  have hiX3 : ∀ w ∈ wsX30, w ∈ wsX3_isBetween := by decide +kernel
  refine wx_of (cc := cX3_isBetween) (nL := 4) (ret := (some .boolean)) (lvs := [(0, .ref (r 1)), (1, .int a1), (2, .int a2)]) (by decide) rfl rfl (Nat.le_of_ble_eq_true rfl) ?_
  intro p e s m below meth c0 ls hx hb hret hml hts hown hlk hK hP hS hl
  have hP : qw_P D r c g S s.heap := hP
  refine lv_aload_n hx hb dX3_isBetween_0 rfl (lv_at hl 0 rfl) ?_
  refine lv_aload_n hx hb dX3_isBetween_1 rfl (lv_at hl 0 rfl) ?_
  refine wx_get hx hb hts hiX3 hown hK hP 1 (by decide) qc_1 rfl 2 (by decide) (hts (.fieldLink RX3 19 "PriceEdict$Tape" "at" "I") (by decide +kernel)) rfl dX3_isBetween_2 ?_
  refine wc_iV (k := 1) (C := RX3) (As := [.int (S 1 2)]) (rest := []) ⟨hx, hb, hml, hown, hts⟩ (c_X3_byteAt l D c g hr S (S 1 2) (by first | assumption | omega)) (cwV 1 hts gX3_isBetween_X3_byteAt rfl rfl rfl (by decide +kernel) ⟨Nat.le_of_ble_eq_true rfl, Nat.le_of_ble_eq_true rfl⟩) (wx_recv hK hP (by decide) qc_1 rfl) hK hP hS (fun _ h => h) rfl hl.1 rfl (lv_room (Nat.le_of_ble_eq_true rfl)) dX3_isBetween_5 ⟨Nat.zero_le _, Nat.zero_le _⟩ (fun H locs hP hS => ?_)
  refine lv_topi (fun x_1 ex_1 => ?_)
  refine lv_istore_n (lv' := [(3, .int x_1), (0, .ref (r 1)), (1, .int a1), (2, .int a2)]) hx hb dX3_isBetween_8 rfl hl (by decide) rfl (fun ls hl => ?_)
  refine lv_iload_n hx hb dX3_isBetween_9 rfl (lv_at hl 0 rfl) ?_
  refine lv_iload_n hx hb dX3_isBetween_10 rfl (lv_at hl 2 rfl) ?_
  refine lv_icmp_lt (tgt := 23) hx hb dX3_isBetween_11 (by decide) (fun c_11 => ?_) (fun c_11 => ?_)
  · refine lv_iconst (v := 0) hx hb dX3_isBetween_23 (by decide) ?_
    exact wx_zret hx hb hret hlk hK hP hS rfl (by subst ex_1; unfold f_X3_isBetween; rw [if_pos c_11]) rfl dX3_isBetween_24
  · refine lv_iload_n hx hb dX3_isBetween_14 rfl (lv_at hl 0 rfl) ?_
    refine lv_iload_n hx hb dX3_isBetween_15 rfl (lv_at hl 3 rfl) ?_
    refine lv_icmp_gt (tgt := 23) hx hb dX3_isBetween_16 (by decide) (fun c_16 => ?_) (fun c_16 => ?_)
    · refine lv_iconst (v := 0) hx hb dX3_isBetween_23 (by decide) ?_
      exact wx_zret hx hb hret hlk hK hP hS rfl (by subst ex_1; unfold f_X3_isBetween; rw [if_neg c_11, if_pos c_16]) rfl dX3_isBetween_24
    · refine lv_iconst (v := 1) hx hb dX3_isBetween_19 (by decide) ?_
      refine lv_goto (tgt := 24) hx hb dX3_isBetween_20 (by decide) ?_
      exact wx_zret hx hb hret hlk hK hP hS rfl (by subst ex_1; unfold f_X3_isBetween; rw [if_neg c_11, if_neg c_16]) rfl dX3_isBetween_24
def g_X3_skipWord_0 : Nat → qw_St → qw_St
  | 0, S => S
  | n + 1, S => (if (S 1 1) ≤ (S 1 2) then S else (if (f_X3_isBetween S (97 : Int32) (122 : Int32)) = 0 then S else (g_X3_skipWord_0 n (up2 S 1 2 ((S 1 2) + (1 : Int32))))))
def g_X3_skipWord (S : qw_St) : qw_St := (g_X3_skipWord_0 401 S)
set_option maxHeartbeats 4000000 in
set_option maxRecDepth 100000 in
theorem c_X3_skipWord (l : Launch) (D : va_G) {r : Nat → Nat} (c : Nat → ClassId) (g : Nat → Int64) (hr : qw_inj r) (S : qw_St) (hT : TI S) : MV l D r c g yX3_skipWord wsX3_skipWord ({ frames := 2, cells := 0, slots := 0, locals := 44 }) [.ref (r 1)] S (g_X3_skipWord S) := by
  have hiX3 : ∀ w ∈ wsX30, w ∈ wsX3_skipWord := by decide +kernel
  refine wx_of (cc := cX3_skipWord) (nL := 1) (ret := none) (lvs := [(0, .ref (r 1))]) (by decide) rfl rfl (Nat.le_of_ble_eq_true rfl) ?_
  intro p e s m below meth c0 ls hx hb hret hml hts hown hlk hK hP hS hl
  obtain ⟨m1, hm1, em1⟩ := id hT.1
  obtain ⟨m0, hm0, em0⟩ := id hT.2
  have hP : qw_P D r c g S s.heap := hP
  have L_0 : ∀ (n : Nat) (k : Nat) (S1 : qw_St) (H : Heap) (locs : List Loc) (ls : Array Slot) (hk : k ≤ 400 ∧ 401 ≤ k + n) (hp1 : S1 1 2 = nI k) (he1 : S1 1 1 = nI m1) (hg_0 : g_X3_skipWord_0 n S1 = (g_X3_skipWord S)), qw_P D r c g S1 H → va_S (qw_A r) s.heap H locs → lv_has ls 1 [(0, .ref (r 1))] → W p l e ({ frames := 2, cells := 0, slots := 0, locals := 44 }) s m [.ref (r 1)].toArray below meth c0 H locs 0 0 (MQ below (qw_Qv D r c g (g_X3_skipWord S)) [.ref (r 1)].toArray s 0 0 (qw_A r)) (F0 m 0 ls []) := by
    intro n
    induction n with
    | zero =>
      intro k S1 H locs ls hk hp1 he1 hg_0 hP hS hl
      omega
    | succ n ih_0 =>
      intro k S1 H locs ls hk hp1 he1 hg_0 hP hS hl
      refine lv_aload_n hx hb dX3_skipWord_0 rfl (lv_at hl 0 rfl) ?_
      refine wx_get hx hb hts hiX3 hown hK hP 1 (by decide) qc_1 rfl 2 (by decide) (hts (.fieldLink RX3 19 "PriceEdict$Tape" "at" "I") (by decide +kernel)) rfl dX3_skipWord_1 ?_
      refine lv_aload_n hx hb dX3_skipWord_4 rfl (lv_at hl 0 rfl) ?_
      refine wx_get hx hb hts hiX3 hown hK hP 1 (by decide) qc_1 rfl 1 (by decide) (hts (.fieldLink RX3 15 "PriceEdict$Tape" "length" "I") (by decide +kernel)) rfl dX3_skipWord_5 ?_
      refine lv_icmp_ge (tgt := 35) hx hb dX3_skipWord_8 (by decide) (fun c_8 => ?_) (fun c_8 => ?_)
      · exact wx_vret hx hb hret hlk hK hP hS (by rw [← hg_0, g_X3_skipWord_0]; rw [if_pos c_8]) dX3_skipWord_35
      · have hlt : k < m1 := qi_ltn hp1 (by omega) he1 (by omega) c_8
        refine lv_aload_n hx hb dX3_skipWord_11 rfl (lv_at hl 0 rfl) ?_
        refine lv_bipush (v := 97) hx hb dX3_skipWord_12 (by decide) ?_
        refine lv_bipush (v := 122) hx hb dX3_skipWord_14 (by decide) ?_
        refine wc_iV (k := 1) (C := RX3) (As := [.int (97 : Int32), .int (122 : Int32)]) (rest := []) ⟨hx, hb, hml, hown, hts⟩ (c_X3_isBetween l D c g hr S1 (97 : Int32) (122 : Int32) ⟨m1, hm1, he1⟩) (cwV 2 hts gX3_skipWord_X3_isBetween rfl rfl rfl (by decide +kernel) ⟨Nat.le_of_ble_eq_true rfl, Nat.le_of_ble_eq_true rfl⟩) (wx_recv hK hP (by decide) qc_1 rfl) hK hP hS (fun _ h => h) rfl hl.1 rfl (lv_room (Nat.le_of_ble_eq_true rfl)) dX3_skipWord_16 ⟨Nat.zero_le _, Nat.zero_le _⟩ (fun H locs hP hS => ?_)
        refine lv_if_eq (tgt := 35) hx hb dX3_skipWord_19 (by decide) (fun c_19 => ?_) (fun c_19 => ?_)
        · exact wx_vret hx hb hret hlk hK hP hS (by rw [← hg_0, g_X3_skipWord_0]; rw [if_neg c_8, if_pos c_19]) dX3_skipWord_35
        · refine lv_aload_n hx hb dX3_skipWord_22 rfl (lv_at hl 0 rfl) ?_
          refine lv_dup hx hb dX3_skipWord_23 rfl ?_
          refine wx_get hx hb hts hiX3 hown hK hP 1 (by decide) qc_1 rfl 2 (by decide) (hts (.fieldLink RX3 19 "PriceEdict$Tape" "at" "I") (by decide +kernel)) rfl dX3_skipWord_24 ?_
          refine lv_iconst (v := 1) hx hb dX3_skipWord_27 (by decide) ?_
          refine lv_iadd hx hb dX3_skipWord_28 ?_
          refine wx_put hr hx hb hts hiX3 tyX3 tyX3_ok nmX3 hown hK hP hS 1 (by decide) qc_1 rfl 2 (by decide) (hts (.fieldLink RX3 19 "PriceEdict$Tape" "at" "I") (by decide +kernel)) rfl (by decide +kernel) (fun _ => rfl) (Nat.le_of_ble_eq_true rfl) dX3_skipWord_29 (fun H locs hP hS => ?_)
          refine lv_goto (tgt := 0) hx hb dX3_skipWord_32 (by decide) ?_
          exact ih_0 (k + 1) (up2 S1 1 2 ((S1 1 2) + (1 : Int32))) _ _ _ (by omega) (by rw [up2_same]; exact qi_add hp1) (by rw [up2_ne _ _ (Or.inr (by decide))]; exact he1) (by rw [← hg_0, g_X3_skipWord_0]; rw [if_neg c_8, if_neg c_19]) hP hS (lv_sub hl [0] rfl)
  exact L_0 401 m0 S _ _ _ (by omega) em0 em1 (by rw [g_X3_skipWord]) hP hS (lv_sub hl [0] rfl)
theorem fr_X3_skipWord_0 : ∀ (n : Nat) (S : qw_St) (k j : Nat), (k ≠ 1 ∨ j ≠ 2) → g_X3_skipWord_0 n S k j = S k j := by
  intro n
  induction n with
  | zero => intro S k j h; rfl
  | succ n ih =>
    intro S k j h
    rw [g_X3_skipWord_0]
    split
    · rfl
    · split
      · rfl
      · rw [ih _ _ _ h, up2_ne _ _ h]
theorem fr_X3_skipWord (S : qw_St) {k : Nat} (j : Nat) (h : k ≠ 1 ∨ j ≠ 2) : g_X3_skipWord S k j = S k j := fr_X3_skipWord_0 _ _ _ _ h
theorem ti_X3_skipWord_0 : ∀ (n : Nat) (S : qw_St), TI S → TI (g_X3_skipWord_0 n S) := by
  intro n
  induction n with
  | zero => intro S h; exact h
  | succ n ih =>
    intro S h
    rw [g_X3_skipWord_0]
    split
    · exact h
    · next c =>
      obtain ⟨m1, hm1, em1⟩ := id h.1
      obtain ⟨m0, hm0, em0⟩ := id h.2
      have hlt : m0 < m1 := qi_ltn em0 (by omega) em1 (by omega) c
      have h2 : TI (up2 S 1 2 (S 1 2 + 1)) := ⟨by rw [up2_ne _ _ (Or.inr (by decide))]; exact h.1, by rw [up2_same]; exact ⟨m0 + 1, by omega, qi_add em0⟩⟩
      split
      · first | exact h | exact ih _ h2
      · first | exact h | exact ih _ h2
theorem ti_X3_skipWord {S : qw_St} (h : TI S) : TI (g_X3_skipWord S) := ti_X3_skipWord_0 _ _ h
def g_X3_readNumber_22 (a1 : Int32) (a2 : Int32) (y3 : Int32) : Nat → qw_St → Int32 → qw_St
  | 0, S, _ => S
  | n + 1, S, z4 => (if (S 1 1) ≤ (S 1 2) then (if ((S 1 2) - y3) < (1 : Int32) then (up2 S 1 3 y3) else (if (4 : Int32) < ((S 1 2) - y3) then (up2 S 1 3 y3) else (if z4 < a1 then (up2 S 1 3 y3) else (if z4 ≤ a2 then S else (up2 S 1 3 y3))))) else (if (f_X3_isBetween S (48 : Int32) (57 : Int32)) = 0 then (if ((S 1 2) - y3) < (1 : Int32) then (up2 S 1 3 y3) else (if (4 : Int32) < ((S 1 2) - y3) then (up2 S 1 3 y3) else (if z4 < a1 then (up2 S 1 3 y3) else (if z4 ≤ a2 then S else (up2 S 1 3 y3))))) else (g_X3_readNumber_22 a1 a2 y3 n (up2 S 1 2 ((S 1 2) + (1 : Int32))) (((z4 * (10 : Int32)) + (f_X3_byteAt S (S 1 2))) - (48 : Int32)))))
def f_X3_readNumber_22 (a1 : Int32) (a2 : Int32) (y3 : Int32) : Nat → qw_St → Int32 → Int32
  | 0, S, _ => 0
  | n + 1, S, z4 => (if (S 1 1) ≤ (S 1 2) then (if ((S 1 2) - y3) < (1 : Int32) then (-1 : Int32) else (if (4 : Int32) < ((S 1 2) - y3) then (-1 : Int32) else (if z4 < a1 then (-1 : Int32) else (if z4 ≤ a2 then z4 else (-1 : Int32))))) else (if (f_X3_isBetween S (48 : Int32) (57 : Int32)) = 0 then (if ((S 1 2) - y3) < (1 : Int32) then (-1 : Int32) else (if (4 : Int32) < ((S 1 2) - y3) then (-1 : Int32) else (if z4 < a1 then (-1 : Int32) else (if z4 ≤ a2 then z4 else (-1 : Int32))))) else (f_X3_readNumber_22 a1 a2 y3 n (up2 S 1 2 ((S 1 2) + (1 : Int32))) (((z4 * (10 : Int32)) + (f_X3_byteAt S (S 1 2))) - (48 : Int32)))))
def g_X3_readNumber (S : qw_St) (a1 : Int32) (a2 : Int32) : qw_St := (if (S 1 3) = (-1 : Int32) then (g_X3_readNumber_22 a1 a2 ((g_X3_skipBlanks S) 1 2) 401 (g_X3_skipBlanks S) (0 : Int32)) else S)
def f_X3_readNumber (S : qw_St) (a1 : Int32) (a2 : Int32) : Int32 := (if (S 1 3) = (-1 : Int32) then (f_X3_readNumber_22 a1 a2 ((g_X3_skipBlanks S) 1 2) 401 (g_X3_skipBlanks S) (0 : Int32)) else (-1 : Int32))
set_option maxHeartbeats 4000000 in
set_option maxRecDepth 100000 in
theorem c_X3_readNumber (l : Launch) (D : va_G) {r : Nat → Nat} (c : Nat → ClassId) (g : Nat → Int64) (hr : qw_inj r) (S : qw_St) (a1 : Int32) (a2 : Int32) (hT : TI S) : MI l D r c g yX3_readNumber wsX3_readNumber ({ frames := 2, cells := 0, slots := 0, locals := 44 }) [.ref (r 1), .int a1, .int a2] S (f_X3_readNumber S a1 a2) (g_X3_readNumber S a1 a2) := by
  have hiX3 : ∀ w ∈ wsX30, w ∈ wsX3_readNumber := by decide +kernel
  refine wx_of (cc := cX3_readNumber) (nL := 6) (ret := (some .int)) (lvs := [(0, .ref (r 1)), (1, .int a1), (2, .int a2)]) (by decide) rfl rfl (Nat.le_of_ble_eq_true rfl) ?_
  intro p e s m below meth c0 ls hx hb hret hml hts hown hlk hK hP hS hl
  have hT2 := ti_X3_skipBlanks hT
  obtain ⟨m1, hm1, em1⟩ := id hT2.1
  obtain ⟨m0, hm0, em0⟩ := id hT2.2
  have hP : qw_P D r c g S s.heap := hP
  refine lv_aload_n hx hb dX3_readNumber_0 rfl (lv_at hl 0 rfl) ?_
  refine wx_get hx hb hts hiX3 hown hK hP 1 (by decide) qc_1 rfl 3 (by decide) (hts (.fieldLink RX3 22 "PriceEdict$Tape" "wrong" "I") (by decide +kernel)) rfl dX3_readNumber_1 ?_
  refine lv_iconst (v := (-1)) hx hb dX3_readNumber_4 (by decide) ?_
  refine lv_icmp_eq (tgt := 10) hx hb dX3_readNumber_5 (by decide) (fun c_5 => ?_) (fun c_5 => ?_)
  · refine lv_aload_n hx hb dX3_readNumber_10 rfl (lv_at hl 0 rfl) ?_
    refine wc_vV (k := 1) (C := RX3) (As := []) (rest := []) ⟨hx, hb, hml, hown, hts⟩ (c_X3_skipBlanks l D c g hr S (by first | assumption | omega)) (cwV 0 hts gX3_readNumber_X3_skipBlanks rfl rfl rfl (by decide +kernel) ⟨Nat.le_of_ble_eq_true rfl, Nat.le_of_ble_eq_true rfl⟩) (wx_recv hK hP (by decide) qc_1 rfl) hK hP hS (fun _ h => h) rfl hl.1 rfl (lv_room (Nat.le_of_ble_eq_true rfl)) dX3_readNumber_11 ⟨Nat.zero_le _, Nat.zero_le _⟩ (fun H locs hP hS => ?_)
    refine lv_aload_n hx hb dX3_readNumber_14 rfl (lv_at hl 0 rfl) ?_
    refine wx_get hx hb hts hiX3 hown hK hP 1 (by decide) qc_1 rfl 2 (by decide) (hts (.fieldLink RX3 19 "PriceEdict$Tape" "at" "I") (by decide +kernel)) rfl dX3_readNumber_15 ?_
    refine lv_topi (fun x_1 ex_1 => ?_)
    refine lv_istore_n (lv' := [(3, .int x_1), (0, .ref (r 1)), (1, .int a1), (2, .int a2)]) hx hb dX3_readNumber_18 rfl hl (by decide) rfl (fun ls hl => ?_)
    refine lv_iconst (v := 0) hx hb dX3_readNumber_19 (by decide) ?_
    refine lv_istore (lv' := [(4, .int (0 : Int32)), (3, .int x_1), (0, .ref (r 1)), (1, .int a1), (2, .int a2)]) hx hb dX3_readNumber_20 hl (by decide) rfl (fun ls hl => ?_)
    have L_22 : ∀ (n : Nat) (k : Nat) (z4 : Int32) (S1 : qw_St) (H : Heap) (locs : List Loc) (ls : Array Slot) (hk : k ≤ 400 ∧ 401 ≤ k + n) (hp1 : S1 1 2 = nI k) (he1 : S1 1 1 = nI m1) (hf_22 : f_X3_readNumber_22 a1 a2 x_1 n S1 z4 = (f_X3_readNumber S a1 a2)) (hg_22 : g_X3_readNumber_22 a1 a2 x_1 n S1 z4 = (g_X3_readNumber S a1 a2)), qw_P D r c g S1 H → va_S (qw_A r) s.heap H locs → lv_has ls 6 [(4, .int z4), (3, .int x_1), (0, .ref (r 1)), (1, .int a1), (2, .int a2)] → W p l e ({ frames := 2, cells := 0, slots := 0, locals := 44 }) s m [.ref (r 1), .int a1, .int a2].toArray below meth c0 H locs 0 0 (MQ below (qw_Qi D r c g (f_X3_readNumber S a1 a2) (g_X3_readNumber S a1 a2)) [.ref (r 1), .int a1, .int a2].toArray s 0 0 (qw_A r)) (F0 m 22 ls []) := by
      intro n
      induction n with
      | zero =>
        intro k z4 S1 H locs ls hk hp1 he1 hf_22 hg_22 hP hS hl
        omega
      | succ n ih_22 =>
        intro k z4 S1 H locs ls hk hp1 he1 hf_22 hg_22 hP hS hl
        refine lv_aload_n hx hb dX3_readNumber_22 rfl (lv_at hl 2 rfl) ?_
        refine wx_get hx hb hts hiX3 hown hK hP 1 (by decide) qc_1 rfl 2 (by decide) (hts (.fieldLink RX3 19 "PriceEdict$Tape" "at" "I") (by decide +kernel)) rfl dX3_readNumber_23 ?_
        refine lv_aload_n hx hb dX3_readNumber_26 rfl (lv_at hl 2 rfl) ?_
        refine wx_get hx hb hts hiX3 hown hK hP 1 (by decide) qc_1 rfl 1 (by decide) (hts (.fieldLink RX3 15 "PriceEdict$Tape" "length" "I") (by decide +kernel)) rfl dX3_readNumber_27 ?_
        refine lv_icmp_ge (tgt := 76) hx hb dX3_readNumber_30 (by decide) (fun c_30 => ?_) (fun c_30 => ?_)
        · refine lv_aload_n hx hb dX3_readNumber_76 rfl (lv_at hl 2 rfl) ?_
          refine wx_get hx hb hts hiX3 hown hK hP 1 (by decide) qc_1 rfl 2 (by decide) (hts (.fieldLink RX3 19 "PriceEdict$Tape" "at" "I") (by decide +kernel)) rfl dX3_readNumber_77 ?_
          refine lv_iload_n hx hb dX3_readNumber_80 rfl (lv_at hl 1 rfl) ?_
          refine lv_isub hx hb dX3_readNumber_81 ?_
          refine lv_topi (fun x_2 ex_2 => ?_)
          refine lv_istore (lv' := [(5, .int x_2), (4, .int z4), (3, .int x_1), (0, .ref (r 1)), (1, .int a1), (2, .int a2)]) hx hb dX3_readNumber_82 hl (by decide) rfl (fun ls hl => ?_)
          refine lv_iload hx hb dX3_readNumber_84 (lv_at hl 0 rfl) ?_
          refine lv_iconst (v := 1) hx hb dX3_readNumber_86 (by decide) ?_
          refine lv_icmp_lt (tgt := 108) hx hb dX3_readNumber_87 (by decide) (fun c_87 => ?_) (fun c_87 => ?_)
          · refine lv_aload_n hx hb dX3_readNumber_108 rfl (lv_at hl 3 rfl) ?_
            refine lv_iload_n hx hb dX3_readNumber_109 rfl (lv_at hl 2 rfl) ?_
            refine wx_put hr hx hb hts hiX3 tyX3 tyX3_ok nmX3 hown hK hP hS 1 (by decide) qc_1 rfl 3 (by decide) (hts (.fieldLink RX3 22 "PriceEdict$Tape" "wrong" "I") (by decide +kernel)) rfl (by decide +kernel) (fun _ => rfl) (Nat.le_of_ble_eq_true rfl) dX3_readNumber_110 (fun H locs hP hS => ?_)
            refine lv_iconst (v := (-1)) hx hb dX3_readNumber_113 (by decide) ?_
            exact wx_iret hx hb hret hlk hK hP hS (by subst ex_2; subst ex_1; rw [← hf_22, f_X3_readNumber_22]; rw [if_pos c_30, if_pos c_87]) (by subst ex_2; subst ex_1; rw [← hg_22, g_X3_readNumber_22]; rw [if_pos c_30, if_pos c_87]) dX3_readNumber_114
          · refine lv_iload hx hb dX3_readNumber_90 (lv_at hl 0 rfl) ?_
            refine lv_iconst (v := 4) hx hb dX3_readNumber_92 (by decide) ?_
            refine lv_icmp_gt (tgt := 108) hx hb dX3_readNumber_93 (by decide) (fun c_93 => ?_) (fun c_93 => ?_)
            · refine lv_aload_n hx hb dX3_readNumber_108 rfl (lv_at hl 3 rfl) ?_
              refine lv_iload_n hx hb dX3_readNumber_109 rfl (lv_at hl 2 rfl) ?_
              refine wx_put hr hx hb hts hiX3 tyX3 tyX3_ok nmX3 hown hK hP hS 1 (by decide) qc_1 rfl 3 (by decide) (hts (.fieldLink RX3 22 "PriceEdict$Tape" "wrong" "I") (by decide +kernel)) rfl (by decide +kernel) (fun _ => rfl) (Nat.le_of_ble_eq_true rfl) dX3_readNumber_110 (fun H locs hP hS => ?_)
              refine lv_iconst (v := (-1)) hx hb dX3_readNumber_113 (by decide) ?_
              exact wx_iret hx hb hret hlk hK hP hS (by subst ex_2; subst ex_1; rw [← hf_22, f_X3_readNumber_22]; rw [if_pos c_30, if_neg c_87, if_pos c_93]) (by subst ex_2; subst ex_1; rw [← hg_22, g_X3_readNumber_22]; rw [if_pos c_30, if_neg c_87, if_pos c_93]) dX3_readNumber_114
            · refine lv_iload hx hb dX3_readNumber_96 (lv_at hl 1 rfl) ?_
              refine lv_iload_n hx hb dX3_readNumber_98 rfl (lv_at hl 4 rfl) ?_
              refine lv_icmp_lt (tgt := 108) hx hb dX3_readNumber_99 (by decide) (fun c_99 => ?_) (fun c_99 => ?_)
              · refine lv_aload_n hx hb dX3_readNumber_108 rfl (lv_at hl 3 rfl) ?_
                refine lv_iload_n hx hb dX3_readNumber_109 rfl (lv_at hl 2 rfl) ?_
                refine wx_put hr hx hb hts hiX3 tyX3 tyX3_ok nmX3 hown hK hP hS 1 (by decide) qc_1 rfl 3 (by decide) (hts (.fieldLink RX3 22 "PriceEdict$Tape" "wrong" "I") (by decide +kernel)) rfl (by decide +kernel) (fun _ => rfl) (Nat.le_of_ble_eq_true rfl) dX3_readNumber_110 (fun H locs hP hS => ?_)
                refine lv_iconst (v := (-1)) hx hb dX3_readNumber_113 (by decide) ?_
                exact wx_iret hx hb hret hlk hK hP hS (by subst ex_2; subst ex_1; rw [← hf_22, f_X3_readNumber_22]; rw [if_pos c_30, if_neg c_87, if_neg c_93, if_pos c_99]) (by subst ex_2; subst ex_1; rw [← hg_22, g_X3_readNumber_22]; rw [if_pos c_30, if_neg c_87, if_neg c_93, if_pos c_99]) dX3_readNumber_114
              · refine lv_iload hx hb dX3_readNumber_102 (lv_at hl 1 rfl) ?_
                refine lv_iload_n hx hb dX3_readNumber_104 rfl (lv_at hl 5 rfl) ?_
                refine lv_icmp_le (tgt := 115) hx hb dX3_readNumber_105 (by decide) (fun c_105 => ?_) (fun c_105 => ?_)
                · refine lv_iload hx hb dX3_readNumber_115 (lv_at hl 1 rfl) ?_
                  exact wx_iret hx hb hret hlk hK hP hS (by subst ex_2; subst ex_1; rw [← hf_22, f_X3_readNumber_22]; rw [if_pos c_30, if_neg c_87, if_neg c_93, if_neg c_99, if_pos c_105]) (by subst ex_2; subst ex_1; rw [← hg_22, g_X3_readNumber_22]; rw [if_pos c_30, if_neg c_87, if_neg c_93, if_neg c_99, if_pos c_105]) dX3_readNumber_117
                · refine lv_aload_n hx hb dX3_readNumber_108 rfl (lv_at hl 3 rfl) ?_
                  refine lv_iload_n hx hb dX3_readNumber_109 rfl (lv_at hl 2 rfl) ?_
                  refine wx_put hr hx hb hts hiX3 tyX3 tyX3_ok nmX3 hown hK hP hS 1 (by decide) qc_1 rfl 3 (by decide) (hts (.fieldLink RX3 22 "PriceEdict$Tape" "wrong" "I") (by decide +kernel)) rfl (by decide +kernel) (fun _ => rfl) (Nat.le_of_ble_eq_true rfl) dX3_readNumber_110 (fun H locs hP hS => ?_)
                  refine lv_iconst (v := (-1)) hx hb dX3_readNumber_113 (by decide) ?_
                  exact wx_iret hx hb hret hlk hK hP hS (by subst ex_2; subst ex_1; rw [← hf_22, f_X3_readNumber_22]; rw [if_pos c_30, if_neg c_87, if_neg c_93, if_neg c_99, if_neg c_105]) (by subst ex_2; subst ex_1; rw [← hg_22, g_X3_readNumber_22]; rw [if_pos c_30, if_neg c_87, if_neg c_93, if_neg c_99, if_neg c_105]) dX3_readNumber_114
        · have hlt : k < m1 := qi_ltn hp1 (by omega) he1 (by omega) c_30
          refine lv_aload_n hx hb dX3_readNumber_33 rfl (lv_at hl 2 rfl) ?_
          refine lv_bipush (v := 48) hx hb dX3_readNumber_34 (by decide) ?_
          refine lv_bipush (v := 57) hx hb dX3_readNumber_36 (by decide) ?_
          refine wc_iV (k := 1) (C := RX3) (As := [.int (48 : Int32), .int (57 : Int32)]) (rest := []) ⟨hx, hb, hml, hown, hts⟩ (c_X3_isBetween l D c g hr S1 (48 : Int32) (57 : Int32) ⟨m1, hm1, he1⟩) (cwV 2 hts gX3_readNumber_X3_isBetween rfl rfl rfl (by decide +kernel) ⟨Nat.le_of_ble_eq_true rfl, Nat.le_of_ble_eq_true rfl⟩) (wx_recv hK hP (by decide) qc_1 rfl) hK hP hS (fun _ h => h) rfl hl.1 rfl (lv_room (Nat.le_of_ble_eq_true rfl)) dX3_readNumber_38 ⟨Nat.zero_le _, Nat.zero_le _⟩ (fun H locs hP hS => ?_)
          refine lv_if_eq (tgt := 76) hx hb dX3_readNumber_41 (by decide) (fun c_41 => ?_) (fun c_41 => ?_)
          · refine lv_aload_n hx hb dX3_readNumber_76 rfl (lv_at hl 2 rfl) ?_
            refine wx_get hx hb hts hiX3 hown hK hP 1 (by decide) qc_1 rfl 2 (by decide) (hts (.fieldLink RX3 19 "PriceEdict$Tape" "at" "I") (by decide +kernel)) rfl dX3_readNumber_77 ?_
            refine lv_iload_n hx hb dX3_readNumber_80 rfl (lv_at hl 1 rfl) ?_
            refine lv_isub hx hb dX3_readNumber_81 ?_
            refine lv_topi (fun x_3 ex_3 => ?_)
            refine lv_istore (lv' := [(5, .int x_3), (4, .int z4), (3, .int x_1), (0, .ref (r 1)), (1, .int a1), (2, .int a2)]) hx hb dX3_readNumber_82 hl (by decide) rfl (fun ls hl => ?_)
            refine lv_iload hx hb dX3_readNumber_84 (lv_at hl 0 rfl) ?_
            refine lv_iconst (v := 1) hx hb dX3_readNumber_86 (by decide) ?_
            refine lv_icmp_lt (tgt := 108) hx hb dX3_readNumber_87 (by decide) (fun c_87 => ?_) (fun c_87 => ?_)
            · refine lv_aload_n hx hb dX3_readNumber_108 rfl (lv_at hl 3 rfl) ?_
              refine lv_iload_n hx hb dX3_readNumber_109 rfl (lv_at hl 2 rfl) ?_
              refine wx_put hr hx hb hts hiX3 tyX3 tyX3_ok nmX3 hown hK hP hS 1 (by decide) qc_1 rfl 3 (by decide) (hts (.fieldLink RX3 22 "PriceEdict$Tape" "wrong" "I") (by decide +kernel)) rfl (by decide +kernel) (fun _ => rfl) (Nat.le_of_ble_eq_true rfl) dX3_readNumber_110 (fun H locs hP hS => ?_)
              refine lv_iconst (v := (-1)) hx hb dX3_readNumber_113 (by decide) ?_
              exact wx_iret hx hb hret hlk hK hP hS (by subst ex_3; subst ex_1; rw [← hf_22, f_X3_readNumber_22]; rw [if_neg c_30, if_pos c_41, if_pos c_87]) (by subst ex_3; subst ex_1; rw [← hg_22, g_X3_readNumber_22]; rw [if_neg c_30, if_pos c_41, if_pos c_87]) dX3_readNumber_114
            · refine lv_iload hx hb dX3_readNumber_90 (lv_at hl 0 rfl) ?_
              refine lv_iconst (v := 4) hx hb dX3_readNumber_92 (by decide) ?_
              refine lv_icmp_gt (tgt := 108) hx hb dX3_readNumber_93 (by decide) (fun c_93 => ?_) (fun c_93 => ?_)
              · refine lv_aload_n hx hb dX3_readNumber_108 rfl (lv_at hl 3 rfl) ?_
                refine lv_iload_n hx hb dX3_readNumber_109 rfl (lv_at hl 2 rfl) ?_
                refine wx_put hr hx hb hts hiX3 tyX3 tyX3_ok nmX3 hown hK hP hS 1 (by decide) qc_1 rfl 3 (by decide) (hts (.fieldLink RX3 22 "PriceEdict$Tape" "wrong" "I") (by decide +kernel)) rfl (by decide +kernel) (fun _ => rfl) (Nat.le_of_ble_eq_true rfl) dX3_readNumber_110 (fun H locs hP hS => ?_)
                refine lv_iconst (v := (-1)) hx hb dX3_readNumber_113 (by decide) ?_
                exact wx_iret hx hb hret hlk hK hP hS (by subst ex_3; subst ex_1; rw [← hf_22, f_X3_readNumber_22]; rw [if_neg c_30, if_pos c_41, if_neg c_87, if_pos c_93]) (by subst ex_3; subst ex_1; rw [← hg_22, g_X3_readNumber_22]; rw [if_neg c_30, if_pos c_41, if_neg c_87, if_pos c_93]) dX3_readNumber_114
              · refine lv_iload hx hb dX3_readNumber_96 (lv_at hl 1 rfl) ?_
                refine lv_iload_n hx hb dX3_readNumber_98 rfl (lv_at hl 4 rfl) ?_
                refine lv_icmp_lt (tgt := 108) hx hb dX3_readNumber_99 (by decide) (fun c_99 => ?_) (fun c_99 => ?_)
                · refine lv_aload_n hx hb dX3_readNumber_108 rfl (lv_at hl 3 rfl) ?_
                  refine lv_iload_n hx hb dX3_readNumber_109 rfl (lv_at hl 2 rfl) ?_
                  refine wx_put hr hx hb hts hiX3 tyX3 tyX3_ok nmX3 hown hK hP hS 1 (by decide) qc_1 rfl 3 (by decide) (hts (.fieldLink RX3 22 "PriceEdict$Tape" "wrong" "I") (by decide +kernel)) rfl (by decide +kernel) (fun _ => rfl) (Nat.le_of_ble_eq_true rfl) dX3_readNumber_110 (fun H locs hP hS => ?_)
                  refine lv_iconst (v := (-1)) hx hb dX3_readNumber_113 (by decide) ?_
                  exact wx_iret hx hb hret hlk hK hP hS (by subst ex_3; subst ex_1; rw [← hf_22, f_X3_readNumber_22]; rw [if_neg c_30, if_pos c_41, if_neg c_87, if_neg c_93, if_pos c_99]) (by subst ex_3; subst ex_1; rw [← hg_22, g_X3_readNumber_22]; rw [if_neg c_30, if_pos c_41, if_neg c_87, if_neg c_93, if_pos c_99]) dX3_readNumber_114
                · refine lv_iload hx hb dX3_readNumber_102 (lv_at hl 1 rfl) ?_
                  refine lv_iload_n hx hb dX3_readNumber_104 rfl (lv_at hl 5 rfl) ?_
                  refine lv_icmp_le (tgt := 115) hx hb dX3_readNumber_105 (by decide) (fun c_105 => ?_) (fun c_105 => ?_)
                  · refine lv_iload hx hb dX3_readNumber_115 (lv_at hl 1 rfl) ?_
                    exact wx_iret hx hb hret hlk hK hP hS (by subst ex_3; subst ex_1; rw [← hf_22, f_X3_readNumber_22]; rw [if_neg c_30, if_pos c_41, if_neg c_87, if_neg c_93, if_neg c_99, if_pos c_105]) (by subst ex_3; subst ex_1; rw [← hg_22, g_X3_readNumber_22]; rw [if_neg c_30, if_pos c_41, if_neg c_87, if_neg c_93, if_neg c_99, if_pos c_105]) dX3_readNumber_117
                  · refine lv_aload_n hx hb dX3_readNumber_108 rfl (lv_at hl 3 rfl) ?_
                    refine lv_iload_n hx hb dX3_readNumber_109 rfl (lv_at hl 2 rfl) ?_
                    refine wx_put hr hx hb hts hiX3 tyX3 tyX3_ok nmX3 hown hK hP hS 1 (by decide) qc_1 rfl 3 (by decide) (hts (.fieldLink RX3 22 "PriceEdict$Tape" "wrong" "I") (by decide +kernel)) rfl (by decide +kernel) (fun _ => rfl) (Nat.le_of_ble_eq_true rfl) dX3_readNumber_110 (fun H locs hP hS => ?_)
                    refine lv_iconst (v := (-1)) hx hb dX3_readNumber_113 (by decide) ?_
                    exact wx_iret hx hb hret hlk hK hP hS (by subst ex_3; subst ex_1; rw [← hf_22, f_X3_readNumber_22]; rw [if_neg c_30, if_pos c_41, if_neg c_87, if_neg c_93, if_neg c_99, if_neg c_105]) (by subst ex_3; subst ex_1; rw [← hg_22, g_X3_readNumber_22]; rw [if_neg c_30, if_pos c_41, if_neg c_87, if_neg c_93, if_neg c_99, if_neg c_105]) dX3_readNumber_114
          · refine lv_iload hx hb dX3_readNumber_44 (lv_at hl 0 rfl) ?_
            refine lv_bipush (v := 10) hx hb dX3_readNumber_46 (by decide) ?_
            refine lv_imul hx hb dX3_readNumber_48 ?_
            refine lv_aload_n hx hb dX3_readNumber_49 rfl (lv_at hl 2 rfl) ?_
            refine lv_aload_n hx hb dX3_readNumber_50 rfl (lv_at hl 2 rfl) ?_
            refine wx_get hx hb hts hiX3 hown hK hP 1 (by decide) qc_1 rfl 2 (by decide) (hts (.fieldLink RX3 19 "PriceEdict$Tape" "at" "I") (by decide +kernel)) rfl dX3_readNumber_51 ?_
            refine wc_iV (k := 1) (C := RX3) (As := [.int (S1 1 2)]) (rest := [.int (z4 * (10 : Int32))]) ⟨hx, hb, hml, hown, hts⟩ (c_X3_byteAt l D c g hr S1 (S1 1 2) ⟨m1, hm1, he1⟩) (cwV 1 hts gX3_readNumber_X3_byteAt rfl rfl rfl (by decide +kernel) ⟨Nat.le_of_ble_eq_true rfl, Nat.le_of_ble_eq_true rfl⟩) (wx_recv hK hP (by decide) qc_1 rfl) hK hP hS (fun _ h => h) rfl hl.1 rfl (lv_room (Nat.le_of_ble_eq_true rfl)) dX3_readNumber_54 ⟨Nat.zero_le _, Nat.zero_le _⟩ (fun H locs hP hS => ?_)
            refine lv_iadd hx hb dX3_readNumber_57 ?_
            refine lv_bipush (v := 48) hx hb dX3_readNumber_58 (by decide) ?_
            refine lv_isub hx hb dX3_readNumber_60 ?_
            refine lv_topi (fun x_4 ex_4 => ?_)
            refine lv_istore (lv' := [(4, .int x_4), (3, .int x_1), (0, .ref (r 1)), (1, .int a1), (2, .int a2)]) hx hb dX3_readNumber_61 hl (by decide) rfl (fun ls hl => ?_)
            refine lv_aload_n hx hb dX3_readNumber_63 rfl (lv_at hl 2 rfl) ?_
            refine lv_dup hx hb dX3_readNumber_64 rfl ?_
            refine wx_get hx hb hts hiX3 hown hK hP 1 (by decide) qc_1 rfl 2 (by decide) (hts (.fieldLink RX3 19 "PriceEdict$Tape" "at" "I") (by decide +kernel)) rfl dX3_readNumber_65 ?_
            refine lv_iconst (v := 1) hx hb dX3_readNumber_68 (by decide) ?_
            refine lv_iadd hx hb dX3_readNumber_69 ?_
            refine wx_put hr hx hb hts hiX3 tyX3 tyX3_ok nmX3 hown hK hP hS 1 (by decide) qc_1 rfl 2 (by decide) (hts (.fieldLink RX3 19 "PriceEdict$Tape" "at" "I") (by decide +kernel)) rfl (by decide +kernel) (fun _ => rfl) (Nat.le_of_ble_eq_true rfl) dX3_readNumber_70 (fun H locs hP hS => ?_)
            refine lv_goto (tgt := 22) hx hb dX3_readNumber_73 (by decide) ?_
            exact ih_22 (k + 1) x_4 (up2 S1 1 2 ((S1 1 2) + (1 : Int32))) _ _ _ (by omega) (by rw [up2_same]; exact qi_add hp1) (by rw [up2_ne _ _ (Or.inr (by decide))]; exact he1) (by subst ex_4; subst ex_1; rw [← hf_22, f_X3_readNumber_22]; rw [if_neg c_30, if_neg c_41]) (by subst ex_4; subst ex_1; rw [← hg_22, g_X3_readNumber_22]; rw [if_neg c_30, if_neg c_41]) hP hS (lv_sub hl [0, 1, 2, 3, 4] rfl)
    exact L_22 401 m0 (0 : Int32) (g_X3_skipBlanks S) _ _ _ (by omega) em0 em1 (by subst ex_1; unfold f_X3_readNumber; rw [if_pos c_5]) (by subst ex_1; unfold g_X3_readNumber; rw [if_pos c_5]) hP hS (lv_sub hl [0, 1, 2, 3, 4] rfl)
  · refine lv_iconst (v := (-1)) hx hb dX3_readNumber_8 (by decide) ?_
    exact wx_iret hx hb hret hlk hK hP hS (by unfold f_X3_readNumber; rw [if_neg c_5]) (by unfold g_X3_readNumber; rw [if_neg c_5]) dX3_readNumber_9
theorem fr_X3_readNumber_22 (a1 a2 y3 : Int32) : ∀ (n : Nat) (S : qw_St) (z : Int32) (k j : Nat), (k ≠ 1 ∨ (j ≠ 2 ∧ j ≠ 3)) → g_X3_readNumber_22 a1 a2 y3 n S z k j = S k j := by
  intro n
  induction n with
  | zero => intro S z k j h; rfl
  | succ n ih =>
    intro S z k j h
    rw [g_X3_readNumber_22]
    repeat' (first | rfl | rw [up2_ne _ _ (h.imp id (fun q => q.2))] | (rw [ih _ _ _ _ h, up2_ne _ _ (h.imp id (fun q => q.1))]) | split)
theorem fr_X3_readNumber (S : qw_St) (a1 a2 : Int32) {k : Nat} (j : Nat) (h : k ≠ 1 ∨ (j ≠ 2 ∧ j ≠ 3)) : g_X3_readNumber S a1 a2 k j = S k j := by
  unfold g_X3_readNumber
  split
  · rw [fr_X3_readNumber_22 _ _ _ _ _ _ _ _ h, fr_X3_skipBlanks _ _ (h.imp id (fun q => q.1))]
  · rfl
theorem ti_X3_readNumber_22 (a1 a2 y3 : Int32) : ∀ (n : Nat) (S : qw_St) (z : Int32), TI S → TI (g_X3_readNumber_22 a1 a2 y3 n S z) := by
  intro n
  induction n with
  | zero => intro S z h; exact h
  | succ n ih =>
    intro S z h
    have hw : ∀ v, TI (up2 S 1 3 v) := fun v => ⟨by rw [up2_ne _ _ (Or.inr (by decide))]; exact h.1, by rw [up2_ne _ _ (Or.inr (by decide))]; exact h.2⟩
    rw [g_X3_readNumber_22]
    split
    · repeat' (first | exact h | exact hw _ | split)
    · next c =>
      obtain ⟨m1, hm1, em1⟩ := id h.1
      obtain ⟨m0, hm0, em0⟩ := id h.2
      have hlt : m0 < m1 := qi_ltn em0 (by omega) em1 (by omega) c
      have h2 : TI (up2 S 1 2 (S 1 2 + 1)) := ⟨by rw [up2_ne _ _ (Or.inr (by decide))]; exact h.1, by rw [up2_same]; exact ⟨m0 + 1, by omega, qi_add em0⟩⟩
      repeat' (first | exact h | exact hw _ | exact ih _ _ h2 | split)
theorem ti_X3_readNumber {S : qw_St} (a1 a2 : Int32) (h : TI S) : TI (g_X3_readNumber S a1 a2) := by
  unfold g_X3_readNumber
  split
  · exact ti_X3_readNumber_22 _ _ _ _ _ _ (ti_X3_skipBlanks h)
  · exact h
def g_X3_readCap (S : qw_St) (d : Nat) : qw_St := (if ((g_X3_readNumber (g_X3_readNumber S (0 : Int32) (5 : Int32)) (1 : Int32) (9999 : Int32)) 1 3) = (-1 : Int32) then (g_X0_capByPrice (g_X3_readNumber (g_X3_readNumber S (0 : Int32) (5 : Int32)) (1 : Int32) (9999 : Int32)) d (f_X3_readNumber S (0 : Int32) (5 : Int32)) (f_X3_readNumber (g_X3_readNumber S (0 : Int32) (5 : Int32)) (1 : Int32) (9999 : Int32))) else (g_X3_readNumber (g_X3_readNumber S (0 : Int32) (5 : Int32)) (1 : Int32) (9999 : Int32)))
set_option maxHeartbeats 4000000 in
set_option maxRecDepth 100000 in
theorem c_X3_readCap (l : Launch) (D : va_G) {r : Nat → Nat} (c : Nat → ClassId) (g : Nat → Int64) (hr : qw_inj r) (S : qw_St) (d : Nat) (hd : d < 21) (hT : TI S) : MV l D r c g yX3_readCap wsX3_readCap ({ frames := 3, cells := 0, slots := 0, locals := 69 }) [.ref (r 1), .ref (r (16 + 3 * d))] S (g_X3_readCap S d) := by
  have hiX3 : ∀ w ∈ wsX30, w ∈ wsX3_readCap := by decide +kernel
  refine wx_of (cc := cX3_readCap) (nL := 4) (ret := none) (lvs := [(0, .ref (r 1)), (1, .ref (r (16 + 3 * d)))]) (by decide) rfl rfl (Nat.le_of_ble_eq_true rfl) ?_
  intro p e s m below meth c0 ls hx hb hret hml hts hown hlk hK hP hS hl
  have hP : qw_P D r c g S s.heap := hP
  refine lv_aload_n hx hb dX3_readCap_0 rfl (lv_at hl 0 rfl) ?_
  refine lv_iconst (v := 0) hx hb dX3_readCap_1 (by decide) ?_
  refine lv_iconst (v := 5) hx hb dX3_readCap_2 (by decide) ?_
  refine wc_iV (k := 1) (C := RX3) (As := [.int (0 : Int32), .int (5 : Int32)]) (rest := []) ⟨hx, hb, hml, hown, hts⟩ (c_X3_readNumber l D c g hr S (0 : Int32) (5 : Int32) hT) (cwV 2 hts gX3_readCap_X3_readNumber rfl rfl rfl (by decide +kernel) ⟨Nat.le_of_ble_eq_true rfl, Nat.le_of_ble_eq_true rfl⟩) (wx_recv hK hP (by decide) qc_1 rfl) hK hP hS (fun _ h => h) rfl hl.1 rfl (lv_room (Nat.le_of_ble_eq_true rfl)) dX3_readCap_3 ⟨Nat.zero_le _, Nat.zero_le _⟩ (fun H locs hP hS => ?_)
  refine lv_topi (fun x_1 ex_1 => ?_)
  refine lv_istore_n (lv' := [(2, .int x_1), (0, .ref (r 1)), (1, .ref (r (16 + 3 * d)))]) hx hb dX3_readCap_6 rfl hl (by decide) rfl (fun ls hl => ?_)
  refine lv_aload_n hx hb dX3_readCap_7 rfl (lv_at hl 1 rfl) ?_
  refine lv_iconst (v := 1) hx hb dX3_readCap_8 (by decide) ?_
  refine lv_sipush (v := 9999) hx hb dX3_readCap_9 (by decide) ?_
  refine wc_iV (k := 1) (C := RX3) (As := [.int (1 : Int32), .int (9999 : Int32)]) (rest := []) ⟨hx, hb, hml, hown, hts⟩ (c_X3_readNumber l D c g hr (g_X3_readNumber S (0 : Int32) (5 : Int32)) (1 : Int32) (9999 : Int32) (ti_X3_readNumber _ _ hT)) (cwV 2 hts gX3_readCap_X3_readNumber rfl rfl rfl (by decide +kernel) ⟨Nat.le_of_ble_eq_true rfl, Nat.le_of_ble_eq_true rfl⟩) (wx_recv hK hP (by decide) qc_1 rfl) hK hP hS (fun _ h => h) rfl hl.1 rfl (lv_room (Nat.le_of_ble_eq_true rfl)) dX3_readCap_12 ⟨Nat.zero_le _, Nat.zero_le _⟩ (fun H locs hP hS => ?_)
  refine lv_topi (fun x_2 ex_2 => ?_)
  refine lv_istore_n (lv' := [(3, .int x_2), (2, .int x_1), (0, .ref (r 1)), (1, .ref (r (16 + 3 * d)))]) hx hb dX3_readCap_15 rfl hl (by decide) rfl (fun ls hl => ?_)
  refine lv_aload_n hx hb dX3_readCap_16 rfl (lv_at hl 2 rfl) ?_
  refine wx_get hx hb hts hiX3 hown hK hP 1 (by decide) qc_1 rfl 3 (by decide) (hts (.fieldLink RX3 22 "PriceEdict$Tape" "wrong" "I") (by decide +kernel)) rfl dX3_readCap_17 ?_
  refine lv_iconst (v := (-1)) hx hb dX3_readCap_20 (by decide) ?_
  refine lv_icmp_ne (tgt := 30) hx hb dX3_readCap_21 (by decide) (fun c_21 => ?_) (fun c_21 => ?_)
  · exact wx_vret hx hb hret hlk hK hP hS (by subst ex_2; subst ex_1; unfold g_X3_readCap; rw [if_neg c_21]) dX3_readCap_30
  · refine lv_aload_n hx hb dX3_readCap_24 rfl (lv_at hl 3 rfl) ?_
    refine lv_iload_n hx hb dX3_readCap_25 rfl (lv_at hl 1 rfl) ?_
    refine lv_iload_n hx hb dX3_readCap_26 rfl (lv_at hl 0 rfl) ?_
    refine wc_vV (k := (16 + 3 * d)) (C := RX0) (As := [.int x_1, .int x_2]) (rest := []) ⟨hx, hb, hml, hown, hts⟩ (c_X0_capByPrice l D c g hr (g_X3_readNumber (g_X3_readNumber S (0 : Int32) (5 : Int32)) (1 : Int32) (9999 : Int32)) d x_1 x_2 hd) (cwV 2 hts gX3_readCap_X0_capByPrice rfl rfl rfl (by decide +kernel) ⟨Nat.le_of_ble_eq_true rfl, Nat.le_of_ble_eq_true rfl⟩) (wx_recv hK hP (by omega) (qc_dec hd) rfl) hK hP hS (fun _ h => h) rfl hl.1 rfl (lv_room (Nat.le_of_ble_eq_true rfl)) dX3_readCap_27 ⟨Nat.zero_le _, Nat.zero_le _⟩ (fun H locs hP hS => ?_)
    exact wx_vret hx hb hret hlk hK hP hS (by subst ex_2; subst ex_1; unfold g_X3_readCap; rw [if_pos c_21]) dX3_readCap_30
def g_X3_readLine (S : qw_St) (d : Nat) : qw_St := (if ((g_X3_readNumber (g_X3_readNumber S (0 : Int32) (5 : Int32)) (0 : Int32) (29 : Int32)) 1 3) = (-1 : Int32) then (g_X0_capByLine (g_X3_readNumber (g_X3_readNumber S (0 : Int32) (5 : Int32)) (0 : Int32) (29 : Int32)) d (f_X3_readNumber S (0 : Int32) (5 : Int32)) (f_X3_readNumber (g_X3_readNumber S (0 : Int32) (5 : Int32)) (0 : Int32) (29 : Int32))) else (g_X3_readNumber (g_X3_readNumber S (0 : Int32) (5 : Int32)) (0 : Int32) (29 : Int32)))
set_option maxHeartbeats 4000000 in
set_option maxRecDepth 100000 in
theorem c_X3_readLine (l : Launch) (D : va_G) {r : Nat → Nat} (c : Nat → ClassId) (g : Nat → Int64) (hr : qw_inj r) (S : qw_St) (d : Nat) (hd : d < 21) (hT : TI S) : MV l D r c g yX3_readLine wsX3_readLine ({ frames := 3, cells := 0, slots := 0, locals := 69 }) [.ref (r 1), .ref (r (16 + 3 * d))] S (g_X3_readLine S d) := by
  have hiX3 : ∀ w ∈ wsX30, w ∈ wsX3_readLine := by decide +kernel
  refine wx_of (cc := cX3_readLine) (nL := 4) (ret := none) (lvs := [(0, .ref (r 1)), (1, .ref (r (16 + 3 * d)))]) (by decide) rfl rfl (Nat.le_of_ble_eq_true rfl) ?_
  intro p e s m below meth c0 ls hx hb hret hml hts hown hlk hK hP hS hl
  have hP : qw_P D r c g S s.heap := hP
  refine lv_aload_n hx hb dX3_readLine_0 rfl (lv_at hl 0 rfl) ?_
  refine lv_iconst (v := 0) hx hb dX3_readLine_1 (by decide) ?_
  refine lv_iconst (v := 5) hx hb dX3_readLine_2 (by decide) ?_
  refine wc_iV (k := 1) (C := RX3) (As := [.int (0 : Int32), .int (5 : Int32)]) (rest := []) ⟨hx, hb, hml, hown, hts⟩ (c_X3_readNumber l D c g hr S (0 : Int32) (5 : Int32) hT) (cwV 2 hts gX3_readLine_X3_readNumber rfl rfl rfl (by decide +kernel) ⟨Nat.le_of_ble_eq_true rfl, Nat.le_of_ble_eq_true rfl⟩) (wx_recv hK hP (by decide) qc_1 rfl) hK hP hS (fun _ h => h) rfl hl.1 rfl (lv_room (Nat.le_of_ble_eq_true rfl)) dX3_readLine_3 ⟨Nat.zero_le _, Nat.zero_le _⟩ (fun H locs hP hS => ?_)
  refine lv_topi (fun x_1 ex_1 => ?_)
  refine lv_istore_n (lv' := [(2, .int x_1), (0, .ref (r 1)), (1, .ref (r (16 + 3 * d)))]) hx hb dX3_readLine_6 rfl hl (by decide) rfl (fun ls hl => ?_)
  refine lv_aload_n hx hb dX3_readLine_7 rfl (lv_at hl 1 rfl) ?_
  refine lv_iconst (v := 0) hx hb dX3_readLine_8 (by decide) ?_
  refine lv_bipush (v := 29) hx hb dX3_readLine_9 (by decide) ?_
  refine wc_iV (k := 1) (C := RX3) (As := [.int (0 : Int32), .int (29 : Int32)]) (rest := []) ⟨hx, hb, hml, hown, hts⟩ (c_X3_readNumber l D c g hr (g_X3_readNumber S (0 : Int32) (5 : Int32)) (0 : Int32) (29 : Int32) (ti_X3_readNumber _ _ hT)) (cwV 2 hts gX3_readLine_X3_readNumber rfl rfl rfl (by decide +kernel) ⟨Nat.le_of_ble_eq_true rfl, Nat.le_of_ble_eq_true rfl⟩) (wx_recv hK hP (by decide) qc_1 rfl) hK hP hS (fun _ h => h) rfl hl.1 rfl (lv_room (Nat.le_of_ble_eq_true rfl)) dX3_readLine_11 ⟨Nat.zero_le _, Nat.zero_le _⟩ (fun H locs hP hS => ?_)
  refine lv_topi (fun x_2 ex_2 => ?_)
  refine lv_istore_n (lv' := [(3, .int x_2), (2, .int x_1), (0, .ref (r 1)), (1, .ref (r (16 + 3 * d)))]) hx hb dX3_readLine_14 rfl hl (by decide) rfl (fun ls hl => ?_)
  refine lv_aload_n hx hb dX3_readLine_15 rfl (lv_at hl 2 rfl) ?_
  refine wx_get hx hb hts hiX3 hown hK hP 1 (by decide) qc_1 rfl 3 (by decide) (hts (.fieldLink RX3 22 "PriceEdict$Tape" "wrong" "I") (by decide +kernel)) rfl dX3_readLine_16 ?_
  refine lv_iconst (v := (-1)) hx hb dX3_readLine_19 (by decide) ?_
  refine lv_icmp_ne (tgt := 29) hx hb dX3_readLine_20 (by decide) (fun c_20 => ?_) (fun c_20 => ?_)
  · exact wx_vret hx hb hret hlk hK hP hS (by subst ex_2; subst ex_1; unfold g_X3_readLine; rw [if_neg c_20]) dX3_readLine_29
  · refine lv_aload_n hx hb dX3_readLine_23 rfl (lv_at hl 3 rfl) ?_
    refine lv_iload_n hx hb dX3_readLine_24 rfl (lv_at hl 1 rfl) ?_
    refine lv_iload_n hx hb dX3_readLine_25 rfl (lv_at hl 0 rfl) ?_
    refine wc_vV (k := (16 + 3 * d)) (C := RX0) (As := [.int x_1, .int x_2]) (rest := []) ⟨hx, hb, hml, hown, hts⟩ (c_X0_capByLine l D c g hr (g_X3_readNumber (g_X3_readNumber S (0 : Int32) (5 : Int32)) (0 : Int32) (29 : Int32)) d x_1 x_2 hd) (cwV 2 hts gX3_readLine_X0_capByLine rfl rfl rfl (by decide +kernel) ⟨Nat.le_of_ble_eq_true rfl, Nat.le_of_ble_eq_true rfl⟩) (wx_recv hK hP (by omega) (qc_dec hd) rfl) hK hP hS (fun _ h => h) rfl hl.1 rfl (lv_room (Nat.le_of_ble_eq_true rfl)) dX3_readLine_26 ⟨Nat.zero_le _, Nat.zero_le _⟩ (fun H locs hP hS => ?_)
    exact wx_vret hx hb hret hlk hK hP hS (by subst ex_2; subst ex_1; unfold g_X3_readLine; rw [if_pos c_20]) dX3_readLine_29
def g_X3_readCarriage (S : qw_St) (d : Nat) : qw_St := (if ((g_X3_readNumber S (0 : Int32) (99 : Int32)) 1 3) = (-1 : Int32) then (up2 (g_X3_readNumber S (0 : Int32) (99 : Int32)) (16 + 3 * d) 2 (f_X3_readNumber S (0 : Int32) (99 : Int32))) else (g_X3_readNumber S (0 : Int32) (99 : Int32)))
set_option maxHeartbeats 4000000 in
set_option maxRecDepth 100000 in
theorem c_X3_readCarriage (l : Launch) (D : va_G) {r : Nat → Nat} (c : Nat → ClassId) (g : Nat → Int64) (hr : qw_inj r) (S : qw_St) (d : Nat) (hd : d < 21) (hT : TI S) : MV l D r c g yX3_readCarriage wsX3_readCarriage ({ frames := 3, cells := 0, slots := 0, locals := 69 }) [.ref (r 1), .ref (r (16 + 3 * d))] S (g_X3_readCarriage S d) := by
  have hiX0 : ∀ w ∈ wsX00, w ∈ wsX3_readCarriage := by decide +kernel
  have hiX3 : ∀ w ∈ wsX30, w ∈ wsX3_readCarriage := by decide +kernel
  refine wx_of (cc := cX3_readCarriage) (nL := 3) (ret := none) (lvs := [(0, .ref (r 1)), (1, .ref (r (16 + 3 * d)))]) (by decide) rfl rfl (Nat.le_of_ble_eq_true rfl) ?_
  intro p e s m below meth c0 ls hx hb hret hml hts hown hlk hK hP hS hl
  have hP : qw_P D r c g S s.heap := hP
  refine lv_aload_n hx hb dX3_readCarriage_0 rfl (lv_at hl 0 rfl) ?_
  refine lv_iconst (v := 0) hx hb dX3_readCarriage_1 (by decide) ?_
  refine lv_bipush (v := 99) hx hb dX3_readCarriage_2 (by decide) ?_
  refine wc_iV (k := 1) (C := RX3) (As := [.int (0 : Int32), .int (99 : Int32)]) (rest := []) ⟨hx, hb, hml, hown, hts⟩ (c_X3_readNumber l D c g hr S (0 : Int32) (99 : Int32) (by first | assumption | omega)) (cwV 2 hts gX3_readCarriage_X3_readNumber rfl rfl rfl (by decide +kernel) ⟨Nat.le_of_ble_eq_true rfl, Nat.le_of_ble_eq_true rfl⟩) (wx_recv hK hP (by decide) qc_1 rfl) hK hP hS (fun _ h => h) rfl hl.1 rfl (lv_room (Nat.le_of_ble_eq_true rfl)) dX3_readCarriage_4 ⟨Nat.zero_le _, Nat.zero_le _⟩ (fun H locs hP hS => ?_)
  refine lv_topi (fun x_1 ex_1 => ?_)
  refine lv_istore_n (lv' := [(2, .int x_1), (0, .ref (r 1)), (1, .ref (r (16 + 3 * d)))]) hx hb dX3_readCarriage_7 rfl hl (by decide) rfl (fun ls hl => ?_)
  refine lv_aload_n hx hb dX3_readCarriage_8 rfl (lv_at hl 1 rfl) ?_
  refine wx_get hx hb hts hiX3 hown hK hP 1 (by decide) qc_1 rfl 3 (by decide) (hts (.fieldLink RX3 22 "PriceEdict$Tape" "wrong" "I") (by decide +kernel)) rfl dX3_readCarriage_9 ?_
  refine lv_iconst (v := (-1)) hx hb dX3_readCarriage_12 (by decide) ?_
  refine lv_icmp_ne (tgt := 21) hx hb dX3_readCarriage_13 (by decide) (fun c_13 => ?_) (fun c_13 => ?_)
  · exact wx_vret hx hb hret hlk hK hP hS (by subst ex_1; unfold g_X3_readCarriage; rw [if_neg c_13]) dX3_readCarriage_21
  · refine lv_aload_n hx hb dX3_readCarriage_16 rfl (lv_at hl 2 rfl) ?_
    refine lv_iload_n hx hb dX3_readCarriage_17 rfl (lv_at hl 0 rfl) ?_
    refine wx_put hr hx hb hts hiX0 tyX0 tyX0_ok nmX0 hown hK hP hS (16 + 3 * d) (by omega) (qc_dec hd) rfl 2 (by decide) (hts (.fieldLink RX3 84 "PriceEdict$Decree" "carriage" "I") (by decide +kernel)) rfl (by decide +kernel) (fun _ => rfl) (Nat.le_of_ble_eq_true rfl) dX3_readCarriage_18 (fun H locs hP hS => ?_)
    exact wx_vret hx hb hret hlk hK hP hS (by subst ex_1; unfold g_X3_readCarriage; rw [if_pos c_13]) dX3_readCarriage_21
def g_X3_readCredit (S : qw_St) (d : Nat) : qw_St := (if ((g_X3_readNumber S (0 : Int32) (100 : Int32)) 1 3) = (-1 : Int32) then (up2 (g_X3_readNumber S (0 : Int32) (100 : Int32)) (16 + 3 * d) 3 (f_X3_readNumber S (0 : Int32) (100 : Int32))) else (g_X3_readNumber S (0 : Int32) (100 : Int32)))
set_option maxHeartbeats 4000000 in
set_option maxRecDepth 100000 in
theorem c_X3_readCredit (l : Launch) (D : va_G) {r : Nat → Nat} (c : Nat → ClassId) (g : Nat → Int64) (hr : qw_inj r) (S : qw_St) (d : Nat) (hd : d < 21) (hT : TI S) : MV l D r c g yX3_readCredit wsX3_readCredit ({ frames := 3, cells := 0, slots := 0, locals := 69 }) [.ref (r 1), .ref (r (16 + 3 * d))] S (g_X3_readCredit S d) := by
  have hiX0 : ∀ w ∈ wsX00, w ∈ wsX3_readCredit := by decide +kernel
  have hiX3 : ∀ w ∈ wsX30, w ∈ wsX3_readCredit := by decide +kernel
  refine wx_of (cc := cX3_readCredit) (nL := 3) (ret := none) (lvs := [(0, .ref (r 1)), (1, .ref (r (16 + 3 * d)))]) (by decide) rfl rfl (Nat.le_of_ble_eq_true rfl) ?_
  intro p e s m below meth c0 ls hx hb hret hml hts hown hlk hK hP hS hl
  have hP : qw_P D r c g S s.heap := hP
  refine lv_aload_n hx hb dX3_readCredit_0 rfl (lv_at hl 0 rfl) ?_
  refine lv_iconst (v := 0) hx hb dX3_readCredit_1 (by decide) ?_
  refine lv_bipush (v := 100) hx hb dX3_readCredit_2 (by decide) ?_
  refine wc_iV (k := 1) (C := RX3) (As := [.int (0 : Int32), .int (100 : Int32)]) (rest := []) ⟨hx, hb, hml, hown, hts⟩ (c_X3_readNumber l D c g hr S (0 : Int32) (100 : Int32) (by first | assumption | omega)) (cwV 2 hts gX3_readCredit_X3_readNumber rfl rfl rfl (by decide +kernel) ⟨Nat.le_of_ble_eq_true rfl, Nat.le_of_ble_eq_true rfl⟩) (wx_recv hK hP (by decide) qc_1 rfl) hK hP hS (fun _ h => h) rfl hl.1 rfl (lv_room (Nat.le_of_ble_eq_true rfl)) dX3_readCredit_4 ⟨Nat.zero_le _, Nat.zero_le _⟩ (fun H locs hP hS => ?_)
  refine lv_topi (fun x_1 ex_1 => ?_)
  refine lv_istore_n (lv' := [(2, .int x_1), (0, .ref (r 1)), (1, .ref (r (16 + 3 * d)))]) hx hb dX3_readCredit_7 rfl hl (by decide) rfl (fun ls hl => ?_)
  refine lv_aload_n hx hb dX3_readCredit_8 rfl (lv_at hl 1 rfl) ?_
  refine wx_get hx hb hts hiX3 hown hK hP 1 (by decide) qc_1 rfl 3 (by decide) (hts (.fieldLink RX3 22 "PriceEdict$Tape" "wrong" "I") (by decide +kernel)) rfl dX3_readCredit_9 ?_
  refine lv_iconst (v := (-1)) hx hb dX3_readCredit_12 (by decide) ?_
  refine lv_icmp_ne (tgt := 21) hx hb dX3_readCredit_13 (by decide) (fun c_13 => ?_) (fun c_13 => ?_)
  · exact wx_vret hx hb hret hlk hK hP hS (by subst ex_1; unfold g_X3_readCredit; rw [if_neg c_13]) dX3_readCredit_21
  · refine lv_aload_n hx hb dX3_readCredit_16 rfl (lv_at hl 2 rfl) ?_
    refine lv_iload_n hx hb dX3_readCredit_17 rfl (lv_at hl 0 rfl) ?_
    refine wx_put hr hx hb hts hiX0 tyX0 tyX0_ok nmX0 hown hK hP hS (16 + 3 * d) (by omega) (qc_dec hd) rfl 3 (by decide) (hts (.fieldLink RX3 86 "PriceEdict$Decree" "credit" "I") (by decide +kernel)) rfl (by decide +kernel) (fun _ => rfl) (Nat.le_of_ble_eq_true rfl) dX3_readCredit_18 (fun H locs hP hS => ?_)
    exact wx_vret hx hb hret hlk hK hP hS (by subst ex_1; unfold g_X3_readCredit; rw [if_pos c_13]) dX3_readCredit_21
def g_X3_readFree (S : qw_St) (d : Nat) : qw_St := (if ((g_X3_readNumber S (0 : Int32) (7 : Int32)) 1 3) = (-1 : Int32) then (g_X0_setFree (g_X3_readNumber S (0 : Int32) (7 : Int32)) d (f_X3_readNumber S (0 : Int32) (7 : Int32))) else (g_X3_readNumber S (0 : Int32) (7 : Int32)))
set_option maxHeartbeats 4000000 in
set_option maxRecDepth 100000 in
theorem c_X3_readFree (l : Launch) (D : va_G) {r : Nat → Nat} (c : Nat → ClassId) (g : Nat → Int64) (hr : qw_inj r) (S : qw_St) (d : Nat) (hd : d < 21) (hT : TI S) : MV l D r c g yX3_readFree wsX3_readFree ({ frames := 3, cells := 0, slots := 0, locals := 69 }) [.ref (r 1), .ref (r (16 + 3 * d))] S (g_X3_readFree S d) := by
  have hiX3 : ∀ w ∈ wsX30, w ∈ wsX3_readFree := by decide +kernel
  refine wx_of (cc := cX3_readFree) (nL := 3) (ret := none) (lvs := [(0, .ref (r 1)), (1, .ref (r (16 + 3 * d)))]) (by decide) rfl rfl (Nat.le_of_ble_eq_true rfl) ?_
  intro p e s m below meth c0 ls hx hb hret hml hts hown hlk hK hP hS hl
  have hP : qw_P D r c g S s.heap := hP
  refine lv_aload_n hx hb dX3_readFree_0 rfl (lv_at hl 0 rfl) ?_
  refine lv_iconst (v := 0) hx hb dX3_readFree_1 (by decide) ?_
  refine lv_bipush (v := 7) hx hb dX3_readFree_2 (by decide) ?_
  refine wc_iV (k := 1) (C := RX3) (As := [.int (0 : Int32), .int (7 : Int32)]) (rest := []) ⟨hx, hb, hml, hown, hts⟩ (c_X3_readNumber l D c g hr S (0 : Int32) (7 : Int32) (by first | assumption | omega)) (cwV 2 hts gX3_readFree_X3_readNumber rfl rfl rfl (by decide +kernel) ⟨Nat.le_of_ble_eq_true rfl, Nat.le_of_ble_eq_true rfl⟩) (wx_recv hK hP (by decide) qc_1 rfl) hK hP hS (fun _ h => h) rfl hl.1 rfl (lv_room (Nat.le_of_ble_eq_true rfl)) dX3_readFree_4 ⟨Nat.zero_le _, Nat.zero_le _⟩ (fun H locs hP hS => ?_)
  refine lv_topi (fun x_1 ex_1 => ?_)
  refine lv_istore_n (lv' := [(2, .int x_1), (0, .ref (r 1)), (1, .ref (r (16 + 3 * d)))]) hx hb dX3_readFree_7 rfl hl (by decide) rfl (fun ls hl => ?_)
  refine lv_aload_n hx hb dX3_readFree_8 rfl (lv_at hl 1 rfl) ?_
  refine wx_get hx hb hts hiX3 hown hK hP 1 (by decide) qc_1 rfl 3 (by decide) (hts (.fieldLink RX3 22 "PriceEdict$Tape" "wrong" "I") (by decide +kernel)) rfl dX3_readFree_9 ?_
  refine lv_iconst (v := (-1)) hx hb dX3_readFree_12 (by decide) ?_
  refine lv_icmp_ne (tgt := 21) hx hb dX3_readFree_13 (by decide) (fun c_13 => ?_) (fun c_13 => ?_)
  · exact wx_vret hx hb hret hlk hK hP hS (by subst ex_1; unfold g_X3_readFree; rw [if_neg c_13]) dX3_readFree_21
  · refine lv_aload_n hx hb dX3_readFree_16 rfl (lv_at hl 2 rfl) ?_
    refine lv_iload_n hx hb dX3_readFree_17 rfl (lv_at hl 0 rfl) ?_
    refine wc_vV (k := (16 + 3 * d)) (C := RX0) (As := [.int x_1]) (rest := []) ⟨hx, hb, hml, hown, hts⟩ (c_X0_setFree l D c g hr (g_X3_readNumber S (0 : Int32) (7 : Int32)) d x_1 hd) (cwV 1 hts gX3_readFree_X0_setFree rfl rfl rfl (by decide +kernel) ⟨Nat.le_of_ble_eq_true rfl, Nat.le_of_ble_eq_true rfl⟩) (wx_recv hK hP (by omega) (qc_dec hd) rfl) hK hP hS (fun _ h => h) rfl hl.1 rfl (lv_room (Nat.le_of_ble_eq_true rfl)) dX3_readFree_18 ⟨Nat.zero_le _, Nat.zero_le _⟩ (fun H locs hP hS => ?_)
    exact wx_vret hx hb hret hlk hK hP hS (by subst ex_1; unfold g_X3_readFree; rw [if_pos c_13]) dX3_readFree_21
def g_X3_readSemicolon (S : qw_St) : qw_St := (if (S 1 3) = (-1 : Int32) then (if ((g_X3_skipBlanks S) 1 2) < (S 1 1) then (if (f_X3_byteAt (g_X3_skipBlanks S) ((g_X3_skipBlanks S) 1 2)) = (59 : Int32) then (up2 (g_X3_skipBlanks S) 1 2 (((g_X3_skipBlanks S) 1 2) + (1 : Int32))) else (up2 (g_X3_skipBlanks S) 1 3 ((g_X3_skipBlanks S) 1 2))) else (g_X3_skipBlanks S)) else S)
def f_X3_readSemicolon (S : qw_St) : Int32 := (if (S 1 3) = (-1 : Int32) then (if ((g_X3_skipBlanks S) 1 2) < (S 1 1) then (if (f_X3_byteAt (g_X3_skipBlanks S) ((g_X3_skipBlanks S) 1 2)) = (59 : Int32) then (1 : Int32) else (0 : Int32)) else (0 : Int32)) else (0 : Int32))
set_option maxHeartbeats 4000000 in
set_option maxRecDepth 100000 in
theorem c_X3_readSemicolon (l : Launch) (D : va_G) {r : Nat → Nat} (c : Nat → ClassId) (g : Nat → Int64) (hr : qw_inj r) (S : qw_St) (hT : TI S) : MI l D r c g yX3_readSemicolon wsX3_readSemicolon ({ frames := 2, cells := 0, slots := 0, locals := 41 }) [.ref (r 1)] S (f_X3_readSemicolon S) (g_X3_readSemicolon S) := by
  have hiX3 : ∀ w ∈ wsX30, w ∈ wsX3_readSemicolon := by decide +kernel
  refine wx_of (cc := cX3_readSemicolon) (nL := 1) (ret := (some .boolean)) (lvs := [(0, .ref (r 1))]) (by decide) rfl rfl (Nat.le_of_ble_eq_true rfl) ?_
  intro p e s m below meth c0 ls hx hb hret hml hts hown hlk hK hP hS hl
  have hP : qw_P D r c g S s.heap := hP
  refine lv_aload_n hx hb dX3_readSemicolon_0 rfl (lv_at hl 0 rfl) ?_
  refine wx_get hx hb hts hiX3 hown hK hP 1 (by decide) qc_1 rfl 3 (by decide) (hts (.fieldLink RX3 22 "PriceEdict$Tape" "wrong" "I") (by decide +kernel)) rfl dX3_readSemicolon_1 ?_
  refine lv_iconst (v := (-1)) hx hb dX3_readSemicolon_4 (by decide) ?_
  refine lv_icmp_eq (tgt := 10) hx hb dX3_readSemicolon_5 (by decide) (fun c_5 => ?_) (fun c_5 => ?_)
  · refine lv_aload_n hx hb dX3_readSemicolon_10 rfl (lv_at hl 0 rfl) ?_
    refine wc_vV (k := 1) (C := RX3) (As := []) (rest := []) ⟨hx, hb, hml, hown, hts⟩ (c_X3_skipBlanks l D c g hr S (by first | assumption | omega)) (cwV 0 hts gX3_readSemicolon_X3_skipBlanks rfl rfl rfl (by decide +kernel) ⟨Nat.le_of_ble_eq_true rfl, Nat.le_of_ble_eq_true rfl⟩) (wx_recv hK hP (by decide) qc_1 rfl) hK hP hS (fun _ h => h) rfl hl.1 rfl (lv_room (Nat.le_of_ble_eq_true rfl)) dX3_readSemicolon_11 ⟨Nat.zero_le _, Nat.zero_le _⟩ (fun H locs hP hS => ?_)
    refine lv_aload_n hx hb dX3_readSemicolon_14 rfl (lv_at hl 0 rfl) ?_
    refine wx_get hx hb hts hiX3 hown hK hP 1 (by decide) qc_1 rfl 2 (by decide) (hts (.fieldLink RX3 19 "PriceEdict$Tape" "at" "I") (by decide +kernel)) rfl dX3_readSemicolon_15 ?_
    refine lv_aload_n hx hb dX3_readSemicolon_18 rfl (lv_at hl 0 rfl) ?_
    refine wx_get hx hb hts hiX3 hown hK hP 1 (by decide) qc_1 rfl 1 (by decide) (hts (.fieldLink RX3 15 "PriceEdict$Tape" "length" "I") (by decide +kernel)) rfl dX3_readSemicolon_19 ?_
    refine lv_tope (S 1 1) ((fr_X3_skipBlanks S 1 (Or.inr (by decide)))) ?_
    refine lv_icmp_lt (tgt := 27) hx hb dX3_readSemicolon_22 (by decide) (fun c_22 => ?_) (fun c_22 => ?_)
    · refine lv_aload_n hx hb dX3_readSemicolon_27 rfl (lv_at hl 0 rfl) ?_
      refine lv_aload_n hx hb dX3_readSemicolon_28 rfl (lv_at hl 0 rfl) ?_
      refine wx_get hx hb hts hiX3 hown hK hP 1 (by decide) qc_1 rfl 2 (by decide) (hts (.fieldLink RX3 19 "PriceEdict$Tape" "at" "I") (by decide +kernel)) rfl dX3_readSemicolon_29 ?_
      refine wc_iV (k := 1) (C := RX3) (As := [.int ((g_X3_skipBlanks S) 1 2)]) (rest := []) ⟨hx, hb, hml, hown, hts⟩ (c_X3_byteAt l D c g hr (g_X3_skipBlanks S) ((g_X3_skipBlanks S) 1 2) (ti_X3_skipBlanks hT).1) (cwV 1 hts gX3_readSemicolon_X3_byteAt rfl rfl rfl (by decide +kernel) ⟨Nat.le_of_ble_eq_true rfl, Nat.le_of_ble_eq_true rfl⟩) (wx_recv hK hP (by decide) qc_1 rfl) hK hP hS (fun _ h => h) rfl hl.1 rfl (lv_room (Nat.le_of_ble_eq_true rfl)) dX3_readSemicolon_32 ⟨Nat.zero_le _, Nat.zero_le _⟩ (fun H locs hP hS => ?_)
      refine lv_bipush (v := 59) hx hb dX3_readSemicolon_35 (by decide) ?_
      refine lv_icmp_eq (tgt := 50) hx hb dX3_readSemicolon_37 (by decide) (fun c_37 => ?_) (fun c_37 => ?_)
      · refine lv_aload_n hx hb dX3_readSemicolon_50 rfl (lv_at hl 0 rfl) ?_
        refine lv_dup hx hb dX3_readSemicolon_51 rfl ?_
        refine wx_get hx hb hts hiX3 hown hK hP 1 (by decide) qc_1 rfl 2 (by decide) (hts (.fieldLink RX3 19 "PriceEdict$Tape" "at" "I") (by decide +kernel)) rfl dX3_readSemicolon_52 ?_
        refine lv_iconst (v := 1) hx hb dX3_readSemicolon_55 (by decide) ?_
        refine lv_iadd hx hb dX3_readSemicolon_56 ?_
        refine wx_put hr hx hb hts hiX3 tyX3 tyX3_ok nmX3 hown hK hP hS 1 (by decide) qc_1 rfl 2 (by decide) (hts (.fieldLink RX3 19 "PriceEdict$Tape" "at" "I") (by decide +kernel)) rfl (by decide +kernel) (fun _ => rfl) (Nat.le_of_ble_eq_true rfl) dX3_readSemicolon_57 (fun H locs hP hS => ?_)
        refine lv_iconst (v := 1) hx hb dX3_readSemicolon_60 (by decide) ?_
        exact wx_zret hx hb hret hlk hK hP hS rfl (by unfold f_X3_readSemicolon; rw [if_pos c_5, if_pos c_22, if_pos c_37]) (by unfold g_X3_readSemicolon; rw [if_pos c_5, if_pos c_22, if_pos c_37]) dX3_readSemicolon_61
      · refine lv_aload_n hx hb dX3_readSemicolon_40 rfl (lv_at hl 0 rfl) ?_
        refine lv_aload_n hx hb dX3_readSemicolon_41 rfl (lv_at hl 0 rfl) ?_
        refine wx_get hx hb hts hiX3 hown hK hP 1 (by decide) qc_1 rfl 2 (by decide) (hts (.fieldLink RX3 19 "PriceEdict$Tape" "at" "I") (by decide +kernel)) rfl dX3_readSemicolon_42 ?_
        refine wx_put hr hx hb hts hiX3 tyX3 tyX3_ok nmX3 hown hK hP hS 1 (by decide) qc_1 rfl 3 (by decide) (hts (.fieldLink RX3 22 "PriceEdict$Tape" "wrong" "I") (by decide +kernel)) rfl (by decide +kernel) (fun _ => rfl) (Nat.le_of_ble_eq_true rfl) dX3_readSemicolon_45 (fun H locs hP hS => ?_)
        refine lv_iconst (v := 0) hx hb dX3_readSemicolon_48 (by decide) ?_
        exact wx_zret hx hb hret hlk hK hP hS rfl (by unfold f_X3_readSemicolon; rw [if_pos c_5, if_pos c_22, if_neg c_37]) (by unfold g_X3_readSemicolon; rw [if_pos c_5, if_pos c_22, if_neg c_37]) dX3_readSemicolon_49
    · refine lv_iconst (v := 0) hx hb dX3_readSemicolon_25 (by decide) ?_
      exact wx_zret hx hb hret hlk hK hP hS rfl (by unfold f_X3_readSemicolon; rw [if_pos c_5, if_neg c_22]) (by unfold g_X3_readSemicolon; rw [if_pos c_5, if_neg c_22]) dX3_readSemicolon_26
  · refine lv_iconst (v := 0) hx hb dX3_readSemicolon_8 (by decide) ?_
    exact wx_zret hx hb hret hlk hK hP hS rfl (by unfold f_X3_readSemicolon; rw [if_neg c_5]) (by unfold g_X3_readSemicolon; rw [if_neg c_5]) dX3_readSemicolon_9
