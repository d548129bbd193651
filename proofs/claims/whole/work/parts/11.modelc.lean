def f_X7_forceOf_7 (a1 : Int32) (a2 : Int32) : Nat → qw_St → Int32 → Int32
  | 0, S, _ => 0
  | n + 1, S, z3 => (if z3 < 0 then (-1 : Int32) else (if a2 < ((S 155 z3.toNatClampNeg) + ((S 158 a1.toNatClampNeg) / (10 : Int32))) then (f_X7_forceOf_7 a1 a2 n S (z3 + (-1 : Int32))) else (S 154 z3.toNatClampNeg)))
def f_X7_forceOf (S : qw_St) (a1 : Int32) (a2 : Int32) : Int32 := (f_X7_forceOf_7 a1 a2 ((S 143 17).toNatClampNeg + 1) S ((S 143 17) - (1 : Int32)))
set_option maxHeartbeats 4000000 in
set_option maxRecDepth 100000 in
theorem c_X7_forceOf (l : Launch) (D : va_G) {r : Nat → Nat} (c : Nat → ClassId) (g : Nat → Int64) (hr : qw_inj r) (S : qw_St) (a1 : Int32) (a2 : Int32) (ha : vp_in a1 8) (hI : InvM S) : MI l D r c g yX7_forceOf wsX7_forceOf ({ frames := 0, cells := 0, slots := 0, locals := 0 }) [.ref (r 143), .int a1, .int a2] S (f_X7_forceOf S a1 a2) S := by
  have hiX7 : ∀ w ∈ wsX70, w ∈ wsX7_forceOf := by decide +kernel
  refine wx_of (cc := cX7_forceOf) (nL := 4) (ret := (some .int)) (lvs := [(0, .ref (r 143)), (1, .int a1), (2, .int a2)]) (by decide) rfl rfl (Nat.le_of_ble_eq_true rfl) ?_
  intro p e s m below meth c0 ls hx hb hret hml hts hown hlk hK hP hS hl
  obtain ⟨m0, hm0, em0⟩ := id hI.2.2.1
  have hP : qw_P D r c g S s.heap := hP
  refine lv_aload_n hx hb dX7_forceOf_0 rfl (lv_at hl 0 rfl) ?_
  refine wx_get hx hb hts hiX7 hown hK hP 143 (by decide) qc_143 rfl 17 (by decide) (hts (.fieldLink RX7 186 "PriceEdictModel" "tellings" "I") (by decide +kernel)) rfl dX7_forceOf_1 ?_
  refine lv_iconst (v := 1) hx hb dX7_forceOf_4 (by decide) ?_
  refine lv_isub hx hb dX7_forceOf_5 ?_
  refine lv_topi (fun x_1 ex_1 => ?_)
  refine lv_istore_n (lv' := [(3, .int x_1), (0, .ref (r 143)), (1, .int a1), (2, .int a2)]) hx hb dX7_forceOf_6 rfl hl (by decide) rfl (fun ls hl => ?_)
  have L_7 : ∀ (n : Nat) (k : Nat) (z3 : Int32) (H : Heap) (locs : List Loc) (ls : Array Slot) (hk : n = k + 1 ∧ k ≤ 40) (hz3 : z3 = nI k - 1) (hf_7 : f_X7_forceOf_7 a1 a2 n S z3 = (f_X7_forceOf S a1 a2)), qw_P D r c g S H → va_S (qw_A r) s.heap H locs → lv_has ls 4 [(3, .int z3), (0, .ref (r 143)), (1, .int a1), (2, .int a2)] → W p l e ({ frames := 0, cells := 0, slots := 0, locals := 0 }) s m [.ref (r 143), .int a1, .int a2].toArray below meth c0 H locs 0 0 (MQ below (qw_Qi D r c g (f_X7_forceOf S a1 a2) S) [.ref (r 143), .int a1, .int a2].toArray s 0 0 (qw_A r)) (F0 m 7 ls []) := by
    intro n
    induction n with
    | zero =>
      intro k z3 H locs ls hk hz3 hf_7 hP hS hl
      omega
    | succ n ih_7 =>
      intro k z3 H locs ls hk hz3 hf_7 hP hS hl
      refine lv_iload_n hx hb dX7_forceOf_7 rfl (lv_at hl 0 rfl) ?_
      refine lv_if_lt (tgt := 44) hx hb dX7_forceOf_8 (by decide) (fun c_8 => ?_) (fun c_8 => ?_)
      · refine lv_iconst (v := (-1)) hx hb dX7_forceOf_44 (by decide) ?_
        exact wx_iret hx hb hret hlk hK hP hS (by subst ex_1; rw [← hf_7, f_X7_forceOf_7]; rw [if_pos c_8]) rfl dX7_forceOf_45
      · have hk0 : 0 < k := fo_pos hz3 hk.2 c_8
        refine lv_aload_n hx hb dX7_forceOf_11 rfl (lv_at hl 1 rfl) ?_
        refine wx_get hx hb hts hiX7 hown hK hP 143 (by decide) qc_143 rfl 16 (by decide) (hts (.fieldLink RX7 43 "PriceEdictModel" "toldOn" "[I") (by decide +kernel)) rfl dX7_forceOf_12 ?_
        refine lv_iload_n hx hb dX7_forceOf_15 rfl (lv_at hl 0 rfl) ?_
        refine wx_ild hx hb hK hP 155 (by decide) qc_155 (fo_in hz3 hk.2 hk0) dX7_forceOf_16 ?_
        refine lv_aload_n hx hb dX7_forceOf_17 rfl (lv_at hl 1 rfl) ?_
        refine wx_get hx hb hts hiX7 hown hK hP 143 (by decide) qc_143 rfl 25 (by decide) (hts (.fieldLink RX7 57 "PriceEdictModel" "miles" "[I") (by decide +kernel)) rfl dX7_forceOf_18 ?_
        refine lv_iload_n hx hb dX7_forceOf_21 rfl (lv_at hl 2 rfl) ?_
        refine wx_ild hx hb hK hP 158 (by decide) qc_158 ha dX7_forceOf_22 ?_
        refine lv_bipush (v := 10) hx hb dX7_forceOf_23 (by decide) ?_
        refine lv_idiv hx hb dX7_forceOf_25 (by decide) ?_
        refine lv_iadd hx hb dX7_forceOf_26 ?_
        refine lv_iload_n hx hb dX7_forceOf_27 rfl (lv_at hl 3 rfl) ?_
        refine lv_icmp_gt (tgt := 38) hx hb dX7_forceOf_28 (by decide) (fun c_28 => ?_) (fun c_28 => ?_)
        · obtain ⟨x_2, ex_2⟩ : ∃ y : Int32, y = (z3 + (-1 : Int32)) := ⟨_, rfl⟩
          refine lv_iinc (v := x_2) (lv' := [(3, .int x_2), (0, .ref (r 143)), (1, .int a1), (2, .int a2)]) hx hb dX7_forceOf_38 hl (k := 0) rfl (by rw [ex_2]; rfl) (by decide) rfl (fun ls hl => ?_)
          refine lv_goto (tgt := 7) hx hb dX7_forceOf_41 (by decide) ?_
          exact ih_7 (k - 1) x_2 _ _ _ (by omega) (by rw [ex_2]; exact fo_dec hz3 hk0) (by subst ex_2; subst ex_1; rw [← hf_7, f_X7_forceOf_7]; rw [if_neg c_8, if_pos c_28]) hP hS (lv_sub hl [0, 1, 2, 3] rfl)
        · refine lv_aload_n hx hb dX7_forceOf_31 rfl (lv_at hl 1 rfl) ?_
          refine wx_get hx hb hts hiX7 hown hK hP 143 (by decide) qc_143 rfl 15 (by decide) (hts (.fieldLink RX7 40 "PriceEdictModel" "told" "[I") (by decide +kernel)) rfl dX7_forceOf_32 ?_
          refine lv_iload_n hx hb dX7_forceOf_35 rfl (lv_at hl 0 rfl) ?_
          refine wx_ild hx hb hK hP 154 (by decide) qc_154 (fo_in hz3 hk.2 hk0) dX7_forceOf_36 ?_
          exact wx_iret hx hb hret hlk hK hP hS (by subst ex_1; rw [← hf_7, f_X7_forceOf_7]; rw [if_neg c_8, if_neg c_28]) rfl dX7_forceOf_37
  exact L_7 ((S 143 17).toNatClampNeg + 1) m0 x_1 _ _ _ (by rw [qi_cl em0 (by omega)]; omega) (by rw [ex_1, em0]) (by subst ex_1; rw [f_X7_forceOf]) hP hS (lv_sub hl [0, 1, 2, 3] rfl)
theorem forceOf_in_7 {S : qw_St} (h : InvM S) (a1 a2 : Int32) : ∀ (n : Nat) (z3 : Int32) (k : Nat), n = k + 1 ∧ k ≤ 40 → z3 = nI k - 1 → f_X7_forceOf_7 a1 a2 n S z3 < 0 ∨ vp_in (f_X7_forceOf_7 a1 a2 n S z3) 21 := by
  intro n
  induction n with
  | zero => intro z3 k hk hz; omega
  | succ n ih =>
    intro z3 k hk hz
    rw [f_X7_forceOf_7]
    split
    · exact Or.inl (by decide)
    · next c =>
      have hk0 : 0 < k := fo_pos hz hk.2 c
      split
      · exact ih _ (k - 1) (by omega) (fo_dec hz hk0)
      · exact h.2.2.2.1 _ (vp_lt (fo_in hz hk.2 hk0))
theorem forceOf_in {S : qw_St} (h : InvM S) (a1 a2 : Int32) : f_X7_forceOf S a1 a2 < 0 ∨ vp_in (f_X7_forceOf S a1 a2) 21 := by
  obtain ⟨m0, hm0, em0⟩ := id h.2.2.1
  unfold f_X7_forceOf
  exact forceOf_in_7 h a1 a2 _ _ m0 (by rw [qi_cl em0 (by omega)]; omega) (by rw [em0])
def g_X7_force (S : qw_St) (a1 : Int32) (a2 : Int32) : qw_St := (if (f_X7_noTown (up2 S 143 0 (0 : Int32)) a1) = 0 then (g_X7_throwsIf (up2 S 143 0 (0 : Int32)) (f_X7_noTown (up2 S 143 0 (0 : Int32)) a1) (1 : Int32)) else (g_X7_throwsIf (up2 S 143 0 (0 : Int32)) (f_X7_noTown (up2 S 143 0 (0 : Int32)) a1) (1 : Int32)))
def f_X7_force (S : qw_St) (a1 : Int32) (a2 : Int32) : Int32 := (if (f_X7_noTown (up2 S 143 0 (0 : Int32)) a1) = 0 then (f_X7_forceOf (g_X7_throwsIf (up2 S 143 0 (0 : Int32)) (f_X7_noTown (up2 S 143 0 (0 : Int32)) a1) (1 : Int32)) a1 a2) else (0 : Int32))
set_option maxHeartbeats 4000000 in
set_option maxRecDepth 100000 in
theorem c_X7_force (l : Launch) (D : va_G) {r : Nat → Nat} (c : Nat → ClassId) (g : Nat → Int64) (hr : qw_inj r) (S : qw_St) (a1 : Int32) (a2 : Int32) (hI : InvM S) : MI l D r c g yX7_force wsX7_force ({ frames := 2, cells := 0, slots := 0, locals := 43 }) [.ref (r 143), .int a1, .int a2] S (f_X7_force S a1 a2) (g_X7_force S a1 a2) := by
  have hiX7 : ∀ w ∈ wsX70, w ∈ wsX7_force := by decide +kernel
  refine wx_of (cc := cX7_force) (nL := 3) (ret := (some .int)) (lvs := [(0, .ref (r 143)), (1, .int a1), (2, .int a2)]) (by decide) rfl rfl (Nat.le_of_ble_eq_true rfl) ?_
  intro p e s m below meth c0 ls hx hb hret hml hts hown hlk hK hP hS hl
  have hP : qw_P D r c g S s.heap := hP
  refine lv_aload_n hx hb dX7_force_0 rfl (lv_at hl 0 rfl) ?_
  refine lv_iconst (v := 0) hx hb dX7_force_1 (by decide) ?_
  refine wx_put hr hx hb hts hiX7 tyX7 tyX7_ok nmX7 hown hK hP hS 143 (by decide) qc_143 rfl 0 (by decide) (hts (.fieldLink RX7 99 "PriceEdictModel" "thrown" "I") (by decide +kernel)) rfl (by decide +kernel) (fun _ => rfl) (Nat.le_of_ble_eq_true rfl) dX7_force_2 (fun H locs hP hS => ?_)
  refine lv_aload_n hx hb dX7_force_5 rfl (lv_at hl 0 rfl) ?_
  refine lv_aload_n hx hb dX7_force_6 rfl (lv_at hl 0 rfl) ?_
  refine lv_iload_n hx hb dX7_force_7 rfl (lv_at hl 1 rfl) ?_
  refine wc_iV (k := 143) (C := RX7) (As := [.int a1]) (rest := [.ref (r 143)]) ⟨hx, hb, hml, hown, hts⟩ (c_X7_noTown l D c g hr (up2 S 143 0 (0 : Int32)) a1) (cwV 1 hts gX7_force_X7_noTown rfl rfl rfl (by decide +kernel) ⟨Nat.le_of_ble_eq_true rfl, Nat.le_of_ble_eq_true rfl⟩) (wx_recv hK hP (by decide) qc_143 rfl) hK hP hS (fun _ h => h) rfl hl.1 rfl (lv_room (Nat.le_of_ble_eq_true rfl)) dX7_force_8 ⟨Nat.zero_le _, Nat.zero_le _⟩ (fun H locs hP hS => ?_)
  refine lv_iconst (v := 1) hx hb dX7_force_11 (by decide) ?_
  refine wc_iV (k := 143) (C := RX7) (As := [.int (f_X7_noTown (up2 S 143 0 (0 : Int32)) a1), .int (1 : Int32)]) (rest := []) ⟨hx, hb, hml, hown, hts⟩ (c_X7_throwsIf l D c g hr (up2 S 143 0 (0 : Int32)) (f_X7_noTown (up2 S 143 0 (0 : Int32)) a1) (1 : Int32) (noTown_b _ _)) (cwV 2 hts gX7_force_X7_throwsIf rfl rfl rfl (by decide +kernel) ⟨Nat.le_of_ble_eq_true rfl, Nat.le_of_ble_eq_true rfl⟩) (wx_recv hK hP (by decide) qc_143 rfl) hK hP hS (fun _ h => h) rfl hl.1 rfl (lv_room (Nat.le_of_ble_eq_true rfl)) dX7_force_12 ⟨Nat.zero_le _, Nat.zero_le _⟩ (fun H locs hP hS => ?_)
  refine lv_tope (f_X7_noTown (up2 S 143 0 (0 : Int32)) a1) rfl ?_
  refine lv_if_eq (tgt := 22) hx hb dX7_force_15 (by decide) (fun c_15 => ?_) (fun c_15 => ?_)
  · refine lv_aload_n hx hb dX7_force_22 rfl (lv_at hl 0 rfl) ?_
    refine lv_iload_n hx hb dX7_force_23 rfl (lv_at hl 1 rfl) ?_
    refine lv_iload_n hx hb dX7_force_24 rfl (lv_at hl 2 rfl) ?_
    refine wc_iV (k := 143) (C := RX7) (As := [.int a1, .int a2]) (rest := []) ⟨hx, hb, hml, hown, hts⟩ (c_X7_forceOf l D c g hr (g_X7_throwsIf (up2 S 143 0 (0 : Int32)) (f_X7_noTown (up2 S 143 0 (0 : Int32)) a1) (1 : Int32)) a1 a2 (noTown_in (S := up2 S 143 0 (0 : Int32)) hI.2.2.2.2.1 c_15) (InvM.thr (InvM.zero hI) _ _)) (cwV 2 hts gX7_force_X7_forceOf rfl rfl rfl (by decide +kernel) ⟨Nat.le_of_ble_eq_true rfl, Nat.le_of_ble_eq_true rfl⟩) (wx_recv hK hP (by decide) qc_143 rfl) hK hP hS (fun _ h => h) rfl hl.1 rfl (lv_room (Nat.le_of_ble_eq_true rfl)) dX7_force_25 ⟨Nat.zero_le _, Nat.zero_le _⟩ (fun H locs hP hS => ?_)
    exact wx_iret hx hb hret hlk hK hP hS (by unfold f_X7_force; rw [if_pos c_15]) (by unfold g_X7_force; rw [if_pos c_15]) dX7_force_28
  · refine lv_iconst (v := 0) hx hb dX7_force_18 (by decide) ?_
    refine lv_goto (tgt := 28) hx hb dX7_force_19 (by decide) ?_
    exact wx_iret hx hb hret hlk hK hP hS (by unfold f_X7_force; rw [if_neg c_15]) (by unfold g_X7_force; rw [if_neg c_15]) dX7_force_28
def f_X7_capOf (S : qw_St) (a1 : Int32) (a2 : Int32) (a3 : Int32) (a4 : Int32) : Int32 := (if (f_X7_forceOf S a1 a4) < 0 then (-1 : Int32) else (if (((S 153 (f_X7_forceOf S a1 a4).toNatClampNeg) >>> (a1 &&& 31)) &&& (1 : Int32)) = (1 : Int32) then (-1 : Int32) else (if 0 ≤ (if (S 150 (((6 : Int32) * (f_X7_forceOf S a1 a4)) + a2).toNatClampNeg) < 0 then (S 149 (((6 : Int32) * (f_X7_forceOf S a1 a4)) + a2).toNatClampNeg) else (if 0 ≤ (f_X7_extreme S (S 150 (((6 : Int32) * (f_X7_forceOf S a1 a4)) + a2).toNatClampNeg) a4 (1 : Int32)) then (f_X7_extreme S (S 150 (((6 : Int32) * (f_X7_forceOf S a1 a4)) + a2).toNatClampNeg) a4 (1 : Int32)) else (9999 : Int32))) then (if a3 = 0 then ((if (S 150 (((6 : Int32) * (f_X7_forceOf S a1 a4)) + a2).toNatClampNeg) < 0 then (S 149 (((6 : Int32) * (f_X7_forceOf S a1 a4)) + a2).toNatClampNeg) else (if 0 ≤ (f_X7_extreme S (S 150 (((6 : Int32) * (f_X7_forceOf S a1 a4)) + a2).toNatClampNeg) a4 (1 : Int32)) then (f_X7_extreme S (S 150 (((6 : Int32) * (f_X7_forceOf S a1 a4)) + a2).toNatClampNeg) a4 (1 : Int32)) else (9999 : Int32))) + ((S 151 (f_X7_forceOf S a1 a4).toNatClampNeg) * ((S 158 a1.toNatClampNeg) / (10 : Int32)))) else (((if (S 150 (((6 : Int32) * (f_X7_forceOf S a1 a4)) + a2).toNatClampNeg) < 0 then (S 149 (((6 : Int32) * (f_X7_forceOf S a1 a4)) + a2).toNatClampNeg) else (if 0 ≤ (f_X7_extreme S (S 150 (((6 : Int32) * (f_X7_forceOf S a1 a4)) + a2).toNatClampNeg) a4 (1 : Int32)) then (f_X7_extreme S (S 150 (((6 : Int32) * (f_X7_forceOf S a1 a4)) + a2).toNatClampNeg) a4 (1 : Int32)) else (9999 : Int32))) + ((S 151 (f_X7_forceOf S a1 a4).toNatClampNeg) * ((S 158 a1.toNatClampNeg) / (10 : Int32)))) + ((((if (S 150 (((6 : Int32) * (f_X7_forceOf S a1 a4)) + a2).toNatClampNeg) < 0 then (S 149 (((6 : Int32) * (f_X7_forceOf S a1 a4)) + a2).toNatClampNeg) else (if 0 ≤ (f_X7_extreme S (S 150 (((6 : Int32) * (f_X7_forceOf S a1 a4)) + a2).toNatClampNeg) a4 (1 : Int32)) then (f_X7_extreme S (S 150 (((6 : Int32) * (f_X7_forceOf S a1 a4)) + a2).toNatClampNeg) a4 (1 : Int32)) else (9999 : Int32))) + ((S 151 (f_X7_forceOf S a1 a4).toNatClampNeg) * ((S 158 a1.toNatClampNeg) / (10 : Int32)))) * (S 152 (f_X7_forceOf S a1 a4).toNatClampNeg)) / (100 : Int32)))) else (-1 : Int32))))
set_option maxHeartbeats 4000000 in
set_option maxRecDepth 100000 in
theorem c_X7_capOf (l : Launch) (D : va_G) {r : Nat → Nat} (c : Nat → ClassId) (g : Nat → Int64) (hr : qw_inj r) (S : qw_St) (a1 : Int32) (a2 : Int32) (a3 : Int32) (a4 : Int32) (ha : vp_in a1 8) (hb2 : vp_in a2 6) (hI : InvM S) : MI l D r c g yX7_capOf wsX7_capOf ({ frames := 2, cells := 0, slots := 0, locals := 53 }) [.ref (r 143), .int a1, .int a2, .int a3, .int a4] S (f_X7_capOf S a1 a2 a3 a4) S := by
  have hiX7 : ∀ w ∈ wsX70, w ∈ wsX7_capOf := by decide +kernel
  refine wx_of (cc := cX7_capOf) (nL := 8) (ret := (some .int)) (lvs := [(0, .ref (r 143)), (1, .int a1), (2, .int a2), (3, .int a3), (4, .int a4)]) (by decide) rfl rfl (Nat.le_of_ble_eq_true rfl) ?_
  intro p e s m below meth c0 ls hx hb hret hml hts hown hlk hK hP hS hl
  have hP : qw_P D r c g S s.heap := hP
  refine lv_aload_n hx hb dX7_capOf_0 rfl (lv_at hl 0 rfl) ?_
  refine lv_iload_n hx hb dX7_capOf_1 rfl (lv_at hl 1 rfl) ?_
  refine lv_iload hx hb dX7_capOf_2 (lv_at hl 4 rfl) ?_
  refine wc_iV (k := 143) (C := RX7) (As := [.int a1, .int a4]) (rest := []) ⟨hx, hb, hml, hown, hts⟩ (c_X7_forceOf l D c g hr S a1 a4 (by first | assumption | omega) (by first | assumption | omega)) (cwV 2 hts gX7_capOf_X7_forceOf rfl rfl rfl (by decide +kernel) ⟨Nat.le_of_ble_eq_true rfl, Nat.le_of_ble_eq_true rfl⟩) (wx_recv hK hP (by decide) qc_143 rfl) hK hP hS (fun _ h => h) rfl hl.1 rfl (lv_room (Nat.le_of_ble_eq_true rfl)) dX7_capOf_4 ⟨Nat.zero_le _, Nat.zero_le _⟩ (fun H locs hP hS => ?_)
  refine lv_topi (fun x_1 ex_1 => ?_)
  refine lv_istore (lv' := [(5, .int x_1), (0, .ref (r 143)), (1, .int a1), (2, .int a2), (3, .int a3), (4, .int a4)]) hx hb dX7_capOf_7 hl (by decide) rfl (fun ls hl => ?_)
  refine lv_iload hx hb dX7_capOf_9 (lv_at hl 0 rfl) ?_
  refine lv_if_lt (tgt := 29) hx hb dX7_capOf_11 (by decide) (fun c_11 => ?_) (fun c_11 => ?_)
  · refine lv_iconst (v := (-1)) hx hb dX7_capOf_29 (by decide) ?_
    exact wx_iret hx hb hret hlk hK hP hS (by subst ex_1; unfold f_X7_capOf; rw [if_pos c_11]) rfl dX7_capOf_30
  · have hn : vp_in x_1 21 := by rw [ex_1]; exact (forceOf_in hI _ _).resolve_left (fun h => c_11 (by rw [ex_1]; exact h))
    refine lv_aload_n hx hb dX7_capOf_14 rfl (lv_at hl 1 rfl) ?_
    refine wx_get hx hb hts hiX7 hown hK hP 143 (by decide) qc_143 rfl 13 (by decide) (hts (.fieldLink RX7 37 "PriceEdictModel" "free" "[I") (by decide +kernel)) rfl dX7_capOf_15 ?_
    refine lv_iload hx hb dX7_capOf_18 (lv_at hl 0 rfl) ?_
    refine wx_ild hx hb hK hP 153 (by decide) qc_153 hn dX7_capOf_20 ?_
    refine lv_iload_n hx hb dX7_capOf_21 rfl (lv_at hl 2 rfl) ?_
    refine lv_ishr hx hb dX7_capOf_22 ?_
    refine lv_iconst (v := 1) hx hb dX7_capOf_23 (by decide) ?_
    refine lv_iand hx hb dX7_capOf_24 ?_
    refine lv_iconst (v := 1) hx hb dX7_capOf_25 (by decide) ?_
    refine lv_icmp_ne (tgt := 31) hx hb dX7_capOf_26 (by decide) (fun c_26 => ?_) (fun c_26 => ?_)
    · refine lv_aload_n hx hb dX7_capOf_31 rfl (lv_at hl 1 rfl) ?_
      refine wx_get hx hb hts hiX7 hown hK hP 143 (by decide) qc_143 rfl 9 (by decide) (hts (.fieldLink RX7 25 "PriceEdictModel" "cap" "[I") (by decide +kernel)) rfl dX7_capOf_32 ?_
      refine lv_bipush (v := 6) hx hb dX7_capOf_35 (by decide) ?_
      refine lv_iload hx hb dX7_capOf_37 (lv_at hl 0 rfl) ?_
      refine lv_imul hx hb dX7_capOf_39 ?_
      refine lv_iload_n hx hb dX7_capOf_40 rfl (lv_at hl 3 rfl) ?_
      refine lv_iadd hx hb dX7_capOf_41 ?_
      refine wx_ild hx hb hK hP 149 (by decide) qc_149 (qi_6m hn hb2 (by decide) (by decide)) dX7_capOf_42 ?_
      refine lv_topi (fun x_2 ex_2 => ?_)
      refine lv_istore (lv' := [(6, .int x_2), (5, .int x_1), (0, .ref (r 143)), (1, .int a1), (2, .int a2), (3, .int a3), (4, .int a4)]) hx hb dX7_capOf_43 hl (by decide) rfl (fun ls hl => ?_)
      refine lv_aload_n hx hb dX7_capOf_45 rfl (lv_at hl 2 rfl) ?_
      refine wx_get hx hb hts hiX7 hown hK hP 143 (by decide) qc_143 rfl 10 (by decide) (hts (.fieldLink RX7 28 "PriceEdictModel" "byLine" "[I") (by decide +kernel)) rfl dX7_capOf_46 ?_
      refine lv_bipush (v := 6) hx hb dX7_capOf_49 (by decide) ?_
      refine lv_iload hx hb dX7_capOf_51 (lv_at hl 1 rfl) ?_
      refine lv_imul hx hb dX7_capOf_53 ?_
      refine lv_iload_n hx hb dX7_capOf_54 rfl (lv_at hl 4 rfl) ?_
      refine lv_iadd hx hb dX7_capOf_55 ?_
      refine wx_ild hx hb hK hP 150 (by decide) qc_150 (qi_6m hn hb2 (by decide) (by decide)) dX7_capOf_56 ?_
      refine lv_topi (fun x_3 ex_3 => ?_)
      refine lv_istore (lv' := [(7, .int x_3), (6, .int x_2), (5, .int x_1), (0, .ref (r 143)), (1, .int a1), (2, .int a2), (3, .int a3), (4, .int a4)]) hx hb dX7_capOf_57 hl (by decide) rfl (fun ls hl => ?_)
      have J_85 : ∀ (v_4 : Int32) (H : Heap) (locs : List Loc) (ls : Array Slot) (ev_4 : v_4 = (if x_3 < 0 then x_2 else (if 0 ≤ (f_X7_extreme S x_3 a4 (1 : Int32)) then (f_X7_extreme S x_3 a4 (1 : Int32)) else (9999 : Int32)))), qw_P D r c g S H → va_S (qw_A r) s.heap H locs → lv_has ls 8 [(6, .int v_4), (7, .int x_3), (5, .int x_1), (0, .ref (r 143)), (1, .int a1), (2, .int a2), (3, .int a3), (4, .int a4)] → W p l e ({ frames := 2, cells := 0, slots := 0, locals := 53 }) s m [.ref (r 143), .int a1, .int a2, .int a3, .int a4].toArray below meth c0 H locs 0 0 (MQ below (qw_Qi D r c g (f_X7_capOf S a1 a2 a3 a4) S) [.ref (r 143), .int a1, .int a2, .int a3, .int a4].toArray s 0 0 (qw_A r)) (F0 m 85 ls []) := by
        intro v_4 H locs ls ev_4 hP hS hl
        refine lv_iload hx hb dX7_capOf_85 (lv_at hl 0 rfl) ?_
        refine lv_if_ge (tgt := 92) hx hb dX7_capOf_87 (by decide) (fun c_87 => ?_) (fun c_87 => ?_)
        · refine lv_iload hx hb dX7_capOf_92 (lv_at hl 0 rfl) ?_
          refine lv_aload_n hx hb dX7_capOf_94 rfl (lv_at hl 3 rfl) ?_
          refine wx_get hx hb hts hiX7 hown hK hP 143 (by decide) qc_143 rfl 11 (by decide) (hts (.fieldLink RX7 31 "PriceEdictModel" "carriage" "[I") (by decide +kernel)) rfl dX7_capOf_95 ?_
          refine lv_iload hx hb dX7_capOf_98 (lv_at hl 2 rfl) ?_
          refine wx_ild hx hb hK hP 151 (by decide) qc_151 hn dX7_capOf_100 ?_
          refine lv_aload_n hx hb dX7_capOf_101 rfl (lv_at hl 3 rfl) ?_
          refine wx_get hx hb hts hiX7 hown hK hP 143 (by decide) qc_143 rfl 25 (by decide) (hts (.fieldLink RX7 57 "PriceEdictModel" "miles" "[I") (by decide +kernel)) rfl dX7_capOf_102 ?_
          refine lv_iload_n hx hb dX7_capOf_105 rfl (lv_at hl 4 rfl) ?_
          refine wx_ild hx hb hK hP 158 (by decide) qc_158 ha dX7_capOf_106 ?_
          refine lv_bipush (v := 10) hx hb dX7_capOf_107 (by decide) ?_
          refine lv_idiv hx hb dX7_capOf_109 (by decide) ?_
          refine lv_imul hx hb dX7_capOf_110 ?_
          refine lv_iadd hx hb dX7_capOf_111 ?_
          refine lv_topi (fun x_5 ex_5 => ?_)
          refine lv_istore (lv' := [(6, .int x_5), (7, .int x_3), (5, .int x_1), (0, .ref (r 143)), (1, .int a1), (2, .int a2), (3, .int a3), (4, .int a4)]) hx hb dX7_capOf_112 hl (by decide) rfl (fun ls hl => ?_)
          refine lv_iload_n hx hb dX7_capOf_114 rfl (lv_at hl 6 rfl) ?_
          refine lv_if_eq (tgt := 137) hx hb dX7_capOf_115 (by decide) (fun c_115 => ?_) (fun c_115 => ?_)
          · refine lv_iload hx hb dX7_capOf_137 (lv_at hl 0 rfl) ?_
            exact wx_iret hx hb hret hlk hK hP hS (by subst ex_5; subst ev_4; subst ex_3; subst ex_2; subst ex_1; unfold f_X7_capOf; rw [if_neg c_11, if_neg c_26, if_pos c_87, if_pos c_115]) rfl dX7_capOf_139
          · refine lv_iload hx hb dX7_capOf_118 (lv_at hl 0 rfl) ?_
            refine lv_iload hx hb dX7_capOf_120 (lv_at hl 0 rfl) ?_
            refine lv_aload_n hx hb dX7_capOf_122 rfl (lv_at hl 3 rfl) ?_
            refine wx_get hx hb hts hiX7 hown hK hP 143 (by decide) qc_143 rfl 12 (by decide) (hts (.fieldLink RX7 34 "PriceEdictModel" "credit" "[I") (by decide +kernel)) rfl dX7_capOf_123 ?_
            refine lv_iload hx hb dX7_capOf_126 (lv_at hl 2 rfl) ?_
            refine wx_ild hx hb hK hP 152 (by decide) qc_152 hn dX7_capOf_128 ?_
            refine lv_imul hx hb dX7_capOf_129 ?_
            refine lv_bipush (v := 100) hx hb dX7_capOf_130 (by decide) ?_
            refine lv_idiv hx hb dX7_capOf_132 (by decide) ?_
            refine lv_iadd hx hb dX7_capOf_133 ?_
            refine lv_goto (tgt := 139) hx hb dX7_capOf_134 (by decide) ?_
            exact wx_iret hx hb hret hlk hK hP hS (by subst ex_5; subst ev_4; subst ex_3; subst ex_2; subst ex_1; unfold f_X7_capOf; rw [if_neg c_11, if_neg c_26, if_pos c_87, if_neg c_115]) rfl dX7_capOf_139
        · refine lv_iconst (v := (-1)) hx hb dX7_capOf_90 (by decide) ?_
          exact wx_iret hx hb hret hlk hK hP hS (by subst ev_4; subst ex_3; subst ex_2; subst ex_1; unfold f_X7_capOf; rw [if_neg c_11, if_neg c_26, if_neg c_87]) rfl dX7_capOf_91
      refine lv_iload hx hb dX7_capOf_59 (lv_at hl 0 rfl) ?_
      refine lv_if_lt (tgt := 85) hx hb dX7_capOf_61 (by decide) (fun c_61 => ?_) (fun c_61 => ?_)
      · exact J_85 _ _ _ _ (by rw [if_pos c_61]) hP hS (lv_sub hl [1, 0, 2, 3, 4, 5, 6, 7] rfl)
      · refine lv_aload_n hx hb dX7_capOf_64 rfl (lv_at hl 3 rfl) ?_
        refine lv_iload hx hb dX7_capOf_65 (lv_at hl 0 rfl) ?_
        refine lv_iload hx hb dX7_capOf_67 (lv_at hl 7 rfl) ?_
        refine lv_iconst (v := 1) hx hb dX7_capOf_69 (by decide) ?_
        refine wc_iV (k := 143) (C := RX7) (As := [.int x_3, .int a4, .int (1 : Int32)]) (rest := []) ⟨hx, hb, hml, hown, hts⟩ (c_X7_extreme l D c g hr S x_3 a4 (1 : Int32) (by first | assumption | omega)) (cwV 3 hts gX7_capOf_X7_extreme rfl rfl rfl (by decide +kernel) ⟨Nat.le_of_ble_eq_true rfl, Nat.le_of_ble_eq_true rfl⟩) (wx_recv hK hP (by decide) qc_143 rfl) hK hP hS (fun _ h => h) rfl hl.1 rfl (lv_room (Nat.le_of_ble_eq_true rfl)) dX7_capOf_70 ⟨Nat.zero_le _, Nat.zero_le _⟩ (fun H locs hP hS => ?_)
        refine lv_topi (fun x_6 ex_6 => ?_)
        refine lv_istore (lv' := [(6, .int x_6), (7, .int x_3), (5, .int x_1), (0, .ref (r 143)), (1, .int a1), (2, .int a2), (3, .int a3), (4, .int a4)]) hx hb dX7_capOf_73 hl (by decide) rfl (fun ls hl => ?_)
        refine lv_iload hx hb dX7_capOf_75 (lv_at hl 0 rfl) ?_
        refine lv_if_ge (tgt := 85) hx hb dX7_capOf_77 (by decide) (fun c_77 => ?_) (fun c_77 => ?_)
        · exact J_85 _ _ _ _ (by subst ex_6; rw [if_neg c_61, if_pos c_77]) hP hS (lv_sub hl [0, 1, 2, 3, 4, 5, 6, 7] rfl)
        · refine lv_sipush (v := 9999) hx hb dX7_capOf_80 (by decide) ?_
          refine lv_istore (lv' := [(6, .int (9999 : Int32)), (7, .int x_3), (5, .int x_1), (0, .ref (r 143)), (1, .int a1), (2, .int a2), (3, .int a3), (4, .int a4)]) hx hb dX7_capOf_83 hl (by decide) rfl (fun ls hl => ?_)
          exact J_85 _ _ _ _ (by subst ex_6; rw [if_neg c_61, if_neg c_77]) hP hS (lv_sub hl [0, 1, 2, 3, 4, 5, 6, 7] rfl)
    · refine lv_iconst (v := (-1)) hx hb dX7_capOf_29 (by decide) ?_
      exact wx_iret hx hb hret hlk hK hP hS (by subst ex_1; unfold f_X7_capOf; rw [if_neg c_11, if_pos c_26]) rfl dX7_capOf_30
def g_X7_cap (S : qw_St) (a1 : Int32) (a2 : Int32) (a3 : Int32) (a4 : Int32) : qw_St := (if (if (f_X7_noTown (up2 S 143 0 (0 : Int32)) a1) = 0 then (if (f_X7_noThing a2) = 0 then (0 : Int32) else (1 : Int32)) else (1 : Int32)) = 0 then (g_X7_throwsIf (up2 S 143 0 (0 : Int32)) (if (f_X7_noTown (up2 S 143 0 (0 : Int32)) a1) = 0 then (if (f_X7_noThing a2) = 0 then (0 : Int32) else (1 : Int32)) else (1 : Int32)) (1 : Int32)) else (g_X7_throwsIf (up2 S 143 0 (0 : Int32)) (if (f_X7_noTown (up2 S 143 0 (0 : Int32)) a1) = 0 then (if (f_X7_noThing a2) = 0 then (0 : Int32) else (1 : Int32)) else (1 : Int32)) (1 : Int32)))
def f_X7_cap (S : qw_St) (a1 : Int32) (a2 : Int32) (a3 : Int32) (a4 : Int32) : Int32 := (if (if (f_X7_noTown (up2 S 143 0 (0 : Int32)) a1) = 0 then (if (f_X7_noThing a2) = 0 then (0 : Int32) else (1 : Int32)) else (1 : Int32)) = 0 then (f_X7_capOf (g_X7_throwsIf (up2 S 143 0 (0 : Int32)) (if (f_X7_noTown (up2 S 143 0 (0 : Int32)) a1) = 0 then (if (f_X7_noThing a2) = 0 then (0 : Int32) else (1 : Int32)) else (1 : Int32)) (1 : Int32)) a1 a2 a3 a4) else (0 : Int32))
set_option maxHeartbeats 4000000 in
set_option maxRecDepth 100000 in
theorem c_X7_cap (l : Launch) (D : va_G) {r : Nat → Nat} (c : Nat → ClassId) (g : Nat → Int64) (hr : qw_inj r) (S : qw_St) (a1 : Int32) (a2 : Int32) (a3 : Int32) (a4 : Int32) (hI : InvM S) : MI l D r c g yX7_cap wsX7_cap ({ frames := 3, cells := 0, slots := 0, locals := 80 }) [.ref (r 143), .int a1, .int a2, .int a3, .int a4] S (f_X7_cap S a1 a2 a3 a4) (g_X7_cap S a1 a2 a3 a4) := by
  have hiX7 : ∀ w ∈ wsX70, w ∈ wsX7_cap := by decide +kernel
  refine wx_of (cc := cX7_cap) (nL := 5) (ret := (some .int)) (lvs := [(0, .ref (r 143)), (1, .int a1), (2, .int a2), (3, .int a3), (4, .int a4)]) (by decide) rfl rfl (Nat.le_of_ble_eq_true rfl) ?_
  intro p e s m below meth c0 ls hx hb hret hml hts hown hlk hK hP hS hl
  have hP : qw_P D r c g S s.heap := hP
  refine lv_aload_n hx hb dX7_cap_0 rfl (lv_at hl 0 rfl) ?_
  refine lv_iconst (v := 0) hx hb dX7_cap_1 (by decide) ?_
  refine wx_put hr hx hb hts hiX7 tyX7 tyX7_ok nmX7 hown hK hP hS 143 (by decide) qc_143 rfl 0 (by decide) (hts (.fieldLink RX7 99 "PriceEdictModel" "thrown" "I") (by decide +kernel)) rfl (by decide +kernel) (fun _ => rfl) (Nat.le_of_ble_eq_true rfl) dX7_cap_2 (fun H locs hP hS => ?_)
  refine lv_aload_n hx hb dX7_cap_5 rfl (lv_at hl 0 rfl) ?_
  have J_26 : ∀ (v_1 : Int32) (H : Heap) (locs : List Loc) (ls : Array Slot) (ev_1 : v_1 = (if (f_X7_noTown (up2 S 143 0 (0 : Int32)) a1) = 0 then (if (f_X7_noThing a2) = 0 then (0 : Int32) else (1 : Int32)) else (1 : Int32))), qw_P D r c g (up2 S 143 0 (0 : Int32)) H → va_S (qw_A r) s.heap H locs → lv_has ls 5 [(0, .ref (r 143)), (1, .int a1), (2, .int a2), (3, .int a3), (4, .int a4)] → W p l e ({ frames := 3, cells := 0, slots := 0, locals := 80 }) s m [.ref (r 143), .int a1, .int a2, .int a3, .int a4].toArray below meth c0 H locs 0 0 (MQ below (qw_Qi D r c g (f_X7_cap S a1 a2 a3 a4) (g_X7_cap S a1 a2 a3 a4)) [.ref (r 143), .int a1, .int a2, .int a3, .int a4].toArray s 0 0 (qw_A r)) (F0 m 26 ls [.int v_1, .ref (r 143)]) := by
    intro v_1 H locs ls ev_1 hP hS hl
    refine lv_iconst (v := 1) hx hb dX7_cap_26 (by decide) ?_
    refine wc_iV (k := 143) (C := RX7) (As := [.int v_1, .int (1 : Int32)]) (rest := []) ⟨hx, hb, hml, hown, hts⟩ (c_X7_throwsIf l D c g hr (up2 S 143 0 (0 : Int32)) v_1 (1 : Int32) (by rw [ev_1]; repeat' (first | split | exact Or.inl rfl | exact Or.inr rfl))) (cwV 2 hts gX7_cap_X7_throwsIf rfl rfl rfl (by decide +kernel) ⟨Nat.le_of_ble_eq_true rfl, Nat.le_of_ble_eq_true rfl⟩) (wx_recv hK hP (by decide) qc_143 rfl) hK hP hS (fun _ h => h) rfl hl.1 rfl (lv_room (Nat.le_of_ble_eq_true rfl)) dX7_cap_27 ⟨Nat.zero_le _, Nat.zero_le _⟩ (fun H locs hP hS => ?_)
    refine lv_tope v_1 rfl ?_
    refine lv_if_eq (tgt := 37) hx hb dX7_cap_30 (by decide) (fun c_30 => ?_) (fun c_30 => ?_)
    · refine lv_aload_n hx hb dX7_cap_37 rfl (lv_at hl 0 rfl) ?_
      refine lv_iload_n hx hb dX7_cap_38 rfl (lv_at hl 1 rfl) ?_
      refine lv_iload_n hx hb dX7_cap_39 rfl (lv_at hl 2 rfl) ?_
      refine lv_iload_n hx hb dX7_cap_40 rfl (lv_at hl 3 rfl) ?_
      refine lv_iload hx hb dX7_cap_41 (lv_at hl 4 rfl) ?_
      refine wc_iV (k := 143) (C := RX7) (As := [.int a1, .int a2, .int a3, .int a4]) (rest := []) ⟨hx, hb, hml, hown, hts⟩ (c_X7_capOf l D c g hr (g_X7_throwsIf (up2 S 143 0 (0 : Int32)) v_1 (1 : Int32)) a1 a2 a3 a4 (tt_in (S := up2 S 143 0 (0 : Int32)) hI.2.2.2.2.1 (ev_1.symm.trans c_30)).1 (tt_in (S := up2 S 143 0 (0 : Int32)) hI.2.2.2.2.1 (ev_1.symm.trans c_30)).2 (InvM.thr (InvM.zero hI) _ _)) (cwV 4 hts gX7_cap_X7_capOf rfl rfl rfl (by decide +kernel) ⟨Nat.le_of_ble_eq_true rfl, Nat.le_of_ble_eq_true rfl⟩) (wx_recv hK hP (by decide) qc_143 rfl) hK hP hS (fun _ h => h) rfl hl.1 rfl (lv_room (Nat.le_of_ble_eq_true rfl)) dX7_cap_43 ⟨Nat.zero_le _, Nat.zero_le _⟩ (fun H locs hP hS => ?_)
      exact wx_iret hx hb hret hlk hK hP hS (by subst ev_1; unfold f_X7_cap; rw [if_pos c_30]) (by subst ev_1; unfold g_X7_cap; rw [if_pos c_30]) dX7_cap_46
    · refine lv_iconst (v := 0) hx hb dX7_cap_33 (by decide) ?_
      refine lv_goto (tgt := 46) hx hb dX7_cap_34 (by decide) ?_
      exact wx_iret hx hb hret hlk hK hP hS (by subst ev_1; unfold f_X7_cap; rw [if_neg c_30]) (by subst ev_1; unfold g_X7_cap; rw [if_neg c_30]) dX7_cap_46
  refine lv_aload_n hx hb dX7_cap_6 rfl (lv_at hl 0 rfl) ?_
  refine lv_iload_n hx hb dX7_cap_7 rfl (lv_at hl 1 rfl) ?_
  refine wc_iV (k := 143) (C := RX7) (As := [.int a1]) (rest := [.ref (r 143)]) ⟨hx, hb, hml, hown, hts⟩ (c_X7_noTown l D c g hr (up2 S 143 0 (0 : Int32)) a1) (cwV 1 hts gX7_cap_X7_noTown rfl rfl rfl (by decide +kernel) ⟨Nat.le_of_ble_eq_true rfl, Nat.le_of_ble_eq_true rfl⟩) (wx_recv hK hP (by decide) qc_143 rfl) hK hP hS (fun _ h => h) rfl hl.1 rfl (lv_room (Nat.le_of_ble_eq_true rfl)) dX7_cap_8 ⟨Nat.zero_le _, Nat.zero_le _⟩ (fun H locs hP hS => ?_)
  refine lv_if_ne (tgt := 21) hx hb dX7_cap_11 (by decide) (fun c_11 => ?_) (fun c_11 => ?_)
  · refine lv_iconst (v := 1) hx hb dX7_cap_21 (by decide) ?_
    refine lv_goto (tgt := 26) hx hb dX7_cap_22 (by decide) ?_
    exact J_26 _ _ _ _ (by rw [if_neg c_11]) hP hS (lv_sub hl [0, 1, 2, 3, 4] rfl)
  · refine lv_iload_n hx hb dX7_cap_14 rfl (lv_at hl 2 rfl) ?_
    refine wc_iS (As := [.int a2]) (rest := [.ref (r 143)]) ⟨hx, hb, hml, hown, hts⟩ (c_X7_noThing l D c g hr (up2 S 143 0 (0 : Int32)) a2) (va_cwS 1 hts gX7_cap_X7_noThing rfl rfl rfl (by decide +kernel) ⟨Nat.le_of_ble_eq_true rfl, Nat.le_of_ble_eq_true rfl⟩) hK hP hS (fun _ h => h) rfl hl.1 rfl (lv_room (Nat.le_of_ble_eq_true rfl)) dX7_cap_15 ⟨Nat.zero_le _, Nat.zero_le _⟩ (fun H locs hP hS => ?_)
    refine lv_if_eq (tgt := 25) hx hb dX7_cap_18 (by decide) (fun c_18 => ?_) (fun c_18 => ?_)
    · refine lv_iconst (v := 0) hx hb dX7_cap_25 (by decide) ?_
      exact J_26 _ _ _ _ (by rw [if_pos c_11, if_pos c_18]) hP hS (lv_sub hl [0, 1, 2, 3, 4] rfl)
    · refine lv_iconst (v := 1) hx hb dX7_cap_21 (by decide) ?_
      refine lv_goto (tgt := 26) hx hb dX7_cap_22 (by decide) ?_
      exact J_26 _ _ _ _ (by rw [if_pos c_11, if_neg c_18]) hP hS (lv_sub hl [0, 1, 2, 3, 4] rfl)
def g_X7_judge (S : qw_St) (a1 : Int32) (a2 : Int32) (a3 : Int32) (a4 : Int32) (a5 : Int32) : qw_St := (if (if (f_X7_noTown (up2 S 143 0 (0 : Int32)) a1) = 0 then (if (f_X7_noThing a2) = 0 then (0 : Int32) else (1 : Int32)) else (1 : Int32)) = 0 then (if (if 0 ≤ a3 then (0 : Int32) else (1 : Int32)) = 0 then (if (f_X7_capOf (g_X7_throwsIf (g_X7_throwsIf (up2 S 143 0 (0 : Int32)) (if (f_X7_noTown (up2 S 143 0 (0 : Int32)) a1) = 0 then (if (f_X7_noThing a2) = 0 then (0 : Int32) else (1 : Int32)) else (1 : Int32)) (1 : Int32)) (if 0 ≤ a3 then (0 : Int32) else (1 : Int32)) (2 : Int32)) a1 a2 a4 a5) < 0 then (g_X7_throwsIf (g_X7_throwsIf (up2 S 143 0 (0 : Int32)) (if (f_X7_noTown (up2 S 143 0 (0 : Int32)) a1) = 0 then (if (f_X7_noThing a2) = 0 then (0 : Int32) else (1 : Int32)) else (1 : Int32)) (1 : Int32)) (if 0 ≤ a3 then (0 : Int32) else (1 : Int32)) (2 : Int32)) else (if a3 ≤ (f_X7_capOf (g_X7_throwsIf (g_X7_throwsIf (up2 S 143 0 (0 : Int32)) (if (f_X7_noTown (up2 S 143 0 (0 : Int32)) a1) = 0 then (if (f_X7_noThing a2) = 0 then (0 : Int32) else (1 : Int32)) else (1 : Int32)) (1 : Int32)) (if 0 ≤ a3 then (0 : Int32) else (1 : Int32)) (2 : Int32)) a1 a2 a4 a5) then (g_X7_throwsIf (g_X7_throwsIf (up2 S 143 0 (0 : Int32)) (if (f_X7_noTown (up2 S 143 0 (0 : Int32)) a1) = 0 then (if (f_X7_noThing a2) = 0 then (0 : Int32) else (1 : Int32)) else (1 : Int32)) (1 : Int32)) (if 0 ≤ a3 then (0 : Int32) else (1 : Int32)) (2 : Int32)) else (g_X7_throwsIf (g_X7_throwsIf (up2 S 143 0 (0 : Int32)) (if (f_X7_noTown (up2 S 143 0 (0 : Int32)) a1) = 0 then (if (f_X7_noThing a2) = 0 then (0 : Int32) else (1 : Int32)) else (1 : Int32)) (1 : Int32)) (if 0 ≤ a3 then (0 : Int32) else (1 : Int32)) (2 : Int32)))) else (g_X7_throwsIf (g_X7_throwsIf (up2 S 143 0 (0 : Int32)) (if (f_X7_noTown (up2 S 143 0 (0 : Int32)) a1) = 0 then (if (f_X7_noThing a2) = 0 then (0 : Int32) else (1 : Int32)) else (1 : Int32)) (1 : Int32)) (if 0 ≤ a3 then (0 : Int32) else (1 : Int32)) (2 : Int32))) else (g_X7_throwsIf (up2 S 143 0 (0 : Int32)) (if (f_X7_noTown (up2 S 143 0 (0 : Int32)) a1) = 0 then (if (f_X7_noThing a2) = 0 then (0 : Int32) else (1 : Int32)) else (1 : Int32)) (1 : Int32)))
def f_X7_judge (S : qw_St) (a1 : Int32) (a2 : Int32) (a3 : Int32) (a4 : Int32) (a5 : Int32) : Int32 := (if (if (f_X7_noTown (up2 S 143 0 (0 : Int32)) a1) = 0 then (if (f_X7_noThing a2) = 0 then (0 : Int32) else (1 : Int32)) else (1 : Int32)) = 0 then (if (if 0 ≤ a3 then (0 : Int32) else (1 : Int32)) = 0 then (if (f_X7_capOf (g_X7_throwsIf (g_X7_throwsIf (up2 S 143 0 (0 : Int32)) (if (f_X7_noTown (up2 S 143 0 (0 : Int32)) a1) = 0 then (if (f_X7_noThing a2) = 0 then (0 : Int32) else (1 : Int32)) else (1 : Int32)) (1 : Int32)) (if 0 ≤ a3 then (0 : Int32) else (1 : Int32)) (2 : Int32)) a1 a2 a4 a5) < 0 then (0 : Int32) else (if a3 ≤ (f_X7_capOf (g_X7_throwsIf (g_X7_throwsIf (up2 S 143 0 (0 : Int32)) (if (f_X7_noTown (up2 S 143 0 (0 : Int32)) a1) = 0 then (if (f_X7_noThing a2) = 0 then (0 : Int32) else (1 : Int32)) else (1 : Int32)) (1 : Int32)) (if 0 ≤ a3 then (0 : Int32) else (1 : Int32)) (2 : Int32)) a1 a2 a4 a5) then (0 : Int32) else (1 : Int32))) else (0 : Int32)) else (0 : Int32))
set_option maxHeartbeats 4000000 in
set_option maxRecDepth 100000 in
theorem c_X7_judge (l : Launch) (D : va_G) {r : Nat → Nat} (c : Nat → ClassId) (g : Nat → Int64) (hr : qw_inj r) (S : qw_St) (a1 : Int32) (a2 : Int32) (a3 : Int32) (a4 : Int32) (a5 : Int32) (hI : InvM S) : MI l D r c g yX7_judge wsX7_judge ({ frames := 3, cells := 0, slots := 0, locals := 80 }) [.ref (r 143), .int a1, .int a2, .int a3, .int a4, .int a5] S (f_X7_judge S a1 a2 a3 a4 a5) (g_X7_judge S a1 a2 a3 a4 a5) := by
  have hiX7 : ∀ w ∈ wsX70, w ∈ wsX7_judge := by decide +kernel
  refine wx_of (cc := cX7_judge) (nL := 7) (ret := (some .int)) (lvs := [(0, .ref (r 143)), (1, .int a1), (2, .int a2), (3, .int a3), (4, .int a4), (5, .int a5)]) (by decide) rfl rfl (Nat.le_of_ble_eq_true rfl) ?_
  intro p e s m below meth c0 ls hx hb hret hml hts hown hlk hK hP hS hl
  have hP : qw_P D r c g S s.heap := hP
  refine lv_aload_n hx hb dX7_judge_0 rfl (lv_at hl 0 rfl) ?_
  refine lv_iconst (v := 0) hx hb dX7_judge_1 (by decide) ?_
  refine wx_put hr hx hb hts hiX7 tyX7 tyX7_ok nmX7 hown hK hP hS 143 (by decide) qc_143 rfl 0 (by decide) (hts (.fieldLink RX7 99 "PriceEdictModel" "thrown" "I") (by decide +kernel)) rfl (by decide +kernel) (fun _ => rfl) (Nat.le_of_ble_eq_true rfl) dX7_judge_2 (fun H locs hP hS => ?_)
  refine lv_aload_n hx hb dX7_judge_5 rfl (lv_at hl 0 rfl) ?_
  have J_26 : ∀ (v_1 : Int32) (H : Heap) (locs : List Loc) (ls : Array Slot) (ev_1 : v_1 = (if (f_X7_noTown (up2 S 143 0 (0 : Int32)) a1) = 0 then (if (f_X7_noThing a2) = 0 then (0 : Int32) else (1 : Int32)) else (1 : Int32))), qw_P D r c g (up2 S 143 0 (0 : Int32)) H → va_S (qw_A r) s.heap H locs → lv_has ls 7 [(0, .ref (r 143)), (1, .int a1), (2, .int a2), (3, .int a3), (4, .int a4), (5, .int a5)] → W p l e ({ frames := 3, cells := 0, slots := 0, locals := 80 }) s m [.ref (r 143), .int a1, .int a2, .int a3, .int a4, .int a5].toArray below meth c0 H locs 0 0 (MQ below (qw_Qi D r c g (f_X7_judge S a1 a2 a3 a4 a5) (g_X7_judge S a1 a2 a3 a4 a5)) [.ref (r 143), .int a1, .int a2, .int a3, .int a4, .int a5].toArray s 0 0 (qw_A r)) (F0 m 26 ls [.int v_1, .ref (r 143)]) := by
    intro v_1 H locs ls ev_1 hP hS hl
    refine lv_iconst (v := 1) hx hb dX7_judge_26 (by decide) ?_
    refine wc_iV (k := 143) (C := RX7) (As := [.int v_1, .int (1 : Int32)]) (rest := []) ⟨hx, hb, hml, hown, hts⟩ (c_X7_throwsIf l D c g hr (up2 S 143 0 (0 : Int32)) v_1 (1 : Int32) (by rw [ev_1]; repeat' (first | split | exact Or.inl rfl | exact Or.inr rfl))) (cwV 2 hts gX7_judge_X7_throwsIf rfl rfl rfl (by decide +kernel) ⟨Nat.le_of_ble_eq_true rfl, Nat.le_of_ble_eq_true rfl⟩) (wx_recv hK hP (by decide) qc_143 rfl) hK hP hS (fun _ h => h) rfl hl.1 rfl (lv_room (Nat.le_of_ble_eq_true rfl)) dX7_judge_27 ⟨Nat.zero_le _, Nat.zero_le _⟩ (fun H locs hP hS => ?_)
    refine lv_tope v_1 rfl ?_
    refine lv_if_ne (tgt := 50) hx hb dX7_judge_30 (by decide) (fun c_30 => ?_) (fun c_30 => ?_)
    · refine lv_iconst (v := 0) hx hb dX7_judge_50 (by decide) ?_
      exact wx_iret hx hb hret hlk hK hP hS (by subst ev_1; unfold f_X7_judge; rw [if_neg c_30]) (by subst ev_1; unfold g_X7_judge; rw [if_neg c_30]) dX7_judge_51
    · refine lv_aload_n hx hb dX7_judge_33 rfl (lv_at hl 0 rfl) ?_
      have J_43 : ∀ (v_2 : Int32) (H : Heap) (locs : List Loc) (ls : Array Slot) (ev_2 : v_2 = (if 0 ≤ a3 then (0 : Int32) else (1 : Int32))), qw_P D r c g (g_X7_throwsIf (up2 S 143 0 (0 : Int32)) v_1 (1 : Int32)) H → va_S (qw_A r) s.heap H locs → lv_has ls 7 [(0, .ref (r 143)), (1, .int a1), (2, .int a2), (3, .int a3), (4, .int a4), (5, .int a5)] → W p l e ({ frames := 3, cells := 0, slots := 0, locals := 80 }) s m [.ref (r 143), .int a1, .int a2, .int a3, .int a4, .int a5].toArray below meth c0 H locs 0 0 (MQ below (qw_Qi D r c g (f_X7_judge S a1 a2 a3 a4 a5) (g_X7_judge S a1 a2 a3 a4 a5)) [.ref (r 143), .int a1, .int a2, .int a3, .int a4, .int a5].toArray s 0 0 (qw_A r)) (F0 m 43 ls [.int v_2, .ref (r 143)]) := by
        intro v_2 H locs ls ev_2 hP hS hl
        refine lv_iconst (v := 2) hx hb dX7_judge_43 (by decide) ?_
        refine wc_iV (k := 143) (C := RX7) (As := [.int v_2, .int (2 : Int32)]) (rest := []) ⟨hx, hb, hml, hown, hts⟩ (c_X7_throwsIf l D c g hr (g_X7_throwsIf (up2 S 143 0 (0 : Int32)) v_1 (1 : Int32)) v_2 (2 : Int32) (by rw [ev_2]; repeat' (first | split | exact Or.inl rfl | exact Or.inr rfl))) (cwV 2 hts gX7_judge_X7_throwsIf rfl rfl rfl (by decide +kernel) ⟨Nat.le_of_ble_eq_true rfl, Nat.le_of_ble_eq_true rfl⟩) (wx_recv hK hP (by decide) qc_143 rfl) hK hP hS (fun _ h => h) rfl hl.1 rfl (lv_room (Nat.le_of_ble_eq_true rfl)) dX7_judge_44 ⟨Nat.zero_le _, Nat.zero_le _⟩ (fun H locs hP hS => ?_)
        refine lv_tope v_2 rfl ?_
        refine lv_if_eq (tgt := 52) hx hb dX7_judge_47 (by decide) (fun c_47 => ?_) (fun c_47 => ?_)
        · have ht := tt_in (S := up2 S 143 0 (0 : Int32)) hI.2.2.2.2.1 (ev_1.symm.trans c_30)
          refine lv_aload_n hx hb dX7_judge_52 rfl (lv_at hl 0 rfl) ?_
          refine lv_iload_n hx hb dX7_judge_53 rfl (lv_at hl 1 rfl) ?_
          refine lv_iload_n hx hb dX7_judge_54 rfl (lv_at hl 2 rfl) ?_
          refine lv_iload hx hb dX7_judge_55 (lv_at hl 4 rfl) ?_
          refine lv_iload hx hb dX7_judge_57 (lv_at hl 5 rfl) ?_
          refine wc_iV (k := 143) (C := RX7) (As := [.int a1, .int a2, .int a4, .int a5]) (rest := []) ⟨hx, hb, hml, hown, hts⟩ (c_X7_capOf l D c g hr (g_X7_throwsIf (g_X7_throwsIf (up2 S 143 0 (0 : Int32)) v_1 (1 : Int32)) v_2 (2 : Int32)) a1 a2 a4 a5 ht.1 ht.2 (InvM.thr (InvM.thr (InvM.zero hI) _ _) _ _)) (cwV 4 hts gX7_judge_X7_capOf rfl rfl rfl (by decide +kernel) ⟨Nat.le_of_ble_eq_true rfl, Nat.le_of_ble_eq_true rfl⟩) (wx_recv hK hP (by decide) qc_143 rfl) hK hP hS (fun _ h => h) rfl hl.1 rfl (lv_room (Nat.le_of_ble_eq_true rfl)) dX7_judge_59 ⟨Nat.zero_le _, Nat.zero_le _⟩ (fun H locs hP hS => ?_)
          refine lv_topi (fun x_3 ex_3 => ?_)
          refine lv_istore (lv' := [(6, .int x_3), (0, .ref (r 143)), (1, .int a1), (2, .int a2), (3, .int a3), (4, .int a4), (5, .int a5)]) hx hb dX7_judge_62 hl (by decide) rfl (fun ls hl => ?_)
          refine lv_iload hx hb dX7_judge_64 (lv_at hl 0 rfl) ?_
          refine lv_if_lt (tgt := 79) hx hb dX7_judge_66 (by decide) (fun c_66 => ?_) (fun c_66 => ?_)
          · refine lv_iconst (v := 0) hx hb dX7_judge_79 (by decide) ?_
            exact wx_iret hx hb hret hlk hK hP hS (by subst ex_3; subst ev_2; subst ev_1; unfold f_X7_judge; rw [if_pos c_30, if_pos c_47, if_pos c_66]) (by subst ex_3; subst ev_2; subst ev_1; unfold g_X7_judge; rw [if_pos c_30, if_pos c_47, if_pos c_66]) dX7_judge_80
          · refine lv_iload_n hx hb dX7_judge_69 rfl (lv_at hl 4 rfl) ?_
            refine lv_iload hx hb dX7_judge_70 (lv_at hl 0 rfl) ?_
            refine lv_icmp_le (tgt := 79) hx hb dX7_judge_72 (by decide) (fun c_72 => ?_) (fun c_72 => ?_)
            · refine lv_iconst (v := 0) hx hb dX7_judge_79 (by decide) ?_
              exact wx_iret hx hb hret hlk hK hP hS (by subst ex_3; subst ev_2; subst ev_1; unfold f_X7_judge; rw [if_pos c_30, if_pos c_47, if_neg c_66, if_pos c_72]) (by subst ex_3; subst ev_2; subst ev_1; unfold g_X7_judge; rw [if_pos c_30, if_pos c_47, if_neg c_66, if_pos c_72]) dX7_judge_80
            · refine lv_iconst (v := 1) hx hb dX7_judge_75 (by decide) ?_
              refine lv_goto (tgt := 80) hx hb dX7_judge_76 (by decide) ?_
              exact wx_iret hx hb hret hlk hK hP hS (by subst ex_3; subst ev_2; subst ev_1; unfold f_X7_judge; rw [if_pos c_30, if_pos c_47, if_neg c_66, if_neg c_72]) (by subst ex_3; subst ev_2; subst ev_1; unfold g_X7_judge; rw [if_pos c_30, if_pos c_47, if_neg c_66, if_neg c_72]) dX7_judge_80
        · refine lv_iconst (v := 0) hx hb dX7_judge_50 (by decide) ?_
          exact wx_iret hx hb hret hlk hK hP hS (by subst ev_2; subst ev_1; unfold f_X7_judge; rw [if_pos c_30, if_neg c_47]) (by subst ev_2; subst ev_1; unfold g_X7_judge; rw [if_pos c_30, if_neg c_47]) dX7_judge_51
      refine lv_iload_n hx hb dX7_judge_34 rfl (lv_at hl 3 rfl) ?_
      refine lv_if_ge (tgt := 42) hx hb dX7_judge_35 (by decide) (fun c_35 => ?_) (fun c_35 => ?_)
      · refine lv_iconst (v := 0) hx hb dX7_judge_42 (by decide) ?_
        exact J_43 _ _ _ _ (by rw [if_pos c_35]) hP hS (lv_sub hl [0, 1, 2, 3, 4, 5] rfl)
      · refine lv_iconst (v := 1) hx hb dX7_judge_38 (by decide) ?_
        refine lv_goto (tgt := 43) hx hb dX7_judge_39 (by decide) ?_
        exact J_43 _ _ _ _ (by rw [if_neg c_35]) hP hS (lv_sub hl [0, 1, 2, 3, 4, 5] rfl)
  refine lv_aload_n hx hb dX7_judge_6 rfl (lv_at hl 0 rfl) ?_
  refine lv_iload_n hx hb dX7_judge_7 rfl (lv_at hl 1 rfl) ?_
  refine wc_iV (k := 143) (C := RX7) (As := [.int a1]) (rest := [.ref (r 143)]) ⟨hx, hb, hml, hown, hts⟩ (c_X7_noTown l D c g hr (up2 S 143 0 (0 : Int32)) a1) (cwV 1 hts gX7_judge_X7_noTown rfl rfl rfl (by decide +kernel) ⟨Nat.le_of_ble_eq_true rfl, Nat.le_of_ble_eq_true rfl⟩) (wx_recv hK hP (by decide) qc_143 rfl) hK hP hS (fun _ h => h) rfl hl.1 rfl (lv_room (Nat.le_of_ble_eq_true rfl)) dX7_judge_8 ⟨Nat.zero_le _, Nat.zero_le _⟩ (fun H locs hP hS => ?_)
  refine lv_if_ne (tgt := 21) hx hb dX7_judge_11 (by decide) (fun c_11 => ?_) (fun c_11 => ?_)
  · refine lv_iconst (v := 1) hx hb dX7_judge_21 (by decide) ?_
    refine lv_goto (tgt := 26) hx hb dX7_judge_22 (by decide) ?_
    exact J_26 _ _ _ _ (by rw [if_neg c_11]) hP hS (lv_sub hl [0, 1, 2, 3, 4, 5] rfl)
  · refine lv_iload_n hx hb dX7_judge_14 rfl (lv_at hl 2 rfl) ?_
    refine wc_iS (As := [.int a2]) (rest := [.ref (r 143)]) ⟨hx, hb, hml, hown, hts⟩ (c_X7_noThing l D c g hr (up2 S 143 0 (0 : Int32)) a2) (va_cwS 1 hts gX7_judge_X7_noThing rfl rfl rfl (by decide +kernel) ⟨Nat.le_of_ble_eq_true rfl, Nat.le_of_ble_eq_true rfl⟩) hK hP hS (fun _ h => h) rfl hl.1 rfl (lv_room (Nat.le_of_ble_eq_true rfl)) dX7_judge_15 ⟨Nat.zero_le _, Nat.zero_le _⟩ (fun H locs hP hS => ?_)
    refine lv_if_eq (tgt := 25) hx hb dX7_judge_18 (by decide) (fun c_18 => ?_) (fun c_18 => ?_)
    · refine lv_iconst (v := 0) hx hb dX7_judge_25 (by decide) ?_
      exact J_26 _ _ _ _ (by rw [if_pos c_11, if_pos c_18]) hP hS (lv_sub hl [0, 1, 2, 3, 4, 5] rfl)
    · refine lv_iconst (v := 1) hx hb dX7_judge_21 (by decide) ?_
      refine lv_goto (tgt := 26) hx hb dX7_judge_22 (by decide) ?_
      exact J_26 _ _ _ _ (by rw [if_pos c_11, if_neg c_18]) hP hS (lv_sub hl [0, 1, 2, 3, 4, 5] rfl)
def f_X7_priceOf (S : qw_St) (a1 : Int32) (a2 : Int32) : Int32 := (if (f_X7_capOf S a1 a2 (0 : Int32) (S 143 1)) < 0 then (S 160 (((6 : Int32) * a1) + a2).toNatClampNeg) else (if (S 160 (((6 : Int32) * a1) + a2).toNatClampNeg) ≤ (f_X7_capOf S a1 a2 (0 : Int32) (S 143 1)) then (S 160 (((6 : Int32) * a1) + a2).toNatClampNeg) else (f_X7_capOf S a1 a2 (0 : Int32) (S 143 1))))
set_option maxHeartbeats 4000000 in
set_option maxRecDepth 100000 in
theorem c_X7_priceOf (l : Launch) (D : va_G) {r : Nat → Nat} (c : Nat → ClassId) (g : Nat → Int64) (hr : qw_inj r) (S : qw_St) (a1 : Int32) (a2 : Int32) (ha : vp_in a1 8) (hb2 : vp_in a2 6) (hI : InvM S) : MI l D r c g yX7_priceOf wsX7_priceOf ({ frames := 3, cells := 0, slots := 0, locals := 80 }) [.ref (r 143), .int a1, .int a2] S (f_X7_priceOf S a1 a2) S := by
  have hiX7 : ∀ w ∈ wsX70, w ∈ wsX7_priceOf := by decide +kernel
  refine wx_of (cc := cX7_priceOf) (nL := 5) (ret := (some .int)) (lvs := [(0, .ref (r 143)), (1, .int a1), (2, .int a2)]) (by decide) rfl rfl (Nat.le_of_ble_eq_true rfl) ?_
  intro p e s m below meth c0 ls hx hb hret hml hts hown hlk hK hP hS hl
  have hP : qw_P D r c g S s.heap := hP
  refine lv_aload_n hx hb dX7_priceOf_0 rfl (lv_at hl 0 rfl) ?_
  refine lv_iload_n hx hb dX7_priceOf_1 rfl (lv_at hl 1 rfl) ?_
  refine lv_iload_n hx hb dX7_priceOf_2 rfl (lv_at hl 2 rfl) ?_
  refine lv_iconst (v := 0) hx hb dX7_priceOf_3 (by decide) ?_
  refine lv_aload_n hx hb dX7_priceOf_4 rfl (lv_at hl 0 rfl) ?_
  refine wx_get hx hb hts hiX7 hown hK hP 143 (by decide) qc_143 rfl 1 (by decide) (hts (.fieldLink RX7 117 "PriceEdictModel" "today" "I") (by decide +kernel)) rfl dX7_priceOf_5 ?_
  refine wc_iV (k := 143) (C := RX7) (As := [.int a1, .int a2, .int (0 : Int32), .int (S 143 1)]) (rest := []) ⟨hx, hb, hml, hown, hts⟩ (c_X7_capOf l D c g hr S a1 a2 (0 : Int32) (S 143 1) (by first | assumption | omega) (by first | assumption | omega) (by first | assumption | omega)) (cwV 4 hts gX7_priceOf_X7_capOf rfl rfl rfl (by decide +kernel) ⟨Nat.le_of_ble_eq_true rfl, Nat.le_of_ble_eq_true rfl⟩) (wx_recv hK hP (by decide) qc_143 rfl) hK hP hS (fun _ h => h) rfl hl.1 rfl (lv_room (Nat.le_of_ble_eq_true rfl)) dX7_priceOf_8 ⟨Nat.zero_le _, Nat.zero_le _⟩ (fun H locs hP hS => ?_)
  refine lv_topi (fun x_1 ex_1 => ?_)
  refine lv_istore_n (lv' := [(3, .int x_1), (0, .ref (r 143)), (1, .int a1), (2, .int a2)]) hx hb dX7_priceOf_11 rfl hl (by decide) rfl (fun ls hl => ?_)
  refine lv_aload_n hx hb dX7_priceOf_12 rfl (lv_at hl 1 rfl) ?_
  refine wx_get hx hb hts hiX7 hown hK hP 143 (by decide) qc_143 rfl 28 (by decide) (hts (.fieldLink RX7 63 "PriceEdictModel" "bid" "[I") (by decide +kernel)) rfl dX7_priceOf_13 ?_
  refine lv_bipush (v := 6) hx hb dX7_priceOf_16 (by decide) ?_
  refine lv_iload_n hx hb dX7_priceOf_18 rfl (lv_at hl 2 rfl) ?_
  refine lv_imul hx hb dX7_priceOf_19 ?_
  refine lv_iload_n hx hb dX7_priceOf_20 rfl (lv_at hl 3 rfl) ?_
  refine lv_iadd hx hb dX7_priceOf_21 ?_
  refine wx_ild hx hb hK hP 160 (by decide) qc_160 (qi_6m ha hb2 (by decide) (by decide)) dX7_priceOf_22 ?_
  refine lv_topi (fun x_2 ex_2 => ?_)
  refine lv_istore (lv' := [(4, .int x_2), (3, .int x_1), (0, .ref (r 143)), (1, .int a1), (2, .int a2)]) hx hb dX7_priceOf_23 hl (by decide) rfl (fun ls hl => ?_)
  refine lv_iload_n hx hb dX7_priceOf_25 rfl (lv_at hl 1 rfl) ?_
  refine lv_if_lt (tgt := 39) hx hb dX7_priceOf_26 (by decide) (fun c_26 => ?_) (fun c_26 => ?_)
  · refine lv_iload hx hb dX7_priceOf_39 (lv_at hl 0 rfl) ?_
    exact wx_iret hx hb hret hlk hK hP hS (by subst ex_2; subst ex_1; unfold f_X7_priceOf; rw [if_pos c_26]) rfl dX7_priceOf_41
  · refine lv_iload_n hx hb dX7_priceOf_29 rfl (lv_at hl 1 rfl) ?_
    refine lv_iload hx hb dX7_priceOf_30 (lv_at hl 0 rfl) ?_
    refine lv_icmp_ge (tgt := 39) hx hb dX7_priceOf_32 (by decide) (fun c_32 => ?_) (fun c_32 => ?_)
    · refine lv_iload hx hb dX7_priceOf_39 (lv_at hl 0 rfl) ?_
      exact wx_iret hx hb hret hlk hK hP hS (by subst ex_2; subst ex_1; unfold f_X7_priceOf; rw [if_neg c_26, if_pos c_32]) rfl dX7_priceOf_41
    · refine lv_iload_n hx hb dX7_priceOf_35 rfl (lv_at hl 1 rfl) ?_
      refine lv_goto (tgt := 41) hx hb dX7_priceOf_36 (by decide) ?_
      exact wx_iret hx hb hret hlk hK hP hS (by subst ex_2; subst ex_1; unfold f_X7_priceOf; rw [if_neg c_26, if_neg c_32]) rfl dX7_priceOf_41
theorem priceOf_nn {S : qw_St} {a1 a2 : Int32} (h : InvM S) (ha : vp_in a1 8) (hb : vp_in a2 6) : ¬ f_X7_priceOf S a1 a2 < 0 := by
  unfold f_X7_priceOf
  have hb9 : ¬ S 160 (6 * a1 + a2).toNatClampNeg < 0 := h.2.2.2.2.2 _ (vp_lt (qi_6m ha hb (by decide) (by decide)))
  split
  · exact hb9
  · split
    · exact hb9
    · assumption
theorem mk_div {p b : Int32} (hp : ¬ p < 0) (h : ¬ b ≤ p) : ¬ b = 0 := by
  intro e; subst e
  rw [Int32.lt_iff_toInt_lt] at hp
  rw [Int32.le_iff_toInt_le] at h
  omega
