def g_X0_clear_2 (d : Nat) : Nat → qw_St → Int32 → qw_St
  | 0, S, _ => S
  | n + 1, S, z1 => (if (6 : Int32) ≤ z1 then (up2 (up2 (up2 S (16 + 3 * d) 2 (0 : Int32)) (16 + 3 * d) 3 (0 : Int32)) (16 + 3 * d) 4 (0 : Int32)) else (g_X0_clear_2 d n (up2 (up2 S (17 + 3 * d) z1.toNatClampNeg (-1 : Int32)) (18 + 3 * d) z1.toNatClampNeg (-1 : Int32)) (z1 + (1 : Int32))))
def g_X0_clear (S : qw_St) (d : Nat) : qw_St := (g_X0_clear_2 d 7 S (0 : Int32))
set_option maxHeartbeats 4000000 in
set_option maxRecDepth 100000 in
theorem c_X0_clear (l : Launch) (D : va_G) {r : Nat → Nat} (c : Nat → ClassId) (g : Nat → Int64) (hr : qw_inj r) (S : qw_St) (d : Nat) (hd : d < 21) : MV l D r c g yX0_clear wsX0_clear ({ frames := 0, cells := 0, slots := 0, locals := 0 }) [.ref (r (16 + 3 * d))] S (g_X0_clear S d) := by
  have hiX0 : ∀ w ∈ wsX00, w ∈ wsX0_clear := by decide +kernel
  refine wx_of (cc := cX0_clear) (nL := 2) (ret := none) (lvs := [(0, .ref (r (16 + 3 * d)))]) (by decide) rfl rfl (Nat.le_of_ble_eq_true rfl) ?_
  intro p e s m below meth c0 ls hx hb hret hml hts hown hlk hK hP hS hl
  have hP : qw_P D r c g S s.heap := hP
  refine lv_iconst (v := 0) hx hb dX0_clear_0 (by decide) ?_
  refine lv_istore_n (lv' := [(1, .int (0 : Int32)), (0, .ref (r (16 + 3 * d)))]) hx hb dX0_clear_1 rfl hl (by decide) rfl (fun ls hl => ?_)
  have L_2 : ∀ (n : Nat) (k : Nat) (z1 : Int32) (S1 : qw_St) (H : Heap) (locs : List Loc) (ls : Array Slot) (hk : k + n = 7 ∧ k ≤ 6) (hz : z1 = nI k) (hg_2 : g_X0_clear_2 d n S1 z1 = (g_X0_clear S d)), qw_P D r c g S1 H → va_S (qw_A r) s.heap H locs → lv_has ls 2 [(1, .int z1), (0, .ref (r (16 + 3 * d)))] → W p l e ({ frames := 0, cells := 0, slots := 0, locals := 0 }) s m [.ref (r (16 + 3 * d))].toArray below meth c0 H locs 0 0 (MQ below (qw_Qv D r c g (g_X0_clear S d)) [.ref (r (16 + 3 * d))].toArray s 0 0 (qw_A r)) (F0 m 2 ls []) := by
    intro n
    induction n with
    | zero =>
      intro k z1 S1 H locs ls hk hz hg_2 hP hS hl
      omega
    | succ n ih_2 =>
      intro k z1 S1 H locs ls hk hz hg_2 hP hS hl
      refine lv_iload_n hx hb dX0_clear_2 rfl (lv_at hl 0 rfl) ?_
      refine lv_bipush (v := 6) hx hb dX0_clear_3 (by decide) ?_
      refine lv_icmp_ge (tgt := 28) hx hb dX0_clear_5 (by decide) (fun c_5 => ?_) (fun c_5 => ?_)
      · refine lv_aload_n hx hb dX0_clear_28 rfl (lv_at hl 1 rfl) ?_
        refine lv_iconst (v := 0) hx hb dX0_clear_29 (by decide) ?_
        refine wx_put hr hx hb hts hiX0 tyX0 tyX0_ok nmX0 hown hK hP hS (16 + 3 * d) (by omega) (qc_dec hd) rfl 2 (by decide) (hts (.fieldLink RX0 18 "PriceEdict$Decree" "carriage" "I") (by decide +kernel)) rfl (by decide +kernel) (fun _ => rfl) (Nat.le_of_ble_eq_true rfl) dX0_clear_30 (fun H locs hP hS => ?_)
        refine lv_aload_n hx hb dX0_clear_33 rfl (lv_at hl 1 rfl) ?_
        refine lv_iconst (v := 0) hx hb dX0_clear_34 (by decide) ?_
        refine wx_put hr hx hb hts hiX0 tyX0 tyX0_ok nmX0 hown hK hP hS (16 + 3 * d) (by omega) (qc_dec hd) rfl 3 (by decide) (hts (.fieldLink RX0 22 "PriceEdict$Decree" "credit" "I") (by decide +kernel)) rfl (by decide +kernel) (fun _ => rfl) (Nat.le_of_ble_eq_true rfl) dX0_clear_35 (fun H locs hP hS => ?_)
        refine lv_aload_n hx hb dX0_clear_38 rfl (lv_at hl 1 rfl) ?_
        refine lv_iconst (v := 0) hx hb dX0_clear_39 (by decide) ?_
        refine wx_put hr hx hb hts hiX0 tyX0 tyX0_ok nmX0 hown hK hP hS (16 + 3 * d) (by omega) (qc_dec hd) rfl 4 (by decide) (hts (.fieldLink RX0 25 "PriceEdict$Decree" "freeTowns" "I") (by decide +kernel)) rfl (by decide +kernel) (fun _ => rfl) (Nat.le_of_ble_eq_true rfl) dX0_clear_40 (fun H locs hP hS => ?_)
        exact wx_vret hx hb hret hlk hK hP hS (by rw [← hg_2, g_X0_clear_2]; rw [if_pos c_5]) dX0_clear_43
      · have hk6 : k < 6 := qi_lt hz (by omega) (m := 6) rfl c_5
        refine lv_aload_n hx hb dX0_clear_8 rfl (lv_at hl 1 rfl) ?_
        refine wx_get hx hb hts hiX0 hown hK hP (16 + 3 * d) (by omega) (qc_dec hd) rfl 0 (by decide) (hts (.fieldLink RX0 9 "PriceEdict$Decree" "caps" "[I") (by decide +kernel)) rfl dX0_clear_9 ?_
        refine lv_iload_n hx hb dX0_clear_12 rfl (lv_at hl 0 rfl) ?_
        refine lv_iconst (v := (-1)) hx hb dX0_clear_13 (by decide) ?_
        refine wx_ist hr hx hb hK hP hS (17 + 3 * d) (by omega) (qc_caps hd) (qi_in hz hk6 (by decide)) dX0_clear_14 (fun H locs hP hS => ?_)
        refine lv_aload_n hx hb dX0_clear_15 rfl (lv_at hl 1 rfl) ?_
        refine wx_get hx hb hts hiX0 hown hK hP (16 + 3 * d) (by omega) (qc_dec hd) rfl 1 (by decide) (hts (.fieldLink RX0 15 "PriceEdict$Decree" "lines" "[I") (by decide +kernel)) rfl dX0_clear_16 ?_
        refine lv_iload_n hx hb dX0_clear_19 rfl (lv_at hl 0 rfl) ?_
        refine lv_iconst (v := (-1)) hx hb dX0_clear_20 (by decide) ?_
        refine wx_ist hr hx hb hK hP hS (18 + 3 * d) (by omega) (qc_lines hd) (qi_in hz hk6 (by decide)) dX0_clear_21 (fun H locs hP hS => ?_)
        obtain ⟨x_1, ex_1⟩ : ∃ y : Int32, y = (z1 + (1 : Int32)) := ⟨_, rfl⟩
        refine lv_iinc (v := x_1) (lv' := [(1, .int x_1), (0, .ref (r (16 + 3 * d)))]) hx hb dX0_clear_22 hl (k := 0) rfl (by rw [ex_1]; rfl) (by decide) rfl (fun ls hl => ?_)
        refine lv_goto (tgt := 2) hx hb dX0_clear_25 (by decide) ?_
        exact ih_2 (k + 1) x_1 (up2 (up2 S1 (17 + 3 * d) z1.toNatClampNeg (-1 : Int32)) (18 + 3 * d) z1.toNatClampNeg (-1 : Int32)) _ _ _ (by omega) (by rw [ex_1]; exact qi_add hz) (by subst ex_1; rw [← hg_2, g_X0_clear_2]; rw [if_neg c_5]) hP hS (lv_sub hl [0, 1] rfl)
  exact L_2 7 0 (0 : Int32) S _ _ _ (by omega) nI_0.symm (by rw [g_X0_clear]) hP hS (lv_sub hl [0, 1] rfl)
def g_X0_capByPrice (S : qw_St) (d : Nat) (a1 : Int32) (a2 : Int32) : qw_St := (if a1 < 0 then S else (if (6 : Int32) ≤ a1 then S else (up2 (up2 S (17 + 3 * d) a1.toNatClampNeg a2) (18 + 3 * d) a1.toNatClampNeg (-1 : Int32))))
set_option maxHeartbeats 4000000 in
set_option maxRecDepth 100000 in
theorem c_X0_capByPrice (l : Launch) (D : va_G) {r : Nat → Nat} (c : Nat → ClassId) (g : Nat → Int64) (hr : qw_inj r) (S : qw_St) (d : Nat) (a1 : Int32) (a2 : Int32) (hd : d < 21) : MV l D r c g yX0_capByPrice wsX0_capByPrice ({ frames := 0, cells := 0, slots := 0, locals := 0 }) [.ref (r (16 + 3 * d)), .int a1, .int a2] S (g_X0_capByPrice S d a1 a2) := by
  have hiX0 : ∀ w ∈ wsX00, w ∈ wsX0_capByPrice := by decide +kernel
  refine wx_of (cc := cX0_capByPrice) (nL := 3) (ret := none) (lvs := [(0, .ref (r (16 + 3 * d))), (1, .int a1), (2, .int a2)]) (by decide) rfl rfl (Nat.le_of_ble_eq_true rfl) ?_
  intro p e s m below meth c0 ls hx hb hret hml hts hown hlk hK hP hS hl
  have hP : qw_P D r c g S s.heap := hP
  refine lv_iload_n hx hb dX0_capByPrice_0 rfl (lv_at hl 1 rfl) ?_
  refine lv_if_lt (tgt := 24) hx hb dX0_capByPrice_1 (by decide) (fun c_1 => ?_) (fun c_1 => ?_)
  · exact wx_vret hx hb hret hlk hK hP hS (by unfold g_X0_capByPrice; rw [if_pos c_1]) dX0_capByPrice_24
  · refine lv_iload_n hx hb dX0_capByPrice_4 rfl (lv_at hl 1 rfl) ?_
    refine lv_bipush (v := 6) hx hb dX0_capByPrice_5 (by decide) ?_
    refine lv_icmp_ge (tgt := 24) hx hb dX0_capByPrice_7 (by decide) (fun c_7 => ?_) (fun c_7 => ?_)
    · exact wx_vret hx hb hret hlk hK hP hS (by unfold g_X0_capByPrice; rw [if_neg c_1, if_pos c_7]) dX0_capByPrice_24
    · refine lv_aload_n hx hb dX0_capByPrice_10 rfl (lv_at hl 0 rfl) ?_
      refine wx_get hx hb hts hiX0 hown hK hP (16 + 3 * d) (by omega) (qc_dec hd) rfl 0 (by decide) (hts (.fieldLink RX0 9 "PriceEdict$Decree" "caps" "[I") (by decide +kernel)) rfl dX0_capByPrice_11 ?_
      refine lv_iload_n hx hb dX0_capByPrice_14 rfl (lv_at hl 1 rfl) ?_
      refine lv_iload_n hx hb dX0_capByPrice_15 rfl (lv_at hl 2 rfl) ?_
      refine wx_ist hr hx hb hK hP hS (17 + 3 * d) (by omega) (qc_caps hd) (qi_in2 c_1 c_7 rfl) dX0_capByPrice_16 (fun H locs hP hS => ?_)
      refine lv_aload_n hx hb dX0_capByPrice_17 rfl (lv_at hl 0 rfl) ?_
      refine wx_get hx hb hts hiX0 hown hK hP (16 + 3 * d) (by omega) (qc_dec hd) rfl 1 (by decide) (hts (.fieldLink RX0 15 "PriceEdict$Decree" "lines" "[I") (by decide +kernel)) rfl dX0_capByPrice_18 ?_
      refine lv_iload_n hx hb dX0_capByPrice_21 rfl (lv_at hl 1 rfl) ?_
      refine lv_iconst (v := (-1)) hx hb dX0_capByPrice_22 (by decide) ?_
      refine wx_ist hr hx hb hK hP hS (18 + 3 * d) (by omega) (qc_lines hd) (qi_in2 c_1 c_7 rfl) dX0_capByPrice_23 (fun H locs hP hS => ?_)
      exact wx_vret hx hb hret hlk hK hP hS (by unfold g_X0_capByPrice; rw [if_neg c_1, if_neg c_7]) dX0_capByPrice_24
def g_X0_capByLine (S : qw_St) (d : Nat) (a1 : Int32) (a2 : Int32) : qw_St := (if a1 < 0 then S else (if (6 : Int32) ≤ a1 then S else (up2 (up2 S (17 + 3 * d) a1.toNatClampNeg (-1 : Int32)) (18 + 3 * d) a1.toNatClampNeg a2)))
set_option maxHeartbeats 4000000 in
set_option maxRecDepth 100000 in
theorem c_X0_capByLine (l : Launch) (D : va_G) {r : Nat → Nat} (c : Nat → ClassId) (g : Nat → Int64) (hr : qw_inj r) (S : qw_St) (d : Nat) (a1 : Int32) (a2 : Int32) (hd : d < 21) : MV l D r c g yX0_capByLine wsX0_capByLine ({ frames := 0, cells := 0, slots := 0, locals := 0 }) [.ref (r (16 + 3 * d)), .int a1, .int a2] S (g_X0_capByLine S d a1 a2) := by
  have hiX0 : ∀ w ∈ wsX00, w ∈ wsX0_capByLine := by decide +kernel
  refine wx_of (cc := cX0_capByLine) (nL := 3) (ret := none) (lvs := [(0, .ref (r (16 + 3 * d))), (1, .int a1), (2, .int a2)]) (by decide) rfl rfl (Nat.le_of_ble_eq_true rfl) ?_
  intro p e s m below meth c0 ls hx hb hret hml hts hown hlk hK hP hS hl
  have hP : qw_P D r c g S s.heap := hP
  refine lv_iload_n hx hb dX0_capByLine_0 rfl (lv_at hl 1 rfl) ?_
  refine lv_if_lt (tgt := 24) hx hb dX0_capByLine_1 (by decide) (fun c_1 => ?_) (fun c_1 => ?_)
  · exact wx_vret hx hb hret hlk hK hP hS (by unfold g_X0_capByLine; rw [if_pos c_1]) dX0_capByLine_24
  · refine lv_iload_n hx hb dX0_capByLine_4 rfl (lv_at hl 1 rfl) ?_
    refine lv_bipush (v := 6) hx hb dX0_capByLine_5 (by decide) ?_
    refine lv_icmp_ge (tgt := 24) hx hb dX0_capByLine_7 (by decide) (fun c_7 => ?_) (fun c_7 => ?_)
    · exact wx_vret hx hb hret hlk hK hP hS (by unfold g_X0_capByLine; rw [if_neg c_1, if_pos c_7]) dX0_capByLine_24
    · refine lv_aload_n hx hb dX0_capByLine_10 rfl (lv_at hl 0 rfl) ?_
      refine wx_get hx hb hts hiX0 hown hK hP (16 + 3 * d) (by omega) (qc_dec hd) rfl 0 (by decide) (hts (.fieldLink RX0 9 "PriceEdict$Decree" "caps" "[I") (by decide +kernel)) rfl dX0_capByLine_11 ?_
      refine lv_iload_n hx hb dX0_capByLine_14 rfl (lv_at hl 1 rfl) ?_
      refine lv_iconst (v := (-1)) hx hb dX0_capByLine_15 (by decide) ?_
      refine wx_ist hr hx hb hK hP hS (17 + 3 * d) (by omega) (qc_caps hd) (qi_in2 c_1 c_7 rfl) dX0_capByLine_16 (fun H locs hP hS => ?_)
      refine lv_aload_n hx hb dX0_capByLine_17 rfl (lv_at hl 0 rfl) ?_
      refine wx_get hx hb hts hiX0 hown hK hP (16 + 3 * d) (by omega) (qc_dec hd) rfl 1 (by decide) (hts (.fieldLink RX0 15 "PriceEdict$Decree" "lines" "[I") (by decide +kernel)) rfl dX0_capByLine_18 ?_
      refine lv_iload_n hx hb dX0_capByLine_21 rfl (lv_at hl 1 rfl) ?_
      refine lv_iload_n hx hb dX0_capByLine_22 rfl (lv_at hl 2 rfl) ?_
      refine wx_ist hr hx hb hK hP hS (18 + 3 * d) (by omega) (qc_lines hd) (qi_in2 c_1 c_7 rfl) dX0_capByLine_23 (fun H locs hP hS => ?_)
      exact wx_vret hx hb hret hlk hK hP hS (by unfold g_X0_capByLine; rw [if_neg c_1, if_neg c_7]) dX0_capByLine_24
def g_X0_setFree (S : qw_St) (d : Nat) (a1 : Int32) : qw_St := (up2 S (16 + 3 * d) 4 ((S (16 + 3 * d) 4) ||| ((1 : Int32) <<< (a1 &&& 31))))
set_option maxHeartbeats 4000000 in
set_option maxRecDepth 100000 in
theorem c_X0_setFree (l : Launch) (D : va_G) {r : Nat → Nat} (c : Nat → ClassId) (g : Nat → Int64) (hr : qw_inj r) (S : qw_St) (d : Nat) (a1 : Int32) (hd : d < 21) : MV l D r c g yX0_setFree wsX0_setFree ({ frames := 0, cells := 0, slots := 0, locals := 0 }) [.ref (r (16 + 3 * d)), .int a1] S (g_X0_setFree S d a1) := by
  have hiX0 : ∀ w ∈ wsX00, w ∈ wsX0_setFree := by decide +kernel
  refine wx_of (cc := cX0_setFree) (nL := 2) (ret := none) (lvs := [(0, .ref (r (16 + 3 * d))), (1, .int a1)]) (by decide) rfl rfl (Nat.le_of_ble_eq_true rfl) ?_
  intro p e s m below meth c0 ls hx hb hret hml hts hown hlk hK hP hS hl
  have hP : qw_P D r c g S s.heap := hP
  refine lv_aload_n hx hb dX0_setFree_0 rfl (lv_at hl 0 rfl) ?_
  refine lv_dup hx hb dX0_setFree_1 rfl ?_
  refine wx_get hx hb hts hiX0 hown hK hP (16 + 3 * d) (by omega) (qc_dec hd) rfl 4 (by decide) (hts (.fieldLink RX0 25 "PriceEdict$Decree" "freeTowns" "I") (by decide +kernel)) rfl dX0_setFree_2 ?_
  refine lv_iconst (v := 1) hx hb dX0_setFree_5 (by decide) ?_
  refine lv_iload_n hx hb dX0_setFree_6 rfl (lv_at hl 1 rfl) ?_
  refine lv_ishl hx hb dX0_setFree_7 ?_
  refine lv_ior hx hb dX0_setFree_8 ?_
  refine wx_put hr hx hb hts hiX0 tyX0 tyX0_ok nmX0 hown hK hP hS (16 + 3 * d) (by omega) (qc_dec hd) rfl 4 (by decide) (hts (.fieldLink RX0 25 "PriceEdict$Decree" "freeTowns" "I") (by decide +kernel)) rfl (by decide +kernel) (fun _ => rfl) (Nat.le_of_ble_eq_true rfl) dX0_setFree_9 (fun H locs hP hS => ?_)
  exact wx_vret hx hb hret hlk hK hP hS (by unfold g_X0_setFree; exact rfl) dX0_setFree_12
def f_X0_frees (S : qw_St) (d : Nat) (a1 : Int32) : Int32 := (if (((S (16 + 3 * d) 4) >>> (a1 &&& 31)) &&& (1 : Int32)) = (1 : Int32) then (1 : Int32) else (0 : Int32))
set_option maxHeartbeats 4000000 in
set_option maxRecDepth 100000 in
theorem c_X0_frees (l : Launch) (D : va_G) {r : Nat → Nat} (c : Nat → ClassId) (g : Nat → Int64) (hr : qw_inj r) (S : qw_St) (d : Nat) (a1 : Int32) (hd : d < 21) : MI l D r c g yX0_frees wsX0_frees ({ frames := 0, cells := 0, slots := 0, locals := 0 }) [.ref (r (16 + 3 * d)), .int a1] S (f_X0_frees S d a1) S := by
  have hiX0 : ∀ w ∈ wsX00, w ∈ wsX0_frees := by decide +kernel
  refine wx_of (cc := cX0_frees) (nL := 2) (ret := (some .boolean)) (lvs := [(0, .ref (r (16 + 3 * d))), (1, .int a1)]) (by decide) rfl rfl (Nat.le_of_ble_eq_true rfl) ?_
  intro p e s m below meth c0 ls hx hb hret hml hts hown hlk hK hP hS hl
  have hP : qw_P D r c g S s.heap := hP
  refine lv_aload_n hx hb dX0_frees_0 rfl (lv_at hl 0 rfl) ?_
  refine wx_get hx hb hts hiX0 hown hK hP (16 + 3 * d) (by omega) (qc_dec hd) rfl 4 (by decide) (hts (.fieldLink RX0 25 "PriceEdict$Decree" "freeTowns" "I") (by decide +kernel)) rfl dX0_frees_1 ?_
  refine lv_iload_n hx hb dX0_frees_4 rfl (lv_at hl 1 rfl) ?_
  refine lv_ishr hx hb dX0_frees_5 ?_
  refine lv_iconst (v := 1) hx hb dX0_frees_6 (by decide) ?_
  refine lv_iand hx hb dX0_frees_7 ?_
  refine lv_iconst (v := 1) hx hb dX0_frees_8 (by decide) ?_
  refine lv_icmp_ne (tgt := 16) hx hb dX0_frees_9 (by decide) (fun c_9 => ?_) (fun c_9 => ?_)
  · refine lv_iconst (v := 0) hx hb dX0_frees_16 (by decide) ?_
    exact wx_zret hx hb hret hlk hK hP hS rfl (by unfold f_X0_frees; rw [if_neg c_9]) rfl dX0_frees_17
  · refine lv_iconst (v := 1) hx hb dX0_frees_12 (by decide) ?_
    refine lv_goto (tgt := 17) hx hb dX0_frees_13 (by decide) ?_
    exact wx_zret hx hb hret hlk hK hP hS rfl (by unfold f_X0_frees; rw [if_pos c_9]) rfl dX0_frees_17
def g_X1_tell (S : qw_St) (a1 : Int32) (a2 : Int32) : qw_St := (if (40 : Int32) ≤ (S 11 2) then S else (up2 (up2 (up2 S 12 (S 11 2).toNatClampNeg a1) 13 (S 11 2).toNatClampNeg a2) 11 2 ((S 11 2) + (1 : Int32))))
set_option maxHeartbeats 4000000 in
set_option maxRecDepth 100000 in
theorem c_X1_tell (l : Launch) (D : va_G) {r : Nat → Nat} (c : Nat → ClassId) (g : Nat → Int64) (hr : qw_inj r) (S : qw_St) (a1 : Int32) (a2 : Int32) (hz : qz (S 11 2) 40) : MV l D r c g yX1_tell wsX1_tell ({ frames := 0, cells := 0, slots := 0, locals := 0 }) [.ref (r 11), .int a1, .int a2] S (g_X1_tell S a1 a2) := by
  have hiX1 : ∀ w ∈ wsX10, w ∈ wsX1_tell := by decide +kernel
  refine wx_of (cc := cX1_tell) (nL := 3) (ret := none) (lvs := [(0, .ref (r 11)), (1, .int a1), (2, .int a2)]) (by decide) rfl rfl (Nat.le_of_ble_eq_true rfl) ?_
  intro p e s m below meth c0 ls hx hb hret hml hts hown hlk hK hP hS hl
  have hP : qw_P D r c g S s.heap := hP
  refine lv_aload_n hx hb dX1_tell_0 rfl (lv_at hl 0 rfl) ?_
  refine wx_get hx hb hts hiX1 hown hK hP 11 (by decide) qc_11 rfl 2 (by decide) (hts (.fieldLink RX1 18 "PriceEdict$News" "size" "I") (by decide +kernel)) rfl dX1_tell_1 ?_
  refine lv_aload_n hx hb dX1_tell_4 rfl (lv_at hl 0 rfl) ?_
  refine wx_get hx hb hts hiX1 hown hK hP 11 (by decide) qc_11 rfl 1 (by decide) (hts (.fieldLink RX1 15 "PriceEdict$News" "told" "[I") (by decide +kernel)) rfl dX1_tell_5 ?_
  refine wx_len hx hb hK hP 0 rfl 13 (by decide) (qc_13 _) (v := 40) rfl dX1_tell_8 ?_
  refine lv_icmp_ge (tgt := 42) hx hb dX1_tell_9 (by decide) (fun c_9 => ?_) (fun c_9 => ?_)
  · exact wx_vret hx hb hret hlk hK hP hS (by unfold g_X1_tell; rw [if_pos c_9]) dX1_tell_42
  · refine lv_aload_n hx hb dX1_tell_12 rfl (lv_at hl 0 rfl) ?_
    refine wx_get hx hb hts hiX1 hown hK hP 11 (by decide) qc_11 rfl 0 (by decide) (hts (.fieldLink RX1 9 "PriceEdict$News" "toldOn" "[I") (by decide +kernel)) rfl dX1_tell_13 ?_
    refine lv_aload_n hx hb dX1_tell_16 rfl (lv_at hl 0 rfl) ?_
    refine wx_get hx hb hts hiX1 hown hK hP 11 (by decide) qc_11 rfl 2 (by decide) (hts (.fieldLink RX1 18 "PriceEdict$News" "size" "I") (by decide +kernel)) rfl dX1_tell_17 ?_
    refine lv_iload_n hx hb dX1_tell_20 rfl (lv_at hl 1 rfl) ?_
    refine wx_ist hr hx hb hK hP hS 12 (by decide) qc_12 (qi_sz hz (by decide) rfl c_9) dX1_tell_21 (fun H locs hP hS => ?_)
    refine lv_aload_n hx hb dX1_tell_22 rfl (lv_at hl 0 rfl) ?_
    refine wx_get hx hb hts hiX1 hown hK hP 11 (by decide) qc_11 rfl 1 (by decide) (hts (.fieldLink RX1 15 "PriceEdict$News" "told" "[I") (by decide +kernel)) rfl dX1_tell_23 ?_
    refine lv_aload_n hx hb dX1_tell_26 rfl (lv_at hl 0 rfl) ?_
    refine wx_get hx hb hts hiX1 hown hK hP 11 (by decide) qc_11 rfl 2 (by decide) (hts (.fieldLink RX1 18 "PriceEdict$News" "size" "I") (by decide +kernel)) rfl dX1_tell_27 ?_
    refine lv_tope (S 11 2) ((up2_ne _ _ (Or.inl (by decide)))) ?_
    refine lv_iload_n hx hb dX1_tell_30 rfl (lv_at hl 2 rfl) ?_
    refine wx_ist hr hx hb hK hP hS 13 (by decide) qc_13 (qi_sz hz (by decide) rfl c_9) dX1_tell_31 (fun H locs hP hS => ?_)
    refine lv_aload_n hx hb dX1_tell_32 rfl (lv_at hl 0 rfl) ?_
    refine lv_dup hx hb dX1_tell_33 rfl ?_
    refine wx_get hx hb hts hiX1 hown hK hP 11 (by decide) qc_11 rfl 2 (by decide) (hts (.fieldLink RX1 18 "PriceEdict$News" "size" "I") (by decide +kernel)) rfl dX1_tell_34 ?_
    refine lv_tope (S 11 2) ((up2_ne _ _ (Or.inl (by decide))).trans ((up2_ne _ _ (Or.inl (by decide))))) ?_
    refine lv_iconst (v := 1) hx hb dX1_tell_37 (by decide) ?_
    refine lv_iadd hx hb dX1_tell_38 ?_
    refine wx_put hr hx hb hts hiX1 tyX1 tyX1_ok nmX1 hown hK hP hS 11 (by decide) qc_11 rfl 2 (by decide) (hts (.fieldLink RX1 18 "PriceEdict$News" "size" "I") (by decide +kernel)) rfl (by decide +kernel) (fun _ => rfl) (Nat.le_of_ble_eq_true rfl) dX1_tell_39 (fun H locs hP hS => ?_)
    exact wx_vret hx hb hret hlk hK hP hS (by unfold g_X1_tell; rw [if_neg c_9]) dX1_tell_42
def f_X1_latest (S : qw_St) : Int32 := (if (S 11 2) ≤ 0 then (-1 : Int32) else (S 13 ((S 11 2) - (1 : Int32)).toNatClampNeg))
set_option maxHeartbeats 4000000 in
set_option maxRecDepth 100000 in
theorem c_X1_latest (l : Launch) (D : va_G) {r : Nat → Nat} (c : Nat → ClassId) (g : Nat → Int64) (hr : qw_inj r) (S : qw_St) (hz : qz (S 11 2) 40) : MI l D r c g yX1_latest wsX1_latest ({ frames := 0, cells := 0, slots := 0, locals := 0 }) [.ref (r 11)] S (f_X1_latest S) S := by
  have hiX1 : ∀ w ∈ wsX10, w ∈ wsX1_latest := by decide +kernel
  refine wx_of (cc := cX1_latest) (nL := 1) (ret := (some .int)) (lvs := [(0, .ref (r 11))]) (by decide) rfl rfl (Nat.le_of_ble_eq_true rfl) ?_
  intro p e s m below meth c0 ls hx hb hret hml hts hown hlk hK hP hS hl
  have hP : qw_P D r c g S s.heap := hP
  refine lv_aload_n hx hb dX1_latest_0 rfl (lv_at hl 0 rfl) ?_
  refine wx_get hx hb hts hiX1 hown hK hP 11 (by decide) qc_11 rfl 2 (by decide) (hts (.fieldLink RX1 18 "PriceEdict$News" "size" "I") (by decide +kernel)) rfl dX1_latest_1 ?_
  refine lv_if_le (tgt := 21) hx hb dX1_latest_4 (by decide) (fun c_4 => ?_) (fun c_4 => ?_)
  · refine lv_iconst (v := (-1)) hx hb dX1_latest_21 (by decide) ?_
    exact wx_iret hx hb hret hlk hK hP hS (by unfold f_X1_latest; rw [if_pos c_4]) rfl dX1_latest_22
  · refine lv_aload_n hx hb dX1_latest_7 rfl (lv_at hl 0 rfl) ?_
    refine wx_get hx hb hts hiX1 hown hK hP 11 (by decide) qc_11 rfl 1 (by decide) (hts (.fieldLink RX1 15 "PriceEdict$News" "told" "[I") (by decide +kernel)) rfl dX1_latest_8 ?_
    refine lv_aload_n hx hb dX1_latest_11 rfl (lv_at hl 0 rfl) ?_
    refine wx_get hx hb hts hiX1 hown hK hP 11 (by decide) qc_11 rfl 2 (by decide) (hts (.fieldLink RX1 18 "PriceEdict$News" "size" "I") (by decide +kernel)) rfl dX1_latest_12 ?_
    refine lv_iconst (v := 1) hx hb dX1_latest_15 (by decide) ?_
    refine lv_isub hx hb dX1_latest_16 ?_
    refine wx_ild hx hb hK hP 13 (by decide) qc_13 (qi_pred hz (by decide) (Decidable.not_not.mp (fun h => c_4 (Int32.not_lt.mp h)))) dX1_latest_17 ?_
    refine lv_goto (tgt := 22) hx hb dX1_latest_18 (by decide) ?_
    exact wx_iret hx hb hret hlk hK hP hS (by unfold f_X1_latest; rw [if_neg c_4]) rfl dX1_latest_22
def f_X1_heard_5 (a1 : Int32) (a2 : Int32) : Nat → qw_St → Int32 → Int32 → Int32
  | 0, S, _, _ => 0
  | n + 1, S, z3, z4 => (if (S 11 2) ≤ z4 then z3 else (if a2 < ((S 12 z4.toNatClampNeg) + a1) then (f_X1_heard_5 a1 a2 n S z3 (z4 + (1 : Int32))) else (f_X1_heard_5 a1 a2 n S (S 13 z4.toNatClampNeg) (z4 + (1 : Int32)))))
def f_X1_heard (S : qw_St) (a1 : Int32) (a2 : Int32) : Int32 := (f_X1_heard_5 a1 a2 ((S 11 2).toNatClampNeg + 1) S (-1 : Int32) (0 : Int32))
set_option maxHeartbeats 4000000 in
set_option maxRecDepth 100000 in
theorem c_X1_heard (l : Launch) (D : va_G) {r : Nat → Nat} (c : Nat → ClassId) (g : Nat → Int64) (hr : qw_inj r) (S : qw_St) (a1 : Int32) (a2 : Int32) (hz : qz (S 11 2) 40) : MI l D r c g yX1_heard wsX1_heard ({ frames := 0, cells := 0, slots := 0, locals := 0 }) [.ref (r 11), .int a1, .int a2] S (f_X1_heard S a1 a2) S := by
  have hiX1 : ∀ w ∈ wsX10, w ∈ wsX1_heard := by decide +kernel
  refine wx_of (cc := cX1_heard) (nL := 5) (ret := (some .int)) (lvs := [(0, .ref (r 11)), (1, .int a1), (2, .int a2)]) (by decide) rfl rfl (Nat.le_of_ble_eq_true rfl) ?_
  intro p e s m below meth c0 ls hx hb hret hml hts hown hlk hK hP hS hl
  obtain ⟨m0, hm0, em0⟩ := hz
  have hP : qw_P D r c g S s.heap := hP
  refine lv_iconst (v := (-1)) hx hb dX1_heard_0 (by decide) ?_
  refine lv_istore_n (lv' := [(3, .int (-1 : Int32)), (0, .ref (r 11)), (1, .int a1), (2, .int a2)]) hx hb dX1_heard_1 rfl hl (by decide) rfl (fun ls hl => ?_)
  refine lv_iconst (v := 0) hx hb dX1_heard_2 (by decide) ?_
  refine lv_istore (lv' := [(4, .int (0 : Int32)), (3, .int (-1 : Int32)), (0, .ref (r 11)), (1, .int a1), (2, .int a2)]) hx hb dX1_heard_3 hl (by decide) rfl (fun ls hl => ?_)
  have L_5 : ∀ (n : Nat) (k : Nat) (z3 : Int32) (z4 : Int32) (H : Heap) (locs : List Loc) (ls : Array Slot) (hk : k + n = m0 + 1 ∧ k ≤ m0) (hk4 : z4 = nI k) (hf_5 : f_X1_heard_5 a1 a2 n S z3 z4 = (f_X1_heard S a1 a2)), qw_P D r c g S H → va_S (qw_A r) s.heap H locs → lv_has ls 5 [(4, .int z4), (3, .int z3), (0, .ref (r 11)), (1, .int a1), (2, .int a2)] → W p l e ({ frames := 0, cells := 0, slots := 0, locals := 0 }) s m [.ref (r 11), .int a1, .int a2].toArray below meth c0 H locs 0 0 (MQ below (qw_Qi D r c g (f_X1_heard S a1 a2) S) [.ref (r 11), .int a1, .int a2].toArray s 0 0 (qw_A r)) (F0 m 5 ls []) := by
    intro n
    induction n with
    | zero =>
      intro k z3 z4 H locs ls hk hk4 hf_5 hP hS hl
      omega
    | succ n ih_5 =>
      intro k z3 z4 H locs ls hk hk4 hf_5 hP hS hl
      refine lv_iload hx hb dX1_heard_5 (lv_at hl 0 rfl) ?_
      refine lv_aload_n hx hb dX1_heard_7 rfl (lv_at hl 2 rfl) ?_
      refine wx_get hx hb hts hiX1 hown hK hP 11 (by decide) qc_11 rfl 2 (by decide) (hts (.fieldLink RX1 18 "PriceEdict$News" "size" "I") (by decide +kernel)) rfl dX1_heard_8 ?_
      refine lv_icmp_ge (tgt := 41) hx hb dX1_heard_11 (by decide) (fun c_11 => ?_) (fun c_11 => ?_)
      · refine lv_iload_n hx hb dX1_heard_41 rfl (lv_at hl 1 rfl) ?_
        exact wx_iret hx hb hret hlk hK hP hS (by rw [← hf_5, f_X1_heard_5]; rw [if_pos c_11]) rfl dX1_heard_42
      · have hk5 : k < m0 := qi_ltn hk4 (by omega) em0 (by omega) c_11
        refine lv_aload_n hx hb dX1_heard_14 rfl (lv_at hl 2 rfl) ?_
        refine wx_get hx hb hts hiX1 hown hK hP 11 (by decide) qc_11 rfl 0 (by decide) (hts (.fieldLink RX1 9 "PriceEdict$News" "toldOn" "[I") (by decide +kernel)) rfl dX1_heard_15 ?_
        refine lv_iload hx hb dX1_heard_18 (lv_at hl 0 rfl) ?_
        refine wx_ild hx hb hK hP 12 (by decide) qc_12 (qi_in hk4 (by omega) (by decide)) dX1_heard_20 ?_
        refine lv_iload_n hx hb dX1_heard_21 rfl (lv_at hl 3 rfl) ?_
        refine lv_iadd hx hb dX1_heard_22 ?_
        refine lv_iload_n hx hb dX1_heard_23 rfl (lv_at hl 4 rfl) ?_
        refine lv_icmp_gt (tgt := 35) hx hb dX1_heard_24 (by decide) (fun c_24 => ?_) (fun c_24 => ?_)
        · obtain ⟨x_1, ex_1⟩ : ∃ y : Int32, y = (z4 + (1 : Int32)) := ⟨_, rfl⟩
          refine lv_iinc (v := x_1) (lv' := [(4, .int x_1), (3, .int z3), (0, .ref (r 11)), (1, .int a1), (2, .int a2)]) hx hb dX1_heard_35 hl (k := 0) rfl (by rw [ex_1]; rfl) (by decide) rfl (fun ls hl => ?_)
          refine lv_goto (tgt := 5) hx hb dX1_heard_38 (by decide) ?_
          exact ih_5 (k + 1) z3 x_1 _ _ _ (by omega) (by rw [ex_1]; exact qi_add hk4) (by subst ex_1; rw [← hf_5, f_X1_heard_5]; rw [if_neg c_11, if_pos c_24]) hP hS (lv_sub hl [0, 1, 2, 3, 4] rfl)
        · refine lv_aload_n hx hb dX1_heard_27 rfl (lv_at hl 2 rfl) ?_
          refine wx_get hx hb hts hiX1 hown hK hP 11 (by decide) qc_11 rfl 1 (by decide) (hts (.fieldLink RX1 15 "PriceEdict$News" "told" "[I") (by decide +kernel)) rfl dX1_heard_28 ?_
          refine lv_iload hx hb dX1_heard_31 (lv_at hl 0 rfl) ?_
          refine wx_ild hx hb hK hP 13 (by decide) qc_13 (qi_in hk4 (by omega) (by decide)) dX1_heard_33 ?_
          refine lv_topi (fun x_2 ex_2 => ?_)
          refine lv_istore_n (lv' := [(3, .int x_2), (4, .int z4), (0, .ref (r 11)), (1, .int a1), (2, .int a2)]) hx hb dX1_heard_34 rfl hl (by decide) rfl (fun ls hl => ?_)
          obtain ⟨x_3, ex_3⟩ : ∃ y : Int32, y = (z4 + (1 : Int32)) := ⟨_, rfl⟩
          refine lv_iinc (v := x_3) (lv' := [(4, .int x_3), (3, .int x_2), (0, .ref (r 11)), (1, .int a1), (2, .int a2)]) hx hb dX1_heard_35 hl (k := 1) rfl (by rw [ex_3]; rfl) (by decide) rfl (fun ls hl => ?_)
          refine lv_goto (tgt := 5) hx hb dX1_heard_38 (by decide) ?_
          exact ih_5 (k + 1) x_2 x_3 _ _ _ (by omega) (by rw [ex_3]; exact qi_add hk4) (by subst ex_3; subst ex_2; rw [← hf_5, f_X1_heard_5]; rw [if_neg c_11, if_neg c_24]) hP hS (lv_sub hl [0, 1, 2, 3, 4] rfl)
  exact L_5 ((S 11 2).toNatClampNeg + 1) 0 (-1 : Int32) (0 : Int32) _ _ _ (by rw [qi_cl em0 (by omega)]; omega) nI_0.symm (by rw [f_X1_heard]) hP hS (lv_sub hl [0, 1, 2, 3, 4] rfl)
def f_X4_tensOfMiles (S : qw_St) (t : Nat) : Int32 := ((S (79 + 8 * t) 1) / (10 : Int32))
set_option maxHeartbeats 4000000 in
set_option maxRecDepth 100000 in
theorem c_X4_tensOfMiles (l : Launch) (D : va_G) {r : Nat → Nat} (c : Nat → ClassId) (g : Nat → Int64) (hr : qw_inj r) (S : qw_St) (t : Nat) (ht : t < 8) : MI l D r c g yX4_tensOfMiles wsX4_tensOfMiles ({ frames := 0, cells := 0, slots := 0, locals := 0 }) [.ref (r (79 + 8 * t))] S (f_X4_tensOfMiles S t) S := by
  have hiX4 : ∀ w ∈ wsX40, w ∈ wsX4_tensOfMiles := by decide +kernel
  refine wx_of (cc := cX4_tensOfMiles) (nL := 1) (ret := (some .int)) (lvs := [(0, .ref (r (79 + 8 * t)))]) (by decide) rfl rfl (Nat.le_of_ble_eq_true rfl) ?_
  intro p e s m below meth c0 ls hx hb hret hml hts hown hlk hK hP hS hl
  have hP : qw_P D r c g S s.heap := hP
  refine lv_aload_n hx hb dX4_tensOfMiles_0 rfl (lv_at hl 0 rfl) ?_
  refine wx_get hx hb hts hiX4 hown hK hP (79 + 8 * t) (by omega) (qc_town ht) rfl 1 (by decide) (hts (.fieldLink RX4 17 "PriceEdict$Town" "miles" "I") (by decide +kernel)) rfl dX4_tensOfMiles_1 ?_
  refine lv_bipush (v := 10) hx hb dX4_tensOfMiles_4 (by decide) ?_
  refine lv_idiv hx hb dX4_tensOfMiles_6 (by decide) ?_
  exact wx_iret hx hb hret hlk hK hP hS (by unfold f_X4_tensOfMiles; exact rfl) rfl dX4_tensOfMiles_7
