theorem qi_m40 {x : Int32} {k N : Nat} (hx : x = nI k) (h : k * 4 < N) (hN : N < 2 ^ 31) : vp_in (x * 4) N := by
  have := qi_m4 (m := 0) hx nI_0.symm (by omega : k * 4 + 0 < N) hN
  rwa [Int32.add_zero] at this
def g_X2_lay (S : qw_St) (a1 : Int32) (a2 : Int32) (a3 : Int32) (a4 : Int32) (a5 : Int32) (a6 : Int32) : qw_St := (if (S 3 6) < (60 : Int32) then (up2 (up2 (up2 (up2 (up2 (up2 (up2 (up2 S 4 (S 3 6).toNatClampNeg a1) 6 (S 3 6).toNatClampNeg a2) 7 (S 3 6).toNatClampNeg (-1 : Int32)) 5 ((S 3 6) * (4 : Int32)).toNatClampNeg a3) 5 (((S 3 6) * (4 : Int32)) + (1 : Int32)).toNatClampNeg a4) 5 (((S 3 6) * (4 : Int32)) + (2 : Int32)).toNatClampNeg a5) 5 (((S 3 6) * (4 : Int32)) + (3 : Int32)).toNatClampNeg a6) 3 6 ((S 3 6) + (1 : Int32))) else S)
def f_X2_lay (S : qw_St) (a1 : Int32) (a2 : Int32) (a3 : Int32) (a4 : Int32) (a5 : Int32) (a6 : Int32) : Int32 := (if (S 3 6) < (60 : Int32) then (S 3 6) else (-1 : Int32))
set_option maxHeartbeats 4000000 in
set_option maxRecDepth 100000 in
theorem c_X2_lay (l : Launch) (D : va_G) {r : Nat → Nat} (c : Nat → ClassId) (g : Nat → Int64) (hr : qw_inj r) (S : qw_St) (a1 : Int32) (a2 : Int32) (a3 : Int32) (a4 : Int32) (a5 : Int32) (a6 : Int32) (hz : qz (S 3 6) 60) : MI l D r c g yX2_lay wsX2_lay ({ frames := 0, cells := 0, slots := 0, locals := 0 }) [.ref (r 3), .int a1, .int a2, .int a3, .int a4, .int a5, .int a6] S (f_X2_lay S a1 a2 a3 a4 a5 a6) (g_X2_lay S a1 a2 a3 a4 a5 a6) := by
  have hiX2 : ∀ w ∈ wsX20, w ∈ wsX2_lay := by decide +kernel
  refine wx_of (cc := cX2_lay) (nL := 9) (ret := (some .int)) (lvs := [(0, .ref (r 3)), (1, .int a1), (2, .int a2), (3, .int a3), (4, .int a4), (5, .int a5), (6, .int a6)]) (by decide) rfl rfl (Nat.le_of_ble_eq_true rfl) ?_
  intro p e s m below meth c0 ls hx hb hret hml hts hown hlk hK hP hS hl
  obtain ⟨m0, hm0, em0⟩ := id hz
  have hP : qw_P D r c g S s.heap := hP
  refine lv_aload_n hx hb dX2_lay_0 rfl (lv_at hl 0 rfl) ?_
  refine wx_get hx hb hts hiX2 hown hK hP 3 (by decide) qc_3 rfl 6 (by decide) (hts (.fieldLink RX2 30 "PriceEdict$Stones" "size" "I") (by decide +kernel)) rfl dX2_lay_1 ?_
  refine lv_bipush (v := 60) hx hb dX2_lay_4 (by decide) ?_
  refine lv_icmp_lt (tgt := 11) hx hb dX2_lay_6 (by decide) (fun c_6 => ?_) (fun c_6 => ?_)
  · have hm1 : m0 < 60 := qi_lt' em0 (by omega) (m := 60) rfl c_6
    refine lv_aload_n hx hb dX2_lay_11 rfl (lv_at hl 0 rfl) ?_
    refine wx_get hx hb hts hiX2 hown hK hP 3 (by decide) qc_3 rfl 6 (by decide) (hts (.fieldLink RX2 30 "PriceEdict$Stones" "size" "I") (by decide +kernel)) rfl dX2_lay_12 ?_
    refine lv_topi (fun x_1 ex_1 => ?_)
    refine lv_istore (lv' := [(7, .int x_1), (0, .ref (r 3)), (1, .int a1), (2, .int a2), (3, .int a3), (4, .int a4), (5, .int a5), (6, .int a6)]) hx hb dX2_lay_15 hl (by decide) rfl (fun ls hl => ?_)
    refine lv_aload_n hx hb dX2_lay_17 rfl (lv_at hl 1 rfl) ?_
    refine wx_get hx hb hts hiX2 hown hK hP 3 (by decide) qc_3 rfl 0 (by decide) (hts (.fieldLink RX2 9 "PriceEdict$Stones" "lines" "[I") (by decide +kernel)) rfl dX2_lay_18 ?_
    refine lv_iload hx hb dX2_lay_21 (lv_at hl 0 rfl) ?_
    refine lv_iload_n hx hb dX2_lay_23 rfl (lv_at hl 2 rfl) ?_
    refine wx_ist hr hx hb hK hP hS 4 (by decide) qc_4 (qi_in (ex_1.trans em0) hm1 (by decide)) dX2_lay_24 (fun H locs hP hS => ?_)
    refine lv_aload_n hx hb dX2_lay_25 rfl (lv_at hl 1 rfl) ?_
    refine wx_get hx hb hts hiX2 hown hK hP 3 (by decide) qc_3 rfl 2 (by decide) (hts (.fieldLink RX2 18 "PriceEdict$Stones" "found" "[I") (by decide +kernel)) rfl dX2_lay_26 ?_
    refine lv_iload hx hb dX2_lay_29 (lv_at hl 0 rfl) ?_
    refine lv_iload_n hx hb dX2_lay_31 rfl (lv_at hl 3 rfl) ?_
    refine wx_ist hr hx hb hK hP hS 6 (by decide) qc_6 (qi_in (ex_1.trans em0) hm1 (by decide)) dX2_lay_32 (fun H locs hP hS => ?_)
    refine lv_aload_n hx hb dX2_lay_33 rfl (lv_at hl 1 rfl) ?_
    refine wx_get hx hb hts hiX2 hown hK hP 3 (by decide) qc_3 rfl 3 (by decide) (hts (.fieldLink RX2 21 "PriceEdict$Stones" "struck" "[I") (by decide +kernel)) rfl dX2_lay_34 ?_
    refine lv_iload hx hb dX2_lay_37 (lv_at hl 0 rfl) ?_
    refine lv_iconst (v := (-1)) hx hb dX2_lay_39 (by decide) ?_
    refine wx_ist hr hx hb hK hP hS 7 (by decide) qc_7 (qi_in (ex_1.trans em0) hm1 (by decide)) dX2_lay_40 (fun H locs hP hS => ?_)
    refine lv_iload hx hb dX2_lay_41 (lv_at hl 0 rfl) ?_
    refine lv_iconst (v := 4) hx hb dX2_lay_43 (by decide) ?_
    refine lv_imul hx hb dX2_lay_44 ?_
    refine lv_topi (fun x_2 ex_2 => ?_)
    refine lv_istore (lv' := [(8, .int x_2), (7, .int x_1), (0, .ref (r 3)), (1, .int a1), (2, .int a2), (3, .int a3), (4, .int a4), (5, .int a5), (6, .int a6)]) hx hb dX2_lay_45 hl (by decide) rfl (fun ls hl => ?_)
    refine lv_aload_n hx hb dX2_lay_47 rfl (lv_at hl 2 rfl) ?_
    refine wx_get hx hb hts hiX2 hown hK hP 3 (by decide) qc_3 rfl 1 (by decide) (hts (.fieldLink RX2 15 "PriceEdict$Stones" "figures" "[I") (by decide +kernel)) rfl dX2_lay_48 ?_
    refine lv_iload hx hb dX2_lay_51 (lv_at hl 0 rfl) ?_
    refine lv_iload_n hx hb dX2_lay_53 rfl (lv_at hl 5 rfl) ?_
    refine wx_ist hr hx hb hK hP hS 5 (by decide) qc_5 (by rw [ex_2, ex_1]; exact qi_m40 em0 (by omega) (by decide)) dX2_lay_54 (fun H locs hP hS => ?_)
    refine lv_aload_n hx hb dX2_lay_55 rfl (lv_at hl 2 rfl) ?_
    refine wx_get hx hb hts hiX2 hown hK hP 3 (by decide) qc_3 rfl 1 (by decide) (hts (.fieldLink RX2 15 "PriceEdict$Stones" "figures" "[I") (by decide +kernel)) rfl dX2_lay_56 ?_
    refine lv_iload hx hb dX2_lay_59 (lv_at hl 0 rfl) ?_
    refine lv_iconst (v := 1) hx hb dX2_lay_61 (by decide) ?_
    refine lv_iadd hx hb dX2_lay_62 ?_
    refine lv_iload hx hb dX2_lay_63 (lv_at hl 6 rfl) ?_
    refine wx_ist hr hx hb hK hP hS 5 (by decide) qc_5 (by rw [ex_2, ex_1]; exact qi_m4 (m := 1) em0 rfl (by omega) (by decide)) dX2_lay_65 (fun H locs hP hS => ?_)
    refine lv_aload_n hx hb dX2_lay_66 rfl (lv_at hl 2 rfl) ?_
    refine wx_get hx hb hts hiX2 hown hK hP 3 (by decide) qc_3 rfl 1 (by decide) (hts (.fieldLink RX2 15 "PriceEdict$Stones" "figures" "[I") (by decide +kernel)) rfl dX2_lay_67 ?_
    refine lv_iload hx hb dX2_lay_70 (lv_at hl 0 rfl) ?_
    refine lv_iconst (v := 2) hx hb dX2_lay_72 (by decide) ?_
    refine lv_iadd hx hb dX2_lay_73 ?_
    refine lv_iload hx hb dX2_lay_74 (lv_at hl 7 rfl) ?_
    refine wx_ist hr hx hb hK hP hS 5 (by decide) qc_5 (by rw [ex_2, ex_1]; exact qi_m4 (m := 2) em0 rfl (by omega) (by decide)) dX2_lay_76 (fun H locs hP hS => ?_)
    refine lv_aload_n hx hb dX2_lay_77 rfl (lv_at hl 2 rfl) ?_
    refine wx_get hx hb hts hiX2 hown hK hP 3 (by decide) qc_3 rfl 1 (by decide) (hts (.fieldLink RX2 15 "PriceEdict$Stones" "figures" "[I") (by decide +kernel)) rfl dX2_lay_78 ?_
    refine lv_iload hx hb dX2_lay_81 (lv_at hl 0 rfl) ?_
    refine lv_iconst (v := 3) hx hb dX2_lay_83 (by decide) ?_
    refine lv_iadd hx hb dX2_lay_84 ?_
    refine lv_iload hx hb dX2_lay_85 (lv_at hl 8 rfl) ?_
    refine wx_ist hr hx hb hK hP hS 5 (by decide) qc_5 (by rw [ex_2, ex_1]; exact qi_m4 (m := 3) em0 rfl (by omega) (by decide)) dX2_lay_87 (fun H locs hP hS => ?_)
    refine lv_aload_n hx hb dX2_lay_88 rfl (lv_at hl 2 rfl) ?_
    refine lv_dup hx hb dX2_lay_89 rfl ?_
    refine wx_get hx hb hts hiX2 hown hK hP 3 (by decide) qc_3 rfl 6 (by decide) (hts (.fieldLink RX2 30 "PriceEdict$Stones" "size" "I") (by decide +kernel)) rfl dX2_lay_90 ?_
    refine lv_tope (S 3 6) ((up2_ne _ _ (Or.inl (by decide))).trans ((up2_ne _ _ (Or.inl (by decide))).trans ((up2_ne _ _ (Or.inl (by decide))).trans ((up2_ne _ _ (Or.inl (by decide))).trans ((up2_ne _ _ (Or.inl (by decide))).trans ((up2_ne _ _ (Or.inl (by decide))).trans ((up2_ne _ _ (Or.inl (by decide)))))))))) ?_
    refine lv_iconst (v := 1) hx hb dX2_lay_93 (by decide) ?_
    refine lv_iadd hx hb dX2_lay_94 ?_
    refine wx_put hr hx hb hts hiX2 tyX2 tyX2_ok nmX2 hown hK hP hS 3 (by decide) qc_3 rfl 6 (by decide) (hts (.fieldLink RX2 30 "PriceEdict$Stones" "size" "I") (by decide +kernel)) rfl (by decide +kernel) (fun _ => rfl) (Nat.le_of_ble_eq_true rfl) dX2_lay_95 (fun H locs hP hS => ?_)
    refine lv_iload hx hb dX2_lay_98 (lv_at hl 1 rfl) ?_
    exact wx_iret hx hb hret hlk hK hP hS (by subst ex_2; subst ex_1; unfold f_X2_lay; rw [if_pos c_6]) (by subst ex_2; subst ex_1; unfold g_X2_lay; rw [if_pos c_6]) dX2_lay_100
  · refine lv_iconst (v := (-1)) hx hb dX2_lay_9 (by decide) ?_
    exact wx_iret hx hb hret hlk hK hP hS (by unfold f_X2_lay; rw [if_neg c_6]) (by unfold g_X2_lay; rw [if_neg c_6]) dX2_lay_10
def g_X2_strikeOut (S : qw_St) (a1 : Int32) (a2 : Int32) : qw_St := (if (S 7 a1.toNatClampNeg) = (-1 : Int32) then (up2 (up2 S 7 a1.toNatClampNeg a2) 3 7 ((S 3 7) + (1 : Int32))) else S)
def f_X2_strikeOut (S : qw_St) (a1 : Int32) (a2 : Int32) : Int32 := (if (S 7 a1.toNatClampNeg) = (-1 : Int32) then (1 : Int32) else (0 : Int32))
set_option maxHeartbeats 4000000 in
set_option maxRecDepth 100000 in
theorem c_X2_strikeOut (l : Launch) (D : va_G) {r : Nat → Nat} (c : Nat → ClassId) (g : Nat → Int64) (hr : qw_inj r) (S : qw_St) (a1 : Int32) (a2 : Int32) (ha : vp_in a1 60) : MI l D r c g yX2_strikeOut wsX2_strikeOut ({ frames := 0, cells := 0, slots := 0, locals := 0 }) [.ref (r 3), .int a1, .int a2] S (f_X2_strikeOut S a1 a2) (g_X2_strikeOut S a1 a2) := by
  have hiX2 : ∀ w ∈ wsX20, w ∈ wsX2_strikeOut := by decide +kernel
  refine wx_of (cc := cX2_strikeOut) (nL := 3) (ret := (some .boolean)) (lvs := [(0, .ref (r 3)), (1, .int a1), (2, .int a2)]) (by decide) rfl rfl (Nat.le_of_ble_eq_true rfl) ?_
  intro p e s m below meth c0 ls hx hb hret hml hts hown hlk hK hP hS hl
  have hP : qw_P D r c g S s.heap := hP
  refine lv_aload_n hx hb dX2_strikeOut_0 rfl (lv_at hl 0 rfl) ?_
  refine wx_get hx hb hts hiX2 hown hK hP 3 (by decide) qc_3 rfl 3 (by decide) (hts (.fieldLink RX2 21 "PriceEdict$Stones" "struck" "[I") (by decide +kernel)) rfl dX2_strikeOut_1 ?_
  refine lv_iload_n hx hb dX2_strikeOut_4 rfl (lv_at hl 1 rfl) ?_
  refine wx_ild hx hb hK hP 7 (by decide) qc_7 ha dX2_strikeOut_5 ?_
  refine lv_iconst (v := (-1)) hx hb dX2_strikeOut_6 (by decide) ?_
  refine lv_icmp_eq (tgt := 12) hx hb dX2_strikeOut_7 (by decide) (fun c_7 => ?_) (fun c_7 => ?_)
  · refine lv_aload_n hx hb dX2_strikeOut_12 rfl (lv_at hl 0 rfl) ?_
    refine wx_get hx hb hts hiX2 hown hK hP 3 (by decide) qc_3 rfl 3 (by decide) (hts (.fieldLink RX2 21 "PriceEdict$Stones" "struck" "[I") (by decide +kernel)) rfl dX2_strikeOut_13 ?_
    refine lv_iload_n hx hb dX2_strikeOut_16 rfl (lv_at hl 1 rfl) ?_
    refine lv_iload_n hx hb dX2_strikeOut_17 rfl (lv_at hl 2 rfl) ?_
    refine wx_ist hr hx hb hK hP hS 7 (by decide) qc_7 ha dX2_strikeOut_18 (fun H locs hP hS => ?_)
    refine lv_aload_n hx hb dX2_strikeOut_19 rfl (lv_at hl 0 rfl) ?_
    refine lv_dup hx hb dX2_strikeOut_20 rfl ?_
    refine wx_get hx hb hts hiX2 hown hK hP 3 (by decide) qc_3 rfl 7 (by decide) (hts (.fieldLink RX2 34 "PriceEdict$Stones" "struckOut" "I") (by decide +kernel)) rfl dX2_strikeOut_21 ?_
    refine lv_tope (S 3 7) ((up2_ne _ _ (Or.inl (by decide)))) ?_
    refine lv_iconst (v := 1) hx hb dX2_strikeOut_24 (by decide) ?_
    refine lv_iadd hx hb dX2_strikeOut_25 ?_
    refine wx_put hr hx hb hts hiX2 tyX2 tyX2_ok nmX2 hown hK hP hS 3 (by decide) qc_3 rfl 7 (by decide) (hts (.fieldLink RX2 34 "PriceEdict$Stones" "struckOut" "I") (by decide +kernel)) rfl (by decide +kernel) (fun _ => rfl) (Nat.le_of_ble_eq_true rfl) dX2_strikeOut_26 (fun H locs hP hS => ?_)
    refine lv_iconst (v := 1) hx hb dX2_strikeOut_29 (by decide) ?_
    exact wx_zret hx hb hret hlk hK hP hS rfl (by unfold f_X2_strikeOut; rw [if_pos c_7]) (by unfold g_X2_strikeOut; rw [if_pos c_7]) dX2_strikeOut_30
  · refine lv_iconst (v := 0) hx hb dX2_strikeOut_10 (by decide) ?_
    exact wx_zret hx hb hret hlk hK hP hS rfl (by unfold f_X2_strikeOut; rw [if_neg c_7]) (by unfold g_X2_strikeOut; rw [if_neg c_7]) dX2_strikeOut_11
def g_X2_confuse (S : qw_St) (a1 : Int32) (a2 : Int32) : qw_St := (if (((S 8 a1.toNatClampNeg) >>> (a2 &&& 31)) &&& (1 : Int32)) = (1 : Int32) then S else (up2 (up2 (up2 S 8 a1.toNatClampNeg ((S 8 a1.toNatClampNeg) ||| ((1 : Int32) <<< (a2 &&& 31)))) 8 a2.toNatClampNeg (((up2 S 8 a1.toNatClampNeg ((S 8 a1.toNatClampNeg) ||| ((1 : Int32) <<< (a2 &&& 31)))) 8 a2.toNatClampNeg) ||| ((1 : Int32) <<< (a1 &&& 31)))) 3 8 ((S 3 8) + (1 : Int32))))
def f_X2_confuse (S : qw_St) (a1 : Int32) (a2 : Int32) : Int32 := (if (((S 8 a1.toNatClampNeg) >>> (a2 &&& 31)) &&& (1 : Int32)) = (1 : Int32) then (0 : Int32) else (1 : Int32))
set_option maxHeartbeats 4000000 in
set_option maxRecDepth 100000 in
theorem c_X2_confuse (l : Launch) (D : va_G) {r : Nat → Nat} (c : Nat → ClassId) (g : Nat → Int64) (hr : qw_inj r) (S : qw_St) (a1 : Int32) (a2 : Int32) (ha : vp_in a1 10) (hb2 : vp_in a2 10) : MI l D r c g yX2_confuse wsX2_confuse ({ frames := 0, cells := 0, slots := 0, locals := 0 }) [.ref (r 3), .int a1, .int a2] S (f_X2_confuse S a1 a2) (g_X2_confuse S a1 a2) := by
  have hiX2 : ∀ w ∈ wsX20, w ∈ wsX2_confuse := by decide +kernel
  refine wx_of (cc := cX2_confuse) (nL := 3) (ret := (some .boolean)) (lvs := [(0, .ref (r 3)), (1, .int a1), (2, .int a2)]) (by decide) rfl rfl (Nat.le_of_ble_eq_true rfl) ?_
  intro p e s m below meth c0 ls hx hb hret hml hts hown hlk hK hP hS hl
  have hP : qw_P D r c g S s.heap := hP
  refine lv_aload_n hx hb dX2_confuse_0 rfl (lv_at hl 0 rfl) ?_
  refine wx_get hx hb hts hiX2 hown hK hP 3 (by decide) qc_3 rfl 4 (by decide) (hts (.fieldLink RX2 24 "PriceEdict$Stones" "readings" "[I") (by decide +kernel)) rfl dX2_confuse_1 ?_
  refine lv_iload_n hx hb dX2_confuse_4 rfl (lv_at hl 1 rfl) ?_
  refine wx_ild hx hb hK hP 8 (by decide) qc_8 (by first | exact ha | exact hb2) dX2_confuse_5 ?_
  refine lv_iload_n hx hb dX2_confuse_6 rfl (lv_at hl 2 rfl) ?_
  refine lv_ishr hx hb dX2_confuse_7 ?_
  refine lv_iconst (v := 1) hx hb dX2_confuse_8 (by decide) ?_
  refine lv_iand hx hb dX2_confuse_9 ?_
  refine lv_iconst (v := 1) hx hb dX2_confuse_10 (by decide) ?_
  refine lv_icmp_ne (tgt := 16) hx hb dX2_confuse_11 (by decide) (fun c_11 => ?_) (fun c_11 => ?_)
  · refine lv_aload_n hx hb dX2_confuse_16 rfl (lv_at hl 0 rfl) ?_
    refine wx_get hx hb hts hiX2 hown hK hP 3 (by decide) qc_3 rfl 4 (by decide) (hts (.fieldLink RX2 24 "PriceEdict$Stones" "readings" "[I") (by decide +kernel)) rfl dX2_confuse_17 ?_
    refine lv_iload_n hx hb dX2_confuse_20 rfl (lv_at hl 1 rfl) ?_
    refine lv_dup2_11 hx hb dX2_confuse_21 rfl rfl ?_
    refine wx_ild hx hb hK hP 8 (by decide) qc_8 (by first | exact ha | exact hb2) dX2_confuse_22 ?_
    refine lv_iconst (v := 1) hx hb dX2_confuse_23 (by decide) ?_
    refine lv_iload_n hx hb dX2_confuse_24 rfl (lv_at hl 2 rfl) ?_
    refine lv_ishl hx hb dX2_confuse_25 ?_
    refine lv_ior hx hb dX2_confuse_26 ?_
    refine wx_ist hr hx hb hK hP hS 8 (by decide) qc_8 (by first | exact ha | exact hb2) dX2_confuse_27 (fun H locs hP hS => ?_)
    refine lv_aload_n hx hb dX2_confuse_28 rfl (lv_at hl 0 rfl) ?_
    refine wx_get hx hb hts hiX2 hown hK hP 3 (by decide) qc_3 rfl 4 (by decide) (hts (.fieldLink RX2 24 "PriceEdict$Stones" "readings" "[I") (by decide +kernel)) rfl dX2_confuse_29 ?_
    refine lv_iload_n hx hb dX2_confuse_32 rfl (lv_at hl 2 rfl) ?_
    refine lv_dup2_11 hx hb dX2_confuse_33 rfl rfl ?_
    refine wx_ild hx hb hK hP 8 (by decide) qc_8 (by first | exact ha | exact hb2) dX2_confuse_34 ?_
    refine lv_iconst (v := 1) hx hb dX2_confuse_35 (by decide) ?_
    refine lv_iload_n hx hb dX2_confuse_36 rfl (lv_at hl 1 rfl) ?_
    refine lv_ishl hx hb dX2_confuse_37 ?_
    refine lv_ior hx hb dX2_confuse_38 ?_
    refine wx_ist hr hx hb hK hP hS 8 (by decide) qc_8 (by first | exact ha | exact hb2) dX2_confuse_39 (fun H locs hP hS => ?_)
    refine lv_aload_n hx hb dX2_confuse_40 rfl (lv_at hl 0 rfl) ?_
    refine lv_dup hx hb dX2_confuse_41 rfl ?_
    refine wx_get hx hb hts hiX2 hown hK hP 3 (by decide) qc_3 rfl 8 (by decide) (hts (.fieldLink RX2 37 "PriceEdict$Stones" "habits" "I") (by decide +kernel)) rfl dX2_confuse_42 ?_
    refine lv_tope (S 3 8) ((up2_ne _ _ (Or.inl (by decide))).trans ((up2_ne _ _ (Or.inl (by decide))))) ?_
    refine lv_iconst (v := 1) hx hb dX2_confuse_45 (by decide) ?_
    refine lv_iadd hx hb dX2_confuse_46 ?_
    refine wx_put hr hx hb hts hiX2 tyX2 tyX2_ok nmX2 hown hK hP hS 3 (by decide) qc_3 rfl 8 (by decide) (hts (.fieldLink RX2 37 "PriceEdict$Stones" "habits" "I") (by decide +kernel)) rfl (by decide +kernel) (fun _ => rfl) (Nat.le_of_ble_eq_true rfl) dX2_confuse_47 (fun H locs hP hS => ?_)
    refine lv_iconst (v := 1) hx hb dX2_confuse_50 (by decide) ?_
    exact wx_zret hx hb hret hlk hK hP hS rfl (by unfold f_X2_confuse; rw [if_neg c_11]) (by unfold g_X2_confuse; rw [if_neg c_11]) dX2_confuse_51
  · refine lv_iconst (v := 0) hx hb dX2_confuse_14 (by decide) ?_
    exact wx_zret hx hb hret hlk hK hP hS rfl (by unfold f_X2_confuse; rw [if_pos c_11]) (by unfold g_X2_confuse; rw [if_pos c_11]) dX2_confuse_15
def f_X2_isKnown (S : qw_St) (a1 : Int32) (a2 : Int32) : Int32 := (if a2 < (S 6 a1.toNatClampNeg) then (0 : Int32) else (if (S 7 a1.toNatClampNeg) = (-1 : Int32) then (1 : Int32) else (if (S 7 a1.toNatClampNeg) ≤ a2 then (0 : Int32) else (1 : Int32))))
set_option maxHeartbeats 4000000 in
set_option maxRecDepth 100000 in
theorem c_X2_isKnown (l : Launch) (D : va_G) {r : Nat → Nat} (c : Nat → ClassId) (g : Nat → Int64) (hr : qw_inj r) (S : qw_St) (a1 : Int32) (a2 : Int32) (ha : vp_in a1 60) : MI l D r c g yX2_isKnown wsX2_isKnown ({ frames := 0, cells := 0, slots := 0, locals := 0 }) [.ref (r 3), .int a1, .int a2] S (f_X2_isKnown S a1 a2) S := by
  have hiX2 : ∀ w ∈ wsX20, w ∈ wsX2_isKnown := by decide +kernel
  refine wx_of (cc := cX2_isKnown) (nL := 3) (ret := (some .boolean)) (lvs := [(0, .ref (r 3)), (1, .int a1), (2, .int a2)]) (by decide) rfl rfl (Nat.le_of_ble_eq_true rfl) ?_
  intro p e s m below meth c0 ls hx hb hret hml hts hown hlk hK hP hS hl
  have hP : qw_P D r c g S s.heap := hP
  refine lv_iload_n hx hb dX2_isKnown_0 rfl (lv_at hl 2 rfl) ?_
  refine lv_aload_n hx hb dX2_isKnown_1 rfl (lv_at hl 0 rfl) ?_
  refine wx_get hx hb hts hiX2 hown hK hP 3 (by decide) qc_3 rfl 2 (by decide) (hts (.fieldLink RX2 18 "PriceEdict$Stones" "found" "[I") (by decide +kernel)) rfl dX2_isKnown_2 ?_
  refine lv_iload_n hx hb dX2_isKnown_5 rfl (lv_at hl 1 rfl) ?_
  refine wx_ild hx hb hK hP 6 (by decide) qc_6 ha dX2_isKnown_6 ?_
  refine lv_icmp_lt (tgt := 34) hx hb dX2_isKnown_7 (by decide) (fun c_7 => ?_) (fun c_7 => ?_)
  · refine lv_iconst (v := 0) hx hb dX2_isKnown_34 (by decide) ?_
    exact wx_zret hx hb hret hlk hK hP hS rfl (by unfold f_X2_isKnown; rw [if_pos c_7]) rfl dX2_isKnown_35
  · refine lv_aload_n hx hb dX2_isKnown_10 rfl (lv_at hl 0 rfl) ?_
    refine wx_get hx hb hts hiX2 hown hK hP 3 (by decide) qc_3 rfl 3 (by decide) (hts (.fieldLink RX2 21 "PriceEdict$Stones" "struck" "[I") (by decide +kernel)) rfl dX2_isKnown_11 ?_
    refine lv_iload_n hx hb dX2_isKnown_14 rfl (lv_at hl 1 rfl) ?_
    refine wx_ild hx hb hK hP 7 (by decide) qc_7 ha dX2_isKnown_15 ?_
    refine lv_iconst (v := (-1)) hx hb dX2_isKnown_16 (by decide) ?_
    refine lv_icmp_eq (tgt := 30) hx hb dX2_isKnown_17 (by decide) (fun c_17 => ?_) (fun c_17 => ?_)
    · refine lv_iconst (v := 1) hx hb dX2_isKnown_30 (by decide) ?_
      refine lv_goto (tgt := 35) hx hb dX2_isKnown_31 (by decide) ?_
      exact wx_zret hx hb hret hlk hK hP hS rfl (by unfold f_X2_isKnown; rw [if_neg c_7, if_pos c_17]) rfl dX2_isKnown_35
    · refine lv_iload_n hx hb dX2_isKnown_20 rfl (lv_at hl 2 rfl) ?_
      refine lv_aload_n hx hb dX2_isKnown_21 rfl (lv_at hl 0 rfl) ?_
      refine wx_get hx hb hts hiX2 hown hK hP 3 (by decide) qc_3 rfl 3 (by decide) (hts (.fieldLink RX2 21 "PriceEdict$Stones" "struck" "[I") (by decide +kernel)) rfl dX2_isKnown_22 ?_
      refine lv_iload_n hx hb dX2_isKnown_25 rfl (lv_at hl 1 rfl) ?_
      refine wx_ild hx hb hK hP 7 (by decide) qc_7 ha dX2_isKnown_26 ?_
      refine lv_icmp_ge (tgt := 34) hx hb dX2_isKnown_27 (by decide) (fun c_27 => ?_) (fun c_27 => ?_)
      · refine lv_iconst (v := 0) hx hb dX2_isKnown_34 (by decide) ?_
        exact wx_zret hx hb hret hlk hK hP hS rfl (by unfold f_X2_isKnown; rw [if_neg c_7, if_neg c_17, if_pos c_27]) rfl dX2_isKnown_35
      · refine lv_iconst (v := 1) hx hb dX2_isKnown_30 (by decide) ?_
        refine lv_goto (tgt := 35) hx hb dX2_isKnown_31 (by decide) ?_
        exact wx_zret hx hb hret hlk hK hP hS rfl (by unfold f_X2_isKnown; rw [if_neg c_7, if_neg c_17, if_neg c_27]) rfl dX2_isKnown_35
def g_X2_narrow_2 (a1 : Int32) : Nat → qw_St → Int32 → qw_St
  | 0, S, _ => S
  | n + 1, S, z2 => (if (4 : Int32) ≤ z2 then S else (if (S 5 ((a1 * (4 : Int32)) + z2).toNatClampNeg) < 0 then (g_X2_narrow_2 a1 n S (z2 + (1 : Int32))) else (if (10 : Int32) ≤ (S 5 ((a1 * (4 : Int32)) + z2).toNatClampNeg) then (g_X2_narrow_2 a1 n S (z2 + (1 : Int32))) else (g_X2_narrow_2 a1 n (up2 S 9 z2.toNatClampNeg ((S 9 z2.toNatClampNeg) &&& (S 8 (S 5 ((a1 * (4 : Int32)) + z2).toNatClampNeg).toNatClampNeg))) (z2 + (1 : Int32))))))
def g_X2_narrow (S : qw_St) (a1 : Int32) : qw_St := (g_X2_narrow_2 a1 5 S (0 : Int32))
set_option maxHeartbeats 4000000 in
set_option maxRecDepth 100000 in
theorem c_X2_narrow (l : Launch) (D : va_G) {r : Nat → Nat} (c : Nat → ClassId) (g : Nat → Int64) (hr : qw_inj r) (S : qw_St) (a1 : Int32) (ha : vp_in a1 60) : MV l D r c g yX2_narrow wsX2_narrow ({ frames := 0, cells := 0, slots := 0, locals := 0 }) [.ref (r 3), .int a1] S (g_X2_narrow S a1) := by
  have hiX2 : ∀ w ∈ wsX20, w ∈ wsX2_narrow := by decide +kernel
  refine wx_of (cc := cX2_narrow) (nL := 4) (ret := none) (lvs := [(0, .ref (r 3)), (1, .int a1)]) (by decide) rfl rfl (Nat.le_of_ble_eq_true rfl) ?_
  intro p e s m below meth c0 ls hx hb hret hml hts hown hlk hK hP hS hl
  obtain ⟨m0, hm0, em0⟩ := vp_in_of ha (by decide)
  have hP : qw_P D r c g S s.heap := hP
  refine lv_iconst (v := 0) hx hb dX2_narrow_0 (by decide) ?_
  refine lv_istore_n (lv' := [(2, .int (0 : Int32)), (0, .ref (r 3)), (1, .int a1)]) hx hb dX2_narrow_1 rfl hl (by decide) rfl (fun ls hl => ?_)
  have L_2 : ∀ (n : Nat) (k : Nat) (z2 : Int32) (S1 : qw_St) (H : Heap) (locs : List Loc) (ls : Array Slot) (hk : k + n = 5 ∧ k ≤ 4) (hz2 : z2 = nI k) (hg_2 : g_X2_narrow_2 a1 n S1 z2 = (g_X2_narrow S a1)), qw_P D r c g S1 H → va_S (qw_A r) s.heap H locs → lv_has ls 4 [(2, .int z2), (0, .ref (r 3)), (1, .int a1)] → W p l e ({ frames := 0, cells := 0, slots := 0, locals := 0 }) s m [.ref (r 3), .int a1].toArray below meth c0 H locs 0 0 (MQ below (qw_Qv D r c g (g_X2_narrow S a1)) [.ref (r 3), .int a1].toArray s 0 0 (qw_A r)) (F0 m 2 ls []) := by
    intro n
    induction n with
    | zero =>
      intro k z2 S1 H locs ls hk hz2 hg_2 hP hS hl
      omega
    | succ n ih_2 =>
      intro k z2 S1 H locs ls hk hz2 hg_2 hP hS hl
      refine lv_iload_n hx hb dX2_narrow_2 rfl (lv_at hl 0 rfl) ?_
      refine lv_iconst (v := 4) hx hb dX2_narrow_3 (by decide) ?_
      refine lv_icmp_ge (tgt := 49) hx hb dX2_narrow_4 (by decide) (fun c_4 => ?_) (fun c_4 => ?_)
      · exact wx_vret hx hb hret hlk hK hP hS (by rw [← hg_2, g_X2_narrow_2]; rw [if_pos c_4]) dX2_narrow_49
      · have hk4 : k < 4 := qi_lt hz2 (by omega) (m := 4) rfl c_4
        refine lv_aload_n hx hb dX2_narrow_7 rfl (lv_at hl 1 rfl) ?_
        refine wx_get hx hb hts hiX2 hown hK hP 3 (by decide) qc_3 rfl 1 (by decide) (hts (.fieldLink RX2 15 "PriceEdict$Stones" "figures" "[I") (by decide +kernel)) rfl dX2_narrow_8 ?_
        refine lv_iload_n hx hb dX2_narrow_11 rfl (lv_at hl 2 rfl) ?_
        refine lv_iconst (v := 4) hx hb dX2_narrow_12 (by decide) ?_
        refine lv_imul hx hb dX2_narrow_13 ?_
        refine lv_iload_n hx hb dX2_narrow_14 rfl (lv_at hl 0 rfl) ?_
        refine lv_iadd hx hb dX2_narrow_15 ?_
        refine wx_ild hx hb hK hP 5 (by decide) qc_5 (qi_m4 em0 hz2 (by omega) (by decide)) dX2_narrow_16 ?_
        refine lv_topi (fun x_1 ex_1 => ?_)
        refine lv_istore_n (lv' := [(3, .int x_1), (2, .int z2), (0, .ref (r 3)), (1, .int a1)]) hx hb dX2_narrow_17 rfl hl (by decide) rfl (fun ls hl => ?_)
        refine lv_iload_n hx hb dX2_narrow_18 rfl (lv_at hl 0 rfl) ?_
        refine lv_if_lt (tgt := 43) hx hb dX2_narrow_19 (by decide) (fun c_19 => ?_) (fun c_19 => ?_)
        · obtain ⟨x_2, ex_2⟩ : ∃ y : Int32, y = (z2 + (1 : Int32)) := ⟨_, rfl⟩
          refine lv_iinc (v := x_2) (lv' := [(2, .int x_2), (3, .int x_1), (0, .ref (r 3)), (1, .int a1)]) hx hb dX2_narrow_43 hl (k := 1) rfl (by rw [ex_2]; rfl) (by decide) rfl (fun ls hl => ?_)
          refine lv_goto (tgt := 2) hx hb dX2_narrow_46 (by decide) ?_
          exact ih_2 (k + 1) x_2 S1 _ _ _ (by omega) (by rw [ex_2]; exact qi_add hz2) (by subst ex_2; subst ex_1; rw [← hg_2, g_X2_narrow_2]; rw [if_neg c_4, if_pos c_19]) hP hS (lv_sub hl [0, 2, 3] rfl)
        · refine lv_iload_n hx hb dX2_narrow_22 rfl (lv_at hl 0 rfl) ?_
          refine lv_bipush (v := 10) hx hb dX2_narrow_23 (by decide) ?_
          refine lv_icmp_ge (tgt := 43) hx hb dX2_narrow_25 (by decide) (fun c_25 => ?_) (fun c_25 => ?_)
          · obtain ⟨x_3, ex_3⟩ : ∃ y : Int32, y = (z2 + (1 : Int32)) := ⟨_, rfl⟩
            refine lv_iinc (v := x_3) (lv' := [(2, .int x_3), (3, .int x_1), (0, .ref (r 3)), (1, .int a1)]) hx hb dX2_narrow_43 hl (k := 1) rfl (by rw [ex_3]; rfl) (by decide) rfl (fun ls hl => ?_)
            refine lv_goto (tgt := 2) hx hb dX2_narrow_46 (by decide) ?_
            exact ih_2 (k + 1) x_3 S1 _ _ _ (by omega) (by rw [ex_3]; exact qi_add hz2) (by subst ex_3; subst ex_1; rw [← hg_2, g_X2_narrow_2]; rw [if_neg c_4, if_neg c_19, if_pos c_25]) hP hS (lv_sub hl [0, 2, 3] rfl)
          · refine lv_aload_n hx hb dX2_narrow_28 rfl (lv_at hl 2 rfl) ?_
            refine wx_get hx hb hts hiX2 hown hK hP 3 (by decide) qc_3 rfl 5 (by decide) (hts (.fieldLink RX2 27 "PriceEdict$Stones" "left" "[I") (by decide +kernel)) rfl dX2_narrow_29 ?_
            refine lv_iload_n hx hb dX2_narrow_32 rfl (lv_at hl 1 rfl) ?_
            refine lv_dup2_11 hx hb dX2_narrow_33 rfl rfl ?_
            refine wx_ild hx hb hK hP 9 (by decide) qc_9 (qi_in hz2 hk4 (by decide)) dX2_narrow_34 ?_
            refine lv_aload_n hx hb dX2_narrow_35 rfl (lv_at hl 2 rfl) ?_
            refine wx_get hx hb hts hiX2 hown hK hP 3 (by decide) qc_3 rfl 4 (by decide) (hts (.fieldLink RX2 24 "PriceEdict$Stones" "readings" "[I") (by decide +kernel)) rfl dX2_narrow_36 ?_
            refine lv_iload_n hx hb dX2_narrow_39 rfl (lv_at hl 0 rfl) ?_
            refine wx_ild hx hb hK hP 8 (by decide) qc_8 (qi_in2 c_19 c_25 rfl) dX2_narrow_40 ?_
            refine lv_iand hx hb dX2_narrow_41 ?_
            refine wx_ist hr hx hb hK hP hS 9 (by decide) qc_9 (qi_in hz2 hk4 (by decide)) dX2_narrow_42 (fun H locs hP hS => ?_)
            obtain ⟨x_4, ex_4⟩ : ∃ y : Int32, y = (z2 + (1 : Int32)) := ⟨_, rfl⟩
            refine lv_iinc (v := x_4) (lv' := [(2, .int x_4), (3, .int x_1), (0, .ref (r 3)), (1, .int a1)]) hx hb dX2_narrow_43 hl (k := 1) rfl (by rw [ex_4]; rfl) (by decide) rfl (fun ls hl => ?_)
            refine lv_goto (tgt := 2) hx hb dX2_narrow_46 (by decide) ?_
            exact ih_2 (k + 1) x_4 (up2 S1 9 z2.toNatClampNeg ((S1 9 z2.toNatClampNeg) &&& (S1 8 x_1.toNatClampNeg))) _ _ _ (by omega) (by rw [ex_4]; exact qi_add hz2) (by subst ex_4; subst ex_1; rw [← hg_2, g_X2_narrow_2]; rw [if_neg c_4, if_neg c_19, if_neg c_25]) hP hS (lv_sub hl [0, 2, 3] rfl)
  exact L_2 5 0 (0 : Int32) S _ _ _ (by omega) nI_0.symm (by rw [g_X2_narrow]) hP hS (lv_sub hl [0, 1, 2] rfl)
theorem fr_X2_narrow_2 (a1 : Int32) : ∀ (n : Nat) (S : qw_St) (z : Int32) (k j : Nat), k ≠ 9 → g_X2_narrow_2 a1 n S z k j = S k j := by
  intro n
  induction n with
  | zero => intro S z k j h; rfl
  | succ n ih =>
    intro S z k j h
    rw [g_X2_narrow_2]
    split
    · rfl
    · split
      · rw [ih _ _ _ _ h]
      · split
        · rw [ih _ _ _ _ h]
        · rw [ih _ _ _ _ h, up2_ne _ _ (Or.inl h)]
theorem fr_X2_narrow (S : qw_St) (a1 : Int32) {k : Nat} (j : Nat) (h : k ≠ 9) : g_X2_narrow S a1 k j = S k j := fr_X2_narrow_2 a1 _ _ _ _ _ h
def g_X2_compare_24 (a1 : Int32) (a2 : Int32) : Nat → qw_St → Int32 → qw_St
  | 0, S, _ => S
  | n + 1, S, z3 => (if (S 3 6) ≤ z3 then S else (if (S 4 z3.toNatClampNeg) = a1 then (if (f_X2_isKnown S z3 a2) = 0 then (g_X2_compare_24 a1 a2 n S (z3 + (1 : Int32))) else (g_X2_compare_24 a1 a2 n (g_X2_narrow S z3) (z3 + (1 : Int32)))) else (g_X2_compare_24 a1 a2 n S (z3 + (1 : Int32)))))
def g_X2_compare_2 (a1 : Int32) (a2 : Int32) : Nat → qw_St → Int32 → qw_St
  | 0, S, _ => S
  | n + 1, S, z3 => (if (4 : Int32) ≤ z3 then (g_X2_compare_24 a1 a2 ((S 3 6).toNatClampNeg + 1) S (0 : Int32)) else (g_X2_compare_2 a1 a2 n (up2 S 9 z3.toNatClampNeg (1023 : Int32)) (z3 + (1 : Int32))))
def g_X2_compare (S : qw_St) (a1 : Int32) (a2 : Int32) : qw_St := (g_X2_compare_2 a1 a2 5 S (0 : Int32))
set_option maxHeartbeats 4000000 in
set_option maxRecDepth 100000 in
theorem c_X2_compare (l : Launch) (D : va_G) {r : Nat → Nat} (c : Nat → ClassId) (g : Nat → Int64) (hr : qw_inj r) (S : qw_St) (a1 : Int32) (a2 : Int32) (hz : qz (S 3 6) 60) : MV l D r c g yX2_compare wsX2_compare ({ frames := 1, cells := 0, slots := 0, locals := 23 }) [.ref (r 3), .int a1, .int a2] S (g_X2_compare S a1 a2) := by
  have hiX2 : ∀ w ∈ wsX20, w ∈ wsX2_compare := by decide +kernel
  refine wx_of (cc := cX2_compare) (nL := 4) (ret := none) (lvs := [(0, .ref (r 3)), (1, .int a1), (2, .int a2)]) (by decide) rfl rfl (Nat.le_of_ble_eq_true rfl) ?_
  intro p e s m below meth c0 ls hx hb hret hml hts hown hlk hK hP hS hl
  obtain ⟨m0, hm0, em0⟩ := id hz
  have hP : qw_P D r c g S s.heap := hP
  refine lv_iconst (v := 0) hx hb dX2_compare_0 (by decide) ?_
  refine lv_istore_n (lv' := [(3, .int (0 : Int32)), (0, .ref (r 3)), (1, .int a1), (2, .int a2)]) hx hb dX2_compare_1 rfl hl (by decide) rfl (fun ls hl => ?_)
  have L_2 : ∀ (n : Nat) (k : Nat) (z3 : Int32) (S1 : qw_St) (H : Heap) (locs : List Loc) (ls : Array Slot) (hk : k + n = 5 ∧ k ≤ 4) (hz3 : z3 = nI k) (hm6 : S1 3 6 = nI m0) (hg_2 : g_X2_compare_2 a1 a2 n S1 z3 = (g_X2_compare S a1 a2)), qw_P D r c g S1 H → va_S (qw_A r) s.heap H locs → lv_has ls 4 [(3, .int z3), (0, .ref (r 3)), (1, .int a1), (2, .int a2)] → W p l e ({ frames := 1, cells := 0, slots := 0, locals := 23 }) s m [.ref (r 3), .int a1, .int a2].toArray below meth c0 H locs 0 0 (MQ below (qw_Qv D r c g (g_X2_compare S a1 a2)) [.ref (r 3), .int a1, .int a2].toArray s 0 0 (qw_A r)) (F0 m 2 ls []) := by
    intro n
    induction n with
    | zero =>
      intro k z3 S1 H locs ls hk hz3 hm6 hg_2 hP hS hl
      omega
    | succ n ih_2 =>
      intro k z3 S1 H locs ls hk hz3 hm6 hg_2 hP hS hl
      refine lv_iload_n hx hb dX2_compare_2 rfl (lv_at hl 0 rfl) ?_
      refine lv_iconst (v := 4) hx hb dX2_compare_3 (by decide) ?_
      refine lv_icmp_ge (tgt := 22) hx hb dX2_compare_4 (by decide) (fun c_4 => ?_) (fun c_4 => ?_)
      · refine lv_iconst (v := 0) hx hb dX2_compare_22 (by decide) ?_
        refine lv_istore_n (lv' := [(3, .int (0 : Int32)), (0, .ref (r 3)), (1, .int a1), (2, .int a2)]) hx hb dX2_compare_23 rfl hl (by decide) rfl (fun ls hl => ?_)
        have L_24 : ∀ (n : Nat) (k : Nat) (z3 : Int32) (S1 : qw_St) (H : Heap) (locs : List Loc) (ls : Array Slot) (hk : k + n = m0 + 1 ∧ k ≤ m0) (hz3 : z3 = nI k) (hm6 : S1 3 6 = nI m0) (hg_24 : g_X2_compare_24 a1 a2 n S1 z3 = (g_X2_compare S a1 a2)), qw_P D r c g S1 H → va_S (qw_A r) s.heap H locs → lv_has ls 4 [(3, .int z3), (0, .ref (r 3)), (1, .int a1), (2, .int a2)] → W p l e ({ frames := 1, cells := 0, slots := 0, locals := 23 }) s m [.ref (r 3), .int a1, .int a2].toArray below meth c0 H locs 0 0 (MQ below (qw_Qv D r c g (g_X2_compare S a1 a2)) [.ref (r 3), .int a1, .int a2].toArray s 0 0 (qw_A r)) (F0 m 24 ls []) := by
          intro n
          induction n with
          | zero =>
            intro k z3 S1 H locs ls hk hz3 hm6 hg_24 hP hS hl
            omega
          | succ n ih_24 =>
            intro k z3 S1 H locs ls hk hz3 hm6 hg_24 hP hS hl
            refine lv_iload_n hx hb dX2_compare_24 rfl (lv_at hl 0 rfl) ?_
            refine lv_aload_n hx hb dX2_compare_25 rfl (lv_at hl 1 rfl) ?_
            refine wx_get hx hb hts hiX2 hown hK hP 3 (by decide) qc_3 rfl 6 (by decide) (hts (.fieldLink RX2 30 "PriceEdict$Stones" "size" "I") (by decide +kernel)) rfl dX2_compare_26 ?_
            refine lv_icmp_ge (tgt := 62) hx hb dX2_compare_29 (by decide) (fun c_29 => ?_) (fun c_29 => ?_)
            · exact wx_vret hx hb hret hlk hK hP hS (by rw [← hg_24, g_X2_compare_24]; rw [if_pos c_29]) dX2_compare_62
            · have hk5 : k < m0 := qi_ltn hz3 (by omega) hm6 (by omega) c_29
              have hi3 : vp_in z3 60 := qi_in hz3 (by omega) (by decide)
              refine lv_aload_n hx hb dX2_compare_32 rfl (lv_at hl 1 rfl) ?_
              refine wx_get hx hb hts hiX2 hown hK hP 3 (by decide) qc_3 rfl 0 (by decide) (hts (.fieldLink RX2 9 "PriceEdict$Stones" "lines" "[I") (by decide +kernel)) rfl dX2_compare_33 ?_
              refine lv_iload_n hx hb dX2_compare_36 rfl (lv_at hl 0 rfl) ?_
              refine wx_ild hx hb hK hP 4 (by decide) qc_4 hi3 dX2_compare_37 ?_
              refine lv_iload_n hx hb dX2_compare_38 rfl (lv_at hl 2 rfl) ?_
              refine lv_icmp_ne (tgt := 56) hx hb dX2_compare_39 (by decide) (fun c_39 => ?_) (fun c_39 => ?_)
              · obtain ⟨x_1, ex_1⟩ : ∃ y : Int32, y = (z3 + (1 : Int32)) := ⟨_, rfl⟩
                refine lv_iinc (v := x_1) (lv' := [(3, .int x_1), (0, .ref (r 3)), (1, .int a1), (2, .int a2)]) hx hb dX2_compare_56 hl (k := 0) rfl (by rw [ex_1]; rfl) (by decide) rfl (fun ls hl => ?_)
                refine lv_goto (tgt := 24) hx hb dX2_compare_59 (by decide) ?_
                exact ih_24 (k + 1) x_1 S1 _ _ _ (by omega) (by rw [ex_1]; exact qi_add hz3) (by first | exact hm6 | (rw [fr_X2_narrow _ _ _ (by decide)]; exact hm6)) (by subst ex_1; rw [← hg_24, g_X2_compare_24]; rw [if_neg c_29, if_neg c_39]) hP hS (lv_sub hl [0, 1, 2, 3] rfl)
              · refine lv_aload_n hx hb dX2_compare_42 rfl (lv_at hl 1 rfl) ?_
                refine lv_iload_n hx hb dX2_compare_43 rfl (lv_at hl 0 rfl) ?_
                refine lv_iload_n hx hb dX2_compare_44 rfl (lv_at hl 3 rfl) ?_
                refine wc_iV (k := 3) (C := RX2) (As := [.int z3, .int a2]) (rest := []) ⟨hx, hb, hml, hown, hts⟩ (c_X2_isKnown l D c g hr S1 z3 a2 hi3) (cwV 2 hts gX2_compare_X2_isKnown rfl rfl rfl (by decide +kernel) ⟨Nat.le_of_ble_eq_true rfl, Nat.le_of_ble_eq_true rfl⟩) (wx_recv hK hP (by decide) qc_3 rfl) hK hP hS (fun _ h => h) rfl hl.1 rfl (lv_room (Nat.le_of_ble_eq_true rfl)) dX2_compare_45 ⟨Nat.zero_le _, Nat.zero_le _⟩ (fun H locs hP hS => ?_)
                refine lv_if_eq (tgt := 56) hx hb dX2_compare_48 (by decide) (fun c_48 => ?_) (fun c_48 => ?_)
                · obtain ⟨x_2, ex_2⟩ : ∃ y : Int32, y = (z3 + (1 : Int32)) := ⟨_, rfl⟩
                  refine lv_iinc (v := x_2) (lv' := [(3, .int x_2), (0, .ref (r 3)), (1, .int a1), (2, .int a2)]) hx hb dX2_compare_56 hl (k := 0) rfl (by rw [ex_2]; rfl) (by decide) rfl (fun ls hl => ?_)
                  refine lv_goto (tgt := 24) hx hb dX2_compare_59 (by decide) ?_
                  exact ih_24 (k + 1) x_2 S1 _ _ _ (by omega) (by rw [ex_2]; exact qi_add hz3) (by first | exact hm6 | (rw [fr_X2_narrow _ _ _ (by decide)]; exact hm6)) (by subst ex_2; rw [← hg_24, g_X2_compare_24]; rw [if_neg c_29, if_pos c_39, if_pos c_48]) hP hS (lv_sub hl [0, 1, 2, 3] rfl)
                · refine lv_aload_n hx hb dX2_compare_51 rfl (lv_at hl 1 rfl) ?_
                  refine lv_iload_n hx hb dX2_compare_52 rfl (lv_at hl 0 rfl) ?_
                  refine wc_vV (k := 3) (C := RX2) (As := [.int z3]) (rest := []) ⟨hx, hb, hml, hown, hts⟩ (c_X2_narrow l D c g hr S1 z3 hi3) (cwV 1 hts gX2_compare_X2_narrow rfl rfl rfl (by decide +kernel) ⟨Nat.le_of_ble_eq_true rfl, Nat.le_of_ble_eq_true rfl⟩) (wx_recv hK hP (by decide) qc_3 rfl) hK hP hS (fun _ h => h) rfl hl.1 rfl (lv_room (Nat.le_of_ble_eq_true rfl)) dX2_compare_53 ⟨Nat.zero_le _, Nat.zero_le _⟩ (fun H locs hP hS => ?_)
                  obtain ⟨x_3, ex_3⟩ : ∃ y : Int32, y = (z3 + (1 : Int32)) := ⟨_, rfl⟩
                  refine lv_iinc (v := x_3) (lv' := [(3, .int x_3), (0, .ref (r 3)), (1, .int a1), (2, .int a2)]) hx hb dX2_compare_56 hl (k := 0) rfl (by rw [ex_3]; rfl) (by decide) rfl (fun ls hl => ?_)
                  refine lv_goto (tgt := 24) hx hb dX2_compare_59 (by decide) ?_
                  exact ih_24 (k + 1) x_3 (g_X2_narrow S1 z3) _ _ _ (by omega) (by rw [ex_3]; exact qi_add hz3) (by first | exact hm6 | (rw [fr_X2_narrow _ _ _ (by decide)]; exact hm6)) (by subst ex_3; rw [← hg_24, g_X2_compare_24]; rw [if_neg c_29, if_pos c_39, if_neg c_48]) hP hS (lv_sub hl [0, 1, 2, 3] rfl)
        exact L_24 ((S1 3 6).toNatClampNeg + 1) 0 (0 : Int32) S1 _ _ _ (by rw [qi_cl hm6 (by omega)]; omega) nI_0.symm hm6 (by rw [← hg_2, g_X2_compare_2]; rw [if_pos c_4]) hP hS (lv_sub hl [0, 1, 2, 3] rfl)
      · have hk4 : k < 4 := qi_lt hz3 (by omega) (m := 4) rfl c_4
        refine lv_aload_n hx hb dX2_compare_7 rfl (lv_at hl 1 rfl) ?_
        refine wx_get hx hb hts hiX2 hown hK hP 3 (by decide) qc_3 rfl 5 (by decide) (hts (.fieldLink RX2 27 "PriceEdict$Stones" "left" "[I") (by decide +kernel)) rfl dX2_compare_8 ?_
        refine lv_iload_n hx hb dX2_compare_11 rfl (lv_at hl 0 rfl) ?_
        refine lv_sipush (v := 1023) hx hb dX2_compare_12 (by decide) ?_
        refine wx_ist hr hx hb hK hP hS 9 (by decide) qc_9 (qi_in hz3 hk4 (by decide)) dX2_compare_15 (fun H locs hP hS => ?_)
        obtain ⟨x_4, ex_4⟩ : ∃ y : Int32, y = (z3 + (1 : Int32)) := ⟨_, rfl⟩
        refine lv_iinc (v := x_4) (lv' := [(3, .int x_4), (0, .ref (r 3)), (1, .int a1), (2, .int a2)]) hx hb dX2_compare_16 hl (k := 0) rfl (by rw [ex_4]; rfl) (by decide) rfl (fun ls hl => ?_)
        refine lv_goto (tgt := 2) hx hb dX2_compare_19 (by decide) ?_
        exact ih_2 (k + 1) x_4 (up2 S1 9 z3.toNatClampNeg (1023 : Int32)) _ _ _ (by omega) (by rw [ex_4]; exact qi_add hz3) hm6 (by subst ex_4; rw [← hg_2, g_X2_compare_2]; rw [if_neg c_4]) hP hS (lv_sub hl [0, 1, 2, 3] rfl)
  exact L_2 5 0 (0 : Int32) S _ _ _ (by omega) nI_0.symm em0 (by rw [g_X2_compare]) hP hS (lv_sub hl [0, 1, 2, 3] rfl)
theorem fr_X2_compare_24 (a1 a2 : Int32) : ∀ (n : Nat) (S : qw_St) (z : Int32) (k j : Nat), k ≠ 9 → g_X2_compare_24 a1 a2 n S z k j = S k j := by
  intro n
  induction n with
  | zero => intro S z k j h; rfl
  | succ n ih =>
    intro S z k j h
    rw [g_X2_compare_24]
    split
    · rfl
    · split
      · split
        · rw [ih _ _ _ _ h]
        · rw [ih _ _ _ _ h, fr_X2_narrow _ _ _ h]
      · rw [ih _ _ _ _ h]
theorem fr_X2_compare_2 (a1 a2 : Int32) : ∀ (n : Nat) (S : qw_St) (z : Int32) (k j : Nat), k ≠ 9 → g_X2_compare_2 a1 a2 n S z k j = S k j := by
  intro n
  induction n with
  | zero => intro S z k j h; rfl
  | succ n ih =>
    intro S z k j h
    rw [g_X2_compare_2]
    split
    · rw [fr_X2_compare_24 _ _ _ _ _ _ _ h]
    · rw [ih _ _ _ _ h, up2_ne _ _ (Or.inl h)]
theorem fr_X2_compare (S : qw_St) (a1 a2 : Int32) {k : Nat} (j : Nat) (h : k ≠ 9) : g_X2_compare S a1 a2 k j = S k j := fr_X2_compare_2 a1 a2 _ _ _ _ _ h
def f_J6_bitCount_0f7a4 (a0 : Int32) : Int32 := ((((((((a0 - ((a0.toUInt32 >>> ((1 : Int32).toUInt32 &&& Int32.toUInt32 31)).toInt32 &&& (1431655765 : Int32))) &&& (858993459 : Int32)) + (((a0 - ((a0.toUInt32 >>> ((1 : Int32).toUInt32 &&& Int32.toUInt32 31)).toInt32 &&& (1431655765 : Int32))).toUInt32 >>> ((2 : Int32).toUInt32 &&& Int32.toUInt32 31)).toInt32 &&& (858993459 : Int32))) + ((((a0 - ((a0.toUInt32 >>> ((1 : Int32).toUInt32 &&& Int32.toUInt32 31)).toInt32 &&& (1431655765 : Int32))) &&& (858993459 : Int32)) + (((a0 - ((a0.toUInt32 >>> ((1 : Int32).toUInt32 &&& Int32.toUInt32 31)).toInt32 &&& (1431655765 : Int32))).toUInt32 >>> ((2 : Int32).toUInt32 &&& Int32.toUInt32 31)).toInt32 &&& (858993459 : Int32))).toUInt32 >>> ((4 : Int32).toUInt32 &&& Int32.toUInt32 31)).toInt32) &&& (252645135 : Int32)) + ((((((a0 - ((a0.toUInt32 >>> ((1 : Int32).toUInt32 &&& Int32.toUInt32 31)).toInt32 &&& (1431655765 : Int32))) &&& (858993459 : Int32)) + (((a0 - ((a0.toUInt32 >>> ((1 : Int32).toUInt32 &&& Int32.toUInt32 31)).toInt32 &&& (1431655765 : Int32))).toUInt32 >>> ((2 : Int32).toUInt32 &&& Int32.toUInt32 31)).toInt32 &&& (858993459 : Int32))) + ((((a0 - ((a0.toUInt32 >>> ((1 : Int32).toUInt32 &&& Int32.toUInt32 31)).toInt32 &&& (1431655765 : Int32))) &&& (858993459 : Int32)) + (((a0 - ((a0.toUInt32 >>> ((1 : Int32).toUInt32 &&& Int32.toUInt32 31)).toInt32 &&& (1431655765 : Int32))).toUInt32 >>> ((2 : Int32).toUInt32 &&& Int32.toUInt32 31)).toInt32 &&& (858993459 : Int32))).toUInt32 >>> ((4 : Int32).toUInt32 &&& Int32.toUInt32 31)).toInt32) &&& (252645135 : Int32)).toUInt32 >>> ((8 : Int32).toUInt32 &&& Int32.toUInt32 31)).toInt32) + (((((((a0 - ((a0.toUInt32 >>> ((1 : Int32).toUInt32 &&& Int32.toUInt32 31)).toInt32 &&& (1431655765 : Int32))) &&& (858993459 : Int32)) + (((a0 - ((a0.toUInt32 >>> ((1 : Int32).toUInt32 &&& Int32.toUInt32 31)).toInt32 &&& (1431655765 : Int32))).toUInt32 >>> ((2 : Int32).toUInt32 &&& Int32.toUInt32 31)).toInt32 &&& (858993459 : Int32))) + ((((a0 - ((a0.toUInt32 >>> ((1 : Int32).toUInt32 &&& Int32.toUInt32 31)).toInt32 &&& (1431655765 : Int32))) &&& (858993459 : Int32)) + (((a0 - ((a0.toUInt32 >>> ((1 : Int32).toUInt32 &&& Int32.toUInt32 31)).toInt32 &&& (1431655765 : Int32))).toUInt32 >>> ((2 : Int32).toUInt32 &&& Int32.toUInt32 31)).toInt32 &&& (858993459 : Int32))).toUInt32 >>> ((4 : Int32).toUInt32 &&& Int32.toUInt32 31)).toInt32) &&& (252645135 : Int32)) + ((((((a0 - ((a0.toUInt32 >>> ((1 : Int32).toUInt32 &&& Int32.toUInt32 31)).toInt32 &&& (1431655765 : Int32))) &&& (858993459 : Int32)) + (((a0 - ((a0.toUInt32 >>> ((1 : Int32).toUInt32 &&& Int32.toUInt32 31)).toInt32 &&& (1431655765 : Int32))).toUInt32 >>> ((2 : Int32).toUInt32 &&& Int32.toUInt32 31)).toInt32 &&& (858993459 : Int32))) + ((((a0 - ((a0.toUInt32 >>> ((1 : Int32).toUInt32 &&& Int32.toUInt32 31)).toInt32 &&& (1431655765 : Int32))) &&& (858993459 : Int32)) + (((a0 - ((a0.toUInt32 >>> ((1 : Int32).toUInt32 &&& Int32.toUInt32 31)).toInt32 &&& (1431655765 : Int32))).toUInt32 >>> ((2 : Int32).toUInt32 &&& Int32.toUInt32 31)).toInt32 &&& (858993459 : Int32))).toUInt32 >>> ((4 : Int32).toUInt32 &&& Int32.toUInt32 31)).toInt32) &&& (252645135 : Int32)).toUInt32 >>> ((8 : Int32).toUInt32 &&& Int32.toUInt32 31)).toInt32).toUInt32 >>> ((16 : Int32).toUInt32 &&& Int32.toUInt32 31)).toInt32) &&& (63 : Int32))
set_option maxHeartbeats 4000000 in
set_option maxRecDepth 100000 in
theorem c_J6_bitCount_0f7a4 (l : Launch) (D : va_G) {r : Nat → Nat} (c : Nat → ClassId) (g : Nat → Int64) (hr : qw_inj r) (S : qw_St) (a0 : Int32) : MI l D r c g yJ6_bitCount_0f7a4 wsJ6_bitCount_0f7a4 ({ frames := 0, cells := 0, slots := 0, locals := 0 }) [.int a0] S (f_J6_bitCount_0f7a4 a0) S := by
  refine wx_of (cc := cJ6_bitCount_0f7a4) (nL := 1) (ret := (some .int)) (lvs := [(0, .int a0)]) (by decide) rfl rfl (Nat.le_of_ble_eq_true rfl) ?_
  intro p e s m below meth c0 ls hx hb hret hml hts hown hlk hK hP hS hl
  have hP : qw_P D r c g S s.heap := hP
  refine lv_iload_n hx hb dJ6_bitCount_0f7a4_0 rfl (lv_at hl 0 rfl) ?_
  refine lv_iload_n hx hb dJ6_bitCount_0f7a4_1 rfl (lv_at hl 0 rfl) ?_
  refine lv_iconst (v := 1) hx hb dJ6_bitCount_0f7a4_2 (by decide) ?_
  refine lv_iushr hx hb dJ6_bitCount_0f7a4_3 rfl ?_
  refine lv_ldcw hx hb hown (hts (.constant RJ6 265 (1431655765)) (by decide +kernel)) dJ6_bitCount_0f7a4_4 ?_
  refine lv_iand hx hb dJ6_bitCount_0f7a4_7 ?_
  refine lv_isub hx hb dJ6_bitCount_0f7a4_8 ?_
  refine lv_topi (fun x_1 ex_1 => ?_)
  refine lv_istore_n (lv' := [(0, .int x_1)]) hx hb dJ6_bitCount_0f7a4_9 rfl hl (by decide) rfl (fun ls hl => ?_)
  refine lv_iload_n hx hb dJ6_bitCount_0f7a4_10 rfl (lv_at hl 0 rfl) ?_
  refine lv_ldcw hx hb hown (hts (.constant RJ6 266 (858993459)) (by decide +kernel)) dJ6_bitCount_0f7a4_11 ?_
  refine lv_iand hx hb dJ6_bitCount_0f7a4_14 ?_
  refine lv_iload_n hx hb dJ6_bitCount_0f7a4_15 rfl (lv_at hl 0 rfl) ?_
  refine lv_iconst (v := 2) hx hb dJ6_bitCount_0f7a4_16 (by decide) ?_
  refine lv_iushr hx hb dJ6_bitCount_0f7a4_17 rfl ?_
  refine lv_ldcw hx hb hown (hts (.constant RJ6 266 (858993459)) (by decide +kernel)) dJ6_bitCount_0f7a4_18 ?_
  refine lv_iand hx hb dJ6_bitCount_0f7a4_21 ?_
  refine lv_iadd hx hb dJ6_bitCount_0f7a4_22 ?_
  refine lv_topi (fun x_2 ex_2 => ?_)
  refine lv_istore_n (lv' := [(0, .int x_2)]) hx hb dJ6_bitCount_0f7a4_23 rfl hl (by decide) rfl (fun ls hl => ?_)
  refine lv_iload_n hx hb dJ6_bitCount_0f7a4_24 rfl (lv_at hl 0 rfl) ?_
  refine lv_iload_n hx hb dJ6_bitCount_0f7a4_25 rfl (lv_at hl 0 rfl) ?_
  refine lv_iconst (v := 4) hx hb dJ6_bitCount_0f7a4_26 (by decide) ?_
  refine lv_iushr hx hb dJ6_bitCount_0f7a4_27 rfl ?_
  refine lv_iadd hx hb dJ6_bitCount_0f7a4_28 ?_
  refine lv_ldcw hx hb hown (hts (.constant RJ6 267 (252645135)) (by decide +kernel)) dJ6_bitCount_0f7a4_29 ?_
  refine lv_iand hx hb dJ6_bitCount_0f7a4_32 ?_
  refine lv_topi (fun x_3 ex_3 => ?_)
  refine lv_istore_n (lv' := [(0, .int x_3)]) hx hb dJ6_bitCount_0f7a4_33 rfl hl (by decide) rfl (fun ls hl => ?_)
  refine lv_iload_n hx hb dJ6_bitCount_0f7a4_34 rfl (lv_at hl 0 rfl) ?_
  refine lv_iload_n hx hb dJ6_bitCount_0f7a4_35 rfl (lv_at hl 0 rfl) ?_
  refine lv_bipush (v := 8) hx hb dJ6_bitCount_0f7a4_36 (by decide) ?_
  refine lv_iushr hx hb dJ6_bitCount_0f7a4_38 rfl ?_
  refine lv_iadd hx hb dJ6_bitCount_0f7a4_39 ?_
  refine lv_topi (fun x_4 ex_4 => ?_)
  refine lv_istore_n (lv' := [(0, .int x_4)]) hx hb dJ6_bitCount_0f7a4_40 rfl hl (by decide) rfl (fun ls hl => ?_)
  refine lv_iload_n hx hb dJ6_bitCount_0f7a4_41 rfl (lv_at hl 0 rfl) ?_
  refine lv_iload_n hx hb dJ6_bitCount_0f7a4_42 rfl (lv_at hl 0 rfl) ?_
  refine lv_bipush (v := 16) hx hb dJ6_bitCount_0f7a4_43 (by decide) ?_
  refine lv_iushr hx hb dJ6_bitCount_0f7a4_45 rfl ?_
  refine lv_iadd hx hb dJ6_bitCount_0f7a4_46 ?_
  refine lv_topi (fun x_5 ex_5 => ?_)
  refine lv_istore_n (lv' := [(0, .int x_5)]) hx hb dJ6_bitCount_0f7a4_47 rfl hl (by decide) rfl (fun ls hl => ?_)
  refine lv_iload_n hx hb dJ6_bitCount_0f7a4_48 rfl (lv_at hl 0 rfl) ?_
  refine lv_bipush (v := 63) hx hb dJ6_bitCount_0f7a4_49 (by decide) ?_
  refine lv_iand hx hb dJ6_bitCount_0f7a4_51 ?_
  exact wx_iret hx hb hret hlk hK hP hS (by subst ex_5; subst ex_4; subst ex_3; subst ex_2; subst ex_1; unfold f_J6_bitCount_0f7a4; exact rfl) rfl dJ6_bitCount_0f7a4_52
def f_X2_agreeing_4 : Nat → qw_St → Int32 → Int32 → Int32
  | 0, S, _, _ => 0
  | n + 1, S, z1, z2 => (if (4 : Int32) ≤ z2 then z1 else (f_X2_agreeing_4 n S (z1 * (f_J6_bitCount_0f7a4 (S 9 z2.toNatClampNeg))) (z2 + (1 : Int32))))
def f_X2_agreeing (S : qw_St) : Int32 := (f_X2_agreeing_4 5 S (1 : Int32) (0 : Int32))
set_option maxHeartbeats 4000000 in
set_option maxRecDepth 100000 in
theorem c_X2_agreeing (l : Launch) (D : va_G) {r : Nat → Nat} (c : Nat → ClassId) (g : Nat → Int64) (hr : qw_inj r) (S : qw_St) : MI l D r c g yX2_agreeing wsX2_agreeing ({ frames := 1, cells := 0, slots := 0, locals := 20 }) [.ref (r 3)] S (f_X2_agreeing S) S := by
  have hiX2 : ∀ w ∈ wsX20, w ∈ wsX2_agreeing := by decide +kernel
  refine wx_of (cc := cX2_agreeing) (nL := 3) (ret := (some .int)) (lvs := [(0, .ref (r 3))]) (by decide) rfl rfl (Nat.le_of_ble_eq_true rfl) ?_
  intro p e s m below meth c0 ls hx hb hret hml hts hown hlk hK hP hS hl
  have hP : qw_P D r c g S s.heap := hP
  refine lv_iconst (v := 1) hx hb dX2_agreeing_0 (by decide) ?_
  refine lv_istore_n (lv' := [(1, .int (1 : Int32)), (0, .ref (r 3))]) hx hb dX2_agreeing_1 rfl hl (by decide) rfl (fun ls hl => ?_)
  refine lv_iconst (v := 0) hx hb dX2_agreeing_2 (by decide) ?_
  refine lv_istore_n (lv' := [(2, .int (0 : Int32)), (1, .int (1 : Int32)), (0, .ref (r 3))]) hx hb dX2_agreeing_3 rfl hl (by decide) rfl (fun ls hl => ?_)
  have L_4 : ∀ (n : Nat) (k : Nat) (z1 : Int32) (z2 : Int32) (H : Heap) (locs : List Loc) (ls : Array Slot) (hk : k + n = 5 ∧ k ≤ 4) (hz2 : z2 = nI k) (hf_4 : f_X2_agreeing_4 n S z1 z2 = (f_X2_agreeing S)), qw_P D r c g S H → va_S (qw_A r) s.heap H locs → lv_has ls 3 [(2, .int z2), (1, .int z1), (0, .ref (r 3))] → W p l e ({ frames := 1, cells := 0, slots := 0, locals := 20 }) s m [.ref (r 3)].toArray below meth c0 H locs 0 0 (MQ below (qw_Qi D r c g (f_X2_agreeing S) S) [.ref (r 3)].toArray s 0 0 (qw_A r)) (F0 m 4 ls []) := by
    intro n
    induction n with
    | zero =>
      intro k z1 z2 H locs ls hk hz2 hf_4 hP hS hl
      omega
    | succ n ih_4 =>
      intro k z1 z2 H locs ls hk hz2 hf_4 hP hS hl
      refine lv_iload_n hx hb dX2_agreeing_4 rfl (lv_at hl 0 rfl) ?_
      refine lv_iconst (v := 4) hx hb dX2_agreeing_5 (by decide) ?_
      refine lv_icmp_ge (tgt := 27) hx hb dX2_agreeing_6 (by decide) (fun c_6 => ?_) (fun c_6 => ?_)
      · refine lv_iload_n hx hb dX2_agreeing_27 rfl (lv_at hl 1 rfl) ?_
        exact wx_iret hx hb hret hlk hK hP hS (by rw [← hf_4, f_X2_agreeing_4]; rw [if_pos c_6]) rfl dX2_agreeing_28
      · have hk4 : k < 4 := qi_lt hz2 (by omega) (m := 4) rfl c_6
        refine lv_iload_n hx hb dX2_agreeing_9 rfl (lv_at hl 1 rfl) ?_
        refine lv_aload_n hx hb dX2_agreeing_10 rfl (lv_at hl 2 rfl) ?_
        refine wx_get hx hb hts hiX2 hown hK hP 3 (by decide) qc_3 rfl 5 (by decide) (hts (.fieldLink RX2 27 "PriceEdict$Stones" "left" "[I") (by decide +kernel)) rfl dX2_agreeing_11 ?_
        refine lv_iload_n hx hb dX2_agreeing_14 rfl (lv_at hl 0 rfl) ?_
        refine wx_ild hx hb hK hP 9 (by decide) qc_9 (qi_in hz2 hk4 (by decide)) dX2_agreeing_15 ?_
        refine wc_iS (As := [.int (S 9 z2.toNatClampNeg)]) (rest := [.int z1]) ⟨hx, hb, hml, hown, hts⟩ (c_J6_bitCount_0f7a4 l D c g hr S (S 9 z2.toNatClampNeg)) (va_cwS 1 hts gX2_agreeing_J6_bitCount_0f7a4 rfl rfl rfl (by decide +kernel) ⟨Nat.le_of_ble_eq_true rfl, Nat.le_of_ble_eq_true rfl⟩) hK hP hS (fun _ h => h) rfl hl.1 rfl (lv_room (Nat.le_of_ble_eq_true rfl)) dX2_agreeing_16 ⟨Nat.zero_le _, Nat.zero_le _⟩ (fun H locs hP hS => ?_)
        refine lv_imul hx hb dX2_agreeing_19 ?_
        refine lv_topi (fun x_1 ex_1 => ?_)
        refine lv_istore_n (lv' := [(1, .int x_1), (2, .int z2), (0, .ref (r 3))]) hx hb dX2_agreeing_20 rfl hl (by decide) rfl (fun ls hl => ?_)
        obtain ⟨x_2, ex_2⟩ : ∃ y : Int32, y = (z2 + (1 : Int32)) := ⟨_, rfl⟩
        refine lv_iinc (v := x_2) (lv' := [(2, .int x_2), (1, .int x_1), (0, .ref (r 3))]) hx hb dX2_agreeing_21 hl (k := 1) rfl (by rw [ex_2]; rfl) (by decide) rfl (fun ls hl => ?_)
        refine lv_goto (tgt := 4) hx hb dX2_agreeing_24 (by decide) ?_
        exact ih_4 (k + 1) x_1 x_2 _ _ _ (by omega) (by rw [ex_2]; exact qi_add hz2) (by subst ex_2; subst ex_1; rw [← hf_4, f_X2_agreeing_4]; rw [if_neg c_6]) hP hS (lv_sub hl [0, 1, 2] rfl)
  exact L_4 5 0 (1 : Int32) (0 : Int32) _ _ _ (by omega) nI_0.symm (by rw [f_X2_agreeing]) hP hS (lv_sub hl [0, 1, 2] rfl)
def f_X2_lowestFigure_2 (a0 : Int32) : Nat → qw_St → Int32 → Int32
  | 0, S, _ => 0
  | n + 1, S, z1 => (if (9 : Int32) ≤ z1 then z1 else (if ((a0 >>> (z1 &&& 31)) &&& (1 : Int32)) = 0 then (f_X2_lowestFigure_2 a0 n S (z1 + (1 : Int32))) else z1))
def f_X2_lowestFigure (S : qw_St) (a0 : Int32) : Int32 := (f_X2_lowestFigure_2 a0 10 S (0 : Int32))
set_option maxHeartbeats 4000000 in
set_option maxRecDepth 100000 in
theorem c_X2_lowestFigure (l : Launch) (D : va_G) {r : Nat → Nat} (c : Nat → ClassId) (g : Nat → Int64) (hr : qw_inj r) (S : qw_St) (a0 : Int32) : MI l D r c g yX2_lowestFigure wsX2_lowestFigure ({ frames := 0, cells := 0, slots := 0, locals := 0 }) [.int a0] S (f_X2_lowestFigure S a0) S := by
  refine wx_of (cc := cX2_lowestFigure) (nL := 2) (ret := (some .int)) (lvs := [(0, .int a0)]) (by decide) rfl rfl (Nat.le_of_ble_eq_true rfl) ?_
  intro p e s m below meth c0 ls hx hb hret hml hts hown hlk hK hP hS hl
  have hP : qw_P D r c g S s.heap := hP
  refine lv_iconst (v := 0) hx hb dX2_lowestFigure_0 (by decide) ?_
  refine lv_istore_n (lv' := [(1, .int (0 : Int32)), (0, .int a0)]) hx hb dX2_lowestFigure_1 rfl hl (by decide) rfl (fun ls hl => ?_)
  have L_2 : ∀ (n : Nat) (k : Nat) (z1 : Int32) (H : Heap) (locs : List Loc) (ls : Array Slot) (hk : k + n = 10 ∧ k ≤ 9) (hz1 : z1 = nI k) (hf_2 : f_X2_lowestFigure_2 a0 n S z1 = (f_X2_lowestFigure S a0)), qw_P D r c g S H → va_S (qw_A r) s.heap H locs → lv_has ls 2 [(1, .int z1), (0, .int a0)] → W p l e ({ frames := 0, cells := 0, slots := 0, locals := 0 }) s m [.int a0].toArray below meth c0 H locs 0 0 (MQ below (qw_Qi D r c g (f_X2_lowestFigure S a0) S) [.int a0].toArray s 0 0 (qw_A r)) (F0 m 2 ls []) := by
    intro n
    induction n with
    | zero =>
      intro k z1 H locs ls hk hz1 hf_2 hP hS hl
      omega
    | succ n ih_2 =>
      intro k z1 H locs ls hk hz1 hf_2 hP hS hl
      refine lv_iload_n hx hb dX2_lowestFigure_2 rfl (lv_at hl 0 rfl) ?_
      refine lv_bipush (v := 9) hx hb dX2_lowestFigure_3 (by decide) ?_
      refine lv_icmp_ge (tgt := 22) hx hb dX2_lowestFigure_5 (by decide) (fun c_5 => ?_) (fun c_5 => ?_)
      · refine lv_iload_n hx hb dX2_lowestFigure_22 rfl (lv_at hl 0 rfl) ?_
        exact wx_iret hx hb hret hlk hK hP hS (by rw [← hf_2, f_X2_lowestFigure_2]; rw [if_pos c_5]) rfl dX2_lowestFigure_23
      · have hk9 : k < 9 := qi_lt hz1 (by omega) (m := 9) rfl c_5
        refine lv_iload_n hx hb dX2_lowestFigure_8 rfl (lv_at hl 1 rfl) ?_
        refine lv_iload_n hx hb dX2_lowestFigure_9 rfl (lv_at hl 0 rfl) ?_
        refine lv_ishr hx hb dX2_lowestFigure_10 ?_
        refine lv_iconst (v := 1) hx hb dX2_lowestFigure_11 (by decide) ?_
        refine lv_iand hx hb dX2_lowestFigure_12 ?_
        refine lv_if_ne (tgt := 22) hx hb dX2_lowestFigure_13 (by decide) (fun c_13 => ?_) (fun c_13 => ?_)
        · refine lv_iload_n hx hb dX2_lowestFigure_22 rfl (lv_at hl 0 rfl) ?_
          exact wx_iret hx hb hret hlk hK hP hS (by rw [← hf_2, f_X2_lowestFigure_2]; rw [if_neg c_5, if_neg c_13]) rfl dX2_lowestFigure_23
        · obtain ⟨x_1, ex_1⟩ : ∃ y : Int32, y = (z1 + (1 : Int32)) := ⟨_, rfl⟩
          refine lv_iinc (v := x_1) (lv' := [(1, .int x_1), (0, .int a0)]) hx hb dX2_lowestFigure_16 hl (k := 0) rfl (by rw [ex_1]; rfl) (by decide) rfl (fun ls hl => ?_)
          refine lv_goto (tgt := 2) hx hb dX2_lowestFigure_19 (by decide) ?_
          exact ih_2 (k + 1) x_1 _ _ _ (by omega) (by rw [ex_1]; exact qi_add hz1) (by subst ex_1; rw [← hf_2, f_X2_lowestFigure_2]; rw [if_neg c_5, if_pos c_13]) hP hS (lv_sub hl [0, 1] rfl)
  exact L_2 10 0 (0 : Int32) _ _ _ (by omega) nI_0.symm (by rw [f_X2_lowestFigure]) hP hS (lv_sub hl [0, 1] rfl)
def f_X2_highestFigure_3 (a0 : Int32) : Nat → qw_St → Int32 → Int32
  | 0, S, _ => 0
  | n + 1, S, z1 => (if z1 ≤ 0 then z1 else (if ((a0 >>> (z1 &&& 31)) &&& (1 : Int32)) = 0 then (f_X2_highestFigure_3 a0 n S (z1 + (-1 : Int32))) else z1))
def f_X2_highestFigure (S : qw_St) (a0 : Int32) : Int32 := (f_X2_highestFigure_3 a0 10 S (9 : Int32))
set_option maxHeartbeats 4000000 in
set_option maxRecDepth 100000 in
theorem c_X2_highestFigure (l : Launch) (D : va_G) {r : Nat → Nat} (c : Nat → ClassId) (g : Nat → Int64) (hr : qw_inj r) (S : qw_St) (a0 : Int32) : MI l D r c g yX2_highestFigure wsX2_highestFigure ({ frames := 0, cells := 0, slots := 0, locals := 0 }) [.int a0] S (f_X2_highestFigure S a0) S := by
  refine wx_of (cc := cX2_highestFigure) (nL := 2) (ret := (some .int)) (lvs := [(0, .int a0)]) (by decide) rfl rfl (Nat.le_of_ble_eq_true rfl) ?_
  intro p e s m below meth c0 ls hx hb hret hml hts hown hlk hK hP hS hl
  have hP : qw_P D r c g S s.heap := hP
  refine lv_bipush (v := 9) hx hb dX2_highestFigure_0 (by decide) ?_
  refine lv_istore_n (lv' := [(1, .int (9 : Int32)), (0, .int a0)]) hx hb dX2_highestFigure_2 rfl hl (by decide) rfl (fun ls hl => ?_)
  have L_3 : ∀ (n : Nat) (k : Nat) (z1 : Int32) (H : Heap) (locs : List Loc) (ls : Array Slot) (hk : k < n ∧ k ≤ 9) (hz1 : z1 = nI k) (hf_3 : f_X2_highestFigure_3 a0 n S z1 = (f_X2_highestFigure S a0)), qw_P D r c g S H → va_S (qw_A r) s.heap H locs → lv_has ls 2 [(1, .int z1), (0, .int a0)] → W p l e ({ frames := 0, cells := 0, slots := 0, locals := 0 }) s m [.int a0].toArray below meth c0 H locs 0 0 (MQ below (qw_Qi D r c g (f_X2_highestFigure S a0) S) [.int a0].toArray s 0 0 (qw_A r)) (F0 m 3 ls []) := by
    intro n
    induction n with
    | zero =>
      intro k z1 H locs ls hk hz1 hf_3 hP hS hl
      omega
    | succ n ih_3 =>
      intro k z1 H locs ls hk hz1 hf_3 hP hS hl
      refine lv_iload_n hx hb dX2_highestFigure_3 rfl (lv_at hl 0 rfl) ?_
      refine lv_if_le (tgt := 21) hx hb dX2_highestFigure_4 (by decide) (fun c_4 => ?_) (fun c_4 => ?_)
      · refine lv_iload_n hx hb dX2_highestFigure_21 rfl (lv_at hl 0 rfl) ?_
        exact wx_iret hx hb hret hlk hK hP hS (by rw [← hf_3, f_X2_highestFigure_3]; rw [if_pos c_4]) rfl dX2_highestFigure_22
      · refine lv_iload_n hx hb dX2_highestFigure_7 rfl (lv_at hl 1 rfl) ?_
        refine lv_iload_n hx hb dX2_highestFigure_8 rfl (lv_at hl 0 rfl) ?_
        refine lv_ishr hx hb dX2_highestFigure_9 ?_
        refine lv_iconst (v := 1) hx hb dX2_highestFigure_10 (by decide) ?_
        refine lv_iand hx hb dX2_highestFigure_11 ?_
        refine lv_if_ne (tgt := 21) hx hb dX2_highestFigure_12 (by decide) (fun c_12 => ?_) (fun c_12 => ?_)
        · refine lv_iload_n hx hb dX2_highestFigure_21 rfl (lv_at hl 0 rfl) ?_
          exact wx_iret hx hb hret hlk hK hP hS (by rw [← hf_3, f_X2_highestFigure_3]; rw [if_neg c_4, if_neg c_12]) rfl dX2_highestFigure_22
        · obtain ⟨x_1, ex_1⟩ : ∃ y : Int32, y = (z1 + (-1 : Int32)) := ⟨_, rfl⟩
          refine lv_iinc (v := x_1) (lv' := [(1, .int x_1), (0, .int a0)]) hx hb dX2_highestFigure_15 hl (k := 0) rfl (by rw [ex_1]; rfl) (by decide) rfl (fun ls hl => ?_)
          refine lv_goto (tgt := 3) hx hb dX2_highestFigure_18 (by decide) ?_
          exact ih_3 (k - 1) x_1 _ _ _ (by have := qi_pos1 hz1 (by omega) c_4; omega) (by rw [ex_1]; exact qi_dec hz1 (qi_pos1 hz1 (by omega) c_4)) (by subst ex_1; rw [← hf_3, f_X2_highestFigure_3]; rw [if_neg c_4, if_pos c_12]) hP hS (lv_sub hl [0, 1] rfl)
  exact L_3 10 9 (9 : Int32) _ _ _ (by omega) rfl (by rw [f_X2_highestFigure]) hP hS (lv_sub hl [0, 1] rfl)
def f_X2_least_13 : Nat → qw_St → Int32 → Int32 → Int32
  | 0, S, _, _ => 0
  | n + 1, S, z1, z2 => (if (4 : Int32) ≤ z2 then z1 else (f_X2_least_13 n S ((z1 * (10 : Int32)) + (f_X2_lowestFigure S (S 9 z2.toNatClampNeg))) (z2 + (1 : Int32))))
def f_X2_least (S : qw_St) : Int32 := (if (f_X2_agreeing S) = 0 then (-1 : Int32) else (f_X2_least_13 5 S (0 : Int32) (0 : Int32)))
set_option maxHeartbeats 4000000 in
set_option maxRecDepth 100000 in
theorem c_X2_least (l : Launch) (D : va_G) {r : Nat → Nat} (c : Nat → ClassId) (g : Nat → Int64) (hr : qw_inj r) (S : qw_St) : MI l D r c g yX2_least wsX2_least ({ frames := 2, cells := 0, slots := 0, locals := 42 }) [.ref (r 3)] S (f_X2_least S) S := by
  have hiX2 : ∀ w ∈ wsX20, w ∈ wsX2_least := by decide +kernel
  refine wx_of (cc := cX2_least) (nL := 3) (ret := (some .int)) (lvs := [(0, .ref (r 3))]) (by decide) rfl rfl (Nat.le_of_ble_eq_true rfl) ?_
  intro p e s m below meth c0 ls hx hb hret hml hts hown hlk hK hP hS hl
  have hP : qw_P D r c g S s.heap := hP
  refine lv_aload_n hx hb dX2_least_0 rfl (lv_at hl 0 rfl) ?_
  refine wc_iV (k := 3) (C := RX2) (As := []) (rest := []) ⟨hx, hb, hml, hown, hts⟩ (c_X2_agreeing l D c g hr S) (cwV 0 hts gX2_least_X2_agreeing rfl rfl rfl (by decide +kernel) ⟨Nat.le_of_ble_eq_true rfl, Nat.le_of_ble_eq_true rfl⟩) (wx_recv hK hP (by decide) qc_3 rfl) hK hP hS (fun _ h => h) rfl hl.1 rfl (lv_room (Nat.le_of_ble_eq_true rfl)) dX2_least_1 ⟨Nat.zero_le _, Nat.zero_le _⟩ (fun H locs hP hS => ?_)
  refine lv_if_ne (tgt := 9) hx hb dX2_least_4 (by decide) (fun c_4 => ?_) (fun c_4 => ?_)
  · refine lv_iconst (v := 0) hx hb dX2_least_9 (by decide) ?_
    refine lv_istore_n (lv' := [(1, .int (0 : Int32)), (0, .ref (r 3))]) hx hb dX2_least_10 rfl hl (by decide) rfl (fun ls hl => ?_)
    refine lv_iconst (v := 0) hx hb dX2_least_11 (by decide) ?_
    refine lv_istore_n (lv' := [(2, .int (0 : Int32)), (1, .int (0 : Int32)), (0, .ref (r 3))]) hx hb dX2_least_12 rfl hl (by decide) rfl (fun ls hl => ?_)
    have L_13 : ∀ (n : Nat) (k : Nat) (z1 : Int32) (z2 : Int32) (H : Heap) (locs : List Loc) (ls : Array Slot) (hk : k + n = 5 ∧ k ≤ 4) (hz2 : z2 = nI k) (hf_13 : f_X2_least_13 n S z1 z2 = (f_X2_least S)), qw_P D r c g S H → va_S (qw_A r) s.heap H locs → lv_has ls 3 [(2, .int z2), (1, .int z1), (0, .ref (r 3))] → W p l e ({ frames := 2, cells := 0, slots := 0, locals := 42 }) s m [.ref (r 3)].toArray below meth c0 H locs 0 0 (MQ below (qw_Qi D r c g (f_X2_least S) S) [.ref (r 3)].toArray s 0 0 (qw_A r)) (F0 m 13 ls []) := by
      intro n
      induction n with
      | zero =>
        intro k z1 z2 H locs ls hk hz2 hf_13 hP hS hl
        omega
      | succ n ih_13 =>
        intro k z1 z2 H locs ls hk hz2 hf_13 hP hS hl
        refine lv_iload_n hx hb dX2_least_13 rfl (lv_at hl 0 rfl) ?_
        refine lv_iconst (v := 4) hx hb dX2_least_14 (by decide) ?_
        refine lv_icmp_ge (tgt := 39) hx hb dX2_least_15 (by decide) (fun c_15 => ?_) (fun c_15 => ?_)
        · refine lv_iload_n hx hb dX2_least_39 rfl (lv_at hl 1 rfl) ?_
          exact wx_iret hx hb hret hlk hK hP hS (by rw [← hf_13, f_X2_least_13]; rw [if_pos c_15]) rfl dX2_least_40
        · have hk4 : k < 4 := qi_lt hz2 (by omega) (m := 4) rfl c_15
          refine lv_iload_n hx hb dX2_least_18 rfl (lv_at hl 1 rfl) ?_
          refine lv_bipush (v := 10) hx hb dX2_least_19 (by decide) ?_
          refine lv_imul hx hb dX2_least_21 ?_
          refine lv_aload_n hx hb dX2_least_22 rfl (lv_at hl 2 rfl) ?_
          refine wx_get hx hb hts hiX2 hown hK hP 3 (by decide) qc_3 rfl 5 (by decide) (hts (.fieldLink RX2 27 "PriceEdict$Stones" "left" "[I") (by decide +kernel)) rfl dX2_least_23 ?_
          refine lv_iload_n hx hb dX2_least_26 rfl (lv_at hl 0 rfl) ?_
          refine wx_ild hx hb hK hP 9 (by decide) qc_9 (qi_in hz2 hk4 (by decide)) dX2_least_27 ?_
          refine wc_iS (As := [.int (S 9 z2.toNatClampNeg)]) (rest := [.int (z1 * (10 : Int32))]) ⟨hx, hb, hml, hown, hts⟩ (c_X2_lowestFigure l D c g hr S (S 9 z2.toNatClampNeg)) (va_cwS 1 hts gX2_least_X2_lowestFigure rfl rfl rfl (by decide +kernel) ⟨Nat.le_of_ble_eq_true rfl, Nat.le_of_ble_eq_true rfl⟩) hK hP hS (fun _ h => h) rfl hl.1 rfl (lv_room (Nat.le_of_ble_eq_true rfl)) dX2_least_28 ⟨Nat.zero_le _, Nat.zero_le _⟩ (fun H locs hP hS => ?_)
          refine lv_iadd hx hb dX2_least_31 ?_
          refine lv_topi (fun x_1 ex_1 => ?_)
          refine lv_istore_n (lv' := [(1, .int x_1), (2, .int z2), (0, .ref (r 3))]) hx hb dX2_least_32 rfl hl (by decide) rfl (fun ls hl => ?_)
          obtain ⟨x_2, ex_2⟩ : ∃ y : Int32, y = (z2 + (1 : Int32)) := ⟨_, rfl⟩
          refine lv_iinc (v := x_2) (lv' := [(2, .int x_2), (1, .int x_1), (0, .ref (r 3))]) hx hb dX2_least_33 hl (k := 1) rfl (by rw [ex_2]; rfl) (by decide) rfl (fun ls hl => ?_)
          refine lv_goto (tgt := 13) hx hb dX2_least_36 (by decide) ?_
          exact ih_13 (k + 1) x_1 x_2 _ _ _ (by omega) (by rw [ex_2]; exact qi_add hz2) (by subst ex_2; subst ex_1; rw [← hf_13, f_X2_least_13]; rw [if_neg c_15]) hP hS (lv_sub hl [0, 1, 2] rfl)
    exact L_13 5 0 (0 : Int32) (0 : Int32) _ _ _ (by omega) nI_0.symm (by unfold f_X2_least; rw [if_neg c_4]) hP hS (lv_sub hl [0, 1, 2] rfl)
  · refine lv_iconst (v := (-1)) hx hb dX2_least_7 (by decide) ?_
    exact wx_iret hx hb hret hlk hK hP hS (by unfold f_X2_least; rw [if_pos c_4]) rfl dX2_least_8
def f_X2_greatest_13 : Nat → qw_St → Int32 → Int32 → Int32
  | 0, S, _, _ => 0
  | n + 1, S, z1, z2 => (if (4 : Int32) ≤ z2 then z1 else (f_X2_greatest_13 n S ((z1 * (10 : Int32)) + (f_X2_highestFigure S (S 9 z2.toNatClampNeg))) (z2 + (1 : Int32))))
def f_X2_greatest (S : qw_St) : Int32 := (if (f_X2_agreeing S) = 0 then (-1 : Int32) else (f_X2_greatest_13 5 S (0 : Int32) (0 : Int32)))
set_option maxHeartbeats 4000000 in
set_option maxRecDepth 100000 in
theorem c_X2_greatest (l : Launch) (D : va_G) {r : Nat → Nat} (c : Nat → ClassId) (g : Nat → Int64) (hr : qw_inj r) (S : qw_St) : MI l D r c g yX2_greatest wsX2_greatest ({ frames := 2, cells := 0, slots := 0, locals := 42 }) [.ref (r 3)] S (f_X2_greatest S) S := by
  have hiX2 : ∀ w ∈ wsX20, w ∈ wsX2_greatest := by decide +kernel
  refine wx_of (cc := cX2_greatest) (nL := 3) (ret := (some .int)) (lvs := [(0, .ref (r 3))]) (by decide) rfl rfl (Nat.le_of_ble_eq_true rfl) ?_
  intro p e s m below meth c0 ls hx hb hret hml hts hown hlk hK hP hS hl
  have hP : qw_P D r c g S s.heap := hP
  refine lv_aload_n hx hb dX2_greatest_0 rfl (lv_at hl 0 rfl) ?_
  refine wc_iV (k := 3) (C := RX2) (As := []) (rest := []) ⟨hx, hb, hml, hown, hts⟩ (c_X2_agreeing l D c g hr S) (cwV 0 hts gX2_greatest_X2_agreeing rfl rfl rfl (by decide +kernel) ⟨Nat.le_of_ble_eq_true rfl, Nat.le_of_ble_eq_true rfl⟩) (wx_recv hK hP (by decide) qc_3 rfl) hK hP hS (fun _ h => h) rfl hl.1 rfl (lv_room (Nat.le_of_ble_eq_true rfl)) dX2_greatest_1 ⟨Nat.zero_le _, Nat.zero_le _⟩ (fun H locs hP hS => ?_)
  refine lv_if_ne (tgt := 9) hx hb dX2_greatest_4 (by decide) (fun c_4 => ?_) (fun c_4 => ?_)
  · refine lv_iconst (v := 0) hx hb dX2_greatest_9 (by decide) ?_
    refine lv_istore_n (lv' := [(1, .int (0 : Int32)), (0, .ref (r 3))]) hx hb dX2_greatest_10 rfl hl (by decide) rfl (fun ls hl => ?_)
    refine lv_iconst (v := 0) hx hb dX2_greatest_11 (by decide) ?_
    refine lv_istore_n (lv' := [(2, .int (0 : Int32)), (1, .int (0 : Int32)), (0, .ref (r 3))]) hx hb dX2_greatest_12 rfl hl (by decide) rfl (fun ls hl => ?_)
    have L_13 : ∀ (n : Nat) (k : Nat) (z1 : Int32) (z2 : Int32) (H : Heap) (locs : List Loc) (ls : Array Slot) (hk : k + n = 5 ∧ k ≤ 4) (hz2 : z2 = nI k) (hf_13 : f_X2_greatest_13 n S z1 z2 = (f_X2_greatest S)), qw_P D r c g S H → va_S (qw_A r) s.heap H locs → lv_has ls 3 [(2, .int z2), (1, .int z1), (0, .ref (r 3))] → W p l e ({ frames := 2, cells := 0, slots := 0, locals := 42 }) s m [.ref (r 3)].toArray below meth c0 H locs 0 0 (MQ below (qw_Qi D r c g (f_X2_greatest S) S) [.ref (r 3)].toArray s 0 0 (qw_A r)) (F0 m 13 ls []) := by
      intro n
      induction n with
      | zero =>
        intro k z1 z2 H locs ls hk hz2 hf_13 hP hS hl
        omega
      | succ n ih_13 =>
        intro k z1 z2 H locs ls hk hz2 hf_13 hP hS hl
        refine lv_iload_n hx hb dX2_greatest_13 rfl (lv_at hl 0 rfl) ?_
        refine lv_iconst (v := 4) hx hb dX2_greatest_14 (by decide) ?_
        refine lv_icmp_ge (tgt := 39) hx hb dX2_greatest_15 (by decide) (fun c_15 => ?_) (fun c_15 => ?_)
        · refine lv_iload_n hx hb dX2_greatest_39 rfl (lv_at hl 1 rfl) ?_
          exact wx_iret hx hb hret hlk hK hP hS (by rw [← hf_13, f_X2_greatest_13]; rw [if_pos c_15]) rfl dX2_greatest_40
        · have hk4 : k < 4 := qi_lt hz2 (by omega) (m := 4) rfl c_15
          refine lv_iload_n hx hb dX2_greatest_18 rfl (lv_at hl 1 rfl) ?_
          refine lv_bipush (v := 10) hx hb dX2_greatest_19 (by decide) ?_
          refine lv_imul hx hb dX2_greatest_21 ?_
          refine lv_aload_n hx hb dX2_greatest_22 rfl (lv_at hl 2 rfl) ?_
          refine wx_get hx hb hts hiX2 hown hK hP 3 (by decide) qc_3 rfl 5 (by decide) (hts (.fieldLink RX2 27 "PriceEdict$Stones" "left" "[I") (by decide +kernel)) rfl dX2_greatest_23 ?_
          refine lv_iload_n hx hb dX2_greatest_26 rfl (lv_at hl 0 rfl) ?_
          refine wx_ild hx hb hK hP 9 (by decide) qc_9 (qi_in hz2 hk4 (by decide)) dX2_greatest_27 ?_
          refine wc_iS (As := [.int (S 9 z2.toNatClampNeg)]) (rest := [.int (z1 * (10 : Int32))]) ⟨hx, hb, hml, hown, hts⟩ (c_X2_highestFigure l D c g hr S (S 9 z2.toNatClampNeg)) (va_cwS 1 hts gX2_greatest_X2_highestFigure rfl rfl rfl (by decide +kernel) ⟨Nat.le_of_ble_eq_true rfl, Nat.le_of_ble_eq_true rfl⟩) hK hP hS (fun _ h => h) rfl hl.1 rfl (lv_room (Nat.le_of_ble_eq_true rfl)) dX2_greatest_28 ⟨Nat.zero_le _, Nat.zero_le _⟩ (fun H locs hP hS => ?_)
          refine lv_iadd hx hb dX2_greatest_31 ?_
          refine lv_topi (fun x_1 ex_1 => ?_)
          refine lv_istore_n (lv' := [(1, .int x_1), (2, .int z2), (0, .ref (r 3))]) hx hb dX2_greatest_32 rfl hl (by decide) rfl (fun ls hl => ?_)
          obtain ⟨x_2, ex_2⟩ : ∃ y : Int32, y = (z2 + (1 : Int32)) := ⟨_, rfl⟩
          refine lv_iinc (v := x_2) (lv' := [(2, .int x_2), (1, .int x_1), (0, .ref (r 3))]) hx hb dX2_greatest_33 hl (k := 1) rfl (by rw [ex_2]; rfl) (by decide) rfl (fun ls hl => ?_)
          refine lv_goto (tgt := 13) hx hb dX2_greatest_36 (by decide) ?_
          exact ih_13 (k + 1) x_1 x_2 _ _ _ (by omega) (by rw [ex_2]; exact qi_add hz2) (by subst ex_2; subst ex_1; rw [← hf_13, f_X2_greatest_13]; rw [if_neg c_15]) hP hS (lv_sub hl [0, 1, 2] rfl)
    exact L_13 5 0 (0 : Int32) (0 : Int32) _ _ _ (by omega) nI_0.symm (by unfold f_X2_greatest; rw [if_neg c_4]) hP hS (lv_sub hl [0, 1, 2] rfl)
  · refine lv_iconst (v := (-1)) hx hb dX2_greatest_7 (by decide) ?_
    exact wx_iret hx hb hret hlk hK hP hS (by unfold f_X2_greatest; rw [if_pos c_4]) rfl dX2_greatest_8
