def s_X7_edict_26 (S : qw_St) : qw_St := (up2 (g_X7_readAll (up2 S 143 0 (0 : Int32))) 143 23 (if (f_X7_readAll (up2 S 143 0 (0 : Int32))) = 0 then ((g_X7_readAll (up2 S 143 0 (0 : Int32))) 143 22) else (-1 : Int32)))
def g_X7_edict_117 (y1 : Int32) : Nat → qw_St → Int32 → qw_St
  | 0, S, _ => S
  | n + 1, S, z2 => (if (6 : Int32) ≤ z2 then (up2 (g_X7_tells S (S 143 14)) 143 14 (((g_X7_tells S (S 143 14)) 143 14) + (1 : Int32))) else (g_X7_edict_117 y1 n (up2 (up2 S 149 (((6 : Int32) * (S 143 14)) + z2).toNatClampNeg (S 149 ((120 : Int32) + z2).toNatClampNeg)) 150 (((6 : Int32) * (S 143 14)) + z2).toNatClampNeg (S 150 ((120 : Int32) + z2).toNatClampNeg)) (z2 + (1 : Int32))))
def f_X7_edict_117 (y1 : Int32) : Nat → qw_St → Int32 → Int32
  | 0, S, _ => 0
  | n + 1, S, z2 => (if (6 : Int32) ≤ z2 then ((((g_X7_tells S (S 143 14)) 143 14) + (1 : Int32)) - (1 : Int32)) else (f_X7_edict_117 y1 n (up2 (up2 S 149 (((6 : Int32) * (S 143 14)) + z2).toNatClampNeg (S 149 ((120 : Int32) + z2).toNatClampNeg)) 150 (((6 : Int32) * (S 143 14)) + z2).toNatClampNeg (S 150 ((120 : Int32) + z2).toNatClampNeg)) (z2 + (1 : Int32))))
def g_X7_edict (S : qw_St) : qw_St := (if (if (f_X7_readAll (up2 S 143 0 (0 : Int32))) = 0 then (1 : Int32) else (0 : Int32)) = 0 then (if (if ((s_X7_edict_26 S) 143 14) = (20 : Int32) then (1 : Int32) else (0 : Int32)) = 0 then (g_X7_edict_117 (f_X7_readAll (up2 S 143 0 (0 : Int32))) 7 (up2 (up2 (up2 (g_X7_throwsIf (g_X7_throwsIf (s_X7_edict_26 S) (if (f_X7_readAll (up2 S 143 0 (0 : Int32))) = 0 then (1 : Int32) else (0 : Int32)) (1 : Int32)) (if ((s_X7_edict_26 S) 143 14) = (20 : Int32) then (1 : Int32) else (0 : Int32)) (2 : Int32)) 151 ((s_X7_edict_26 S) 143 14).toNatClampNeg ((s_X7_edict_26 S) 151 (20 : Int32).toNatClampNeg)) 152 ((s_X7_edict_26 S) 143 14).toNatClampNeg ((s_X7_edict_26 S) 152 (20 : Int32).toNatClampNeg)) 153 ((s_X7_edict_26 S) 143 14).toNatClampNeg ((s_X7_edict_26 S) 153 (20 : Int32).toNatClampNeg)) (0 : Int32)) else (g_X7_throwsIf (g_X7_throwsIf (s_X7_edict_26 S) (if (f_X7_readAll (up2 S 143 0 (0 : Int32))) = 0 then (1 : Int32) else (0 : Int32)) (1 : Int32)) (if ((s_X7_edict_26 S) 143 14) = (20 : Int32) then (1 : Int32) else (0 : Int32)) (2 : Int32))) else (g_X7_throwsIf (s_X7_edict_26 S) (if (f_X7_readAll (up2 S 143 0 (0 : Int32))) = 0 then (1 : Int32) else (0 : Int32)) (1 : Int32)))
def f_X7_edict (S : qw_St) : Int32 := (if (if (f_X7_readAll (up2 S 143 0 (0 : Int32))) = 0 then (1 : Int32) else (0 : Int32)) = 0 then (if (if ((s_X7_edict_26 S) 143 14) = (20 : Int32) then (1 : Int32) else (0 : Int32)) = 0 then (f_X7_edict_117 (f_X7_readAll (up2 S 143 0 (0 : Int32))) 7 (up2 (up2 (up2 (g_X7_throwsIf (g_X7_throwsIf (s_X7_edict_26 S) (if (f_X7_readAll (up2 S 143 0 (0 : Int32))) = 0 then (1 : Int32) else (0 : Int32)) (1 : Int32)) (if ((s_X7_edict_26 S) 143 14) = (20 : Int32) then (1 : Int32) else (0 : Int32)) (2 : Int32)) 151 ((s_X7_edict_26 S) 143 14).toNatClampNeg ((s_X7_edict_26 S) 151 (20 : Int32).toNatClampNeg)) 152 ((s_X7_edict_26 S) 143 14).toNatClampNeg ((s_X7_edict_26 S) 152 (20 : Int32).toNatClampNeg)) 153 ((s_X7_edict_26 S) 143 14).toNatClampNeg ((s_X7_edict_26 S) 153 (20 : Int32).toNatClampNeg)) (0 : Int32)) else (0 : Int32)) else (0 : Int32))
set_option maxHeartbeats 4000000 in
set_option maxRecDepth 100000 in
theorem c_X7_edict (l : Launch) (D : va_G) {r : Nat → Nat} (c : Nat → ClassId) (g : Nat → Int64) (hr : qw_inj r) (S : qw_St) (hz19 : qz (S 143 19) 400) (hte : ∃ e t : Nat, S 143 14 = nI e ∧ S 143 17 = nI t ∧ t ≤ 2 * e ∧ e ≤ 20) : Met l yX7_edict wsX7_edict ({ frames := 7, cells := 0, slots := 0, locals := 152 }) (va_Pc [.ref (r 143)] (fun U => qw_X D r c g S U ∧ EV (qw_A r) U)) (qw_Qi D r c g (f_X7_edict S) (g_X7_edict S)) 0 0 (qw_A r) := by
  have hiX7 : ∀ w ∈ wsX70, w ∈ wsX7_edict := by decide +kernel
  refine wx_ofE (cc := cX7_edict) (nL := 3) (ret := (some .int)) (lvs := [(0, .ref (r 143))]) (by decide) rfl rfl (Nat.le_of_ble_eq_true rfl) ?_
  intro p e s m below meth c0 ls hx hb hret hml hts hown hlk hK hP hS hl hE
  obtain ⟨e0, t0, e14, e17, hte0, he0⟩ := hte
  have hP : qw_P D r c g S s.heap := hP
  refine lv_aload_n hx hb dX7_edict_0 rfl (lv_at hl 0 rfl) ?_
  refine lv_iconst (v := 0) hx hb dX7_edict_1 (by decide) ?_
  refine wx_put hr hx hb hts hiX7 tyX7 tyX7_ok nmX7 hown hK hP hS 143 (by decide) qc_143 rfl 0 (by decide) (hts (.fieldLink RX7 99 "PriceEdictModel" "thrown" "I") (by decide +kernel)) rfl (by decide +kernel) (fun _ => rfl) (Nat.le_of_ble_eq_true rfl) dX7_edict_2 (fun H locs hP hS => ?_)
  refine lv_aload_n hx hb dX7_edict_5 rfl (lv_at hl 0 rfl) ?_
  refine wd_iV (b := r 143) (C := RX7) (As := []) (rest := []) ⟨hx, hb, hml, hown, hts⟩ (c_X7_readAll l D c g hr (up2 S 143 0 (0 : Int32)) (by rw [up2_ne _ _ (Or.inr (by decide))]; exact hz19)) (ev_bl _) (fun U hU hW => hE.to hS (fun _ h => h) hU hW) (cwV 0 hts gX7_edict_X7_readAll rfl rfl rfl (by decide +kernel) ⟨Nat.le_of_ble_eq_true rfl, Nat.le_of_ble_eq_true rfl⟩) (wx_recv hK hP (by decide) qc_143 rfl) hK hP hS (fun _ h => h) rfl hl.1 rfl (lv_room (Nat.le_of_ble_eq_true rfl)) dX7_edict_6 ⟨Nat.zero_le _, Nat.zero_le _⟩ (fun H locs hP hS => ?_)
  refine lv_topi (fun x_1 ex_1 => ?_)
  refine lv_istore_n (lv' := [(1, .int x_1), (0, .ref (r 143))]) hx hb dX7_edict_9 rfl hl (by decide) rfl (fun ls hl => ?_)
  refine lv_aload_n hx hb dX7_edict_10 rfl (lv_at hl 1 rfl) ?_
  have J_23 : ∀ (v_2 : Int32) (H : Heap) (locs : List Loc) (ls : Array Slot) (ev_2 : v_2 = (if x_1 = 0 then ((g_X7_readAll (up2 S 143 0 (0 : Int32))) 143 22) else (-1 : Int32))), qw_P D r c g (g_X7_readAll (up2 S 143 0 (0 : Int32))) H → va_S (qw_A r) s.heap H locs → lv_has ls 3 [(1, .int x_1), (0, .ref (r 143))] → W p l e ({ frames := 7, cells := 0, slots := 0, locals := 152 }) s m [.ref (r 143)].toArray below meth c0 H locs 0 0 (MQ below (qw_Qi D r c g (f_X7_edict S) (g_X7_edict S)) [.ref (r 143)].toArray s 0 0 (qw_A r)) (F0 m 23 ls [.int v_2, .ref (r 143)]) := by
    intro v_2 H locs ls ev_2 hP hS hl
    refine wx_put hr hx hb hts hiX7 tyX7 tyX7_ok nmX7 hown hK hP hS 143 (by decide) qc_143 rfl 23 (by decide) (hts (.fieldLink RX7 50 "PriceEdictModel" "faultAt" "I") (by decide +kernel)) rfl (by decide +kernel) (fun _ => rfl) (Nat.le_of_ble_eq_true rfl) dX7_edict_23 (fun H locs hP hS => ?_)
    subst ev_2
    try rw [ex_1] at hP
    have hP : qw_P D r c g (s_X7_edict_26 S) _ := hP
    obtain ⟨S_3, eS_3⟩ : ∃ z : qw_St, z = (s_X7_edict_26 S) := ⟨_, rfl⟩
    rw [← eS_3] at hP
    have hl := lv_sub (l' := [(1, .int x_1), (0, .ref (r 143))]) hl [0, 1] rfl
    have h14a : S_3 143 14 = nI e0 := by rw [eS_3]; unfold s_X7_edict_26; rw [up2_ne _ _ (Or.inr (by decide)), fr_X7_readAll _ _ (Or.inr (by decide)) (by decide), up2_ne _ _ (Or.inr (by decide))]; exact e14
    have h17a : S_3 143 17 = nI t0 := by rw [eS_3]; unfold s_X7_edict_26; rw [up2_ne _ _ (Or.inr (by decide)), fr_X7_readAll _ _ (Or.inr (by decide)) (by decide), up2_ne _ _ (Or.inr (by decide))]; exact e17
    refine lv_aload_n hx hb dX7_edict_26 rfl (lv_at hl 1 rfl) ?_
    have J_36 : ∀ (v_4 : Int32) (H : Heap) (locs : List Loc) (ls : Array Slot) (ev_4 : v_4 = (if x_1 = 0 then (1 : Int32) else (0 : Int32))), qw_P D r c g S_3 H → va_S (qw_A r) s.heap H locs → lv_has ls 3 [(1, .int x_1), (0, .ref (r 143))] → W p l e ({ frames := 7, cells := 0, slots := 0, locals := 152 }) s m [.ref (r 143)].toArray below meth c0 H locs 0 0 (MQ below (qw_Qi D r c g (f_X7_edict S) (g_X7_edict S)) [.ref (r 143)].toArray s 0 0 (qw_A r)) (F0 m 36 ls [.int v_4, .ref (r 143)]) := by
      intro v_4 H locs ls ev_4 hP hS hl
      refine lv_iconst (v := 1) hx hb dX7_edict_36 (by decide) ?_
      refine wc_iV (k := 143) (C := RX7) (As := [.int v_4, .int (1 : Int32)]) (rest := []) ⟨hx, hb, hml, hown, hts⟩ (c_X7_throwsIf l D c g hr S_3 v_4 (1 : Int32) (by rw [ev_4]; repeat' (first | split | exact Or.inl rfl | exact Or.inr rfl))) (cwV 2 hts gX7_edict_X7_throwsIf rfl rfl rfl (by decide +kernel) ⟨Nat.le_of_ble_eq_true rfl, Nat.le_of_ble_eq_true rfl⟩) (wx_recv hK hP (by decide) qc_143 rfl) hK hP hS (fun _ h => h) rfl hl.1 rfl (lv_room (Nat.le_of_ble_eq_true rfl)) dX7_edict_37 ⟨Nat.zero_le _, Nat.zero_le _⟩ (fun H locs hP hS => ?_)
      refine lv_tope v_4 rfl ?_
      refine lv_if_ne (tgt := 65) hx hb dX7_edict_40 (by decide) (fun c_40 => ?_) (fun c_40 => ?_)
      · refine lv_iconst (v := 0) hx hb dX7_edict_65 (by decide) ?_
        exact wx_iret hx hb hret hlk hK hP hS (by subst ev_4; subst eS_3; rw [f_X7_edict, ← ex_1]; conv => rhs; rw [if_neg c_40]) (by subst ev_4; subst eS_3; rw [g_X7_edict, ← ex_1]; conv => rhs; rw [if_neg c_40]) dX7_edict_66
      · refine lv_aload_n hx hb dX7_edict_43 rfl (lv_at hl 1 rfl) ?_
        have J_58 : ∀ (v_5 : Int32) (H : Heap) (locs : List Loc) (ls : Array Slot) (ev_5 : v_5 = (if (S_3 143 14) = (20 : Int32) then (1 : Int32) else (0 : Int32))), qw_P D r c g (g_X7_throwsIf S_3 v_4 (1 : Int32)) H → va_S (qw_A r) s.heap H locs → lv_has ls 3 [(1, .int x_1), (0, .ref (r 143))] → W p l e ({ frames := 7, cells := 0, slots := 0, locals := 152 }) s m [.ref (r 143)].toArray below meth c0 H locs 0 0 (MQ below (qw_Qi D r c g (f_X7_edict S) (g_X7_edict S)) [.ref (r 143)].toArray s 0 0 (qw_A r)) (F0 m 58 ls [.int v_5, .ref (r 143)]) := by
          intro v_5 H locs ls ev_5 hP hS hl
          refine lv_iconst (v := 2) hx hb dX7_edict_58 (by decide) ?_
          refine wc_iV (k := 143) (C := RX7) (As := [.int v_5, .int (2 : Int32)]) (rest := []) ⟨hx, hb, hml, hown, hts⟩ (c_X7_throwsIf l D c g hr (g_X7_throwsIf S_3 v_4 (1 : Int32)) v_5 (2 : Int32) (by rw [ev_5]; repeat' (first | split | exact Or.inl rfl | exact Or.inr rfl))) (cwV 2 hts gX7_edict_X7_throwsIf rfl rfl rfl (by decide +kernel) ⟨Nat.le_of_ble_eq_true rfl, Nat.le_of_ble_eq_true rfl⟩) (wx_recv hK hP (by decide) qc_143 rfl) hK hP hS (fun _ h => h) rfl hl.1 rfl (lv_room (Nat.le_of_ble_eq_true rfl)) dX7_edict_59 ⟨Nat.zero_le _, Nat.zero_le _⟩ (fun H locs hP hS => ?_)
          refine lv_tope v_5 rfl ?_
          refine lv_if_eq (tgt := 67) hx hb dX7_edict_62 (by decide) (fun c_62 => ?_) (fun c_62 => ?_)
          · have hlt : e0 < 20 := qi_ne20 h14a he0 (qb0 (ev_5.symm.trans c_62))
            have hi := (qi_in h14a (Nat.lt_of_lt_of_le hlt (by decide : 20 ≤ 21)) (by decide))
            refine lv_aload_n hx hb dX7_edict_67 rfl (lv_at hl 1 rfl) ?_
            refine wx_get hx hb hts hiX7 hown hK hP 143 (by decide) qc_143 rfl 11 (by decide) (hts (.fieldLink RX7 31 "PriceEdictModel" "carriage" "[I") (by decide +kernel)) rfl dX7_edict_68 ?_
            refine lv_aload_n hx hb dX7_edict_71 rfl (lv_at hl 1 rfl) ?_
            refine wx_get hx hb hts hiX7 hown hK hP 143 (by decide) qc_143 rfl 14 (by decide) (hts (.fieldLink RX7 192 "PriceEdictModel" "edicts" "I") (by decide +kernel)) rfl dX7_edict_72 ?_
            refine lv_tope (S_3 143 14) ((fr_X7_throwsIf (g_X7_throwsIf S_3 v_4 (1 : Int32)) v_5 (2 : Int32) 14 (Or.inr (by decide))).trans ((fr_X7_throwsIf S_3 v_4 (1 : Int32) 14 (Or.inr (by decide))))) ?_
            refine lv_aload_n hx hb dX7_edict_75 rfl (lv_at hl 1 rfl) ?_
            refine wx_get hx hb hts hiX7 hown hK hP 143 (by decide) qc_143 rfl 11 (by decide) (hts (.fieldLink RX7 31 "PriceEdictModel" "carriage" "[I") (by decide +kernel)) rfl dX7_edict_76 ?_
            refine lv_bipush (v := 20) hx hb dX7_edict_79 (by decide) ?_
            refine wx_ild hx hb hK hP 151 (by decide) qc_151 (vp_in_iff.mpr (by decide)) dX7_edict_81 ?_
            refine lv_tope (S_3 151 (20 : Int32).toNatClampNeg) ((fr_X7_throwsIf (g_X7_throwsIf S_3 v_4 (1 : Int32)) v_5 (2 : Int32) ((20 : Int32).toNatClampNeg) (Or.inl (by decide))).trans ((fr_X7_throwsIf S_3 v_4 (1 : Int32) ((20 : Int32).toNatClampNeg) (Or.inl (by decide))))) ?_
            refine wx_ist hr hx hb hK hP hS 151 (by decide) qc_151 hi dX7_edict_82 (fun H locs hP hS => ?_)
            refine lv_aload_n hx hb dX7_edict_83 rfl (lv_at hl 1 rfl) ?_
            refine wx_get hx hb hts hiX7 hown hK hP 143 (by decide) qc_143 rfl 12 (by decide) (hts (.fieldLink RX7 34 "PriceEdictModel" "credit" "[I") (by decide +kernel)) rfl dX7_edict_84 ?_
            refine lv_aload_n hx hb dX7_edict_87 rfl (lv_at hl 1 rfl) ?_
            refine wx_get hx hb hts hiX7 hown hK hP 143 (by decide) qc_143 rfl 14 (by decide) (hts (.fieldLink RX7 192 "PriceEdictModel" "edicts" "I") (by decide +kernel)) rfl dX7_edict_88 ?_
            refine lv_tope (S_3 143 14) ((up2_ne _ _ (Or.inl (by decide))).trans ((fr_X7_throwsIf (g_X7_throwsIf S_3 v_4 (1 : Int32)) v_5 (2 : Int32) 14 (Or.inr (by decide))).trans ((fr_X7_throwsIf S_3 v_4 (1 : Int32) 14 (Or.inr (by decide)))))) ?_
            refine lv_aload_n hx hb dX7_edict_91 rfl (lv_at hl 1 rfl) ?_
            refine wx_get hx hb hts hiX7 hown hK hP 143 (by decide) qc_143 rfl 12 (by decide) (hts (.fieldLink RX7 34 "PriceEdictModel" "credit" "[I") (by decide +kernel)) rfl dX7_edict_92 ?_
            refine lv_bipush (v := 20) hx hb dX7_edict_95 (by decide) ?_
            refine wx_ild hx hb hK hP 152 (by decide) qc_152 (vp_in_iff.mpr (by decide)) dX7_edict_97 ?_
            refine lv_tope (S_3 152 (20 : Int32).toNatClampNeg) ((up2_ne _ _ (Or.inl (by decide))).trans ((fr_X7_throwsIf (g_X7_throwsIf S_3 v_4 (1 : Int32)) v_5 (2 : Int32) ((20 : Int32).toNatClampNeg) (Or.inl (by decide))).trans ((fr_X7_throwsIf S_3 v_4 (1 : Int32) ((20 : Int32).toNatClampNeg) (Or.inl (by decide)))))) ?_
            refine wx_ist hr hx hb hK hP hS 152 (by decide) qc_152 hi dX7_edict_98 (fun H locs hP hS => ?_)
            refine lv_aload_n hx hb dX7_edict_99 rfl (lv_at hl 1 rfl) ?_
            refine wx_get hx hb hts hiX7 hown hK hP 143 (by decide) qc_143 rfl 13 (by decide) (hts (.fieldLink RX7 37 "PriceEdictModel" "free" "[I") (by decide +kernel)) rfl dX7_edict_100 ?_
            refine lv_aload_n hx hb dX7_edict_103 rfl (lv_at hl 1 rfl) ?_
            refine wx_get hx hb hts hiX7 hown hK hP 143 (by decide) qc_143 rfl 14 (by decide) (hts (.fieldLink RX7 192 "PriceEdictModel" "edicts" "I") (by decide +kernel)) rfl dX7_edict_104 ?_
            refine lv_tope (S_3 143 14) ((up2_ne _ _ (Or.inl (by decide))).trans ((up2_ne _ _ (Or.inl (by decide))).trans ((fr_X7_throwsIf (g_X7_throwsIf S_3 v_4 (1 : Int32)) v_5 (2 : Int32) 14 (Or.inr (by decide))).trans ((fr_X7_throwsIf S_3 v_4 (1 : Int32) 14 (Or.inr (by decide))))))) ?_
            refine lv_aload_n hx hb dX7_edict_107 rfl (lv_at hl 1 rfl) ?_
            refine wx_get hx hb hts hiX7 hown hK hP 143 (by decide) qc_143 rfl 13 (by decide) (hts (.fieldLink RX7 37 "PriceEdictModel" "free" "[I") (by decide +kernel)) rfl dX7_edict_108 ?_
            refine lv_bipush (v := 20) hx hb dX7_edict_111 (by decide) ?_
            refine wx_ild hx hb hK hP 153 (by decide) qc_153 (vp_in_iff.mpr (by decide)) dX7_edict_113 ?_
            refine lv_tope (S_3 153 (20 : Int32).toNatClampNeg) ((up2_ne _ _ (Or.inl (by decide))).trans ((up2_ne _ _ (Or.inl (by decide))).trans ((fr_X7_throwsIf (g_X7_throwsIf S_3 v_4 (1 : Int32)) v_5 (2 : Int32) ((20 : Int32).toNatClampNeg) (Or.inl (by decide))).trans ((fr_X7_throwsIf S_3 v_4 (1 : Int32) ((20 : Int32).toNatClampNeg) (Or.inl (by decide))))))) ?_
            refine wx_ist hr hx hb hK hP hS 153 (by decide) qc_153 hi dX7_edict_114 (fun H locs hP hS => ?_)
            refine lv_iconst (v := 0) hx hb dX7_edict_115 (by decide) ?_
            refine lv_istore_n (lv' := [(2, .int (0 : Int32)), (1, .int x_1), (0, .ref (r 143))]) hx hb dX7_edict_116 rfl hl (by decide) rfl (fun ls hl => ?_)
            have L_117 : ∀ (n : Nat) (k : Nat) (z2 : Int32) (S1 : qw_St) (H : Heap) (locs : List Loc) (ls : Array Slot) (hk : k + n = 7 ∧ k ≤ 6) (hz2 : z2 = nI k) (h14 : S1 143 14 = nI e0) (h17 : S1 143 17 = nI t0) (hf_117 : f_X7_edict_117 x_1 n S1 z2 = (f_X7_edict S)) (hg_117 : g_X7_edict_117 x_1 n S1 z2 = (g_X7_edict S)), qw_P D r c g S1 H → va_S (qw_A r) s.heap H locs → lv_has ls 3 [(2, .int z2), (1, .int x_1), (0, .ref (r 143))] → W p l e ({ frames := 7, cells := 0, slots := 0, locals := 152 }) s m [.ref (r 143)].toArray below meth c0 H locs 0 0 (MQ below (qw_Qi D r c g (f_X7_edict S) (g_X7_edict S)) [.ref (r 143)].toArray s 0 0 (qw_A r)) (F0 m 117 ls []) := by
              intro n
              induction n with
              | zero =>
                intro k z2 S1 H locs ls hk hz2 h14 h17 hf_117 hg_117 hP hS hl
                omega
              | succ n ih_117 =>
                intro k z2 S1 H locs ls hk hz2 h14 h17 hf_117 hg_117 hP hS hl
                refine lv_iload_n hx hb dX7_edict_117 rfl (lv_at hl 0 rfl) ?_
                refine lv_bipush (v := 6) hx hb dX7_edict_118 (by decide) ?_
                refine lv_icmp_ge (tgt := 175) hx hb dX7_edict_120 (by decide) (fun c_120 => ?_) (fun c_120 => ?_)
                · refine lv_aload_n hx hb dX7_edict_175 rfl (lv_at hl 2 rfl) ?_
                  refine lv_aload_n hx hb dX7_edict_176 rfl (lv_at hl 2 rfl) ?_
                  refine wx_get hx hb hts hiX7 hown hK hP 143 (by decide) qc_143 rfl 14 (by decide) (hts (.fieldLink RX7 192 "PriceEdictModel" "edicts" "I") (by decide +kernel)) rfl dX7_edict_177 ?_
                  refine wc_vV (k := 143) (C := RX7) (As := [.int (S1 143 14)]) (rest := []) ⟨hx, hb, hml, hown, hts⟩ (c_X7_tells l D c g hr S1 (S1 143 14) ⟨t0, by omega, h17⟩) (cwV 1 hts gX7_edict_X7_tells rfl rfl rfl (by decide +kernel) ⟨Nat.le_of_ble_eq_true rfl, Nat.le_of_ble_eq_true rfl⟩) (wx_recv hK hP (by decide) qc_143 rfl) hK hP hS (fun _ h => h) rfl hl.1 rfl (lv_room (Nat.le_of_ble_eq_true rfl)) dX7_edict_180 ⟨Nat.zero_le _, Nat.zero_le _⟩ (fun H locs hP hS => ?_)
                  refine lv_aload_n hx hb dX7_edict_183 rfl (lv_at hl 2 rfl) ?_
                  refine lv_dup hx hb dX7_edict_184 rfl ?_
                  refine wx_get hx hb hts hiX7 hown hK hP 143 (by decide) qc_143 rfl 14 (by decide) (hts (.fieldLink RX7 192 "PriceEdictModel" "edicts" "I") (by decide +kernel)) rfl dX7_edict_185 ?_
                  refine lv_iconst (v := 1) hx hb dX7_edict_188 (by decide) ?_
                  refine lv_iadd hx hb dX7_edict_189 ?_
                  refine wx_put hr hx hb hts hiX7 tyX7 tyX7_ok nmX7 hown hK hP hS 143 (by decide) qc_143 rfl 14 (by decide) (hts (.fieldLink RX7 192 "PriceEdictModel" "edicts" "I") (by decide +kernel)) rfl (by decide +kernel) (fun _ => rfl) (Nat.le_of_ble_eq_true rfl) dX7_edict_190 (fun H locs hP hS => ?_)
                  refine lv_aload_n hx hb dX7_edict_193 rfl (lv_at hl 2 rfl) ?_
                  refine wx_get hx hb hts hiX7 hown hK hP 143 (by decide) qc_143 rfl 14 (by decide) (hts (.fieldLink RX7 192 "PriceEdictModel" "edicts" "I") (by decide +kernel)) rfl dX7_edict_194 ?_
                  refine lv_tope (((g_X7_tells S1 (S1 143 14)) 143 14) + (1 : Int32)) ((up2_same _ _ _ _)) ?_
                  refine lv_iconst (v := 1) hx hb dX7_edict_197 (by decide) ?_
                  refine lv_isub hx hb dX7_edict_198 ?_
                  exact wx_iret hx hb hret hlk hK hP hS (by subst ev_5; subst ev_4; subst eS_3; rw [← hf_117, f_X7_edict_117]; conv => rhs; rw [if_pos c_120]) (by subst ev_5; subst ev_4; subst eS_3; rw [← hg_117, g_X7_edict_117]; conv => rhs; rw [if_pos c_120]) dX7_edict_199
                · have hk6 : k < 6 := qi_lt hz2 (by omega) (m := 6) rfl c_120
                  have hi6 : vp_in (6 * S1 143 14 + z2) 126 := qi_6m (qi_in h14 (by omega) (by decide) : vp_in (S1 143 14) 21) (qi_in hz2 hk6 (by decide) : vp_in z2 6) (by decide) (by decide)
                  refine lv_aload_n hx hb dX7_edict_123 rfl (lv_at hl 2 rfl) ?_
                  refine wx_get hx hb hts hiX7 hown hK hP 143 (by decide) qc_143 rfl 9 (by decide) (hts (.fieldLink RX7 25 "PriceEdictModel" "cap" "[I") (by decide +kernel)) rfl dX7_edict_124 ?_
                  refine lv_bipush (v := 6) hx hb dX7_edict_127 (by decide) ?_
                  refine lv_aload_n hx hb dX7_edict_129 rfl (lv_at hl 2 rfl) ?_
                  refine wx_get hx hb hts hiX7 hown hK hP 143 (by decide) qc_143 rfl 14 (by decide) (hts (.fieldLink RX7 192 "PriceEdictModel" "edicts" "I") (by decide +kernel)) rfl dX7_edict_130 ?_
                  refine lv_imul hx hb dX7_edict_133 ?_
                  refine lv_iload_n hx hb dX7_edict_134 rfl (lv_at hl 0 rfl) ?_
                  refine lv_iadd hx hb dX7_edict_135 ?_
                  refine lv_aload_n hx hb dX7_edict_136 rfl (lv_at hl 2 rfl) ?_
                  refine wx_get hx hb hts hiX7 hown hK hP 143 (by decide) qc_143 rfl 9 (by decide) (hts (.fieldLink RX7 25 "PriceEdictModel" "cap" "[I") (by decide +kernel)) rfl dX7_edict_137 ?_
                  refine lv_bipush (v := 120) hx hb dX7_edict_140 (by decide) ?_
                  refine lv_iload_n hx hb dX7_edict_142 rfl (lv_at hl 0 rfl) ?_
                  refine lv_iadd hx hb dX7_edict_143 ?_
                  refine wx_ild hx hb hK hP 149 (by decide) qc_149 (t6_in hz2 hk6) dX7_edict_144 ?_
                  refine wx_ist hr hx hb hK hP hS 149 (by decide) qc_149 hi6 dX7_edict_145 (fun H locs hP hS => ?_)
                  refine lv_aload_n hx hb dX7_edict_146 rfl (lv_at hl 2 rfl) ?_
                  refine wx_get hx hb hts hiX7 hown hK hP 143 (by decide) qc_143 rfl 10 (by decide) (hts (.fieldLink RX7 28 "PriceEdictModel" "byLine" "[I") (by decide +kernel)) rfl dX7_edict_147 ?_
                  refine lv_bipush (v := 6) hx hb dX7_edict_150 (by decide) ?_
                  refine lv_aload_n hx hb dX7_edict_152 rfl (lv_at hl 2 rfl) ?_
                  refine wx_get hx hb hts hiX7 hown hK hP 143 (by decide) qc_143 rfl 14 (by decide) (hts (.fieldLink RX7 192 "PriceEdictModel" "edicts" "I") (by decide +kernel)) rfl dX7_edict_153 ?_
                  refine lv_tope (S1 143 14) ((up2_ne _ _ (Or.inl (by decide)))) ?_
                  refine lv_imul hx hb dX7_edict_156 ?_
                  refine lv_iload_n hx hb dX7_edict_157 rfl (lv_at hl 0 rfl) ?_
                  refine lv_iadd hx hb dX7_edict_158 ?_
                  refine lv_aload_n hx hb dX7_edict_159 rfl (lv_at hl 2 rfl) ?_
                  refine wx_get hx hb hts hiX7 hown hK hP 143 (by decide) qc_143 rfl 10 (by decide) (hts (.fieldLink RX7 28 "PriceEdictModel" "byLine" "[I") (by decide +kernel)) rfl dX7_edict_160 ?_
                  refine lv_bipush (v := 120) hx hb dX7_edict_163 (by decide) ?_
                  refine lv_iload_n hx hb dX7_edict_165 rfl (lv_at hl 0 rfl) ?_
                  refine lv_iadd hx hb dX7_edict_166 ?_
                  refine wx_ild hx hb hK hP 150 (by decide) qc_150 (t6_in hz2 hk6) dX7_edict_167 ?_
                  refine lv_tope (S1 150 ((120 : Int32) + z2).toNatClampNeg) ((up2_ne _ _ (Or.inl (by decide)))) ?_
                  refine wx_ist hr hx hb hK hP hS 150 (by decide) qc_150 hi6 dX7_edict_168 (fun H locs hP hS => ?_)
                  obtain ⟨x_6, ex_6⟩ : ∃ y : Int32, y = (z2 + (1 : Int32)) := ⟨_, rfl⟩
                  refine lv_iinc (v := x_6) (lv' := [(2, .int x_6), (1, .int x_1), (0, .ref (r 143))]) hx hb dX7_edict_169 hl (k := 0) rfl (by rw [ex_6]; rfl) (by decide) rfl (fun ls hl => ?_)
                  refine lv_goto (tgt := 117) hx hb dX7_edict_172 (by decide) ?_
                  exact ih_117 (k + 1) x_6 (up2 (up2 S1 149 (((6 : Int32) * (S1 143 14)) + z2).toNatClampNeg (S1 149 ((120 : Int32) + z2).toNatClampNeg)) 150 (((6 : Int32) * (S1 143 14)) + z2).toNatClampNeg (S1 150 ((120 : Int32) + z2).toNatClampNeg)) _ _ _ (by omega) (by rw [ex_6]; exact qi_add hz2) (by rw [up2_ne _ _ (Or.inl (by decide)), up2_ne _ _ (Or.inl (by decide))]; exact h14) (by rw [up2_ne _ _ (Or.inl (by decide)), up2_ne _ _ (Or.inl (by decide))]; exact h17) (by subst ex_6; subst ev_5; subst ev_4; subst eS_3; rw [← hf_117, f_X7_edict_117]; conv => rhs; rw [if_neg c_120]) (by subst ex_6; subst ev_5; subst ev_4; subst eS_3; rw [← hg_117, g_X7_edict_117]; conv => rhs; rw [if_neg c_120]) hP hS (lv_sub hl [0, 1, 2] rfl)
            exact L_117 7 0 (0 : Int32) (up2 (up2 (up2 (g_X7_throwsIf (g_X7_throwsIf S_3 v_4 (1 : Int32)) v_5 (2 : Int32)) 151 (S_3 143 14).toNatClampNeg (S_3 151 (20 : Int32).toNatClampNeg)) 152 (S_3 143 14).toNatClampNeg (S_3 152 (20 : Int32).toNatClampNeg)) 153 (S_3 143 14).toNatClampNeg (S_3 153 (20 : Int32).toNatClampNeg)) _ _ _ (by omega) nI_0.symm (by rw [up2_ne _ _ (Or.inl (by decide)), up2_ne _ _ (Or.inl (by decide)), up2_ne _ _ (Or.inl (by decide)), fr_X7_throwsIf _ _ _ _ (Or.inr (by decide)), fr_X7_throwsIf _ _ _ _ (Or.inr (by decide))]; exact h14a) (by rw [up2_ne _ _ (Or.inl (by decide)), up2_ne _ _ (Or.inl (by decide)), up2_ne _ _ (Or.inl (by decide)), fr_X7_throwsIf _ _ _ _ (Or.inr (by decide)), fr_X7_throwsIf _ _ _ _ (Or.inr (by decide))]; exact h17a) (by subst ev_5; subst ev_4; subst eS_3; rw [f_X7_edict, ← ex_1]; conv => rhs; rw [if_pos c_40, if_pos c_62]) (by subst ev_5; subst ev_4; subst eS_3; rw [g_X7_edict, ← ex_1]; conv => rhs; rw [if_pos c_40, if_pos c_62]) hP hS (lv_sub hl [0, 1, 2] rfl)
          · refine lv_iconst (v := 0) hx hb dX7_edict_65 (by decide) ?_
            exact wx_iret hx hb hret hlk hK hP hS (by subst ev_5; subst ev_4; subst eS_3; rw [f_X7_edict, ← ex_1]; conv => rhs; rw [if_pos c_40, if_neg c_62]) (by subst ev_5; subst ev_4; subst eS_3; rw [g_X7_edict, ← ex_1]; conv => rhs; rw [if_pos c_40, if_neg c_62]) dX7_edict_66
        refine lv_aload_n hx hb dX7_edict_44 rfl (lv_at hl 1 rfl) ?_
        refine wx_get hx hb hts hiX7 hown hK hP 143 (by decide) qc_143 rfl 14 (by decide) (hts (.fieldLink RX7 192 "PriceEdictModel" "edicts" "I") (by decide +kernel)) rfl dX7_edict_45 ?_
        refine lv_tope (S_3 143 14) ((fr_X7_throwsIf S_3 v_4 (1 : Int32) 14 (Or.inr (by decide)))) ?_
        refine lv_bipush (v := 20) hx hb dX7_edict_48 (by decide) ?_
        refine lv_icmp_ne (tgt := 57) hx hb dX7_edict_50 (by decide) (fun c_50 => ?_) (fun c_50 => ?_)
        · refine lv_iconst (v := 0) hx hb dX7_edict_57 (by decide) ?_
          exact J_58 _ _ _ _ (by rw [if_neg c_50]) hP hS (lv_sub hl [0, 1] rfl)
        · refine lv_iconst (v := 1) hx hb dX7_edict_53 (by decide) ?_
          refine lv_goto (tgt := 58) hx hb dX7_edict_54 (by decide) ?_
          exact J_58 _ _ _ _ (by rw [if_pos c_50]) hP hS (lv_sub hl [0, 1] rfl)
    refine lv_iload_n hx hb dX7_edict_27 rfl (lv_at hl 0 rfl) ?_
    refine lv_if_ne (tgt := 35) hx hb dX7_edict_28 (by decide) (fun c_28 => ?_) (fun c_28 => ?_)
    · refine lv_iconst (v := 0) hx hb dX7_edict_35 (by decide) ?_
      exact J_36 _ _ _ _ (by rw [if_neg c_28]) hP hS (lv_sub hl [0, 1] rfl)
    · refine lv_iconst (v := 1) hx hb dX7_edict_31 (by decide) ?_
      refine lv_goto (tgt := 36) hx hb dX7_edict_32 (by decide) ?_
      exact J_36 _ _ _ _ (by rw [if_pos c_28]) hP hS (lv_sub hl [0, 1] rfl)
  refine lv_iload_n hx hb dX7_edict_11 rfl (lv_at hl 0 rfl) ?_
  refine lv_if_eq (tgt := 19) hx hb dX7_edict_12 (by decide) (fun c_12 => ?_) (fun c_12 => ?_)
  · refine lv_aload_n hx hb dX7_edict_19 rfl (lv_at hl 1 rfl) ?_
    refine wx_get hx hb hts hiX7 hown hK hP 143 (by decide) qc_143 rfl 22 (by decide) (hts (.fieldLink RX7 154 "PriceEdictModel" "begin" "I") (by decide +kernel)) rfl dX7_edict_20 ?_
    exact J_23 _ _ _ _ (by rw [if_pos c_12]) hP hS (lv_sub hl [0, 1] rfl)
  · refine lv_iconst (v := (-1)) hx hb dX7_edict_15 (by decide) ?_
    refine lv_goto (tgt := 23) hx hb dX7_edict_16 (by decide) ?_
    exact J_23 _ _ _ _ (by rw [if_neg c_12]) hP hS (lv_sub hl [0, 1] rfl)
