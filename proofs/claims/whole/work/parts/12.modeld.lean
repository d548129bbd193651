def s_X7_market_15 (S : qw_St) (a1 : Int32) (a2 : Int32) : qw_St := S
def s_X7_market_71 (S : qw_St) (a1 : Int32) (a2 : Int32) (y3 : Int32) (y4 : Int32) : qw_St := (if y4 < ((S 159 y3.toNatClampNeg) + (((S 143 39) * (S 158 a1.toNatClampNeg)) / (10 : Int32))) then S else (up2 (up2 S 163 y3.toNatClampNeg ((S 163 y3.toNatClampNeg) + (S 161 y3.toNatClampNeg))) 165 y3.toNatClampNeg ((S 165 y3.toNatClampNeg) + (S 161 y3.toNatClampNeg))))
def s_X7_market_124 (S : qw_St) (a1 : Int32) (a2 : Int32) (y3 : Int32) (y4 : Int32) : qw_St := (up2 (up2 S 163 y3.toNatClampNeg ((S 163 y3.toNatClampNeg) - (if (S 160 y3.toNatClampNeg) ≤ y4 then (-(S 164 y3.toNatClampNeg)) else ((S 163 y3.toNatClampNeg) / (2 : Int32))))) 164 y3.toNatClampNeg ((S 164 y3.toNatClampNeg) + (if (S 160 y3.toNatClampNeg) ≤ y4 then (-(S 164 y3.toNatClampNeg)) else ((S 163 y3.toNatClampNeg) / (2 : Int32)))))
def s_X7_market_217 (S : qw_St) (a1 : Int32) (a2 : Int32) (y3 : Int32) (y4 : Int32) : qw_St := (up2 (up2 (up2 (up2 S 163 y3.toNatClampNeg ((S 163 y3.toNatClampNeg) - (if (S 162 y3.toNatClampNeg) < (S 163 y3.toNatClampNeg) then (S 162 y3.toNatClampNeg) else (S 163 y3.toNatClampNeg)))) 166 y3.toNatClampNeg ((S 166 y3.toNatClampNeg) + (if (S 162 y3.toNatClampNeg) < (S 163 y3.toNatClampNeg) then (S 162 y3.toNatClampNeg) else (S 163 y3.toNatClampNeg)))) 168 y3.toNatClampNeg ((S 168 y3.toNatClampNeg) + ((if (S 162 y3.toNatClampNeg) < (S 163 y3.toNatClampNeg) then (S 162 y3.toNatClampNeg) else (S 163 y3.toNatClampNeg)) * y4))) 169 y3.toNatClampNeg ((S 169 y3.toNatClampNeg) + ((if (S 162 y3.toNatClampNeg) < (S 163 y3.toNatClampNeg) then (S 162 y3.toNatClampNeg) else (S 163 y3.toNatClampNeg)) * (if (S 160 y3.toNatClampNeg) ≤ y4 then (100 : Int32) else (((100 : Int32) * y4) / (S 160 y3.toNatClampNeg))))))
def g_X7_market (S : qw_St) (a1 : Int32) (a2 : Int32) : qw_St := (up2 (up2 (up2 (s_X7_market_217 (s_X7_market_124 (s_X7_market_71 (s_X7_market_15 S a1 a2) a1 a2 (((6 : Int32) * a1) + a2) (f_X7_priceOf S a1 a2)) a1 a2 (((6 : Int32) * a1) + a2) (f_X7_priceOf S a1 a2)) a1 a2 (((6 : Int32) * a1) + a2) (f_X7_priceOf S a1 a2)) 163 (((6 : Int32) * a1) + a2).toNatClampNeg (((s_X7_market_217 (s_X7_market_124 (s_X7_market_71 (s_X7_market_15 S a1 a2) a1 a2 (((6 : Int32) * a1) + a2) (f_X7_priceOf S a1 a2)) a1 a2 (((6 : Int32) * a1) + a2) (f_X7_priceOf S a1 a2)) a1 a2 (((6 : Int32) * a1) + a2) (f_X7_priceOf S a1 a2)) 163 (((6 : Int32) * a1) + a2).toNatClampNeg) - (((((s_X7_market_217 (s_X7_market_124 (s_X7_market_71 (s_X7_market_15 S a1 a2) a1 a2 (((6 : Int32) * a1) + a2) (f_X7_priceOf S a1 a2)) a1 a2 (((6 : Int32) * a1) + a2) (f_X7_priceOf S a1 a2)) a1 a2 (((6 : Int32) * a1) + a2) (f_X7_priceOf S a1 a2)) 163 (((6 : Int32) * a1) + a2).toNatClampNeg) * ((s_X7_market_217 (s_X7_market_124 (s_X7_market_71 (s_X7_market_15 S a1 a2) a1 a2 (((6 : Int32) * a1) + a2) (f_X7_priceOf S a1 a2)) a1 a2 (((6 : Int32) * a1) + a2) (f_X7_priceOf S a1 a2)) a1 a2 (((6 : Int32) * a1) + a2) (f_X7_priceOf S a1 a2)) 170 a2.toNatClampNeg)) + (99 : Int32)) / (100 : Int32)))) 164 (((6 : Int32) * a1) + a2).toNatClampNeg (((s_X7_market_217 (s_X7_market_124 (s_X7_market_71 (s_X7_market_15 S a1 a2) a1 a2 (((6 : Int32) * a1) + a2) (f_X7_priceOf S a1 a2)) a1 a2 (((6 : Int32) * a1) + a2) (f_X7_priceOf S a1 a2)) a1 a2 (((6 : Int32) * a1) + a2) (f_X7_priceOf S a1 a2)) 164 (((6 : Int32) * a1) + a2).toNatClampNeg) - (((((s_X7_market_217 (s_X7_market_124 (s_X7_market_71 (s_X7_market_15 S a1 a2) a1 a2 (((6 : Int32) * a1) + a2) (f_X7_priceOf S a1 a2)) a1 a2 (((6 : Int32) * a1) + a2) (f_X7_priceOf S a1 a2)) a1 a2 (((6 : Int32) * a1) + a2) (f_X7_priceOf S a1 a2)) 164 (((6 : Int32) * a1) + a2).toNatClampNeg) * ((s_X7_market_217 (s_X7_market_124 (s_X7_market_71 (s_X7_market_15 S a1 a2) a1 a2 (((6 : Int32) * a1) + a2) (f_X7_priceOf S a1 a2)) a1 a2 (((6 : Int32) * a1) + a2) (f_X7_priceOf S a1 a2)) a1 a2 (((6 : Int32) * a1) + a2) (f_X7_priceOf S a1 a2)) 170 a2.toNatClampNeg)) + (99 : Int32)) / (100 : Int32)))) 167 (((6 : Int32) * a1) + a2).toNatClampNeg (((s_X7_market_217 (s_X7_market_124 (s_X7_market_71 (s_X7_market_15 S a1 a2) a1 a2 (((6 : Int32) * a1) + a2) (f_X7_priceOf S a1 a2)) a1 a2 (((6 : Int32) * a1) + a2) (f_X7_priceOf S a1 a2)) a1 a2 (((6 : Int32) * a1) + a2) (f_X7_priceOf S a1 a2)) 167 (((6 : Int32) * a1) + a2).toNatClampNeg) + ((((((s_X7_market_217 (s_X7_market_124 (s_X7_market_71 (s_X7_market_15 S a1 a2) a1 a2 (((6 : Int32) * a1) + a2) (f_X7_priceOf S a1 a2)) a1 a2 (((6 : Int32) * a1) + a2) (f_X7_priceOf S a1 a2)) a1 a2 (((6 : Int32) * a1) + a2) (f_X7_priceOf S a1 a2)) 163 (((6 : Int32) * a1) + a2).toNatClampNeg) * ((s_X7_market_217 (s_X7_market_124 (s_X7_market_71 (s_X7_market_15 S a1 a2) a1 a2 (((6 : Int32) * a1) + a2) (f_X7_priceOf S a1 a2)) a1 a2 (((6 : Int32) * a1) + a2) (f_X7_priceOf S a1 a2)) a1 a2 (((6 : Int32) * a1) + a2) (f_X7_priceOf S a1 a2)) 170 a2.toNatClampNeg)) + (99 : Int32)) / (100 : Int32)) + (((((s_X7_market_217 (s_X7_market_124 (s_X7_market_71 (s_X7_market_15 S a1 a2) a1 a2 (((6 : Int32) * a1) + a2) (f_X7_priceOf S a1 a2)) a1 a2 (((6 : Int32) * a1) + a2) (f_X7_priceOf S a1 a2)) a1 a2 (((6 : Int32) * a1) + a2) (f_X7_priceOf S a1 a2)) 164 (((6 : Int32) * a1) + a2).toNatClampNeg) * ((s_X7_market_217 (s_X7_market_124 (s_X7_market_71 (s_X7_market_15 S a1 a2) a1 a2 (((6 : Int32) * a1) + a2) (f_X7_priceOf S a1 a2)) a1 a2 (((6 : Int32) * a1) + a2) (f_X7_priceOf S a1 a2)) a1 a2 (((6 : Int32) * a1) + a2) (f_X7_priceOf S a1 a2)) 170 a2.toNatClampNeg)) + (99 : Int32)) / (100 : Int32)))))
set_option maxHeartbeats 4000000 in
set_option maxRecDepth 100000 in
theorem c_X7_market (l : Launch) (D : va_G) {r : Nat → Nat} (c : Nat → ClassId) (g : Nat → Int64) (hr : qw_inj r) (S : qw_St) (a1 : Int32) (a2 : Int32) (ha : vp_in a1 8) (hb2 : vp_in a2 6) (hI : InvM S) : MV l D r c g yX7_market wsX7_market ({ frames := 4, cells := 0, slots := 0, locals := 104 }) [.ref (r 143), .int a1, .int a2] S (g_X7_market S a1 a2) := by
  have hiX7 : ∀ w ∈ wsX70, w ∈ wsX7_market := by decide +kernel
  refine wx_of (cc := cX7_market) (nL := 9) (ret := none) (lvs := [(0, .ref (r 143)), (1, .int a1), (2, .int a2)]) (by decide) rfl rfl (Nat.le_of_ble_eq_true rfl) ?_
  intro p e s m below meth c0 ls hx hb hret hml hts hown hlk hK hP hS hl
  have hP : qw_P D r c g S s.heap := hP
  refine lv_bipush (v := 6) hx hb dX7_market_0 (by decide) ?_
  refine lv_iload_n hx hb dX7_market_2 rfl (lv_at hl 1 rfl) ?_
  refine lv_imul hx hb dX7_market_3 ?_
  refine lv_iload_n hx hb dX7_market_4 rfl (lv_at hl 2 rfl) ?_
  refine lv_iadd hx hb dX7_market_5 ?_
  refine lv_topi (fun x_1 ex_1 => ?_)
  refine lv_istore_n (lv' := [(3, .int x_1), (0, .ref (r 143)), (1, .int a1), (2, .int a2)]) hx hb dX7_market_6 rfl hl (by decide) rfl (fun ls hl => ?_)
  refine lv_aload_n hx hb dX7_market_7 rfl (lv_at hl 1 rfl) ?_
  refine lv_iload_n hx hb dX7_market_8 rfl (lv_at hl 2 rfl) ?_
  refine lv_iload_n hx hb dX7_market_9 rfl (lv_at hl 3 rfl) ?_
  refine wc_iV (k := 143) (C := RX7) (As := [.int a1, .int a2]) (rest := []) ⟨hx, hb, hml, hown, hts⟩ (c_X7_priceOf l D c g hr S a1 a2 (by first | assumption | omega) (by first | assumption | omega) (by first | assumption | omega)) (cwV 2 hts gX7_market_X7_priceOf rfl rfl rfl (by decide +kernel) ⟨Nat.le_of_ble_eq_true rfl, Nat.le_of_ble_eq_true rfl⟩) (wx_recv hK hP (by decide) qc_143 rfl) hK hP hS (fun _ h => h) rfl hl.1 rfl (lv_room (Nat.le_of_ble_eq_true rfl)) dX7_market_10 ⟨Nat.zero_le _, Nat.zero_le _⟩ (fun H locs hP hS => ?_)
  refine lv_topi (fun x_2 ex_2 => ?_)
  refine lv_istore (lv' := [(4, .int x_2), (3, .int x_1), (0, .ref (r 143)), (1, .int a1), (2, .int a2)]) hx hb dX7_market_13 hl (by decide) rfl (fun ls hl => ?_)
  try rw [ex_1] at hP
  try rw [ex_2] at hP
  have hP : qw_P D r c g (s_X7_market_15 S a1 a2) _ := hP
  obtain ⟨S_3, eS_3⟩ : ∃ z : qw_St, z = (s_X7_market_15 S a1 a2) := ⟨_, rfl⟩
  rw [← eS_3] at hP
  have hl := lv_sub (l' := [(4, .int x_2), (3, .int x_1), (0, .ref (r 143)), (1, .int a1), (2, .int a2)]) hl [0, 1, 2, 3, 4] rfl
  have hx3 : vp_in x_1 48 := by rw [ex_1]; exact qi_6m ha hb2 (by decide) (by decide)
  have hpn : ¬ x_2 < 0 := by rw [ex_2]; exact priceOf_nn hI ha hb2
  have J_71 : ∀ (S_4 : qw_St) (H : Heap) (locs : List Loc) (ls : Array Slot) (eS_4 : S_4 = (if x_2 < ((S_3 159 x_1.toNatClampNeg) + (((S_3 143 39) * (S_3 158 a1.toNatClampNeg)) / (10 : Int32))) then S_3 else (up2 (up2 S_3 163 x_1.toNatClampNeg ((S_3 163 x_1.toNatClampNeg) + (S_3 161 x_1.toNatClampNeg))) 165 x_1.toNatClampNeg ((S_3 165 x_1.toNatClampNeg) + (S_3 161 x_1.toNatClampNeg))))), qw_P D r c g S_4 H → va_S (qw_A r) s.heap H locs → lv_has ls 9 [(4, .int x_2), (3, .int x_1), (0, .ref (r 143)), (1, .int a1), (2, .int a2)] → W p l e ({ frames := 4, cells := 0, slots := 0, locals := 104 }) s m [.ref (r 143), .int a1, .int a2].toArray below meth c0 H locs 0 0 (MQ below (qw_Qv D r c g (g_X7_market S a1 a2)) [.ref (r 143), .int a1, .int a2].toArray s 0 0 (qw_A r)) (F0 m 71 ls []) := by
    intro S_4 H locs ls eS_4 hP hS hl
    subst eS_4
    have hP : qw_P D r c g (s_X7_market_71 S_3 a1 a2 x_1 x_2) _ := hP
    obtain ⟨S_5, eS_5⟩ : ∃ z : qw_St, z = (s_X7_market_71 S_3 a1 a2 x_1 x_2) := ⟨_, rfl⟩
    rw [← eS_5] at hP
    have hl := lv_sub (l' := [(4, .int x_2), (3, .int x_1), (0, .ref (r 143)), (1, .int a1), (2, .int a2)]) hl [0, 1, 2, 3, 4] rfl
    have J_100 : ∀ (v_6 : Int32) (H : Heap) (locs : List Loc) (ls : Array Slot) (ev_6 : v_6 = (if (S_5 160 x_1.toNatClampNeg) ≤ x_2 then (-(S_5 164 x_1.toNatClampNeg)) else ((S_5 163 x_1.toNatClampNeg) / (2 : Int32)))), qw_P D r c g S_5 H → va_S (qw_A r) s.heap H locs → lv_has ls 9 [(4, .int x_2), (3, .int x_1), (0, .ref (r 143)), (1, .int a1), (2, .int a2)] → W p l e ({ frames := 4, cells := 0, slots := 0, locals := 104 }) s m [.ref (r 143), .int a1, .int a2].toArray below meth c0 H locs 0 0 (MQ below (qw_Qv D r c g (g_X7_market S a1 a2)) [.ref (r 143), .int a1, .int a2].toArray s 0 0 (qw_A r)) (F0 m 100 ls [.int v_6]) := by
      intro v_6 H locs ls ev_6 hP hS hl
      refine lv_istore (lv' := [(5, .int v_6), (4, .int x_2), (3, .int x_1), (0, .ref (r 143)), (1, .int a1), (2, .int a2)]) hx hb dX7_market_100 hl (by decide) rfl (fun ls hl => ?_)
      refine lv_aload_n hx hb dX7_market_102 rfl (lv_at hl 3 rfl) ?_
      refine wx_get hx hb hts hiX7 hown hK hP 143 (by decide) qc_143 rfl 31 (by decide) (hts (.fieldLink RX7 72 "PriceEdictModel" "stock" "[I") (by decide +kernel)) rfl dX7_market_103 ?_
      refine lv_iload_n hx hb dX7_market_106 rfl (lv_at hl 2 rfl) ?_
      refine lv_dup2_11 hx hb dX7_market_107 rfl rfl ?_
      refine wx_ild hx hb hK hP 163 (by decide) qc_163 hx3 dX7_market_108 ?_
      refine lv_iload hx hb dX7_market_109 (lv_at hl 0 rfl) ?_
      refine lv_isub hx hb dX7_market_111 ?_
      refine wx_ist hr hx hb hK hP hS 163 (by decide) qc_163 hx3 dX7_market_112 (fun H locs hP hS => ?_)
      refine lv_aload_n hx hb dX7_market_113 rfl (lv_at hl 3 rfl) ?_
      refine wx_get hx hb hts hiX7 hown hK hP 143 (by decide) qc_143 rfl 32 (by decide) (hts (.fieldLink RX7 75 "PriceEdictModel" "hidden" "[I") (by decide +kernel)) rfl dX7_market_114 ?_
      refine lv_iload_n hx hb dX7_market_117 rfl (lv_at hl 2 rfl) ?_
      refine lv_dup2_11 hx hb dX7_market_118 rfl rfl ?_
      refine wx_ild hx hb hK hP 164 (by decide) qc_164 hx3 dX7_market_119 ?_
      refine lv_tope (S_5 164 x_1.toNatClampNeg) ((up2_ne _ _ (Or.inl (by decide)))) ?_
      refine lv_iload hx hb dX7_market_120 (lv_at hl 0 rfl) ?_
      refine lv_iadd hx hb dX7_market_122 ?_
      refine wx_ist hr hx hb hK hP hS 164 (by decide) qc_164 hx3 dX7_market_123 (fun H locs hP hS => ?_)
      subst ev_6
      have hP : qw_P D r c g (s_X7_market_124 S_5 a1 a2 x_1 x_2) _ := hP
      obtain ⟨S_7, eS_7⟩ : ∃ z : qw_St, z = (s_X7_market_124 S_5 a1 a2 x_1 x_2) := ⟨_, rfl⟩
      rw [← eS_7] at hP
      have hl := lv_sub (l' := [(4, .int x_2), (3, .int x_1), (0, .ref (r 143)), (1, .int a1), (2, .int a2)]) hl [1, 2, 3, 4, 5] rfl
      refine lv_aload_n hx hb dX7_market_124 rfl (lv_at hl 2 rfl) ?_
      refine wx_get hx hb hts hiX7 hown hK hP 143 (by decide) qc_143 rfl 31 (by decide) (hts (.fieldLink RX7 72 "PriceEdictModel" "stock" "[I") (by decide +kernel)) rfl dX7_market_125 ?_
      refine lv_iload_n hx hb dX7_market_128 rfl (lv_at hl 1 rfl) ?_
      refine wx_ild hx hb hK hP 163 (by decide) qc_163 hx3 dX7_market_129 ?_
      refine lv_aload_n hx hb dX7_market_130 rfl (lv_at hl 2 rfl) ?_
      refine wx_get hx hb hts hiX7 hown hK hP 143 (by decide) qc_143 rfl 30 (by decide) (hts (.fieldLink RX7 69 "PriceEdictModel" "want" "[I") (by decide +kernel)) rfl dX7_market_131 ?_
      refine lv_iload_n hx hb dX7_market_134 rfl (lv_at hl 1 rfl) ?_
      refine wx_ild hx hb hK hP 162 (by decide) qc_162 hx3 dX7_market_135 ?_
      refine va_mmin hx hb (hml.trans hl.1.symm) hown (hts (.methodLink RX7 218 Lib.Math.min.name) (by decide +kernel)) (hts (.static Lib.Math.min.name) (by decide +kernel)) (hts (.initialized "java/lang/Math") (by decide +kernel)) (hts (.code Lib.Math.min.name Lib.Math.min.code 2 (some .int)) (by decide +kernel)) (Nat.le_of_ble_eq_true rfl) (Nat.le_of_ble_eq_true rfl) (Nat.zero_le _) (Nat.zero_le _) dX7_market_136 ?_
      refine lv_topi (fun x_8 ex_8 => ?_)
      refine lv_istore (lv' := [(6, .int x_8), (4, .int x_2), (3, .int x_1), (0, .ref (r 143)), (1, .int a1), (2, .int a2)]) hx hb dX7_market_139 hl (by decide) rfl (fun ls hl => ?_)
      refine lv_aload_n hx hb dX7_market_141 rfl (lv_at hl 3 rfl) ?_
      refine wx_get hx hb hts hiX7 hown hK hP 143 (by decide) qc_143 rfl 31 (by decide) (hts (.fieldLink RX7 72 "PriceEdictModel" "stock" "[I") (by decide +kernel)) rfl dX7_market_142 ?_
      refine lv_iload_n hx hb dX7_market_145 rfl (lv_at hl 2 rfl) ?_
      refine lv_dup2_11 hx hb dX7_market_146 rfl rfl ?_
      refine wx_ild hx hb hK hP 163 (by decide) qc_163 hx3 dX7_market_147 ?_
      refine lv_iload hx hb dX7_market_148 (lv_at hl 0 rfl) ?_
      refine lv_isub hx hb dX7_market_150 ?_
      refine wx_ist hr hx hb hK hP hS 163 (by decide) qc_163 hx3 dX7_market_151 (fun H locs hP hS => ?_)
      refine lv_aload_n hx hb dX7_market_152 rfl (lv_at hl 3 rfl) ?_
      refine wx_get hx hb hts hiX7 hown hK hP 143 (by decide) qc_143 rfl 34 (by decide) (hts (.fieldLink RX7 81 "PriceEdictModel" "sold" "[I") (by decide +kernel)) rfl dX7_market_153 ?_
      refine lv_iload_n hx hb dX7_market_156 rfl (lv_at hl 2 rfl) ?_
      refine lv_dup2_11 hx hb dX7_market_157 rfl rfl ?_
      refine wx_ild hx hb hK hP 166 (by decide) qc_166 hx3 dX7_market_158 ?_
      refine lv_tope (S_7 166 x_1.toNatClampNeg) ((up2_ne _ _ (Or.inl (by decide)))) ?_
      refine lv_iload hx hb dX7_market_159 (lv_at hl 0 rfl) ?_
      refine lv_iadd hx hb dX7_market_161 ?_
      refine wx_ist hr hx hb hK hP hS 166 (by decide) qc_166 hx3 dX7_market_162 (fun H locs hP hS => ?_)
      refine lv_aload_n hx hb dX7_market_163 rfl (lv_at hl 3 rfl) ?_
      refine wx_get hx hb hts hiX7 hown hK hP 143 (by decide) qc_143 rfl 36 (by decide) (hts (.fieldLink RX7 87 "PriceEdictModel" "paid" "[I") (by decide +kernel)) rfl dX7_market_164 ?_
      refine lv_iload_n hx hb dX7_market_167 rfl (lv_at hl 2 rfl) ?_
      refine lv_dup2_11 hx hb dX7_market_168 rfl rfl ?_
      refine wx_ild hx hb hK hP 168 (by decide) qc_168 hx3 dX7_market_169 ?_
      refine lv_tope (S_7 168 x_1.toNatClampNeg) ((up2_ne _ _ (Or.inl (by decide))).trans ((up2_ne _ _ (Or.inl (by decide))))) ?_
      refine lv_iload hx hb dX7_market_170 (lv_at hl 0 rfl) ?_
      refine lv_iload hx hb dX7_market_172 (lv_at hl 1 rfl) ?_
      refine lv_imul hx hb dX7_market_174 ?_
      refine lv_iadd hx hb dX7_market_175 ?_
      refine wx_ist hr hx hb hK hP hS 168 (by decide) qc_168 hx3 dX7_market_176 (fun H locs hP hS => ?_)
      refine lv_aload_n hx hb dX7_market_177 rfl (lv_at hl 3 rfl) ?_
      refine wx_get hx hb hts hiX7 hown hK hP 143 (by decide) qc_143 rfl 37 (by decide) (hts (.fieldLink RX7 90 "PriceEdictModel" "weight" "[I") (by decide +kernel)) rfl dX7_market_178 ?_
      refine lv_iload_n hx hb dX7_market_181 rfl (lv_at hl 2 rfl) ?_
      refine lv_dup2_11 hx hb dX7_market_182 rfl rfl ?_
      refine wx_ild hx hb hK hP 169 (by decide) qc_169 hx3 dX7_market_183 ?_
      refine lv_tope (S_7 169 x_1.toNatClampNeg) ((up2_ne _ _ (Or.inl (by decide))).trans ((up2_ne _ _ (Or.inl (by decide))).trans ((up2_ne _ _ (Or.inl (by decide)))))) ?_
      refine lv_iload hx hb dX7_market_184 (lv_at hl 0 rfl) ?_
      have J_214 : ∀ (v_9 : Int32) (H : Heap) (locs : List Loc) (ls : Array Slot) (ev_9 : v_9 = (if (S_7 160 x_1.toNatClampNeg) ≤ x_2 then (100 : Int32) else (((100 : Int32) * x_2) / (S_7 160 x_1.toNatClampNeg)))), qw_P D r c g (up2 (up2 (up2 S_7 163 x_1.toNatClampNeg ((S_7 163 x_1.toNatClampNeg) - x_8)) 166 x_1.toNatClampNeg ((S_7 166 x_1.toNatClampNeg) + x_8)) 168 x_1.toNatClampNeg ((S_7 168 x_1.toNatClampNeg) + (x_8 * x_2))) H → va_S (qw_A r) s.heap H locs → lv_has ls 9 [(6, .int x_8), (4, .int x_2), (3, .int x_1), (0, .ref (r 143)), (1, .int a1), (2, .int a2)] → W p l e ({ frames := 4, cells := 0, slots := 0, locals := 104 }) s m [.ref (r 143), .int a1, .int a2].toArray below meth c0 H locs 0 0 (MQ below (qw_Qv D r c g (g_X7_market S a1 a2)) [.ref (r 143), .int a1, .int a2].toArray s 0 0 (qw_A r)) (F0 m 214 ls [.int v_9, .int x_8, .int (S_7 169 x_1.toNatClampNeg), .int x_1, .ref (r 169)]) := by
        intro v_9 H locs ls ev_9 hP hS hl
        refine lv_imul hx hb dX7_market_214 ?_
        refine lv_iadd hx hb dX7_market_215 ?_
        refine wx_ist hr hx hb hK hP hS 169 (by decide) qc_169 hx3 dX7_market_216 (fun H locs hP hS => ?_)
        subst ev_9
        subst ex_8
        have hP : qw_P D r c g (s_X7_market_217 S_7 a1 a2 x_1 x_2) _ := hP
        obtain ⟨S_10, eS_10⟩ : ∃ z : qw_St, z = (s_X7_market_217 S_7 a1 a2 x_1 x_2) := ⟨_, rfl⟩
        rw [← eS_10] at hP
        have hl := lv_sub (l' := [(4, .int x_2), (3, .int x_1), (0, .ref (r 143)), (1, .int a1), (2, .int a2)]) hl [1, 2, 3, 4, 5] rfl
        refine lv_aload_n hx hb dX7_market_217 rfl (lv_at hl 2 rfl) ?_
        refine wx_get hx hb hts hiX7 hown hK hP 143 (by decide) qc_143 rfl 31 (by decide) (hts (.fieldLink RX7 72 "PriceEdictModel" "stock" "[I") (by decide +kernel)) rfl dX7_market_218 ?_
        refine lv_iload_n hx hb dX7_market_221 rfl (lv_at hl 1 rfl) ?_
        refine wx_ild hx hb hK hP 163 (by decide) qc_163 hx3 dX7_market_222 ?_
        refine lv_aload_n hx hb dX7_market_223 rfl (lv_at hl 2 rfl) ?_
        refine wx_get hx hb hts hiX7 hown hK hP 143 (by decide) qc_143 rfl 38 (by decide) (hts (.fieldLink RX7 93 "PriceEdictModel" "spoil" "[I") (by decide +kernel)) rfl dX7_market_224 ?_
        refine lv_iload_n hx hb dX7_market_227 rfl (lv_at hl 4 rfl) ?_
        refine wx_ild hx hb hK hP 170 (by decide) qc_170 hb2 dX7_market_228 ?_
        refine lv_imul hx hb dX7_market_229 ?_
        refine lv_bipush (v := 99) hx hb dX7_market_230 (by decide) ?_
        refine lv_iadd hx hb dX7_market_232 ?_
        refine lv_bipush (v := 100) hx hb dX7_market_233 (by decide) ?_
        refine lv_idiv hx hb dX7_market_235 (by decide) ?_
        refine lv_topi (fun x_11 ex_11 => ?_)
        refine lv_istore (lv' := [(7, .int x_11), (4, .int x_2), (3, .int x_1), (0, .ref (r 143)), (1, .int a1), (2, .int a2)]) hx hb dX7_market_236 hl (by decide) rfl (fun ls hl => ?_)
        refine lv_aload_n hx hb dX7_market_238 rfl (lv_at hl 3 rfl) ?_
        refine wx_get hx hb hts hiX7 hown hK hP 143 (by decide) qc_143 rfl 32 (by decide) (hts (.fieldLink RX7 75 "PriceEdictModel" "hidden" "[I") (by decide +kernel)) rfl dX7_market_239 ?_
        refine lv_iload_n hx hb dX7_market_242 rfl (lv_at hl 2 rfl) ?_
        refine wx_ild hx hb hK hP 164 (by decide) qc_164 hx3 dX7_market_243 ?_
        refine lv_aload_n hx hb dX7_market_244 rfl (lv_at hl 3 rfl) ?_
        refine wx_get hx hb hts hiX7 hown hK hP 143 (by decide) qc_143 rfl 38 (by decide) (hts (.fieldLink RX7 93 "PriceEdictModel" "spoil" "[I") (by decide +kernel)) rfl dX7_market_245 ?_
        refine lv_iload_n hx hb dX7_market_248 rfl (lv_at hl 5 rfl) ?_
        refine wx_ild hx hb hK hP 170 (by decide) qc_170 hb2 dX7_market_249 ?_
        refine lv_imul hx hb dX7_market_250 ?_
        refine lv_bipush (v := 99) hx hb dX7_market_251 (by decide) ?_
        refine lv_iadd hx hb dX7_market_253 ?_
        refine lv_bipush (v := 100) hx hb dX7_market_254 (by decide) ?_
        refine lv_idiv hx hb dX7_market_256 (by decide) ?_
        refine lv_topi (fun x_12 ex_12 => ?_)
        refine lv_istore (lv' := [(8, .int x_12), (7, .int x_11), (4, .int x_2), (3, .int x_1), (0, .ref (r 143)), (1, .int a1), (2, .int a2)]) hx hb dX7_market_257 hl (by decide) rfl (fun ls hl => ?_)
        refine lv_aload_n hx hb dX7_market_259 rfl (lv_at hl 4 rfl) ?_
        refine wx_get hx hb hts hiX7 hown hK hP 143 (by decide) qc_143 rfl 31 (by decide) (hts (.fieldLink RX7 72 "PriceEdictModel" "stock" "[I") (by decide +kernel)) rfl dX7_market_260 ?_
        refine lv_iload_n hx hb dX7_market_263 rfl (lv_at hl 3 rfl) ?_
        refine lv_dup2_11 hx hb dX7_market_264 rfl rfl ?_
        refine wx_ild hx hb hK hP 163 (by decide) qc_163 hx3 dX7_market_265 ?_
        refine lv_iload hx hb dX7_market_266 (lv_at hl 1 rfl) ?_
        refine lv_isub hx hb dX7_market_268 ?_
        refine wx_ist hr hx hb hK hP hS 163 (by decide) qc_163 hx3 dX7_market_269 (fun H locs hP hS => ?_)
        refine lv_aload_n hx hb dX7_market_270 rfl (lv_at hl 4 rfl) ?_
        refine wx_get hx hb hts hiX7 hown hK hP 143 (by decide) qc_143 rfl 32 (by decide) (hts (.fieldLink RX7 75 "PriceEdictModel" "hidden" "[I") (by decide +kernel)) rfl dX7_market_271 ?_
        refine lv_iload_n hx hb dX7_market_274 rfl (lv_at hl 3 rfl) ?_
        refine lv_dup2_11 hx hb dX7_market_275 rfl rfl ?_
        refine wx_ild hx hb hK hP 164 (by decide) qc_164 hx3 dX7_market_276 ?_
        refine lv_tope (S_10 164 x_1.toNatClampNeg) ((up2_ne _ _ (Or.inl (by decide)))) ?_
        refine lv_iload hx hb dX7_market_277 (lv_at hl 0 rfl) ?_
        refine lv_isub hx hb dX7_market_279 ?_
        refine wx_ist hr hx hb hK hP hS 164 (by decide) qc_164 hx3 dX7_market_280 (fun H locs hP hS => ?_)
        refine lv_aload_n hx hb dX7_market_281 rfl (lv_at hl 4 rfl) ?_
        refine wx_get hx hb hts hiX7 hown hK hP 143 (by decide) qc_143 rfl 35 (by decide) (hts (.fieldLink RX7 84 "PriceEdictModel" "spoilt" "[I") (by decide +kernel)) rfl dX7_market_282 ?_
        refine lv_iload_n hx hb dX7_market_285 rfl (lv_at hl 3 rfl) ?_
        refine lv_dup2_11 hx hb dX7_market_286 rfl rfl ?_
        refine wx_ild hx hb hK hP 167 (by decide) qc_167 hx3 dX7_market_287 ?_
        refine lv_tope (S_10 167 x_1.toNatClampNeg) ((up2_ne _ _ (Or.inl (by decide))).trans ((up2_ne _ _ (Or.inl (by decide))))) ?_
        refine lv_iload hx hb dX7_market_288 (lv_at hl 1 rfl) ?_
        refine lv_iload hx hb dX7_market_290 (lv_at hl 0 rfl) ?_
        refine lv_iadd hx hb dX7_market_292 ?_
        refine lv_iadd hx hb dX7_market_293 ?_
        refine wx_ist hr hx hb hK hP hS 167 (by decide) qc_167 hx3 dX7_market_294 (fun H locs hP hS => ?_)
        exact wx_vret hx hb hret hlk hK hP hS (by subst ex_12; subst ex_11; subst eS_10; subst eS_7; subst eS_5; subst eS_3; subst ex_2; subst ex_1; unfold g_X7_market; exact rfl) dX7_market_295
      refine lv_iload hx hb dX7_market_186 (lv_at hl 1 rfl) ?_
      refine lv_aload_n hx hb dX7_market_188 rfl (lv_at hl 3 rfl) ?_
      refine wx_get hx hb hts hiX7 hown hK hP 143 (by decide) qc_143 rfl 28 (by decide) (hts (.fieldLink RX7 63 "PriceEdictModel" "bid" "[I") (by decide +kernel)) rfl dX7_market_189 ?_
      refine lv_iload_n hx hb dX7_market_192 rfl (lv_at hl 2 rfl) ?_
      refine wx_ild hx hb hK hP 160 (by decide) qc_160 hx3 dX7_market_193 ?_
      refine lv_tope (S_7 160 x_1.toNatClampNeg) ((up2_ne _ _ (Or.inl (by decide))).trans ((up2_ne _ _ (Or.inl (by decide))).trans ((up2_ne _ _ (Or.inl (by decide)))))) ?_
      refine lv_icmp_ge (tgt := 212) hx hb dX7_market_194 (by decide) (fun c_194 => ?_) (fun c_194 => ?_)
      · refine lv_bipush (v := 100) hx hb dX7_market_212 (by decide) ?_
        exact J_214 _ _ _ _ (by rw [if_pos c_194]) hP hS (lv_sub hl [0, 1, 2, 3, 4, 5] rfl)
      · refine lv_bipush (v := 100) hx hb dX7_market_197 (by decide) ?_
        refine lv_iload hx hb dX7_market_199 (lv_at hl 1 rfl) ?_
        refine lv_imul hx hb dX7_market_201 ?_
        refine lv_aload_n hx hb dX7_market_202 rfl (lv_at hl 3 rfl) ?_
        refine wx_get hx hb hts hiX7 hown hK hP 143 (by decide) qc_143 rfl 28 (by decide) (hts (.fieldLink RX7 63 "PriceEdictModel" "bid" "[I") (by decide +kernel)) rfl dX7_market_203 ?_
        refine lv_iload_n hx hb dX7_market_206 rfl (lv_at hl 2 rfl) ?_
        refine wx_ild hx hb hK hP 160 (by decide) qc_160 hx3 dX7_market_207 ?_
        refine lv_tope (S_7 160 x_1.toNatClampNeg) ((up2_ne _ _ (Or.inl (by decide))).trans ((up2_ne _ _ (Or.inl (by decide))).trans ((up2_ne _ _ (Or.inl (by decide)))))) ?_
        refine lv_idiv hx hb dX7_market_208 (mk_div hpn c_194) ?_
        refine lv_goto (tgt := 214) hx hb dX7_market_209 (by decide) ?_
        exact J_214 _ _ _ _ (by rw [if_neg c_194]) hP hS (lv_sub hl [0, 1, 2, 3, 4, 5] rfl)
    refine lv_iload hx hb dX7_market_71 (lv_at hl 0 rfl) ?_
    refine lv_aload_n hx hb dX7_market_73 rfl (lv_at hl 2 rfl) ?_
    refine wx_get hx hb hts hiX7 hown hK hP 143 (by decide) qc_143 rfl 28 (by decide) (hts (.fieldLink RX7 63 "PriceEdictModel" "bid" "[I") (by decide +kernel)) rfl dX7_market_74 ?_
    refine lv_iload_n hx hb dX7_market_77 rfl (lv_at hl 1 rfl) ?_
    refine wx_ild hx hb hK hP 160 (by decide) qc_160 hx3 dX7_market_78 ?_
    refine lv_icmp_ge (tgt := 93) hx hb dX7_market_79 (by decide) (fun c_79 => ?_) (fun c_79 => ?_)
    · refine lv_aload_n hx hb dX7_market_93 rfl (lv_at hl 2 rfl) ?_
      refine wx_get hx hb hts hiX7 hown hK hP 143 (by decide) qc_143 rfl 32 (by decide) (hts (.fieldLink RX7 75 "PriceEdictModel" "hidden" "[I") (by decide +kernel)) rfl dX7_market_94 ?_
      refine lv_iload_n hx hb dX7_market_97 rfl (lv_at hl 1 rfl) ?_
      refine wx_ild hx hb hK hP 164 (by decide) qc_164 hx3 dX7_market_98 ?_
      refine lv_ineg hx hb dX7_market_99 ?_
      exact J_100 _ _ _ _ (by rw [if_pos c_79]) hP hS (lv_sub hl [0, 1, 2, 3, 4] rfl)
    · refine lv_aload_n hx hb dX7_market_82 rfl (lv_at hl 2 rfl) ?_
      refine wx_get hx hb hts hiX7 hown hK hP 143 (by decide) qc_143 rfl 31 (by decide) (hts (.fieldLink RX7 72 "PriceEdictModel" "stock" "[I") (by decide +kernel)) rfl dX7_market_83 ?_
      refine lv_iload_n hx hb dX7_market_86 rfl (lv_at hl 1 rfl) ?_
      refine wx_ild hx hb hK hP 163 (by decide) qc_163 hx3 dX7_market_87 ?_
      refine lv_iconst (v := 2) hx hb dX7_market_88 (by decide) ?_
      refine lv_idiv hx hb dX7_market_89 (by decide) ?_
      refine lv_goto (tgt := 100) hx hb dX7_market_90 (by decide) ?_
      exact J_100 _ _ _ _ (by rw [if_neg c_79]) hP hS (lv_sub hl [0, 1, 2, 3, 4] rfl)
  refine lv_iload hx hb dX7_market_15 (lv_at hl 0 rfl) ?_
  refine lv_aload_n hx hb dX7_market_17 rfl (lv_at hl 2 rfl) ?_
  refine wx_get hx hb hts hiX7 hown hK hP 143 (by decide) qc_143 rfl 27 (by decide) (hts (.fieldLink RX7 60 "PriceEdictModel" "cost" "[I") (by decide +kernel)) rfl dX7_market_18 ?_
  refine lv_iload_n hx hb dX7_market_21 rfl (lv_at hl 1 rfl) ?_
  refine wx_ild hx hb hK hP 159 (by decide) qc_159 hx3 dX7_market_22 ?_
  refine lv_aload_n hx hb dX7_market_23 rfl (lv_at hl 2 rfl) ?_
  refine wx_get hx hb hts hiX7 hown hK hP 143 (by decide) qc_143 rfl 39 (by decide) (hts (.fieldLink RX7 96 "PriceEdictModel" "carry" "I") (by decide +kernel)) rfl dX7_market_24 ?_
  refine lv_aload_n hx hb dX7_market_27 rfl (lv_at hl 2 rfl) ?_
  refine wx_get hx hb hts hiX7 hown hK hP 143 (by decide) qc_143 rfl 25 (by decide) (hts (.fieldLink RX7 57 "PriceEdictModel" "miles" "[I") (by decide +kernel)) rfl dX7_market_28 ?_
  refine lv_iload_n hx hb dX7_market_31 rfl (lv_at hl 3 rfl) ?_
  refine wx_ild hx hb hK hP 158 (by decide) qc_158 ha dX7_market_32 ?_
  refine lv_imul hx hb dX7_market_33 ?_
  refine lv_bipush (v := 10) hx hb dX7_market_34 (by decide) ?_
  refine lv_idiv hx hb dX7_market_36 (by decide) ?_
  refine lv_iadd hx hb dX7_market_37 ?_
  refine lv_icmp_lt (tgt := 71) hx hb dX7_market_38 (by decide) (fun c_38 => ?_) (fun c_38 => ?_)
  · exact J_71 _ _ _ _ (by rw [if_pos c_38]) hP hS (lv_sub hl [0, 1, 2, 3, 4] rfl)
  · refine lv_aload_n hx hb dX7_market_41 rfl (lv_at hl 2 rfl) ?_
    refine wx_get hx hb hts hiX7 hown hK hP 143 (by decide) qc_143 rfl 31 (by decide) (hts (.fieldLink RX7 72 "PriceEdictModel" "stock" "[I") (by decide +kernel)) rfl dX7_market_42 ?_
    refine lv_iload_n hx hb dX7_market_45 rfl (lv_at hl 1 rfl) ?_
    refine lv_dup2_11 hx hb dX7_market_46 rfl rfl ?_
    refine wx_ild hx hb hK hP 163 (by decide) qc_163 hx3 dX7_market_47 ?_
    refine lv_aload_n hx hb dX7_market_48 rfl (lv_at hl 2 rfl) ?_
    refine wx_get hx hb hts hiX7 hown hK hP 143 (by decide) qc_143 rfl 29 (by decide) (hts (.fieldLink RX7 66 "PriceEdictModel" "supply" "[I") (by decide +kernel)) rfl dX7_market_49 ?_
    refine lv_iload_n hx hb dX7_market_52 rfl (lv_at hl 1 rfl) ?_
    refine wx_ild hx hb hK hP 161 (by decide) qc_161 hx3 dX7_market_53 ?_
    refine lv_iadd hx hb dX7_market_54 ?_
    refine wx_ist hr hx hb hK hP hS 163 (by decide) qc_163 hx3 dX7_market_55 (fun H locs hP hS => ?_)
    refine lv_aload_n hx hb dX7_market_56 rfl (lv_at hl 2 rfl) ?_
    refine wx_get hx hb hts hiX7 hown hK hP 143 (by decide) qc_143 rfl 33 (by decide) (hts (.fieldLink RX7 78 "PriceEdictModel" "brought" "[I") (by decide +kernel)) rfl dX7_market_57 ?_
    refine lv_iload_n hx hb dX7_market_60 rfl (lv_at hl 1 rfl) ?_
    refine lv_dup2_11 hx hb dX7_market_61 rfl rfl ?_
    refine wx_ild hx hb hK hP 165 (by decide) qc_165 hx3 dX7_market_62 ?_
    refine lv_tope (S_3 165 x_1.toNatClampNeg) ((up2_ne _ _ (Or.inl (by decide)))) ?_
    refine lv_aload_n hx hb dX7_market_63 rfl (lv_at hl 2 rfl) ?_
    refine wx_get hx hb hts hiX7 hown hK hP 143 (by decide) qc_143 rfl 29 (by decide) (hts (.fieldLink RX7 66 "PriceEdictModel" "supply" "[I") (by decide +kernel)) rfl dX7_market_64 ?_
    refine lv_iload_n hx hb dX7_market_67 rfl (lv_at hl 1 rfl) ?_
    refine wx_ild hx hb hK hP 161 (by decide) qc_161 hx3 dX7_market_68 ?_
    refine lv_tope (S_3 161 x_1.toNatClampNeg) ((up2_ne _ _ (Or.inl (by decide)))) ?_
    refine lv_iadd hx hb dX7_market_69 ?_
    refine wx_ist hr hx hb hK hP hS 165 (by decide) qc_165 hx3 dX7_market_70 (fun H locs hP hS => ?_)
    exact J_71 _ _ _ _ (by rw [if_neg c_38]) hP hS (lv_sub hl [0, 1, 2, 3, 4] rfl)
theorem fr_X7_market (S : qw_St) (a1 a2 : Int32) {k : Nat} (j : Nat) (h : k < 163 ∨ 169 < k) : g_X7_market S a1 a2 k j = S k j := by
  unfold g_X7_market s_X7_market_217
  repeat rw [up2_ne _ _ (Or.inl (by omega))]
  unfold s_X7_market_124
  repeat rw [up2_ne _ _ (Or.inl (by omega))]
  unfold s_X7_market_71
  split
  · rfl
  · repeat rw [up2_ne _ _ (Or.inl (by omega))]
    rfl
theorem InvM.mk {S : qw_St} (h : InvM S) (a b : Int32) : InvM (g_X7_market S a b) := h.cong (fr_X7_market _ _ _ _ (by omega)) (fun _ => fr_X7_market _ _ _ _ (by omega)) (fr_X7_market _ _ _ _ (by omega)) (fun _ => fr_X7_market _ _ _ _ (by omega)) (fr_X7_market _ _ _ _ (by omega)) (fun _ => fr_X7_market _ _ _ _ (by omega))
theorem InvM.slot {S : qw_St} (h : InvM S) {j : Nat} (hj : 6 ≠ j ∧ 17 ≠ j ∧ 26 ≠ j) (v : Int32) : InvM (up2 S 143 j v) := h.cong (up2_ne _ _ (Or.inr hj.1)) (fun _ => up2_ne _ _ (Or.inl (by decide))) (up2_ne _ _ (Or.inr hj.2.1)) (fun _ => up2_ne _ _ (Or.inl (by decide))) (up2_ne _ _ (Or.inr hj.2.2)) (fun _ => up2_ne _ _ (Or.inl (by decide)))
theorem weeks_in {a1 : Int32} (h : (if f_X7_in a1 0 50 = 0 then (1 : Int32) else 0) = 0) : qz a1 50 := by
  have q := in_t (qb0 h)
  rw [Int32.lt_iff_toInt_lt, Int32.lt_iff_toInt_lt] at q
  have h0 : (0 : Int32).toInt = 0 := rfl
  have h5 : (50 : Int32).toInt = 50 := rfl
  have hi : vp_in a1 51 := by rw [vp_in_iff]; omega
  obtain ⟨j, hj, e⟩ := vp_in_of hi (by decide)
  exact ⟨j, by omega, e⟩
def g_X7_weeks_74 (a1 : Int32) (y2 : Int32) (y3 : Int32) (K : qw_St → Int32 → qw_St) : Nat → qw_St → Int32 → qw_St
  | 0, S, _ => S
  | n + 1, S, z4 => (if (6 : Int32) ≤ z4 then (K S (y3 + (1 : Int32))) else (g_X7_weeks_74 a1 y2 y3 K n (g_X7_market S y3 z4) (z4 + (1 : Int32))))
def g_X7_weeks_63 (a1 : Int32) (y2 : Int32) (K : qw_St → Int32 → qw_St) : Nat → qw_St → Int32 → qw_St
  | 0, S, _ => S
  | n + 1, S, z3 => (if (S 143 26) ≤ z3 then (K S (y2 + (1 : Int32))) else (g_X7_weeks_74 a1 y2 z3 (fun (S9 : qw_St) (k3 : Int32) => (g_X7_weeks_63 a1 y2 K n S9 k3)) 7 S (0 : Int32)))
def g_X7_weeks_32 (a1 : Int32) : Nat → qw_St → Int32 → qw_St
  | 0, S, _ => S
  | n + 1, S, z2 => (if a1 ≤ z2 then S else (if (5000 : Int32) < ((S 143 1) + (7 : Int32)) then S else (g_X7_weeks_63 a1 z2 (fun (S9 : qw_St) (k2 : Int32) => (g_X7_weeks_32 a1 n S9 k2)) 9 (up2 S 143 1 ((S 143 1) + (7 : Int32))) (0 : Int32))))
def f_X7_weeks_74 (a1 : Int32) (y2 : Int32) (y3 : Int32) (K : qw_St → Int32 → Int32) : Nat → qw_St → Int32 → Int32
  | 0, S, _ => 0
  | n + 1, S, z4 => (if (6 : Int32) ≤ z4 then (K S (y3 + (1 : Int32))) else (f_X7_weeks_74 a1 y2 y3 K n (g_X7_market S y3 z4) (z4 + (1 : Int32))))
def f_X7_weeks_63 (a1 : Int32) (y2 : Int32) (K : qw_St → Int32 → Int32) : Nat → qw_St → Int32 → Int32
  | 0, S, _ => 0
  | n + 1, S, z3 => (if (S 143 26) ≤ z3 then (K S (y2 + (1 : Int32))) else (f_X7_weeks_74 a1 y2 z3 (fun (S9 : qw_St) (k3 : Int32) => (f_X7_weeks_63 a1 y2 K n S9 k3)) 7 S (0 : Int32)))
def f_X7_weeks_32 (a1 : Int32) : Nat → qw_St → Int32 → Int32
  | 0, S, _ => 0
  | n + 1, S, z2 => (if a1 ≤ z2 then (S 143 1) else (if (5000 : Int32) < ((S 143 1) + (7 : Int32)) then (S 143 1) else (f_X7_weeks_63 a1 z2 (fun (S9 : qw_St) (k2 : Int32) => (f_X7_weeks_32 a1 n S9 k2)) 9 (up2 S 143 1 ((S 143 1) + (7 : Int32))) (0 : Int32))))
def g_X7_weeks (S : qw_St) (a1 : Int32) : qw_St := (if (if (f_X7_in a1 (0 : Int32) (50 : Int32)) = 0 then (1 : Int32) else (0 : Int32)) = 0 then (g_X7_weeks_32 a1 51 (g_X7_throwsIf (up2 S 143 0 (0 : Int32)) (if (f_X7_in a1 (0 : Int32) (50 : Int32)) = 0 then (1 : Int32) else (0 : Int32)) (1 : Int32)) (0 : Int32)) else (g_X7_throwsIf (up2 S 143 0 (0 : Int32)) (if (f_X7_in a1 (0 : Int32) (50 : Int32)) = 0 then (1 : Int32) else (0 : Int32)) (1 : Int32)))
def f_X7_weeks (S : qw_St) (a1 : Int32) : Int32 := (if (if (f_X7_in a1 (0 : Int32) (50 : Int32)) = 0 then (1 : Int32) else (0 : Int32)) = 0 then (f_X7_weeks_32 a1 51 (g_X7_throwsIf (up2 S 143 0 (0 : Int32)) (if (f_X7_in a1 (0 : Int32) (50 : Int32)) = 0 then (1 : Int32) else (0 : Int32)) (1 : Int32)) (0 : Int32)) else (0 : Int32))
set_option maxHeartbeats 4000000 in
set_option maxRecDepth 100000 in
theorem c_X7_weeks (l : Launch) (D : va_G) {r : Nat → Nat} (c : Nat → ClassId) (g : Nat → Int64) (hr : qw_inj r) (S : qw_St) (a1 : Int32) (hI : InvM S) : MI l D r c g yX7_weeks wsX7_weeks ({ frames := 5, cells := 0, slots := 0, locals := 132 }) [.ref (r 143), .int a1] S (f_X7_weeks S a1) (g_X7_weeks S a1) := by
  have hiX7 : ∀ w ∈ wsX70, w ∈ wsX7_weeks := by decide +kernel
  refine wx_of (cc := cX7_weeks) (nL := 5) (ret := (some .int)) (lvs := [(0, .ref (r 143)), (1, .int a1)]) (by decide) rfl rfl (Nat.le_of_ble_eq_true rfl) ?_
  intro p e s m below meth c0 ls hx hb hret hml hts hown hlk hK hP hS hl
  obtain ⟨m7, hm7, em7⟩ := id hI.2.2.2.2.1
  have hP : qw_P D r c g S s.heap := hP
  refine lv_aload_n hx hb dX7_weeks_0 rfl (lv_at hl 0 rfl) ?_
  refine lv_iconst (v := 0) hx hb dX7_weeks_1 (by decide) ?_
  refine wx_put hr hx hb hts hiX7 tyX7 tyX7_ok nmX7 hown hK hP hS 143 (by decide) qc_143 rfl 0 (by decide) (hts (.fieldLink RX7 99 "PriceEdictModel" "thrown" "I") (by decide +kernel)) rfl (by decide +kernel) (fun _ => rfl) (Nat.le_of_ble_eq_true rfl) dX7_weeks_2 (fun H locs hP hS => ?_)
  refine lv_aload_n hx hb dX7_weeks_5 rfl (lv_at hl 0 rfl) ?_
  have J_21 : ∀ (v_1 : Int32) (H : Heap) (locs : List Loc) (ls : Array Slot) (ev_1 : v_1 = (if (f_X7_in a1 (0 : Int32) (50 : Int32)) = 0 then (1 : Int32) else (0 : Int32))), qw_P D r c g (up2 S 143 0 (0 : Int32)) H → va_S (qw_A r) s.heap H locs → lv_has ls 5 [(0, .ref (r 143)), (1, .int a1)] → W p l e ({ frames := 5, cells := 0, slots := 0, locals := 132 }) s m [.ref (r 143), .int a1].toArray below meth c0 H locs 0 0 (MQ below (qw_Qi D r c g (f_X7_weeks S a1) (g_X7_weeks S a1)) [.ref (r 143), .int a1].toArray s 0 0 (qw_A r)) (F0 m 21 ls [.int v_1, .ref (r 143)]) := by
    intro v_1 H locs ls ev_1 hP hS hl
    refine lv_iconst (v := 1) hx hb dX7_weeks_21 (by decide) ?_
    refine wc_iV (k := 143) (C := RX7) (As := [.int v_1, .int (1 : Int32)]) (rest := []) ⟨hx, hb, hml, hown, hts⟩ (c_X7_throwsIf l D c g hr (up2 S 143 0 (0 : Int32)) v_1 (1 : Int32) (by rw [ev_1]; repeat' (first | split | exact Or.inl rfl | exact Or.inr rfl))) (cwV 2 hts gX7_weeks_X7_throwsIf rfl rfl rfl (by decide +kernel) ⟨Nat.le_of_ble_eq_true rfl, Nat.le_of_ble_eq_true rfl⟩) (wx_recv hK hP (by decide) qc_143 rfl) hK hP hS (fun _ h => h) rfl hl.1 rfl (lv_room (Nat.le_of_ble_eq_true rfl)) dX7_weeks_22 ⟨Nat.zero_le _, Nat.zero_le _⟩ (fun H locs hP hS => ?_)
    refine lv_tope v_1 rfl ?_
    refine lv_if_eq (tgt := 30) hx hb dX7_weeks_25 (by decide) (fun c_25 => ?_) (fun c_25 => ?_)
    · obtain ⟨m0, hm0, em0⟩ := weeks_in (ev_1.symm.trans c_25)
      refine lv_iconst (v := 0) hx hb dX7_weeks_30 (by decide) ?_
      refine lv_istore_n (lv' := [(2, .int (0 : Int32)), (0, .ref (r 143)), (1, .int a1)]) hx hb dX7_weeks_31 rfl hl (by decide) rfl (fun ls hl => ?_)
      have L_32 : ∀ (n : Nat) (k : Nat) (z2 : Int32) (S1 : qw_St) (H : Heap) (locs : List Loc) (ls : Array Slot) (hk : k + n = 51 ∧ k ≤ m0) (hz2 : z2 = nI k) (hI1 : InvM S1) (h71 : S1 143 26 = nI m7) (hf_32 : f_X7_weeks_32 a1 n S1 z2 = (f_X7_weeks S a1)) (hg_32 : g_X7_weeks_32 a1 n S1 z2 = (g_X7_weeks S a1)), qw_P D r c g S1 H → va_S (qw_A r) s.heap H locs → lv_has ls 5 [(2, .int z2), (0, .ref (r 143)), (1, .int a1)] → W p l e ({ frames := 5, cells := 0, slots := 0, locals := 132 }) s m [.ref (r 143), .int a1].toArray below meth c0 H locs 0 0 (MQ below (qw_Qi D r c g (f_X7_weeks S a1) (g_X7_weeks S a1)) [.ref (r 143), .int a1].toArray s 0 0 (qw_A r)) (F0 m 32 ls []) := by
        intro n
        induction n with
        | zero =>
          intro k z2 S1 H locs ls hk hz2 hI1 h71 hf_32 hg_32 hP hS hl
          omega
        | succ n ih_32 =>
          intro k z2 S1 H locs ls hk hz2 hI1 h71 hf_32 hg_32 hP hS hl
          refine lv_iload_n hx hb dX7_weeks_32 rfl (lv_at hl 0 rfl) ?_
          refine lv_iload_n hx hb dX7_weeks_33 rfl (lv_at hl 2 rfl) ?_
          refine lv_icmp_ge (tgt := 106) hx hb dX7_weeks_34 (by decide) (fun c_34 => ?_) (fun c_34 => ?_)
          · refine lv_aload_n hx hb dX7_weeks_106 rfl (lv_at hl 1 rfl) ?_
            refine wx_get hx hb hts hiX7 hown hK hP 143 (by decide) qc_143 rfl 1 (by decide) (hts (.fieldLink RX7 117 "PriceEdictModel" "today" "I") (by decide +kernel)) rfl dX7_weeks_107 ?_
            exact wx_iret hx hb hret hlk hK hP hS (by subst ev_1; rw [← hf_32, f_X7_weeks_32]; rw [if_pos c_34]) (by subst ev_1; rw [← hg_32, g_X7_weeks_32]; rw [if_pos c_34]) dX7_weeks_110
          · have hk5 : k < m0 := qi_ltn hz2 (by omega) em0 (by omega) c_34
            refine lv_aload_n hx hb dX7_weeks_37 rfl (lv_at hl 1 rfl) ?_
            refine wx_get hx hb hts hiX7 hown hK hP 143 (by decide) qc_143 rfl 1 (by decide) (hts (.fieldLink RX7 117 "PriceEdictModel" "today" "I") (by decide +kernel)) rfl dX7_weeks_38 ?_
            refine lv_bipush (v := 7) hx hb dX7_weeks_41 (by decide) ?_
            refine lv_iadd hx hb dX7_weeks_43 ?_
            refine lv_sipush (v := 5000) hx hb dX7_weeks_44 (by decide) ?_
            refine lv_icmp_gt (tgt := 106) hx hb dX7_weeks_47 (by decide) (fun c_47 => ?_) (fun c_47 => ?_)
            · refine lv_aload_n hx hb dX7_weeks_106 rfl (lv_at hl 1 rfl) ?_
              refine wx_get hx hb hts hiX7 hown hK hP 143 (by decide) qc_143 rfl 1 (by decide) (hts (.fieldLink RX7 117 "PriceEdictModel" "today" "I") (by decide +kernel)) rfl dX7_weeks_107 ?_
              exact wx_iret hx hb hret hlk hK hP hS (by subst ev_1; rw [← hf_32, f_X7_weeks_32]; rw [if_neg c_34, if_pos c_47]) (by subst ev_1; rw [← hg_32, g_X7_weeks_32]; rw [if_neg c_34, if_pos c_47]) dX7_weeks_110
            · refine lv_aload_n hx hb dX7_weeks_50 rfl (lv_at hl 1 rfl) ?_
              refine lv_dup hx hb dX7_weeks_51 rfl ?_
              refine wx_get hx hb hts hiX7 hown hK hP 143 (by decide) qc_143 rfl 1 (by decide) (hts (.fieldLink RX7 117 "PriceEdictModel" "today" "I") (by decide +kernel)) rfl dX7_weeks_52 ?_
              refine lv_bipush (v := 7) hx hb dX7_weeks_55 (by decide) ?_
              refine lv_iadd hx hb dX7_weeks_57 ?_
              refine wx_put hr hx hb hts hiX7 tyX7 tyX7_ok nmX7 hown hK hP hS 143 (by decide) qc_143 rfl 1 (by decide) (hts (.fieldLink RX7 117 "PriceEdictModel" "today" "I") (by decide +kernel)) rfl (by decide +kernel) (fun _ => rfl) (Nat.le_of_ble_eq_true rfl) dX7_weeks_58 (fun H locs hP hS => ?_)
              refine lv_iconst (v := 0) hx hb dX7_weeks_61 (by decide) ?_
              refine lv_istore_n (lv' := [(3, .int (0 : Int32)), (2, .int z2), (0, .ref (r 143)), (1, .int a1)]) hx hb dX7_weeks_62 rfl hl (by decide) rfl (fun ls hl => ?_)
              have L_63 : ∀ (n3 : Nat) (k3 : Nat) (z3 : Int32) (S1 : qw_St) (H : Heap) (locs : List Loc) (ls : Array Slot) (hk3 : k3 + n3 = 9 ∧ k3 ≤ m7) (hz3 : z3 = nI k3) (hI3 : InvM S1) (h73 : S1 143 26 = nI m7) (hf_63 : f_X7_weeks_63 a1 z2 (fun (S9 : qw_St) (k2 : Int32) => (f_X7_weeks_32 a1 n S9 k2)) n3 S1 z3 = (f_X7_weeks S a1)) (hg_63 : g_X7_weeks_63 a1 z2 (fun (S9 : qw_St) (k2 : Int32) => (g_X7_weeks_32 a1 n S9 k2)) n3 S1 z3 = (g_X7_weeks S a1)), qw_P D r c g S1 H → va_S (qw_A r) s.heap H locs → lv_has ls 5 [(3, .int z3), (2, .int z2), (0, .ref (r 143)), (1, .int a1)] → W p l e ({ frames := 5, cells := 0, slots := 0, locals := 132 }) s m [.ref (r 143), .int a1].toArray below meth c0 H locs 0 0 (MQ below (qw_Qi D r c g (f_X7_weeks S a1) (g_X7_weeks S a1)) [.ref (r 143), .int a1].toArray s 0 0 (qw_A r)) (F0 m 63 ls []) := by
                intro n3
                induction n3 with
                | zero =>
                  intro k3 z3 S1 H locs ls hk3 hz3 hI3 h73 hf_63 hg_63 hP hS hl
                  omega
                | succ n3 ih_63 =>
                  intro k3 z3 S1 H locs ls hk3 hz3 hI3 h73 hf_63 hg_63 hP hS hl
                  refine lv_iload_n hx hb dX7_weeks_63 rfl (lv_at hl 0 rfl) ?_
                  refine lv_aload_n hx hb dX7_weeks_64 rfl (lv_at hl 2 rfl) ?_
                  refine wx_get hx hb hts hiX7 hown hK hP 143 (by decide) qc_143 rfl 26 (by decide) (hts (.fieldLink RX7 199 "PriceEdictModel" "towns" "I") (by decide +kernel)) rfl dX7_weeks_65 ?_
                  refine lv_icmp_ge (tgt := 100) hx hb dX7_weeks_68 (by decide) (fun c_68 => ?_) (fun c_68 => ?_)
                  · obtain ⟨x_2, ex_2⟩ : ∃ y : Int32, y = (z2 + (1 : Int32)) := ⟨_, rfl⟩
                    refine lv_iinc (v := x_2) (lv' := [(2, .int x_2), (3, .int z3), (0, .ref (r 143)), (1, .int a1)]) hx hb dX7_weeks_100 hl (k := 1) rfl (by rw [ex_2]; rfl) (by decide) rfl (fun ls hl => ?_)
                    refine lv_goto (tgt := 32) hx hb dX7_weeks_103 (by decide) ?_
                    exact ih_32 (k + 1) x_2 S1 _ _ _ (by omega) (by rw [ex_2]; exact qi_add hz2) hI3 h73 (by subst ex_2; subst ev_1; rw [← hf_63, f_X7_weeks_63]; rw [if_pos c_68]) (by subst ex_2; subst ev_1; rw [← hg_63, g_X7_weeks_63]; rw [if_pos c_68]) hP hS (lv_sub hl [0, 2, 3] rfl)
                  · have hk7 : k3 < m7 := qi_ltn hz3 (by omega) h73 (by omega) c_68
                    refine lv_iconst (v := 0) hx hb dX7_weeks_71 (by decide) ?_
                    refine lv_istore (lv' := [(4, .int (0 : Int32)), (3, .int z3), (2, .int z2), (0, .ref (r 143)), (1, .int a1)]) hx hb dX7_weeks_72 hl (by decide) rfl (fun ls hl => ?_)
                    have L_74 : ∀ (n4 : Nat) (k4 : Nat) (z4 : Int32) (S1 : qw_St) (H : Heap) (locs : List Loc) (ls : Array Slot) (hk4 : k4 + n4 = 7 ∧ k4 ≤ 6) (hz4 : z4 = nI k4) (hI4 : InvM S1) (h74 : S1 143 26 = nI m7) (hf_74 : f_X7_weeks_74 a1 z2 z3 (fun (S9 : qw_St) (k3 : Int32) => (f_X7_weeks_63 a1 z2 (fun (S9 : qw_St) (k2 : Int32) => (f_X7_weeks_32 a1 n S9 k2)) n3 S9 k3)) n4 S1 z4 = (f_X7_weeks S a1)) (hg_74 : g_X7_weeks_74 a1 z2 z3 (fun (S9 : qw_St) (k3 : Int32) => (g_X7_weeks_63 a1 z2 (fun (S9 : qw_St) (k2 : Int32) => (g_X7_weeks_32 a1 n S9 k2)) n3 S9 k3)) n4 S1 z4 = (g_X7_weeks S a1)), qw_P D r c g S1 H → va_S (qw_A r) s.heap H locs → lv_has ls 5 [(4, .int z4), (3, .int z3), (2, .int z2), (0, .ref (r 143)), (1, .int a1)] → W p l e ({ frames := 5, cells := 0, slots := 0, locals := 132 }) s m [.ref (r 143), .int a1].toArray below meth c0 H locs 0 0 (MQ below (qw_Qi D r c g (f_X7_weeks S a1) (g_X7_weeks S a1)) [.ref (r 143), .int a1].toArray s 0 0 (qw_A r)) (F0 m 74 ls []) := by
                      intro n4
                      induction n4 with
                      | zero =>
                        intro k4 z4 S1 H locs ls hk4 hz4 hI4 h74 hf_74 hg_74 hP hS hl
                        omega
                      | succ n4 ih_74 =>
                        intro k4 z4 S1 H locs ls hk4 hz4 hI4 h74 hf_74 hg_74 hP hS hl
                        refine lv_iload hx hb dX7_weeks_74 (lv_at hl 0 rfl) ?_
                        refine lv_bipush (v := 6) hx hb dX7_weeks_76 (by decide) ?_
                        refine lv_icmp_ge (tgt := 94) hx hb dX7_weeks_78 (by decide) (fun c_78 => ?_) (fun c_78 => ?_)
                        · obtain ⟨x_3, ex_3⟩ : ∃ y : Int32, y = (z3 + (1 : Int32)) := ⟨_, rfl⟩
                          refine lv_iinc (v := x_3) (lv' := [(3, .int x_3), (4, .int z4), (2, .int z2), (0, .ref (r 143)), (1, .int a1)]) hx hb dX7_weeks_94 hl (k := 1) rfl (by rw [ex_3]; rfl) (by decide) rfl (fun ls hl => ?_)
                          refine lv_goto (tgt := 63) hx hb dX7_weeks_97 (by decide) ?_
                          exact ih_63 (k3 + 1) x_3 S1 _ _ _ (by omega) (by rw [ex_3]; exact qi_add hz3) hI4 h74 (by subst ex_3; subst ev_1; rw [← hf_74, f_X7_weeks_74]; rw [if_pos c_78]) (by subst ex_3; subst ev_1; rw [← hg_74, g_X7_weeks_74]; rw [if_pos c_78]) hP hS (lv_sub hl [0, 2, 3, 4] rfl)
                        · have hk6 : k4 < 6 := qi_lt hz4 (by omega) (m := 6) rfl c_78
                          refine lv_aload_n hx hb dX7_weeks_81 rfl (lv_at hl 3 rfl) ?_
                          refine lv_iload_n hx hb dX7_weeks_82 rfl (lv_at hl 1 rfl) ?_
                          refine lv_iload hx hb dX7_weeks_83 (lv_at hl 0 rfl) ?_
                          refine wc_vV (k := 143) (C := RX7) (As := [.int z3, .int z4]) (rest := []) ⟨hx, hb, hml, hown, hts⟩ (c_X7_market l D c g hr S1 z3 z4 (qi_in hz3 (by omega) (by decide)) (qi_in hz4 hk6 (by decide)) hI4) (cwV 2 hts gX7_weeks_X7_market rfl rfl rfl (by decide +kernel) ⟨Nat.le_of_ble_eq_true rfl, Nat.le_of_ble_eq_true rfl⟩) (wx_recv hK hP (by decide) qc_143 rfl) hK hP hS (fun _ h => h) rfl hl.1 rfl (lv_room (Nat.le_of_ble_eq_true rfl)) dX7_weeks_85 ⟨Nat.zero_le _, Nat.zero_le _⟩ (fun H locs hP hS => ?_)
                          obtain ⟨x_4, ex_4⟩ : ∃ y : Int32, y = (z4 + (1 : Int32)) := ⟨_, rfl⟩
                          refine lv_iinc (v := x_4) (lv' := [(4, .int x_4), (3, .int z3), (2, .int z2), (0, .ref (r 143)), (1, .int a1)]) hx hb dX7_weeks_88 hl (k := 0) rfl (by rw [ex_4]; rfl) (by decide) rfl (fun ls hl => ?_)
                          refine lv_goto (tgt := 74) hx hb dX7_weeks_91 (by decide) ?_
                          exact ih_74 (k4 + 1) x_4 (g_X7_market S1 z3 z4) _ _ _ (by omega) (by rw [ex_4]; exact qi_add hz4) (InvM.mk hI4 _ _) (by rw [fr_X7_market _ _ _ _ (by omega)]; exact h74) (by subst ex_4; subst ev_1; rw [← hf_74, f_X7_weeks_74]; rw [if_neg c_78]) (by subst ex_4; subst ev_1; rw [← hg_74, g_X7_weeks_74]; rw [if_neg c_78]) hP hS (lv_sub hl [0, 1, 2, 3, 4] rfl)
                    exact L_74 7 0 (0 : Int32) S1 _ _ _ (by omega) nI_0.symm hI3 h73 (by subst ev_1; rw [← hf_63, f_X7_weeks_63]; rw [if_neg c_68]) (by subst ev_1; rw [← hg_63, g_X7_weeks_63]; rw [if_neg c_68]) hP hS (lv_sub hl [0, 1, 2, 3, 4] rfl)
              exact L_63 9 0 (0 : Int32) (up2 S1 143 1 ((S1 143 1) + (7 : Int32))) _ _ _ (by omega) nI_0.symm (InvM.slot hI1 (by decide) _) (by rw [up2_ne _ _ (Or.inr (by decide))]; exact h71) (by subst ev_1; rw [← hf_32, f_X7_weeks_32]; rw [if_neg c_34, if_neg c_47]) (by subst ev_1; rw [← hg_32, g_X7_weeks_32]; rw [if_neg c_34, if_neg c_47]) hP hS (lv_sub hl [0, 1, 2, 3] rfl)
      exact L_32 51 0 (0 : Int32) (g_X7_throwsIf (up2 S 143 0 (0 : Int32)) v_1 (1 : Int32)) _ _ _ (by omega) nI_0.symm (InvM.thr (InvM.zero hI) _ _) (by rw [fr_X7_throwsIf _ _ _ _ (Or.inr (by decide)), up2_ne _ _ (Or.inr (by decide))]; exact em7) (by subst ev_1; unfold f_X7_weeks; rw [if_pos c_25]) (by subst ev_1; unfold g_X7_weeks; rw [if_pos c_25]) hP hS (lv_sub hl [0, 1, 2] rfl)
    · refine lv_iconst (v := 0) hx hb dX7_weeks_28 (by decide) ?_
      exact wx_iret hx hb hret hlk hK hP hS (by subst ev_1; unfold f_X7_weeks; rw [if_neg c_25]) (by subst ev_1; unfold g_X7_weeks; rw [if_neg c_25]) dX7_weeks_29
  refine lv_iload_n hx hb dX7_weeks_6 rfl (lv_at hl 1 rfl) ?_
  refine lv_iconst (v := 0) hx hb dX7_weeks_7 (by decide) ?_
  refine lv_bipush (v := 50) hx hb dX7_weeks_8 (by decide) ?_
  refine wc_iS (As := [.int a1, .int (0 : Int32), .int (50 : Int32)]) (rest := [.ref (r 143)]) ⟨hx, hb, hml, hown, hts⟩ (c_X7_in l D c g hr (up2 S 143 0 (0 : Int32)) a1 (0 : Int32) (50 : Int32)) (va_cwS 3 hts gX7_weeks_X7_in rfl rfl rfl (by decide +kernel) ⟨Nat.le_of_ble_eq_true rfl, Nat.le_of_ble_eq_true rfl⟩) hK hP hS (fun _ h => h) rfl hl.1 rfl (lv_room (Nat.le_of_ble_eq_true rfl)) dX7_weeks_10 ⟨Nat.zero_le _, Nat.zero_le _⟩ (fun H locs hP hS => ?_)
  refine lv_if_ne (tgt := 20) hx hb dX7_weeks_13 (by decide) (fun c_13 => ?_) (fun c_13 => ?_)
  · refine lv_iconst (v := 0) hx hb dX7_weeks_20 (by decide) ?_
    exact J_21 _ _ _ _ (by rw [if_neg c_13]) hP hS (lv_sub hl [0, 1] rfl)
  · refine lv_iconst (v := 1) hx hb dX7_weeks_16 (by decide) ?_
    refine lv_goto (tgt := 21) hx hb dX7_weeks_17 (by decide) ?_
    exact J_21 _ _ _ _ (by rw [if_pos c_13]) hP hS (lv_sub hl [0, 1] rfl)
def g_X7_look (S : qw_St) (a1 : Int32) (a2 : Int32) (a3 : Int32) : qw_St := (if (if (f_X7_noTown (up2 S 143 0 (0 : Int32)) a1) = 0 then (if (f_X7_noThing a2) = 0 then (0 : Int32) else (1 : Int32)) else (1 : Int32)) = 0 then (if a3 = 0 then (g_X7_throwsIf (up2 S 143 0 (0 : Int32)) (if (f_X7_noTown (up2 S 143 0 (0 : Int32)) a1) = 0 then (if (f_X7_noThing a2) = 0 then (0 : Int32) else (1 : Int32)) else (1 : Int32)) (1 : Int32)) else (if a3 = 1 then (g_X7_throwsIf (up2 S 143 0 (0 : Int32)) (if (f_X7_noTown (up2 S 143 0 (0 : Int32)) a1) = 0 then (if (f_X7_noThing a2) = 0 then (0 : Int32) else (1 : Int32)) else (1 : Int32)) (1 : Int32)) else (if a3 = 2 then (g_X7_throwsIf (up2 S 143 0 (0 : Int32)) (if (f_X7_noTown (up2 S 143 0 (0 : Int32)) a1) = 0 then (if (f_X7_noThing a2) = 0 then (0 : Int32) else (1 : Int32)) else (1 : Int32)) (1 : Int32)) else (if a3 = 3 then (g_X7_throwsIf (up2 S 143 0 (0 : Int32)) (if (f_X7_noTown (up2 S 143 0 (0 : Int32)) a1) = 0 then (if (f_X7_noThing a2) = 0 then (0 : Int32) else (1 : Int32)) else (1 : Int32)) (1 : Int32)) else (if a3 = 4 then (g_X7_throwsIf (up2 S 143 0 (0 : Int32)) (if (f_X7_noTown (up2 S 143 0 (0 : Int32)) a1) = 0 then (if (f_X7_noThing a2) = 0 then (0 : Int32) else (1 : Int32)) else (1 : Int32)) (1 : Int32)) else (if a3 = 5 then (g_X7_throwsIf (up2 S 143 0 (0 : Int32)) (if (f_X7_noTown (up2 S 143 0 (0 : Int32)) a1) = 0 then (if (f_X7_noThing a2) = 0 then (0 : Int32) else (1 : Int32)) else (1 : Int32)) (1 : Int32)) else (if a3 = 6 then (g_X7_throwsIf (up2 S 143 0 (0 : Int32)) (if (f_X7_noTown (up2 S 143 0 (0 : Int32)) a1) = 0 then (if (f_X7_noThing a2) = 0 then (0 : Int32) else (1 : Int32)) else (1 : Int32)) (1 : Int32)) else (if a3 = 7 then (g_X7_throwsIf (up2 S 143 0 (0 : Int32)) (if (f_X7_noTown (up2 S 143 0 (0 : Int32)) a1) = 0 then (if (f_X7_noThing a2) = 0 then (0 : Int32) else (1 : Int32)) else (1 : Int32)) (1 : Int32)) else (up2 (g_X7_throwsIf (up2 S 143 0 (0 : Int32)) (if (f_X7_noTown (up2 S 143 0 (0 : Int32)) a1) = 0 then (if (f_X7_noThing a2) = 0 then (0 : Int32) else (1 : Int32)) else (1 : Int32)) (1 : Int32)) 143 0 (2 : Int32)))))))))) else (g_X7_throwsIf (up2 S 143 0 (0 : Int32)) (if (f_X7_noTown (up2 S 143 0 (0 : Int32)) a1) = 0 then (if (f_X7_noThing a2) = 0 then (0 : Int32) else (1 : Int32)) else (1 : Int32)) (1 : Int32)))
def f_X7_look (S : qw_St) (a1 : Int32) (a2 : Int32) (a3 : Int32) : Int32 := (if (if (f_X7_noTown (up2 S 143 0 (0 : Int32)) a1) = 0 then (if (f_X7_noThing a2) = 0 then (0 : Int32) else (1 : Int32)) else (1 : Int32)) = 0 then (if a3 = 0 then (S 163 (((6 : Int32) * a1) + a2).toNatClampNeg) else (if a3 = 1 then (S 164 (((6 : Int32) * a1) + a2).toNatClampNeg) else (if a3 = 2 then (S 165 (((6 : Int32) * a1) + a2).toNatClampNeg) else (if a3 = 3 then (S 166 (((6 : Int32) * a1) + a2).toNatClampNeg) else (if a3 = 4 then (S 167 (((6 : Int32) * a1) + a2).toNatClampNeg) else (if a3 = 5 then (S 168 (((6 : Int32) * a1) + a2).toNatClampNeg) else (if a3 = 6 then (S 169 (((6 : Int32) * a1) + a2).toNatClampNeg) else (if a3 = 7 then (f_X7_priceOf (g_X7_throwsIf (up2 S 143 0 (0 : Int32)) (if (f_X7_noTown (up2 S 143 0 (0 : Int32)) a1) = 0 then (if (f_X7_noThing a2) = 0 then (0 : Int32) else (1 : Int32)) else (1 : Int32)) (1 : Int32)) a1 a2) else (0 : Int32))))))))) else (0 : Int32))
set_option maxHeartbeats 4000000 in
set_option maxRecDepth 100000 in
theorem c_X7_look (l : Launch) (D : va_G) {r : Nat → Nat} (c : Nat → ClassId) (g : Nat → Int64) (hr : qw_inj r) (S : qw_St) (a1 : Int32) (a2 : Int32) (a3 : Int32) (hI : InvM S) : MI l D r c g yX7_look wsX7_look ({ frames := 4, cells := 0, slots := 0, locals := 104 }) [.ref (r 143), .int a1, .int a2, .int a3] S (f_X7_look S a1 a2 a3) (g_X7_look S a1 a2 a3) := by
  have hiX7 : ∀ w ∈ wsX70, w ∈ wsX7_look := by decide +kernel
  refine wx_of (cc := cX7_look) (nL := 5) (ret := (some .int)) (lvs := [(0, .ref (r 143)), (1, .int a1), (2, .int a2), (3, .int a3)]) (by decide) rfl rfl (Nat.le_of_ble_eq_true rfl) ?_
  intro p e s m below meth c0 ls hx hb hret hml hts hown hlk hK hP hS hl
  have hP : qw_P D r c g S s.heap := hP
  refine lv_aload_n hx hb dX7_look_0 rfl (lv_at hl 0 rfl) ?_
  refine lv_iconst (v := 0) hx hb dX7_look_1 (by decide) ?_
  refine wx_put hr hx hb hts hiX7 tyX7 tyX7_ok nmX7 hown hK hP hS 143 (by decide) qc_143 rfl 0 (by decide) (hts (.fieldLink RX7 99 "PriceEdictModel" "thrown" "I") (by decide +kernel)) rfl (by decide +kernel) (fun _ => rfl) (Nat.le_of_ble_eq_true rfl) dX7_look_2 (fun H locs hP hS => ?_)
  refine lv_aload_n hx hb dX7_look_5 rfl (lv_at hl 0 rfl) ?_
  have J_26 : ∀ (v_1 : Int32) (H : Heap) (locs : List Loc) (ls : Array Slot) (ev_1 : v_1 = (if (f_X7_noTown (up2 S 143 0 (0 : Int32)) a1) = 0 then (if (f_X7_noThing a2) = 0 then (0 : Int32) else (1 : Int32)) else (1 : Int32))), qw_P D r c g (up2 S 143 0 (0 : Int32)) H → va_S (qw_A r) s.heap H locs → lv_has ls 5 [(0, .ref (r 143)), (1, .int a1), (2, .int a2), (3, .int a3)] → W p l e ({ frames := 4, cells := 0, slots := 0, locals := 104 }) s m [.ref (r 143), .int a1, .int a2, .int a3].toArray below meth c0 H locs 0 0 (MQ below (qw_Qi D r c g (f_X7_look S a1 a2 a3) (g_X7_look S a1 a2 a3)) [.ref (r 143), .int a1, .int a2, .int a3].toArray s 0 0 (qw_A r)) (F0 m 26 ls [.int v_1, .ref (r 143)]) := by
    intro v_1 H locs ls ev_1 hP hS hl
    refine lv_iconst (v := 1) hx hb dX7_look_26 (by decide) ?_
    refine wc_iV (k := 143) (C := RX7) (As := [.int v_1, .int (1 : Int32)]) (rest := []) ⟨hx, hb, hml, hown, hts⟩ (c_X7_throwsIf l D c g hr (up2 S 143 0 (0 : Int32)) v_1 (1 : Int32) (by rw [ev_1]; repeat' (first | split | exact Or.inl rfl | exact Or.inr rfl))) (cwV 2 hts gX7_look_X7_throwsIf rfl rfl rfl (by decide +kernel) ⟨Nat.le_of_ble_eq_true rfl, Nat.le_of_ble_eq_true rfl⟩) (wx_recv hK hP (by decide) qc_143 rfl) hK hP hS (fun _ h => h) rfl hl.1 rfl (lv_room (Nat.le_of_ble_eq_true rfl)) dX7_look_27 ⟨Nat.zero_le _, Nat.zero_le _⟩ (fun H locs hP hS => ?_)
    refine lv_tope v_1 rfl ?_
    refine lv_if_eq (tgt := 35) hx hb dX7_look_30 (by decide) (fun c_30 => ?_) (fun c_30 => ?_)
    · have ht := tt_in (S := up2 S 143 0 (0 : Int32)) hI.2.2.2.2.1 (ev_1.symm.trans c_30)
      refine lv_bipush (v := 6) hx hb dX7_look_35 (by decide) ?_
      refine lv_iload_n hx hb dX7_look_37 rfl (lv_at hl 1 rfl) ?_
      refine lv_imul hx hb dX7_look_38 ?_
      refine lv_iload_n hx hb dX7_look_39 rfl (lv_at hl 2 rfl) ?_
      refine lv_iadd hx hb dX7_look_40 ?_
      refine lv_topi (fun x_2 ex_2 => ?_)
      refine lv_istore (lv' := [(4, .int x_2), (0, .ref (r 143)), (1, .int a1), (2, .int a2), (3, .int a3)]) hx hb dX7_look_41 hl (by decide) rfl (fun ls hl => ?_)
      have hx4 : vp_in x_2 48 := by rw [ex_2]; exact qi_6m ht.1 ht.2 (by decide) (by decide)
      refine lv_iload_n hx hb dX7_look_43 rfl (lv_at hl 4 rfl) ?_
      by_cases c_44_0 : a3 = 0
      · refine lv_tableIn (tgt := 92) hx hb dX7_look_44 (by rw [c_44_0]; decide) (by rw [c_44_0]; decide) (by rw [c_44_0]; rfl) (by decide) ?_
        refine lv_aload_n hx hb dX7_look_92 rfl (lv_at hl 1 rfl) ?_
        refine wx_get hx hb hts hiX7 hown hK hP 143 (by decide) qc_143 rfl 31 (by decide) (hts (.fieldLink RX7 72 "PriceEdictModel" "stock" "[I") (by decide +kernel)) rfl dX7_look_93 ?_
        refine lv_iload hx hb dX7_look_96 (lv_at hl 0 rfl) ?_
        refine wx_ild hx hb hK hP 163 (by decide) qc_163 hx4 dX7_look_98 ?_
        refine lv_tope (S 163 x_2.toNatClampNeg) ((fr_X7_throwsIf (up2 S 143 0 (0 : Int32)) v_1 (1 : Int32) x_2.toNatClampNeg (Or.inl (by decide))).trans ((up2_ne _ _ (Or.inl (by decide))))) ?_
        exact wx_iret hx hb hret hlk hK hP hS (by subst ex_2; subst ev_1; unfold f_X7_look; rw [if_pos c_30, if_pos c_44_0]) (by subst ex_2; subst ev_1; unfold g_X7_look; rw [if_pos c_30, if_pos c_44_0]) dX7_look_99
      by_cases c_44_1 : a3 = 1
      · refine lv_tableIn (tgt := 100) hx hb dX7_look_44 (by rw [c_44_1]; decide) (by rw [c_44_1]; decide) (by rw [c_44_1]; rfl) (by decide) ?_
        refine lv_aload_n hx hb dX7_look_100 rfl (lv_at hl 1 rfl) ?_
        refine wx_get hx hb hts hiX7 hown hK hP 143 (by decide) qc_143 rfl 32 (by decide) (hts (.fieldLink RX7 75 "PriceEdictModel" "hidden" "[I") (by decide +kernel)) rfl dX7_look_101 ?_
        refine lv_iload hx hb dX7_look_104 (lv_at hl 0 rfl) ?_
        refine wx_ild hx hb hK hP 164 (by decide) qc_164 hx4 dX7_look_106 ?_
        refine lv_tope (S 164 x_2.toNatClampNeg) ((fr_X7_throwsIf (up2 S 143 0 (0 : Int32)) v_1 (1 : Int32) x_2.toNatClampNeg (Or.inl (by decide))).trans ((up2_ne _ _ (Or.inl (by decide))))) ?_
        exact wx_iret hx hb hret hlk hK hP hS (by subst ex_2; subst ev_1; unfold f_X7_look; rw [if_pos c_30, if_neg c_44_0, if_pos c_44_1]) (by subst ex_2; subst ev_1; unfold g_X7_look; rw [if_pos c_30, if_neg c_44_0, if_pos c_44_1]) dX7_look_107
      by_cases c_44_2 : a3 = 2
      · refine lv_tableIn (tgt := 108) hx hb dX7_look_44 (by rw [c_44_2]; decide) (by rw [c_44_2]; decide) (by rw [c_44_2]; rfl) (by decide) ?_
        refine lv_aload_n hx hb dX7_look_108 rfl (lv_at hl 1 rfl) ?_
        refine wx_get hx hb hts hiX7 hown hK hP 143 (by decide) qc_143 rfl 33 (by decide) (hts (.fieldLink RX7 78 "PriceEdictModel" "brought" "[I") (by decide +kernel)) rfl dX7_look_109 ?_
        refine lv_iload hx hb dX7_look_112 (lv_at hl 0 rfl) ?_
        refine wx_ild hx hb hK hP 165 (by decide) qc_165 hx4 dX7_look_114 ?_
        refine lv_tope (S 165 x_2.toNatClampNeg) ((fr_X7_throwsIf (up2 S 143 0 (0 : Int32)) v_1 (1 : Int32) x_2.toNatClampNeg (Or.inl (by decide))).trans ((up2_ne _ _ (Or.inl (by decide))))) ?_
        exact wx_iret hx hb hret hlk hK hP hS (by subst ex_2; subst ev_1; unfold f_X7_look; rw [if_pos c_30, if_neg c_44_0, if_neg c_44_1, if_pos c_44_2]) (by subst ex_2; subst ev_1; unfold g_X7_look; rw [if_pos c_30, if_neg c_44_0, if_neg c_44_1, if_pos c_44_2]) dX7_look_115
      by_cases c_44_3 : a3 = 3
      · refine lv_tableIn (tgt := 116) hx hb dX7_look_44 (by rw [c_44_3]; decide) (by rw [c_44_3]; decide) (by rw [c_44_3]; rfl) (by decide) ?_
        refine lv_aload_n hx hb dX7_look_116 rfl (lv_at hl 1 rfl) ?_
        refine wx_get hx hb hts hiX7 hown hK hP 143 (by decide) qc_143 rfl 34 (by decide) (hts (.fieldLink RX7 81 "PriceEdictModel" "sold" "[I") (by decide +kernel)) rfl dX7_look_117 ?_
        refine lv_iload hx hb dX7_look_120 (lv_at hl 0 rfl) ?_
        refine wx_ild hx hb hK hP 166 (by decide) qc_166 hx4 dX7_look_122 ?_
        refine lv_tope (S 166 x_2.toNatClampNeg) ((fr_X7_throwsIf (up2 S 143 0 (0 : Int32)) v_1 (1 : Int32) x_2.toNatClampNeg (Or.inl (by decide))).trans ((up2_ne _ _ (Or.inl (by decide))))) ?_
        exact wx_iret hx hb hret hlk hK hP hS (by subst ex_2; subst ev_1; unfold f_X7_look; rw [if_pos c_30, if_neg c_44_0, if_neg c_44_1, if_neg c_44_2, if_pos c_44_3]) (by subst ex_2; subst ev_1; unfold g_X7_look; rw [if_pos c_30, if_neg c_44_0, if_neg c_44_1, if_neg c_44_2, if_pos c_44_3]) dX7_look_123
      by_cases c_44_4 : a3 = 4
      · refine lv_tableIn (tgt := 124) hx hb dX7_look_44 (by rw [c_44_4]; decide) (by rw [c_44_4]; decide) (by rw [c_44_4]; rfl) (by decide) ?_
        refine lv_aload_n hx hb dX7_look_124 rfl (lv_at hl 1 rfl) ?_
        refine wx_get hx hb hts hiX7 hown hK hP 143 (by decide) qc_143 rfl 35 (by decide) (hts (.fieldLink RX7 84 "PriceEdictModel" "spoilt" "[I") (by decide +kernel)) rfl dX7_look_125 ?_
        refine lv_iload hx hb dX7_look_128 (lv_at hl 0 rfl) ?_
        refine wx_ild hx hb hK hP 167 (by decide) qc_167 hx4 dX7_look_130 ?_
        refine lv_tope (S 167 x_2.toNatClampNeg) ((fr_X7_throwsIf (up2 S 143 0 (0 : Int32)) v_1 (1 : Int32) x_2.toNatClampNeg (Or.inl (by decide))).trans ((up2_ne _ _ (Or.inl (by decide))))) ?_
        exact wx_iret hx hb hret hlk hK hP hS (by subst ex_2; subst ev_1; unfold f_X7_look; rw [if_pos c_30, if_neg c_44_0, if_neg c_44_1, if_neg c_44_2, if_neg c_44_3, if_pos c_44_4]) (by subst ex_2; subst ev_1; unfold g_X7_look; rw [if_pos c_30, if_neg c_44_0, if_neg c_44_1, if_neg c_44_2, if_neg c_44_3, if_pos c_44_4]) dX7_look_131
      by_cases c_44_5 : a3 = 5
      · refine lv_tableIn (tgt := 132) hx hb dX7_look_44 (by rw [c_44_5]; decide) (by rw [c_44_5]; decide) (by rw [c_44_5]; rfl) (by decide) ?_
        refine lv_aload_n hx hb dX7_look_132 rfl (lv_at hl 1 rfl) ?_
        refine wx_get hx hb hts hiX7 hown hK hP 143 (by decide) qc_143 rfl 36 (by decide) (hts (.fieldLink RX7 87 "PriceEdictModel" "paid" "[I") (by decide +kernel)) rfl dX7_look_133 ?_
        refine lv_iload hx hb dX7_look_136 (lv_at hl 0 rfl) ?_
        refine wx_ild hx hb hK hP 168 (by decide) qc_168 hx4 dX7_look_138 ?_
        refine lv_tope (S 168 x_2.toNatClampNeg) ((fr_X7_throwsIf (up2 S 143 0 (0 : Int32)) v_1 (1 : Int32) x_2.toNatClampNeg (Or.inl (by decide))).trans ((up2_ne _ _ (Or.inl (by decide))))) ?_
        exact wx_iret hx hb hret hlk hK hP hS (by subst ex_2; subst ev_1; unfold f_X7_look; rw [if_pos c_30, if_neg c_44_0, if_neg c_44_1, if_neg c_44_2, if_neg c_44_3, if_neg c_44_4, if_pos c_44_5]) (by subst ex_2; subst ev_1; unfold g_X7_look; rw [if_pos c_30, if_neg c_44_0, if_neg c_44_1, if_neg c_44_2, if_neg c_44_3, if_neg c_44_4, if_pos c_44_5]) dX7_look_139
      by_cases c_44_6 : a3 = 6
      · refine lv_tableIn (tgt := 140) hx hb dX7_look_44 (by rw [c_44_6]; decide) (by rw [c_44_6]; decide) (by rw [c_44_6]; rfl) (by decide) ?_
        refine lv_aload_n hx hb dX7_look_140 rfl (lv_at hl 1 rfl) ?_
        refine wx_get hx hb hts hiX7 hown hK hP 143 (by decide) qc_143 rfl 37 (by decide) (hts (.fieldLink RX7 90 "PriceEdictModel" "weight" "[I") (by decide +kernel)) rfl dX7_look_141 ?_
        refine lv_iload hx hb dX7_look_144 (lv_at hl 0 rfl) ?_
        refine wx_ild hx hb hK hP 169 (by decide) qc_169 hx4 dX7_look_146 ?_
        refine lv_tope (S 169 x_2.toNatClampNeg) ((fr_X7_throwsIf (up2 S 143 0 (0 : Int32)) v_1 (1 : Int32) x_2.toNatClampNeg (Or.inl (by decide))).trans ((up2_ne _ _ (Or.inl (by decide))))) ?_
        exact wx_iret hx hb hret hlk hK hP hS (by subst ex_2; subst ev_1; unfold f_X7_look; rw [if_pos c_30, if_neg c_44_0, if_neg c_44_1, if_neg c_44_2, if_neg c_44_3, if_neg c_44_4, if_neg c_44_5, if_pos c_44_6]) (by subst ex_2; subst ev_1; unfold g_X7_look; rw [if_pos c_30, if_neg c_44_0, if_neg c_44_1, if_neg c_44_2, if_neg c_44_3, if_neg c_44_4, if_neg c_44_5, if_pos c_44_6]) dX7_look_147
      by_cases c_44_7 : a3 = 7
      · refine lv_tableIn (tgt := 148) hx hb dX7_look_44 (by rw [c_44_7]; decide) (by rw [c_44_7]; decide) (by rw [c_44_7]; rfl) (by decide) ?_
        refine lv_aload_n hx hb dX7_look_148 rfl (lv_at hl 1 rfl) ?_
        refine lv_iload_n hx hb dX7_look_149 rfl (lv_at hl 2 rfl) ?_
        refine lv_iload_n hx hb dX7_look_150 rfl (lv_at hl 3 rfl) ?_
        refine wc_iV (k := 143) (C := RX7) (As := [.int a1, .int a2]) (rest := []) ⟨hx, hb, hml, hown, hts⟩ (c_X7_priceOf l D c g hr (g_X7_throwsIf (up2 S 143 0 (0 : Int32)) v_1 (1 : Int32)) a1 a2 ht.1 ht.2 (InvM.thr (InvM.zero hI) _ _)) (cwV 2 hts gX7_look_X7_priceOf rfl rfl rfl (by decide +kernel) ⟨Nat.le_of_ble_eq_true rfl, Nat.le_of_ble_eq_true rfl⟩) (wx_recv hK hP (by decide) qc_143 rfl) hK hP hS (fun _ h => h) rfl hl.1 rfl (lv_room (Nat.le_of_ble_eq_true rfl)) dX7_look_151 ⟨Nat.zero_le _, Nat.zero_le _⟩ (fun H locs hP hS => ?_)
        exact wx_iret hx hb hret hlk hK hP hS (by subst ex_2; subst ev_1; unfold f_X7_look; rw [if_pos c_30, if_neg c_44_0, if_neg c_44_1, if_neg c_44_2, if_neg c_44_3, if_neg c_44_4, if_neg c_44_5, if_neg c_44_6, if_pos c_44_7]) (by subst ex_2; subst ev_1; unfold g_X7_look; rw [if_pos c_30, if_neg c_44_0, if_neg c_44_1, if_neg c_44_2, if_neg c_44_3, if_neg c_44_4, if_neg c_44_5, if_neg c_44_6, if_pos c_44_7]) dX7_look_154
      refine lv_tableOut (tgt := 155) hx hb dX7_look_44 (sw_out7 c_44_0 c_44_1 c_44_2 c_44_3 c_44_4 c_44_5 c_44_6 c_44_7) (by decide) ?_
      refine lv_aload_n hx hb dX7_look_155 rfl (lv_at hl 1 rfl) ?_
      refine lv_iconst (v := 2) hx hb dX7_look_156 (by decide) ?_
      refine wx_put hr hx hb hts hiX7 tyX7 tyX7_ok nmX7 hown hK hP hS 143 (by decide) qc_143 rfl 0 (by decide) (hts (.fieldLink RX7 99 "PriceEdictModel" "thrown" "I") (by decide +kernel)) rfl (by decide +kernel) (fun _ => rfl) (Nat.le_of_ble_eq_true rfl) dX7_look_157 (fun H locs hP hS => ?_)
      refine lv_iconst (v := 0) hx hb dX7_look_160 (by decide) ?_
      exact wx_iret hx hb hret hlk hK hP hS (by subst ex_2; subst ev_1; unfold f_X7_look; rw [if_pos c_30, if_neg c_44_0, if_neg c_44_1, if_neg c_44_2, if_neg c_44_3, if_neg c_44_4, if_neg c_44_5, if_neg c_44_6, if_neg c_44_7]) (by subst ex_2; subst ev_1; unfold g_X7_look; rw [if_pos c_30, if_neg c_44_0, if_neg c_44_1, if_neg c_44_2, if_neg c_44_3, if_neg c_44_4, if_neg c_44_5, if_neg c_44_6, if_neg c_44_7]) dX7_look_161
    · refine lv_iconst (v := 0) hx hb dX7_look_33 (by decide) ?_
      exact wx_iret hx hb hret hlk hK hP hS (by subst ev_1; unfold f_X7_look; rw [if_neg c_30]) (by subst ev_1; unfold g_X7_look; rw [if_neg c_30]) dX7_look_34
  refine lv_aload_n hx hb dX7_look_6 rfl (lv_at hl 0 rfl) ?_
  refine lv_iload_n hx hb dX7_look_7 rfl (lv_at hl 1 rfl) ?_
  refine wc_iV (k := 143) (C := RX7) (As := [.int a1]) (rest := [.ref (r 143)]) ⟨hx, hb, hml, hown, hts⟩ (c_X7_noTown l D c g hr (up2 S 143 0 (0 : Int32)) a1) (cwV 1 hts gX7_look_X7_noTown rfl rfl rfl (by decide +kernel) ⟨Nat.le_of_ble_eq_true rfl, Nat.le_of_ble_eq_true rfl⟩) (wx_recv hK hP (by decide) qc_143 rfl) hK hP hS (fun _ h => h) rfl hl.1 rfl (lv_room (Nat.le_of_ble_eq_true rfl)) dX7_look_8 ⟨Nat.zero_le _, Nat.zero_le _⟩ (fun H locs hP hS => ?_)
  refine lv_if_ne (tgt := 21) hx hb dX7_look_11 (by decide) (fun c_11 => ?_) (fun c_11 => ?_)
  · refine lv_iconst (v := 1) hx hb dX7_look_21 (by decide) ?_
    refine lv_goto (tgt := 26) hx hb dX7_look_22 (by decide) ?_
    exact J_26 _ _ _ _ (by rw [if_neg c_11]) hP hS (lv_sub hl [0, 1, 2, 3] rfl)
  · refine lv_iload_n hx hb dX7_look_14 rfl (lv_at hl 2 rfl) ?_
    refine wc_iS (As := [.int a2]) (rest := [.ref (r 143)]) ⟨hx, hb, hml, hown, hts⟩ (c_X7_noThing l D c g hr (up2 S 143 0 (0 : Int32)) a2) (va_cwS 1 hts gX7_look_X7_noThing rfl rfl rfl (by decide +kernel) ⟨Nat.le_of_ble_eq_true rfl, Nat.le_of_ble_eq_true rfl⟩) hK hP hS (fun _ h => h) rfl hl.1 rfl (lv_room (Nat.le_of_ble_eq_true rfl)) dX7_look_15 ⟨Nat.zero_le _, Nat.zero_le _⟩ (fun H locs hP hS => ?_)
    refine lv_if_eq (tgt := 25) hx hb dX7_look_18 (by decide) (fun c_18 => ?_) (fun c_18 => ?_)
    · refine lv_iconst (v := 0) hx hb dX7_look_25 (by decide) ?_
      exact J_26 _ _ _ _ (by rw [if_pos c_11, if_pos c_18]) hP hS (lv_sub hl [0, 1, 2, 3] rfl)
    · refine lv_iconst (v := 1) hx hb dX7_look_21 (by decide) ?_
      refine lv_goto (tgt := 26) hx hb dX7_look_22 (by decide) ?_
      exact J_26 _ _ _ _ (by rw [if_pos c_11, if_neg c_18]) hP hS (lv_sub hl [0, 1, 2, 3] rfl)
def g_X7_buys (S : qw_St) (a1 : Int32) (a2 : Int32) (a3 : Int32) : qw_St := (if (if (f_X7_noTown (up2 S 143 0 (0 : Int32)) a1) = 0 then (if (f_X7_noThing a2) = 0 then (0 : Int32) else (1 : Int32)) else (1 : Int32)) = 0 then (if (if (f_X7_in a3 (0 : Int32) (100000 : Int32)) = 0 then (1 : Int32) else (0 : Int32)) = 0 then (if (f_X7_priceOf (g_X7_throwsIf (g_X7_throwsIf (up2 S 143 0 (0 : Int32)) (if (f_X7_noTown (up2 S 143 0 (0 : Int32)) a1) = 0 then (if (f_X7_noThing a2) = 0 then (0 : Int32) else (1 : Int32)) else (1 : Int32)) (1 : Int32)) (if (f_X7_in a3 (0 : Int32) (100000 : Int32)) = 0 then (1 : Int32) else (0 : Int32)) (2 : Int32)) a1 a2) = 0 then (g_X7_throwsIf (g_X7_throwsIf (up2 S 143 0 (0 : Int32)) (if (f_X7_noTown (up2 S 143 0 (0 : Int32)) a1) = 0 then (if (f_X7_noThing a2) = 0 then (0 : Int32) else (1 : Int32)) else (1 : Int32)) (1 : Int32)) (if (f_X7_in a3 (0 : Int32) (100000 : Int32)) = 0 then (1 : Int32) else (0 : Int32)) (2 : Int32)) else (g_X7_throwsIf (g_X7_throwsIf (up2 S 143 0 (0 : Int32)) (if (f_X7_noTown (up2 S 143 0 (0 : Int32)) a1) = 0 then (if (f_X7_noThing a2) = 0 then (0 : Int32) else (1 : Int32)) else (1 : Int32)) (1 : Int32)) (if (f_X7_in a3 (0 : Int32) (100000 : Int32)) = 0 then (1 : Int32) else (0 : Int32)) (2 : Int32))) else (g_X7_throwsIf (g_X7_throwsIf (up2 S 143 0 (0 : Int32)) (if (f_X7_noTown (up2 S 143 0 (0 : Int32)) a1) = 0 then (if (f_X7_noThing a2) = 0 then (0 : Int32) else (1 : Int32)) else (1 : Int32)) (1 : Int32)) (if (f_X7_in a3 (0 : Int32) (100000 : Int32)) = 0 then (1 : Int32) else (0 : Int32)) (2 : Int32))) else (g_X7_throwsIf (up2 S 143 0 (0 : Int32)) (if (f_X7_noTown (up2 S 143 0 (0 : Int32)) a1) = 0 then (if (f_X7_noThing a2) = 0 then (0 : Int32) else (1 : Int32)) else (1 : Int32)) (1 : Int32)))
def f_X7_buys (S : qw_St) (a1 : Int32) (a2 : Int32) (a3 : Int32) : Int32 := (if (if (f_X7_noTown (up2 S 143 0 (0 : Int32)) a1) = 0 then (if (f_X7_noThing a2) = 0 then (0 : Int32) else (1 : Int32)) else (1 : Int32)) = 0 then (if (if (f_X7_in a3 (0 : Int32) (100000 : Int32)) = 0 then (1 : Int32) else (0 : Int32)) = 0 then (if (f_X7_priceOf (g_X7_throwsIf (g_X7_throwsIf (up2 S 143 0 (0 : Int32)) (if (f_X7_noTown (up2 S 143 0 (0 : Int32)) a1) = 0 then (if (f_X7_noThing a2) = 0 then (0 : Int32) else (1 : Int32)) else (1 : Int32)) (1 : Int32)) (if (f_X7_in a3 (0 : Int32) (100000 : Int32)) = 0 then (1 : Int32) else (0 : Int32)) (2 : Int32)) a1 a2) = 0 then (S 163 (((6 : Int32) * a1) + a2).toNatClampNeg) else (if (a3 / (f_X7_priceOf (g_X7_throwsIf (g_X7_throwsIf (up2 S 143 0 (0 : Int32)) (if (f_X7_noTown (up2 S 143 0 (0 : Int32)) a1) = 0 then (if (f_X7_noThing a2) = 0 then (0 : Int32) else (1 : Int32)) else (1 : Int32)) (1 : Int32)) (if (f_X7_in a3 (0 : Int32) (100000 : Int32)) = 0 then (1 : Int32) else (0 : Int32)) (2 : Int32)) a1 a2)) < (S 163 (((6 : Int32) * a1) + a2).toNatClampNeg) then (a3 / (f_X7_priceOf (g_X7_throwsIf (g_X7_throwsIf (up2 S 143 0 (0 : Int32)) (if (f_X7_noTown (up2 S 143 0 (0 : Int32)) a1) = 0 then (if (f_X7_noThing a2) = 0 then (0 : Int32) else (1 : Int32)) else (1 : Int32)) (1 : Int32)) (if (f_X7_in a3 (0 : Int32) (100000 : Int32)) = 0 then (1 : Int32) else (0 : Int32)) (2 : Int32)) a1 a2)) else (S 163 (((6 : Int32) * a1) + a2).toNatClampNeg))) else (0 : Int32)) else (0 : Int32))
set_option maxHeartbeats 4000000 in
set_option maxRecDepth 100000 in
theorem c_X7_buys (l : Launch) (D : va_G) {r : Nat → Nat} (c : Nat → ClassId) (g : Nat → Int64) (hr : qw_inj r) (S : qw_St) (a1 : Int32) (a2 : Int32) (a3 : Int32) (hI : InvM S) : MI l D r c g yX7_buys wsX7_buys ({ frames := 4, cells := 0, slots := 0, locals := 104 }) [.ref (r 143), .int a1, .int a2, .int a3] S (f_X7_buys S a1 a2 a3) (g_X7_buys S a1 a2 a3) := by
  have hiX7 : ∀ w ∈ wsX70, w ∈ wsX7_buys := by decide +kernel
  refine wx_of (cc := cX7_buys) (nL := 6) (ret := (some .int)) (lvs := [(0, .ref (r 143)), (1, .int a1), (2, .int a2), (3, .int a3)]) (by decide) rfl rfl (Nat.le_of_ble_eq_true rfl) ?_
  intro p e s m below meth c0 ls hx hb hret hml hts hown hlk hK hP hS hl
  have hP : qw_P D r c g S s.heap := hP
  refine lv_aload_n hx hb dX7_buys_0 rfl (lv_at hl 0 rfl) ?_
  refine lv_iconst (v := 0) hx hb dX7_buys_1 (by decide) ?_
  refine wx_put hr hx hb hts hiX7 tyX7 tyX7_ok nmX7 hown hK hP hS 143 (by decide) qc_143 rfl 0 (by decide) (hts (.fieldLink RX7 99 "PriceEdictModel" "thrown" "I") (by decide +kernel)) rfl (by decide +kernel) (fun _ => rfl) (Nat.le_of_ble_eq_true rfl) dX7_buys_2 (fun H locs hP hS => ?_)
  refine lv_aload_n hx hb dX7_buys_5 rfl (lv_at hl 0 rfl) ?_
  have J_26 : ∀ (v_1 : Int32) (H : Heap) (locs : List Loc) (ls : Array Slot) (ev_1 : v_1 = (if (f_X7_noTown (up2 S 143 0 (0 : Int32)) a1) = 0 then (if (f_X7_noThing a2) = 0 then (0 : Int32) else (1 : Int32)) else (1 : Int32))), qw_P D r c g (up2 S 143 0 (0 : Int32)) H → va_S (qw_A r) s.heap H locs → lv_has ls 6 [(0, .ref (r 143)), (1, .int a1), (2, .int a2), (3, .int a3)] → W p l e ({ frames := 4, cells := 0, slots := 0, locals := 104 }) s m [.ref (r 143), .int a1, .int a2, .int a3].toArray below meth c0 H locs 0 0 (MQ below (qw_Qi D r c g (f_X7_buys S a1 a2 a3) (g_X7_buys S a1 a2 a3)) [.ref (r 143), .int a1, .int a2, .int a3].toArray s 0 0 (qw_A r)) (F0 m 26 ls [.int v_1, .ref (r 143)]) := by
    intro v_1 H locs ls ev_1 hP hS hl
    refine lv_iconst (v := 1) hx hb dX7_buys_26 (by decide) ?_
    refine wc_iV (k := 143) (C := RX7) (As := [.int v_1, .int (1 : Int32)]) (rest := []) ⟨hx, hb, hml, hown, hts⟩ (c_X7_throwsIf l D c g hr (up2 S 143 0 (0 : Int32)) v_1 (1 : Int32) (by rw [ev_1]; repeat' (first | split | exact Or.inl rfl | exact Or.inr rfl))) (cwV 2 hts gX7_buys_X7_throwsIf rfl rfl rfl (by decide +kernel) ⟨Nat.le_of_ble_eq_true rfl, Nat.le_of_ble_eq_true rfl⟩) (wx_recv hK hP (by decide) qc_143 rfl) hK hP hS (fun _ h => h) rfl hl.1 rfl (lv_room (Nat.le_of_ble_eq_true rfl)) dX7_buys_27 ⟨Nat.zero_le _, Nat.zero_le _⟩ (fun H locs hP hS => ?_)
    refine lv_tope v_1 rfl ?_
    refine lv_if_ne (tgt := 56) hx hb dX7_buys_30 (by decide) (fun c_30 => ?_) (fun c_30 => ?_)
    · refine lv_iconst (v := 0) hx hb dX7_buys_56 (by decide) ?_
      exact wx_iret hx hb hret hlk hK hP hS (by subst ev_1; unfold f_X7_buys; rw [if_neg c_30]) (by subst ev_1; unfold g_X7_buys; rw [if_neg c_30]) dX7_buys_57
    · refine lv_aload_n hx hb dX7_buys_33 rfl (lv_at hl 0 rfl) ?_
      have J_49 : ∀ (v_2 : Int32) (H : Heap) (locs : List Loc) (ls : Array Slot) (ev_2 : v_2 = (if (f_X7_in a3 (0 : Int32) (100000 : Int32)) = 0 then (1 : Int32) else (0 : Int32))), qw_P D r c g (g_X7_throwsIf (up2 S 143 0 (0 : Int32)) v_1 (1 : Int32)) H → va_S (qw_A r) s.heap H locs → lv_has ls 6 [(0, .ref (r 143)), (1, .int a1), (2, .int a2), (3, .int a3)] → W p l e ({ frames := 4, cells := 0, slots := 0, locals := 104 }) s m [.ref (r 143), .int a1, .int a2, .int a3].toArray below meth c0 H locs 0 0 (MQ below (qw_Qi D r c g (f_X7_buys S a1 a2 a3) (g_X7_buys S a1 a2 a3)) [.ref (r 143), .int a1, .int a2, .int a3].toArray s 0 0 (qw_A r)) (F0 m 49 ls [.int v_2, .ref (r 143)]) := by
        intro v_2 H locs ls ev_2 hP hS hl
        refine lv_iconst (v := 2) hx hb dX7_buys_49 (by decide) ?_
        refine wc_iV (k := 143) (C := RX7) (As := [.int v_2, .int (2 : Int32)]) (rest := []) ⟨hx, hb, hml, hown, hts⟩ (c_X7_throwsIf l D c g hr (g_X7_throwsIf (up2 S 143 0 (0 : Int32)) v_1 (1 : Int32)) v_2 (2 : Int32) (by rw [ev_2]; repeat' (first | split | exact Or.inl rfl | exact Or.inr rfl))) (cwV 2 hts gX7_buys_X7_throwsIf rfl rfl rfl (by decide +kernel) ⟨Nat.le_of_ble_eq_true rfl, Nat.le_of_ble_eq_true rfl⟩) (wx_recv hK hP (by decide) qc_143 rfl) hK hP hS (fun _ h => h) rfl hl.1 rfl (lv_room (Nat.le_of_ble_eq_true rfl)) dX7_buys_50 ⟨Nat.zero_le _, Nat.zero_le _⟩ (fun H locs hP hS => ?_)
        refine lv_tope v_2 rfl ?_
        refine lv_if_eq (tgt := 58) hx hb dX7_buys_53 (by decide) (fun c_53 => ?_) (fun c_53 => ?_)
        · have ht := tt_in (S := up2 S 143 0 (0 : Int32)) hI.2.2.2.2.1 (ev_1.symm.trans c_30)
          refine lv_aload_n hx hb dX7_buys_58 rfl (lv_at hl 0 rfl) ?_
          refine lv_iload_n hx hb dX7_buys_59 rfl (lv_at hl 1 rfl) ?_
          refine lv_iload_n hx hb dX7_buys_60 rfl (lv_at hl 2 rfl) ?_
          refine wc_iV (k := 143) (C := RX7) (As := [.int a1, .int a2]) (rest := []) ⟨hx, hb, hml, hown, hts⟩ (c_X7_priceOf l D c g hr (g_X7_throwsIf (g_X7_throwsIf (up2 S 143 0 (0 : Int32)) v_1 (1 : Int32)) v_2 (2 : Int32)) a1 a2 ht.1 ht.2 (InvM.thr (InvM.thr (InvM.zero hI) _ _) _ _)) (cwV 2 hts gX7_buys_X7_priceOf rfl rfl rfl (by decide +kernel) ⟨Nat.le_of_ble_eq_true rfl, Nat.le_of_ble_eq_true rfl⟩) (wx_recv hK hP (by decide) qc_143 rfl) hK hP hS (fun _ h => h) rfl hl.1 rfl (lv_room (Nat.le_of_ble_eq_true rfl)) dX7_buys_61 ⟨Nat.zero_le _, Nat.zero_le _⟩ (fun H locs hP hS => ?_)
          refine lv_topi (fun x_3 ex_3 => ?_)
          refine lv_istore (lv' := [(4, .int x_3), (0, .ref (r 143)), (1, .int a1), (2, .int a2), (3, .int a3)]) hx hb dX7_buys_64 hl (by decide) rfl (fun ls hl => ?_)
          refine lv_aload_n hx hb dX7_buys_66 rfl (lv_at hl 1 rfl) ?_
          refine wx_get hx hb hts hiX7 hown hK hP 143 (by decide) qc_143 rfl 31 (by decide) (hts (.fieldLink RX7 72 "PriceEdictModel" "stock" "[I") (by decide +kernel)) rfl dX7_buys_67 ?_
          refine lv_bipush (v := 6) hx hb dX7_buys_70 (by decide) ?_
          refine lv_iload_n hx hb dX7_buys_72 rfl (lv_at hl 2 rfl) ?_
          refine lv_imul hx hb dX7_buys_73 ?_
          refine lv_iload_n hx hb dX7_buys_74 rfl (lv_at hl 3 rfl) ?_
          refine lv_iadd hx hb dX7_buys_75 ?_
          refine wx_ild hx hb hK hP 163 (by decide) qc_163 (qi_6m ht.1 ht.2 (by decide) (by decide)) dX7_buys_76 ?_
          refine lv_tope (S 163 (((6 : Int32) * a1) + a2).toNatClampNeg) ((fr_X7_throwsIf (g_X7_throwsIf (up2 S 143 0 (0 : Int32)) v_1 (1 : Int32)) v_2 (2 : Int32) ((((6 : Int32) * a1) + a2).toNatClampNeg) (Or.inl (by decide))).trans ((fr_X7_throwsIf (up2 S 143 0 (0 : Int32)) v_1 (1 : Int32) ((((6 : Int32) * a1) + a2).toNatClampNeg) (Or.inl (by decide))).trans ((up2_ne _ _ (Or.inl (by decide)))))) ?_
          refine lv_topi (fun x_4 ex_4 => ?_)
          refine lv_istore (lv' := [(5, .int x_4), (4, .int x_3), (0, .ref (r 143)), (1, .int a1), (2, .int a2), (3, .int a3)]) hx hb dX7_buys_77 hl (by decide) rfl (fun ls hl => ?_)
          refine lv_iload hx hb dX7_buys_79 (lv_at hl 1 rfl) ?_
          refine lv_if_ne (tgt := 89) hx hb dX7_buys_81 (by decide) (fun c_81 => ?_) (fun c_81 => ?_)
          · refine lv_iload hx hb dX7_buys_89 (lv_at hl 0 rfl) ?_
            refine lv_iload_n hx hb dX7_buys_91 rfl (lv_at hl 5 rfl) ?_
            refine lv_iload hx hb dX7_buys_92 (lv_at hl 1 rfl) ?_
            refine lv_idiv hx hb dX7_buys_94 c_81 ?_
            refine va_mmin hx hb (hml.trans hl.1.symm) hown (hts (.methodLink RX7 218 Lib.Math.min.name) (by decide +kernel)) (hts (.static Lib.Math.min.name) (by decide +kernel)) (hts (.initialized "java/lang/Math") (by decide +kernel)) (hts (.code Lib.Math.min.name Lib.Math.min.code 2 (some .int)) (by decide +kernel)) (Nat.le_of_ble_eq_true rfl) (Nat.le_of_ble_eq_true rfl) (Nat.zero_le _) (Nat.zero_le _) dX7_buys_95 ?_
            exact wx_iret hx hb hret hlk hK hP hS (by subst ex_4; subst ex_3; subst ev_2; subst ev_1; unfold f_X7_buys; rw [if_pos c_30, if_pos c_53, if_neg c_81]) (by subst ex_4; subst ex_3; subst ev_2; subst ev_1; unfold g_X7_buys; rw [if_pos c_30, if_pos c_53, if_neg c_81]) dX7_buys_98
          · refine lv_iload hx hb dX7_buys_84 (lv_at hl 0 rfl) ?_
            refine lv_goto (tgt := 98) hx hb dX7_buys_86 (by decide) ?_
            exact wx_iret hx hb hret hlk hK hP hS (by subst ex_4; subst ex_3; subst ev_2; subst ev_1; unfold f_X7_buys; rw [if_pos c_30, if_pos c_53, if_pos c_81]) (by subst ex_4; subst ex_3; subst ev_2; subst ev_1; unfold g_X7_buys; rw [if_pos c_30, if_pos c_53, if_pos c_81]) dX7_buys_98
        · refine lv_iconst (v := 0) hx hb dX7_buys_56 (by decide) ?_
          exact wx_iret hx hb hret hlk hK hP hS (by subst ev_2; subst ev_1; unfold f_X7_buys; rw [if_pos c_30, if_neg c_53]) (by subst ev_2; subst ev_1; unfold g_X7_buys; rw [if_pos c_30, if_neg c_53]) dX7_buys_57
      refine lv_iload_n hx hb dX7_buys_34 rfl (lv_at hl 3 rfl) ?_
      refine lv_iconst (v := 0) hx hb dX7_buys_35 (by decide) ?_
      refine lv_ldc hx hb hown (hts (.constant RX7 227 (100000)) (by decide +kernel)) dX7_buys_36 ?_
      refine wc_iS (As := [.int a3, .int (0 : Int32), .int (100000 : Int32)]) (rest := [.ref (r 143)]) ⟨hx, hb, hml, hown, hts⟩ (c_X7_in l D c g hr (g_X7_throwsIf (up2 S 143 0 (0 : Int32)) v_1 (1 : Int32)) a3 (0 : Int32) (100000 : Int32)) (va_cwS 3 hts gX7_buys_X7_in rfl rfl rfl (by decide +kernel) ⟨Nat.le_of_ble_eq_true rfl, Nat.le_of_ble_eq_true rfl⟩) hK hP hS (fun _ h => h) rfl hl.1 rfl (lv_room (Nat.le_of_ble_eq_true rfl)) dX7_buys_38 ⟨Nat.zero_le _, Nat.zero_le _⟩ (fun H locs hP hS => ?_)
      refine lv_if_ne (tgt := 48) hx hb dX7_buys_41 (by decide) (fun c_41 => ?_) (fun c_41 => ?_)
      · refine lv_iconst (v := 0) hx hb dX7_buys_48 (by decide) ?_
        exact J_49 _ _ _ _ (by rw [if_neg c_41]) hP hS (lv_sub hl [0, 1, 2, 3] rfl)
      · refine lv_iconst (v := 1) hx hb dX7_buys_44 (by decide) ?_
        refine lv_goto (tgt := 49) hx hb dX7_buys_45 (by decide) ?_
        exact J_49 _ _ _ _ (by rw [if_pos c_41]) hP hS (lv_sub hl [0, 1, 2, 3] rfl)
  refine lv_aload_n hx hb dX7_buys_6 rfl (lv_at hl 0 rfl) ?_
  refine lv_iload_n hx hb dX7_buys_7 rfl (lv_at hl 1 rfl) ?_
  refine wc_iV (k := 143) (C := RX7) (As := [.int a1]) (rest := [.ref (r 143)]) ⟨hx, hb, hml, hown, hts⟩ (c_X7_noTown l D c g hr (up2 S 143 0 (0 : Int32)) a1) (cwV 1 hts gX7_buys_X7_noTown rfl rfl rfl (by decide +kernel) ⟨Nat.le_of_ble_eq_true rfl, Nat.le_of_ble_eq_true rfl⟩) (wx_recv hK hP (by decide) qc_143 rfl) hK hP hS (fun _ h => h) rfl hl.1 rfl (lv_room (Nat.le_of_ble_eq_true rfl)) dX7_buys_8 ⟨Nat.zero_le _, Nat.zero_le _⟩ (fun H locs hP hS => ?_)
  refine lv_if_ne (tgt := 21) hx hb dX7_buys_11 (by decide) (fun c_11 => ?_) (fun c_11 => ?_)
  · refine lv_iconst (v := 1) hx hb dX7_buys_21 (by decide) ?_
    refine lv_goto (tgt := 26) hx hb dX7_buys_22 (by decide) ?_
    exact J_26 _ _ _ _ (by rw [if_neg c_11]) hP hS (lv_sub hl [0, 1, 2, 3] rfl)
  · refine lv_iload_n hx hb dX7_buys_14 rfl (lv_at hl 2 rfl) ?_
    refine wc_iS (As := [.int a2]) (rest := [.ref (r 143)]) ⟨hx, hb, hml, hown, hts⟩ (c_X7_noThing l D c g hr (up2 S 143 0 (0 : Int32)) a2) (va_cwS 1 hts gX7_buys_X7_noThing rfl rfl rfl (by decide +kernel) ⟨Nat.le_of_ble_eq_true rfl, Nat.le_of_ble_eq_true rfl⟩) hK hP hS (fun _ h => h) rfl hl.1 rfl (lv_room (Nat.le_of_ble_eq_true rfl)) dX7_buys_15 ⟨Nat.zero_le _, Nat.zero_le _⟩ (fun H locs hP hS => ?_)
    refine lv_if_eq (tgt := 25) hx hb dX7_buys_18 (by decide) (fun c_18 => ?_) (fun c_18 => ?_)
    · refine lv_iconst (v := 0) hx hb dX7_buys_25 (by decide) ?_
      exact J_26 _ _ _ _ (by rw [if_pos c_11, if_pos c_18]) hP hS (lv_sub hl [0, 1, 2, 3] rfl)
    · refine lv_iconst (v := 1) hx hb dX7_buys_21 (by decide) ?_
      refine lv_goto (tgt := 26) hx hb dX7_buys_22 (by decide) ?_
      exact J_26 _ _ _ _ (by rw [if_pos c_11, if_neg c_18]) hP hS (lv_sub hl [0, 1, 2, 3] rfl)
def g_X7_count_172 (a1 : Int32) : Nat → qw_St → Int32 → Int32 → qw_St
  | 0, S, _, _ => S
  | n + 1, S, z2, z3 => (if (30 : Int32) ≤ z3 then S else (g_X7_count_172 a1 n S (z2 + (if (f_X7_many S z3 (S 143 1)) = (1 : Int32) then (1 : Int32) else (0 : Int32))) (z3 + (1 : Int32))))
def g_X7_count_147 (a1 : Int32) : Nat → qw_St → Int32 → Int32 → qw_St
  | 0, S, _, _ => S
  | n + 1, S, z2, z3 => (if (48 : Int32) ≤ z3 then S else (g_X7_count_147 a1 n S (z2 + (S 164 z3.toNatClampNeg)) (z3 + (1 : Int32))))
def g_X7_count_122 (a1 : Int32) : Nat → qw_St → Int32 → Int32 → qw_St
  | 0, S, _, _ => S
  | n + 1, S, z2, z3 => (if (48 : Int32) ≤ z3 then S else (g_X7_count_122 a1 n S (z2 + (S 163 z3.toNatClampNeg)) (z3 + (1 : Int32))))
def g_X7_count_72 (a1 : Int32) : Nat → qw_St → Int32 → Int32 → qw_St
  | 0, S, _, _ => S
  | n + 1, S, z2, z3 => (if (S 143 6) ≤ z3 then S else (g_X7_count_72 a1 n S (z2 + (if 0 ≤ (S 147 z3.toNatClampNeg) then (0 : Int32) else (1 : Int32))) (z3 + (1 : Int32))))
def f_X7_count_172 (a1 : Int32) : Nat → qw_St → Int32 → Int32 → Int32
  | 0, S, _, _ => 0
  | n + 1, S, z2, z3 => (if (30 : Int32) ≤ z3 then z2 else (f_X7_count_172 a1 n S (z2 + (if (f_X7_many S z3 (S 143 1)) = (1 : Int32) then (1 : Int32) else (0 : Int32))) (z3 + (1 : Int32))))
def f_X7_count_147 (a1 : Int32) : Nat → qw_St → Int32 → Int32 → Int32
  | 0, S, _, _ => 0
  | n + 1, S, z2, z3 => (if (48 : Int32) ≤ z3 then z2 else (f_X7_count_147 a1 n S (z2 + (S 164 z3.toNatClampNeg)) (z3 + (1 : Int32))))
def f_X7_count_122 (a1 : Int32) : Nat → qw_St → Int32 → Int32 → Int32
  | 0, S, _, _ => 0
  | n + 1, S, z2, z3 => (if (48 : Int32) ≤ z3 then z2 else (f_X7_count_122 a1 n S (z2 + (S 163 z3.toNatClampNeg)) (z3 + (1 : Int32))))
def f_X7_count_72 (a1 : Int32) : Nat → qw_St → Int32 → Int32 → Int32
  | 0, S, _, _ => 0
  | n + 1, S, z2, z3 => (if (S 143 6) ≤ z3 then z2 else (f_X7_count_72 a1 n S (z2 + (if 0 ≤ (S 147 z3.toNatClampNeg) then (0 : Int32) else (1 : Int32))) (z3 + (1 : Int32))))
def g_X7_count (S : qw_St) (a1 : Int32) : qw_St := (if a1 = 0 then (up2 S 143 0 (0 : Int32)) else (if a1 = 1 then (up2 S 143 0 (0 : Int32)) else (if a1 = 2 then (g_X7_count_72 a1 61 (up2 S 143 0 (0 : Int32)) (0 : Int32) (0 : Int32)) else (if a1 = 3 then (up2 S 143 0 (0 : Int32)) else (if a1 = 4 then (up2 S 143 0 (0 : Int32)) else (if a1 = 5 then (up2 S 143 0 (0 : Int32)) else (if a1 = 6 then (g_X7_count_122 a1 49 (up2 S 143 0 (0 : Int32)) (0 : Int32) (0 : Int32)) else (if a1 = 7 then (g_X7_count_147 a1 49 (up2 S 143 0 (0 : Int32)) (0 : Int32) (0 : Int32)) else (if a1 = 8 then (g_X7_count_172 a1 31 (up2 S 143 0 (0 : Int32)) (0 : Int32) (0 : Int32)) else (up2 S 143 0 (0 : Int32)))))))))))
def f_X7_count (S : qw_St) (a1 : Int32) : Int32 := (if a1 = 0 then (S 143 1) else (if a1 = 1 then (S 143 6) else (if a1 = 2 then (f_X7_count_72 a1 61 (up2 S 143 0 (0 : Int32)) (0 : Int32) (0 : Int32)) else (if a1 = 3 then (S 143 7) else (if a1 = 4 then (S 143 14) else (if a1 = 5 then (S 143 26) else (if a1 = 6 then (f_X7_count_122 a1 49 (up2 S 143 0 (0 : Int32)) (0 : Int32) (0 : Int32)) else (if a1 = 7 then (f_X7_count_147 a1 49 (up2 S 143 0 (0 : Int32)) (0 : Int32) (0 : Int32)) else (if a1 = 8 then (f_X7_count_172 a1 31 (up2 S 143 0 (0 : Int32)) (0 : Int32) (0 : Int32)) else (-1 : Int32))))))))))
set_option maxHeartbeats 4000000 in
set_option maxRecDepth 100000 in
theorem c_X7_count (l : Launch) (D : va_G) {r : Nat → Nat} (c : Nat → ClassId) (g : Nat → Int64) (hr : qw_inj r) (S : qw_St) (a1 : Int32) (hI : InvM S) : MI l D r c g yX7_count wsX7_count ({ frames := 2, cells := 0, slots := 0, locals := 50 }) [.ref (r 143), .int a1] S (f_X7_count S a1) (g_X7_count S a1) := by
  have hiX7 : ∀ w ∈ wsX70, w ∈ wsX7_count := by decide +kernel
  refine wx_of (cc := cX7_count) (nL := 4) (ret := (some .int)) (lvs := [(0, .ref (r 143)), (1, .int a1)]) (by decide) rfl rfl (Nat.le_of_ble_eq_true rfl) ?_
  intro p e s m below meth c0 ls hx hb hret hml hts hown hlk hK hP hS hl
  obtain ⟨m0, hm0, em0⟩ := id hI.1
  have hP : qw_P D r c g S s.heap := hP
  refine lv_aload_n hx hb dX7_count_0 rfl (lv_at hl 0 rfl) ?_
  refine lv_iconst (v := 0) hx hb dX7_count_1 (by decide) ?_
  refine wx_put hr hx hb hts hiX7 tyX7 tyX7_ok nmX7 hown hK hP hS 143 (by decide) qc_143 rfl 0 (by decide) (hts (.fieldLink RX7 99 "PriceEdictModel" "thrown" "I") (by decide +kernel)) rfl (by decide +kernel) (fun _ => rfl) (Nat.le_of_ble_eq_true rfl) dX7_count_2 (fun H locs hP hS => ?_)
  refine lv_iconst (v := 0) hx hb dX7_count_5 (by decide) ?_
  refine lv_istore_n (lv' := [(2, .int (0 : Int32)), (0, .ref (r 143)), (1, .int a1)]) hx hb dX7_count_6 rfl hl (by decide) rfl (fun ls hl => ?_)
  refine lv_iload_n hx hb dX7_count_7 rfl (lv_at hl 2 rfl) ?_
  by_cases c_8_0 : a1 = 0
  · refine lv_tableIn (tgt := 60) hx hb dX7_count_8 (by rw [c_8_0]; decide) (by rw [c_8_0]; decide) (by rw [c_8_0]; rfl) (by decide) ?_
    refine lv_aload_n hx hb dX7_count_60 rfl (lv_at hl 1 rfl) ?_
    refine wx_get hx hb hts hiX7 hown hK hP 143 (by decide) qc_143 rfl 1 (by decide) (hts (.fieldLink RX7 117 "PriceEdictModel" "today" "I") (by decide +kernel)) rfl dX7_count_61 ?_
    refine lv_tope (S 143 1) ((up2_ne _ _ (Or.inr (by decide)))) ?_
    exact wx_iret hx hb hret hlk hK hP hS (by unfold f_X7_count; rw [if_pos c_8_0]) (by unfold g_X7_count; rw [if_pos c_8_0]) dX7_count_64
  by_cases c_8_1 : a1 = 1
  · refine lv_tableIn (tgt := 65) hx hb dX7_count_8 (by rw [c_8_1]; decide) (by rw [c_8_1]; decide) (by rw [c_8_1]; rfl) (by decide) ?_
    refine lv_aload_n hx hb dX7_count_65 rfl (lv_at hl 1 rfl) ?_
    refine wx_get hx hb hts hiX7 hown hK hP 143 (by decide) qc_143 rfl 6 (by decide) (hts (.fieldLink RX7 114 "PriceEdictModel" "stones" "I") (by decide +kernel)) rfl dX7_count_66 ?_
    refine lv_tope (S 143 6) ((up2_ne _ _ (Or.inr (by decide)))) ?_
    exact wx_iret hx hb hret hlk hK hP hS (by unfold f_X7_count; rw [if_neg c_8_0, if_pos c_8_1]) (by unfold g_X7_count; rw [if_neg c_8_0, if_pos c_8_1]) dX7_count_69
  by_cases c_8_2 : a1 = 2
  · refine lv_tableIn (tgt := 70) hx hb dX7_count_8 (by rw [c_8_2]; decide) (by rw [c_8_2]; decide) (by rw [c_8_2]; rfl) (by decide) ?_
    refine lv_iconst (v := 0) hx hb dX7_count_70 (by decide) ?_
    refine lv_istore_n (lv' := [(3, .int (0 : Int32)), (2, .int (0 : Int32)), (0, .ref (r 143)), (1, .int a1)]) hx hb dX7_count_71 rfl hl (by decide) rfl (fun ls hl => ?_)
    have L_72 : ∀ (n : Nat) (k : Nat) (z2 : Int32) (z3 : Int32) (S1 : qw_St) (H : Heap) (locs : List Loc) (ls : Array Slot) (hk : k + n = 61 ∧ k ≤ 60) (hz3 : z3 = nI k) (hm6 : S1 143 6 = nI m0) (hf_72 : f_X7_count_72 a1 n S1 z2 z3 = (f_X7_count S a1)) (hg_72 : g_X7_count_72 a1 n S1 z2 z3 = (g_X7_count S a1)), qw_P D r c g S1 H → va_S (qw_A r) s.heap H locs → lv_has ls 4 [(3, .int z3), (2, .int z2), (0, .ref (r 143)), (1, .int a1)] → W p l e ({ frames := 2, cells := 0, slots := 0, locals := 50 }) s m [.ref (r 143), .int a1].toArray below meth c0 H locs 0 0 (MQ below (qw_Qi D r c g (f_X7_count S a1) (g_X7_count S a1)) [.ref (r 143), .int a1].toArray s 0 0 (qw_A r)) (F0 m 72 ls []) := by
      intro n
      induction n with
      | zero =>
        intro k z2 z3 S1 H locs ls hk hz3 hm6 hf_72 hg_72 hP hS hl
        omega
      | succ n ih_72 =>
        intro k z2 z3 S1 H locs ls hk hz3 hm6 hf_72 hg_72 hP hS hl
        refine lv_iload_n hx hb dX7_count_72 rfl (lv_at hl 0 rfl) ?_
        refine lv_aload_n hx hb dX7_count_73 rfl (lv_at hl 2 rfl) ?_
        refine wx_get hx hb hts hiX7 hown hK hP 143 (by decide) qc_143 rfl 6 (by decide) (hts (.fieldLink RX7 114 "PriceEdictModel" "stones" "I") (by decide +kernel)) rfl dX7_count_74 ?_
        refine lv_icmp_ge (tgt := 103) hx hb dX7_count_77 (by decide) (fun c_77 => ?_) (fun c_77 => ?_)
        · refine lv_iload_n hx hb dX7_count_103 rfl (lv_at hl 1 rfl) ?_
          exact wx_iret hx hb hret hlk hK hP hS (by rw [← hf_72, f_X7_count_72]; rw [if_pos c_77]) (by rw [← hg_72, g_X7_count_72]; rw [if_pos c_77]) dX7_count_104
        · have hk5 : k < m0 := qi_ltn hz3 (by omega) hm6 (by omega) c_77
          refine lv_iload_n hx hb dX7_count_80 rfl (lv_at hl 1 rfl) ?_
          have J_95 : ∀ (v_1 : Int32) (H : Heap) (locs : List Loc) (ls : Array Slot) (ev_1 : v_1 = (if 0 ≤ (S1 147 z3.toNatClampNeg) then (0 : Int32) else (1 : Int32))), qw_P D r c g S1 H → va_S (qw_A r) s.heap H locs → lv_has ls 4 [(3, .int z3), (2, .int z2), (0, .ref (r 143)), (1, .int a1)] → W p l e ({ frames := 2, cells := 0, slots := 0, locals := 50 }) s m [.ref (r 143), .int a1].toArray below meth c0 H locs 0 0 (MQ below (qw_Qi D r c g (f_X7_count S a1) (g_X7_count S a1)) [.ref (r 143), .int a1].toArray s 0 0 (qw_A r)) (F0 m 95 ls [.int v_1, .int z2]) := by
            intro v_1 H locs ls ev_1 hP hS hl
            refine lv_iadd hx hb dX7_count_95 ?_
            refine lv_topi (fun x_2 ex_2 => ?_)
            refine lv_istore_n (lv' := [(2, .int x_2), (3, .int z3), (0, .ref (r 143)), (1, .int a1)]) hx hb dX7_count_96 rfl hl (by decide) rfl (fun ls hl => ?_)
            obtain ⟨x_3, ex_3⟩ : ∃ y : Int32, y = (z3 + (1 : Int32)) := ⟨_, rfl⟩
            refine lv_iinc (v := x_3) (lv' := [(3, .int x_3), (2, .int x_2), (0, .ref (r 143)), (1, .int a1)]) hx hb dX7_count_97 hl (k := 1) rfl (by rw [ex_3]; rfl) (by decide) rfl (fun ls hl => ?_)
            refine lv_goto (tgt := 72) hx hb dX7_count_100 (by decide) ?_
            exact ih_72 (k + 1) x_2 x_3 S1 _ _ _ (by omega) (by rw [ex_3]; exact qi_add hz3) hm6 (by subst ex_3; subst ex_2; subst ev_1; rw [← hf_72, f_X7_count_72]; rw [if_neg c_77]) (by subst ex_3; subst ex_2; subst ev_1; rw [← hg_72, g_X7_count_72]; rw [if_neg c_77]) hP hS (lv_sub hl [0, 1, 2, 3] rfl)
          refine lv_aload_n hx hb dX7_count_81 rfl (lv_at hl 2 rfl) ?_
          refine wx_get hx hb hts hiX7 hown hK hP 143 (by decide) qc_143 rfl 5 (by decide) (hts (.fieldLink RX7 19 "PriceEdictModel" "struckOn" "[I") (by decide +kernel)) rfl dX7_count_82 ?_
          refine lv_iload_n hx hb dX7_count_85 rfl (lv_at hl 0 rfl) ?_
          refine wx_ild hx hb hK hP 147 (by decide) qc_147 (qi_in hz3 (by omega) (by decide)) dX7_count_86 ?_
          refine lv_if_ge (tgt := 94) hx hb dX7_count_87 (by decide) (fun c_87 => ?_) (fun c_87 => ?_)
          · refine lv_iconst (v := 0) hx hb dX7_count_94 (by decide) ?_
            exact J_95 _ _ _ _ (by rw [if_pos c_87]) hP hS (lv_sub hl [0, 1, 2, 3] rfl)
          · refine lv_iconst (v := 1) hx hb dX7_count_90 (by decide) ?_
            refine lv_goto (tgt := 95) hx hb dX7_count_91 (by decide) ?_
            exact J_95 _ _ _ _ (by rw [if_neg c_87]) hP hS (lv_sub hl [0, 1, 2, 3] rfl)
    exact L_72 61 0 (0 : Int32) (0 : Int32) (up2 S 143 0 (0 : Int32)) _ _ _ (by omega) nI_0.symm (by rw [up2_ne _ _ (Or.inr (by decide))]; exact em0) (by unfold f_X7_count; rw [if_neg c_8_0, if_neg c_8_1, if_pos c_8_2]) (by unfold g_X7_count; rw [if_neg c_8_0, if_neg c_8_1, if_pos c_8_2]) hP hS (lv_sub hl [0, 1, 2, 3] rfl)
  by_cases c_8_3 : a1 = 3
  · refine lv_tableIn (tgt := 105) hx hb dX7_count_8 (by rw [c_8_3]; decide) (by rw [c_8_3]; decide) (by rw [c_8_3]; rfl) (by decide) ?_
    refine lv_aload_n hx hb dX7_count_105 rfl (lv_at hl 1 rfl) ?_
    refine wx_get hx hb hts hiX7 hown hK hP 143 (by decide) qc_143 rfl 7 (by decide) (hts (.fieldLink RX7 120 "PriceEdictModel" "habits" "I") (by decide +kernel)) rfl dX7_count_106 ?_
    refine lv_tope (S 143 7) ((up2_ne _ _ (Or.inr (by decide)))) ?_
    exact wx_iret hx hb hret hlk hK hP hS (by unfold f_X7_count; rw [if_neg c_8_0, if_neg c_8_1, if_neg c_8_2, if_pos c_8_3]) (by unfold g_X7_count; rw [if_neg c_8_0, if_neg c_8_1, if_neg c_8_2, if_pos c_8_3]) dX7_count_109
  by_cases c_8_4 : a1 = 4
  · refine lv_tableIn (tgt := 110) hx hb dX7_count_8 (by rw [c_8_4]; decide) (by rw [c_8_4]; decide) (by rw [c_8_4]; rfl) (by decide) ?_
    refine lv_aload_n hx hb dX7_count_110 rfl (lv_at hl 1 rfl) ?_
    refine wx_get hx hb hts hiX7 hown hK hP 143 (by decide) qc_143 rfl 14 (by decide) (hts (.fieldLink RX7 192 "PriceEdictModel" "edicts" "I") (by decide +kernel)) rfl dX7_count_111 ?_
    refine lv_tope (S 143 14) ((up2_ne _ _ (Or.inr (by decide)))) ?_
    exact wx_iret hx hb hret hlk hK hP hS (by unfold f_X7_count; rw [if_neg c_8_0, if_neg c_8_1, if_neg c_8_2, if_neg c_8_3, if_pos c_8_4]) (by unfold g_X7_count; rw [if_neg c_8_0, if_neg c_8_1, if_neg c_8_2, if_neg c_8_3, if_pos c_8_4]) dX7_count_114
  by_cases c_8_5 : a1 = 5
  · refine lv_tableIn (tgt := 115) hx hb dX7_count_8 (by rw [c_8_5]; decide) (by rw [c_8_5]; decide) (by rw [c_8_5]; rfl) (by decide) ?_
    refine lv_aload_n hx hb dX7_count_115 rfl (lv_at hl 1 rfl) ?_
    refine wx_get hx hb hts hiX7 hown hK hP 143 (by decide) qc_143 rfl 26 (by decide) (hts (.fieldLink RX7 199 "PriceEdictModel" "towns" "I") (by decide +kernel)) rfl dX7_count_116 ?_
    refine lv_tope (S 143 26) ((up2_ne _ _ (Or.inr (by decide)))) ?_
    exact wx_iret hx hb hret hlk hK hP hS (by unfold f_X7_count; rw [if_neg c_8_0, if_neg c_8_1, if_neg c_8_2, if_neg c_8_3, if_neg c_8_4, if_pos c_8_5]) (by unfold g_X7_count; rw [if_neg c_8_0, if_neg c_8_1, if_neg c_8_2, if_neg c_8_3, if_neg c_8_4, if_pos c_8_5]) dX7_count_119
  by_cases c_8_6 : a1 = 6
  · refine lv_tableIn (tgt := 120) hx hb dX7_count_8 (by rw [c_8_6]; decide) (by rw [c_8_6]; decide) (by rw [c_8_6]; rfl) (by decide) ?_
    refine lv_iconst (v := 0) hx hb dX7_count_120 (by decide) ?_
    refine lv_istore_n (lv' := [(3, .int (0 : Int32)), (2, .int (0 : Int32)), (0, .ref (r 143)), (1, .int a1)]) hx hb dX7_count_121 rfl hl (by decide) rfl (fun ls hl => ?_)
    have L_122 : ∀ (n : Nat) (k : Nat) (z2 : Int32) (z3 : Int32) (S1 : qw_St) (H : Heap) (locs : List Loc) (ls : Array Slot) (hk : k + n = 49 ∧ k ≤ 48) (hz3 : z3 = nI k) (hf_122 : f_X7_count_122 a1 n S1 z2 z3 = (f_X7_count S a1)) (hg_122 : g_X7_count_122 a1 n S1 z2 z3 = (g_X7_count S a1)), qw_P D r c g S1 H → va_S (qw_A r) s.heap H locs → lv_has ls 4 [(3, .int z3), (2, .int z2), (0, .ref (r 143)), (1, .int a1)] → W p l e ({ frames := 2, cells := 0, slots := 0, locals := 50 }) s m [.ref (r 143), .int a1].toArray below meth c0 H locs 0 0 (MQ below (qw_Qi D r c g (f_X7_count S a1) (g_X7_count S a1)) [.ref (r 143), .int a1].toArray s 0 0 (qw_A r)) (F0 m 122 ls []) := by
      intro n
      induction n with
      | zero =>
        intro k z2 z3 S1 H locs ls hk hz3 hf_122 hg_122 hP hS hl
        omega
      | succ n ih_122 =>
        intro k z2 z3 S1 H locs ls hk hz3 hf_122 hg_122 hP hS hl
        refine lv_iload_n hx hb dX7_count_122 rfl (lv_at hl 0 rfl) ?_
        refine lv_bipush (v := 48) hx hb dX7_count_123 (by decide) ?_
        refine lv_icmp_ge (tgt := 143) hx hb dX7_count_125 (by decide) (fun c_125 => ?_) (fun c_125 => ?_)
        · refine lv_iload_n hx hb dX7_count_143 rfl (lv_at hl 1 rfl) ?_
          exact wx_iret hx hb hret hlk hK hP hS (by rw [← hf_122, f_X7_count_122]; rw [if_pos c_125]) (by rw [← hg_122, g_X7_count_122]; rw [if_pos c_125]) dX7_count_144
        · have hk5 : k < 48 := qi_lt hz3 (by omega) (m := 48) rfl c_125
          refine lv_iload_n hx hb dX7_count_128 rfl (lv_at hl 1 rfl) ?_
          refine lv_aload_n hx hb dX7_count_129 rfl (lv_at hl 2 rfl) ?_
          refine wx_get hx hb hts hiX7 hown hK hP 143 (by decide) qc_143 rfl 31 (by decide) (hts (.fieldLink RX7 72 "PriceEdictModel" "stock" "[I") (by decide +kernel)) rfl dX7_count_130 ?_
          refine lv_iload_n hx hb dX7_count_133 rfl (lv_at hl 0 rfl) ?_
          refine wx_ild hx hb hK hP 163 (by decide) qc_163 (qi_in hz3 hk5 (by decide)) dX7_count_134 ?_
          refine lv_iadd hx hb dX7_count_135 ?_
          refine lv_topi (fun x_4 ex_4 => ?_)
          refine lv_istore_n (lv' := [(2, .int x_4), (3, .int z3), (0, .ref (r 143)), (1, .int a1)]) hx hb dX7_count_136 rfl hl (by decide) rfl (fun ls hl => ?_)
          obtain ⟨x_5, ex_5⟩ : ∃ y : Int32, y = (z3 + (1 : Int32)) := ⟨_, rfl⟩
          refine lv_iinc (v := x_5) (lv' := [(3, .int x_5), (2, .int x_4), (0, .ref (r 143)), (1, .int a1)]) hx hb dX7_count_137 hl (k := 1) rfl (by rw [ex_5]; rfl) (by decide) rfl (fun ls hl => ?_)
          refine lv_goto (tgt := 122) hx hb dX7_count_140 (by decide) ?_
          exact ih_122 (k + 1) x_4 x_5 S1 _ _ _ (by omega) (by rw [ex_5]; exact qi_add hz3) (by subst ex_5; subst ex_4; rw [← hf_122, f_X7_count_122]; rw [if_neg c_125]) (by subst ex_5; subst ex_4; rw [← hg_122, g_X7_count_122]; rw [if_neg c_125]) hP hS (lv_sub hl [0, 1, 2, 3] rfl)
    exact L_122 49 0 (0 : Int32) (0 : Int32) (up2 S 143 0 (0 : Int32)) _ _ _ (by omega) nI_0.symm (by unfold f_X7_count; rw [if_neg c_8_0, if_neg c_8_1, if_neg c_8_2, if_neg c_8_3, if_neg c_8_4, if_neg c_8_5, if_pos c_8_6]) (by unfold g_X7_count; rw [if_neg c_8_0, if_neg c_8_1, if_neg c_8_2, if_neg c_8_3, if_neg c_8_4, if_neg c_8_5, if_pos c_8_6]) hP hS (lv_sub hl [0, 1, 2, 3] rfl)
  by_cases c_8_7 : a1 = 7
  · refine lv_tableIn (tgt := 145) hx hb dX7_count_8 (by rw [c_8_7]; decide) (by rw [c_8_7]; decide) (by rw [c_8_7]; rfl) (by decide) ?_
    refine lv_iconst (v := 0) hx hb dX7_count_145 (by decide) ?_
    refine lv_istore_n (lv' := [(3, .int (0 : Int32)), (2, .int (0 : Int32)), (0, .ref (r 143)), (1, .int a1)]) hx hb dX7_count_146 rfl hl (by decide) rfl (fun ls hl => ?_)
    have L_147 : ∀ (n : Nat) (k : Nat) (z2 : Int32) (z3 : Int32) (S1 : qw_St) (H : Heap) (locs : List Loc) (ls : Array Slot) (hk : k + n = 49 ∧ k ≤ 48) (hz3 : z3 = nI k) (hf_147 : f_X7_count_147 a1 n S1 z2 z3 = (f_X7_count S a1)) (hg_147 : g_X7_count_147 a1 n S1 z2 z3 = (g_X7_count S a1)), qw_P D r c g S1 H → va_S (qw_A r) s.heap H locs → lv_has ls 4 [(3, .int z3), (2, .int z2), (0, .ref (r 143)), (1, .int a1)] → W p l e ({ frames := 2, cells := 0, slots := 0, locals := 50 }) s m [.ref (r 143), .int a1].toArray below meth c0 H locs 0 0 (MQ below (qw_Qi D r c g (f_X7_count S a1) (g_X7_count S a1)) [.ref (r 143), .int a1].toArray s 0 0 (qw_A r)) (F0 m 147 ls []) := by
      intro n
      induction n with
      | zero =>
        intro k z2 z3 S1 H locs ls hk hz3 hf_147 hg_147 hP hS hl
        omega
      | succ n ih_147 =>
        intro k z2 z3 S1 H locs ls hk hz3 hf_147 hg_147 hP hS hl
        refine lv_iload_n hx hb dX7_count_147 rfl (lv_at hl 0 rfl) ?_
        refine lv_bipush (v := 48) hx hb dX7_count_148 (by decide) ?_
        refine lv_icmp_ge (tgt := 168) hx hb dX7_count_150 (by decide) (fun c_150 => ?_) (fun c_150 => ?_)
        · refine lv_iload_n hx hb dX7_count_168 rfl (lv_at hl 1 rfl) ?_
          exact wx_iret hx hb hret hlk hK hP hS (by rw [← hf_147, f_X7_count_147]; rw [if_pos c_150]) (by rw [← hg_147, g_X7_count_147]; rw [if_pos c_150]) dX7_count_169
        · have hk5 : k < 48 := qi_lt hz3 (by omega) (m := 48) rfl c_150
          refine lv_iload_n hx hb dX7_count_153 rfl (lv_at hl 1 rfl) ?_
          refine lv_aload_n hx hb dX7_count_154 rfl (lv_at hl 2 rfl) ?_
          refine wx_get hx hb hts hiX7 hown hK hP 143 (by decide) qc_143 rfl 32 (by decide) (hts (.fieldLink RX7 75 "PriceEdictModel" "hidden" "[I") (by decide +kernel)) rfl dX7_count_155 ?_
          refine lv_iload_n hx hb dX7_count_158 rfl (lv_at hl 0 rfl) ?_
          refine wx_ild hx hb hK hP 164 (by decide) qc_164 (qi_in hz3 hk5 (by decide)) dX7_count_159 ?_
          refine lv_iadd hx hb dX7_count_160 ?_
          refine lv_topi (fun x_6 ex_6 => ?_)
          refine lv_istore_n (lv' := [(2, .int x_6), (3, .int z3), (0, .ref (r 143)), (1, .int a1)]) hx hb dX7_count_161 rfl hl (by decide) rfl (fun ls hl => ?_)
          obtain ⟨x_7, ex_7⟩ : ∃ y : Int32, y = (z3 + (1 : Int32)) := ⟨_, rfl⟩
          refine lv_iinc (v := x_7) (lv' := [(3, .int x_7), (2, .int x_6), (0, .ref (r 143)), (1, .int a1)]) hx hb dX7_count_162 hl (k := 1) rfl (by rw [ex_7]; rfl) (by decide) rfl (fun ls hl => ?_)
          refine lv_goto (tgt := 147) hx hb dX7_count_165 (by decide) ?_
          exact ih_147 (k + 1) x_6 x_7 S1 _ _ _ (by omega) (by rw [ex_7]; exact qi_add hz3) (by subst ex_7; subst ex_6; rw [← hf_147, f_X7_count_147]; rw [if_neg c_150]) (by subst ex_7; subst ex_6; rw [← hg_147, g_X7_count_147]; rw [if_neg c_150]) hP hS (lv_sub hl [0, 1, 2, 3] rfl)
    exact L_147 49 0 (0 : Int32) (0 : Int32) (up2 S 143 0 (0 : Int32)) _ _ _ (by omega) nI_0.symm (by unfold f_X7_count; rw [if_neg c_8_0, if_neg c_8_1, if_neg c_8_2, if_neg c_8_3, if_neg c_8_4, if_neg c_8_5, if_neg c_8_6, if_pos c_8_7]) (by unfold g_X7_count; rw [if_neg c_8_0, if_neg c_8_1, if_neg c_8_2, if_neg c_8_3, if_neg c_8_4, if_neg c_8_5, if_neg c_8_6, if_pos c_8_7]) hP hS (lv_sub hl [0, 1, 2, 3] rfl)
  by_cases c_8_8 : a1 = 8
  · refine lv_tableIn (tgt := 170) hx hb dX7_count_8 (by rw [c_8_8]; decide) (by rw [c_8_8]; decide) (by rw [c_8_8]; rfl) (by decide) ?_
    refine lv_iconst (v := 0) hx hb dX7_count_170 (by decide) ?_
    refine lv_istore_n (lv' := [(3, .int (0 : Int32)), (2, .int (0 : Int32)), (0, .ref (r 143)), (1, .int a1)]) hx hb dX7_count_171 rfl hl (by decide) rfl (fun ls hl => ?_)
    have L_172 : ∀ (n : Nat) (k : Nat) (z2 : Int32) (z3 : Int32) (S1 : qw_St) (H : Heap) (locs : List Loc) (ls : Array Slot) (hk : k + n = 31 ∧ k ≤ 30) (hz3 : z3 = nI k) (hI1 : InvM S1) (hf_172 : f_X7_count_172 a1 n S1 z2 z3 = (f_X7_count S a1)) (hg_172 : g_X7_count_172 a1 n S1 z2 z3 = (g_X7_count S a1)), qw_P D r c g S1 H → va_S (qw_A r) s.heap H locs → lv_has ls 4 [(3, .int z3), (2, .int z2), (0, .ref (r 143)), (1, .int a1)] → W p l e ({ frames := 2, cells := 0, slots := 0, locals := 50 }) s m [.ref (r 143), .int a1].toArray below meth c0 H locs 0 0 (MQ below (qw_Qi D r c g (f_X7_count S a1) (g_X7_count S a1)) [.ref (r 143), .int a1].toArray s 0 0 (qw_A r)) (F0 m 172 ls []) := by
      intro n
      induction n with
      | zero =>
        intro k z2 z3 S1 H locs ls hk hz3 hI1 hf_172 hg_172 hP hS hl
        omega
      | succ n ih_172 =>
        intro k z2 z3 S1 H locs ls hk hz3 hI1 hf_172 hg_172 hP hS hl
        refine lv_iload_n hx hb dX7_count_172 rfl (lv_at hl 0 rfl) ?_
        refine lv_bipush (v := 30) hx hb dX7_count_173 (by decide) ?_
        refine lv_icmp_ge (tgt := 205) hx hb dX7_count_175 (by decide) (fun c_175 => ?_) (fun c_175 => ?_)
        · refine lv_iload_n hx hb dX7_count_205 rfl (lv_at hl 1 rfl) ?_
          exact wx_iret hx hb hret hlk hK hP hS (by rw [← hf_172, f_X7_count_172]; rw [if_pos c_175]) (by rw [← hg_172, g_X7_count_172]; rw [if_pos c_175]) dX7_count_206
        · have hk5 : k < 30 := qi_lt hz3 (by omega) (m := 30) rfl c_175
          refine lv_iload_n hx hb dX7_count_178 rfl (lv_at hl 1 rfl) ?_
          have J_197 : ∀ (v_8 : Int32) (H : Heap) (locs : List Loc) (ls : Array Slot) (ev_8 : v_8 = (if (f_X7_many S1 z3 (S1 143 1)) = (1 : Int32) then (1 : Int32) else (0 : Int32))), qw_P D r c g S1 H → va_S (qw_A r) s.heap H locs → lv_has ls 4 [(3, .int z3), (2, .int z2), (0, .ref (r 143)), (1, .int a1)] → W p l e ({ frames := 2, cells := 0, slots := 0, locals := 50 }) s m [.ref (r 143), .int a1].toArray below meth c0 H locs 0 0 (MQ below (qw_Qi D r c g (f_X7_count S a1) (g_X7_count S a1)) [.ref (r 143), .int a1].toArray s 0 0 (qw_A r)) (F0 m 197 ls [.int v_8, .int z2]) := by
            intro v_8 H locs ls ev_8 hP hS hl
            refine lv_iadd hx hb dX7_count_197 ?_
            refine lv_topi (fun x_9 ex_9 => ?_)
            refine lv_istore_n (lv' := [(2, .int x_9), (3, .int z3), (0, .ref (r 143)), (1, .int a1)]) hx hb dX7_count_198 rfl hl (by decide) rfl (fun ls hl => ?_)
            obtain ⟨x_10, ex_10⟩ : ∃ y : Int32, y = (z3 + (1 : Int32)) := ⟨_, rfl⟩
            refine lv_iinc (v := x_10) (lv' := [(3, .int x_10), (2, .int x_9), (0, .ref (r 143)), (1, .int a1)]) hx hb dX7_count_199 hl (k := 1) rfl (by rw [ex_10]; rfl) (by decide) rfl (fun ls hl => ?_)
            refine lv_goto (tgt := 172) hx hb dX7_count_202 (by decide) ?_
            exact ih_172 (k + 1) x_9 x_10 S1 _ _ _ (by omega) (by rw [ex_10]; exact qi_add hz3) hI1 (by subst ex_10; subst ex_9; subst ev_8; rw [← hf_172, f_X7_count_172]; rw [if_neg c_175]) (by subst ex_10; subst ex_9; subst ev_8; rw [← hg_172, g_X7_count_172]; rw [if_neg c_175]) hP hS (lv_sub hl [0, 1, 2, 3] rfl)
          refine lv_aload_n hx hb dX7_count_179 rfl (lv_at hl 2 rfl) ?_
          refine lv_iload_n hx hb dX7_count_180 rfl (lv_at hl 0 rfl) ?_
          refine lv_aload_n hx hb dX7_count_181 rfl (lv_at hl 2 rfl) ?_
          refine wx_get hx hb hts hiX7 hown hK hP 143 (by decide) qc_143 rfl 1 (by decide) (hts (.fieldLink RX7 117 "PriceEdictModel" "today" "I") (by decide +kernel)) rfl dX7_count_182 ?_
          refine wc_iV (k := 143) (C := RX7) (As := [.int z3, .int (S1 143 1)]) (rest := [.int z2]) ⟨hx, hb, hml, hown, hts⟩ (c_X7_many l D c g hr S1 z3 (S1 143 1) hI1) (cwV 2 hts gX7_count_X7_many rfl rfl rfl (by decide +kernel) ⟨Nat.le_of_ble_eq_true rfl, Nat.le_of_ble_eq_true rfl⟩) (wx_recv hK hP (by decide) qc_143 rfl) hK hP hS (fun _ h => h) rfl hl.1 rfl (lv_room (Nat.le_of_ble_eq_true rfl)) dX7_count_185 ⟨Nat.zero_le _, Nat.zero_le _⟩ (fun H locs hP hS => ?_)
          refine lv_iconst (v := 1) hx hb dX7_count_188 (by decide) ?_
          refine lv_icmp_ne (tgt := 196) hx hb dX7_count_189 (by decide) (fun c_189 => ?_) (fun c_189 => ?_)
          · refine lv_iconst (v := 0) hx hb dX7_count_196 (by decide) ?_
            exact J_197 _ _ _ _ (by rw [if_neg c_189]) hP hS (lv_sub hl [0, 1, 2, 3] rfl)
          · refine lv_iconst (v := 1) hx hb dX7_count_192 (by decide) ?_
            refine lv_goto (tgt := 197) hx hb dX7_count_193 (by decide) ?_
            exact J_197 _ _ _ _ (by rw [if_pos c_189]) hP hS (lv_sub hl [0, 1, 2, 3] rfl)
    exact L_172 31 0 (0 : Int32) (0 : Int32) (up2 S 143 0 (0 : Int32)) _ _ _ (by omega) nI_0.symm (InvM.zero hI) (by unfold f_X7_count; rw [if_neg c_8_0, if_neg c_8_1, if_neg c_8_2, if_neg c_8_3, if_neg c_8_4, if_neg c_8_5, if_neg c_8_6, if_neg c_8_7, if_pos c_8_8]) (by unfold g_X7_count; rw [if_neg c_8_0, if_neg c_8_1, if_neg c_8_2, if_neg c_8_3, if_neg c_8_4, if_neg c_8_5, if_neg c_8_6, if_neg c_8_7, if_pos c_8_8]) hP hS (lv_sub hl [0, 1, 2, 3] rfl)
  refine lv_tableOut (tgt := 207) hx hb dX7_count_8 (sw_out8 c_8_0 c_8_1 c_8_2 c_8_3 c_8_4 c_8_5 c_8_6 c_8_7 c_8_8) (by decide) ?_
  refine lv_iconst (v := (-1)) hx hb dX7_count_207 (by decide) ?_
  exact wx_iret hx hb hret hlk hK hP hS (by unfold f_X7_count; rw [if_neg c_8_0, if_neg c_8_1, if_neg c_8_2, if_neg c_8_3, if_neg c_8_4, if_neg c_8_5, if_neg c_8_6, if_neg c_8_7, if_neg c_8_8]) (by unfold g_X7_count; rw [if_neg c_8_0, if_neg c_8_1, if_neg c_8_2, if_neg c_8_3, if_neg c_8_4, if_neg c_8_5, if_neg c_8_6, if_neg c_8_7, if_neg c_8_8]) dX7_count_208
