def g_X5_arrange (S : qw_St) (t : Nat) (i : Nat) (a1 : Int32) (a2 : Int32) (a3 : Int32) (a4 : Int32) : qw_St := (up2 (up2 (up2 (up2 S (81 + 8 * t + i) 0 a1) (81 + 8 * t + i) 1 a2) (81 + 8 * t + i) 2 a3) (81 + 8 * t + i) 3 a4)
set_option maxHeartbeats 4000000 in
set_option maxRecDepth 100000 in
theorem c_X5_arrange (l : Launch) (D : va_G) {r : Nat → Nat} (c : Nat → ClassId) (g : Nat → Int64) (hr : qw_inj r) (S : qw_St) (t : Nat) (i : Nat) (a1 : Int32) (a2 : Int32) (a3 : Int32) (a4 : Int32) (ht : t < 8) (hi : i < 6) : MV l D r c g yX5_arrange wsX5_arrange ({ frames := 0, cells := 0, slots := 0, locals := 0 }) [.ref (r (81 + 8 * t + i)), .int a1, .int a2, .int a3, .int a4] S (g_X5_arrange S t i a1 a2 a3 a4) := by
  have hiX5 : ∀ w ∈ wsX50, w ∈ wsX5_arrange := by decide +kernel
  refine wx_of (cc := cX5_arrange) (nL := 5) (ret := none) (lvs := [(0, .ref (r (81 + 8 * t + i))), (1, .int a1), (2, .int a2), (3, .int a3), (4, .int a4)]) (by decide) rfl rfl (Nat.le_of_ble_eq_true rfl) ?_
  intro p e s m below meth c0 ls hx hb hret hml hts hown hlk hK hP hS hl
  have hP : qw_P D r c g S s.heap := hP
  refine lv_aload_n hx hb dX5_arrange_0 rfl (lv_at hl 0 rfl) ?_
  refine lv_iload_n hx hb dX5_arrange_1 rfl (lv_at hl 1 rfl) ?_
  refine wx_put hr hx hb hts hiX5 tyX5 tyX5_ok nmX5 hown hK hP hS (81 + 8 * t + i) (by omega) (qc_wares ht hi) rfl 0 (by decide) (hts (.fieldLink RX5 7 "PriceEdict$Wares" "cost" "I") (by decide +kernel)) rfl (by decide +kernel) (fun _ => rfl) (Nat.le_of_ble_eq_true rfl) dX5_arrange_2 (fun H locs hP hS => ?_)
  refine lv_aload_n hx hb dX5_arrange_5 rfl (lv_at hl 0 rfl) ?_
  refine lv_iload_n hx hb dX5_arrange_6 rfl (lv_at hl 2 rfl) ?_
  refine wx_put hr hx hb hts hiX5 tyX5 tyX5_ok nmX5 hown hK hP hS (81 + 8 * t + i) (by omega) (qc_wares ht hi) rfl 1 (by decide) (hts (.fieldLink RX5 13 "PriceEdict$Wares" "bid" "I") (by decide +kernel)) rfl (by decide +kernel) (fun _ => rfl) (Nat.le_of_ble_eq_true rfl) dX5_arrange_7 (fun H locs hP hS => ?_)
  refine lv_aload_n hx hb dX5_arrange_10 rfl (lv_at hl 0 rfl) ?_
  refine lv_iload_n hx hb dX5_arrange_11 rfl (lv_at hl 3 rfl) ?_
  refine wx_put hr hx hb hts hiX5 tyX5 tyX5_ok nmX5 hown hK hP hS (81 + 8 * t + i) (by omega) (qc_wares ht hi) rfl 2 (by decide) (hts (.fieldLink RX5 16 "PriceEdict$Wares" "supply" "I") (by decide +kernel)) rfl (by decide +kernel) (fun _ => rfl) (Nat.le_of_ble_eq_true rfl) dX5_arrange_12 (fun H locs hP hS => ?_)
  refine lv_aload_n hx hb dX5_arrange_15 rfl (lv_at hl 0 rfl) ?_
  refine lv_iload hx hb dX5_arrange_16 (lv_at hl 4 rfl) ?_
  refine wx_put hr hx hb hts hiX5 tyX5 tyX5_ok nmX5 hown hK hP hS (81 + 8 * t + i) (by omega) (qc_wares ht hi) rfl 3 (by decide) (hts (.fieldLink RX5 19 "PriceEdict$Wares" "want" "I") (by decide +kernel)) rfl (by decide +kernel) (fun _ => rfl) (Nat.le_of_ble_eq_true rfl) dX5_arrange_18 (fun H locs hP hS => ?_)
  exact wx_vret hx hb hret hlk hK hP hS (by unfold g_X5_arrange; exact rfl) dX5_arrange_21
theorem fr_X5_arrange (S : qw_St) (t i : Nat) (a1 : Int32) (a2 : Int32) (a3 : Int32) (a4 : Int32) {k : Nat} (j : Nat) (h : k ≠ 81 + 8 * t + i) : g_X5_arrange S t i a1 a2 a3 a4 k j = S k j := by
  unfold g_X5_arrange
  repeat' (first | rfl | rw [up2_ne _ _ (Or.inl h)] | split)
def g_X5_bring (S : qw_St) (t : Nat) (i : Nat) : qw_St := (up2 (up2 S (81 + 8 * t + i) 4 ((S (81 + 8 * t + i) 4) + (S (81 + 8 * t + i) 2))) (81 + 8 * t + i) 6 ((S (81 + 8 * t + i) 6) + (S (81 + 8 * t + i) 2)))
set_option maxHeartbeats 4000000 in
set_option maxRecDepth 100000 in
theorem c_X5_bring (l : Launch) (D : va_G) {r : Nat → Nat} (c : Nat → ClassId) (g : Nat → Int64) (hr : qw_inj r) (S : qw_St) (t : Nat) (i : Nat) (ht : t < 8) (hi : i < 6) : MV l D r c g yX5_bring wsX5_bring ({ frames := 0, cells := 0, slots := 0, locals := 0 }) [.ref (r (81 + 8 * t + i))] S (g_X5_bring S t i) := by
  have hiX5 : ∀ w ∈ wsX50, w ∈ wsX5_bring := by decide +kernel
  refine wx_of (cc := cX5_bring) (nL := 1) (ret := none) (lvs := [(0, .ref (r (81 + 8 * t + i)))]) (by decide) rfl rfl (Nat.le_of_ble_eq_true rfl) ?_
  intro p e s m below meth c0 ls hx hb hret hml hts hown hlk hK hP hS hl
  have hP : qw_P D r c g S s.heap := hP
  refine lv_aload_n hx hb dX5_bring_0 rfl (lv_at hl 0 rfl) ?_
  refine lv_dup hx hb dX5_bring_1 rfl ?_
  refine wx_get hx hb hts hiX5 hown hK hP (81 + 8 * t + i) (by omega) (qc_wares ht hi) rfl 4 (by decide) (hts (.fieldLink RX5 22 "PriceEdict$Wares" "stock" "I") (by decide +kernel)) rfl dX5_bring_2 ?_
  refine lv_aload_n hx hb dX5_bring_5 rfl (lv_at hl 0 rfl) ?_
  refine wx_get hx hb hts hiX5 hown hK hP (81 + 8 * t + i) (by omega) (qc_wares ht hi) rfl 2 (by decide) (hts (.fieldLink RX5 16 "PriceEdict$Wares" "supply" "I") (by decide +kernel)) rfl dX5_bring_6 ?_
  refine lv_iadd hx hb dX5_bring_9 ?_
  refine wx_put hr hx hb hts hiX5 tyX5 tyX5_ok nmX5 hown hK hP hS (81 + 8 * t + i) (by omega) (qc_wares ht hi) rfl 4 (by decide) (hts (.fieldLink RX5 22 "PriceEdict$Wares" "stock" "I") (by decide +kernel)) rfl (by decide +kernel) (fun _ => rfl) (Nat.le_of_ble_eq_true rfl) dX5_bring_10 (fun H locs hP hS => ?_)
  refine lv_aload_n hx hb dX5_bring_13 rfl (lv_at hl 0 rfl) ?_
  refine lv_dup hx hb dX5_bring_14 rfl ?_
  refine wx_get hx hb hts hiX5 hown hK hP (81 + 8 * t + i) (by omega) (qc_wares ht hi) rfl 6 (by decide) (hts (.fieldLink RX5 28 "PriceEdict$Wares" "brought" "I") (by decide +kernel)) rfl dX5_bring_15 ?_
  refine lv_tope (S (81 + 8 * t + i) 6) ((up2_ne _ _ (Or.inr (by decide)))) ?_
  refine lv_aload_n hx hb dX5_bring_18 rfl (lv_at hl 0 rfl) ?_
  refine wx_get hx hb hts hiX5 hown hK hP (81 + 8 * t + i) (by omega) (qc_wares ht hi) rfl 2 (by decide) (hts (.fieldLink RX5 16 "PriceEdict$Wares" "supply" "I") (by decide +kernel)) rfl dX5_bring_19 ?_
  refine lv_tope (S (81 + 8 * t + i) 2) ((up2_ne _ _ (Or.inr (by decide)))) ?_
  refine lv_iadd hx hb dX5_bring_22 ?_
  refine wx_put hr hx hb hts hiX5 tyX5 tyX5_ok nmX5 hown hK hP hS (81 + 8 * t + i) (by omega) (qc_wares ht hi) rfl 6 (by decide) (hts (.fieldLink RX5 28 "PriceEdict$Wares" "brought" "I") (by decide +kernel)) rfl (by decide +kernel) (fun _ => rfl) (Nat.le_of_ble_eq_true rfl) dX5_bring_23 (fun H locs hP hS => ?_)
  exact wx_vret hx hb hret hlk hK hP hS (by unfold g_X5_bring; exact rfl) dX5_bring_26
theorem fr_X5_bring (S : qw_St) (t i : Nat) {k : Nat} (j : Nat) (h : k ≠ 81 + 8 * t + i) : g_X5_bring S t i k j = S k j := by
  unfold g_X5_bring
  repeat' (first | rfl | rw [up2_ne _ _ (Or.inl h)] | split)
def g_X5_hideHalf (S : qw_St) (t : Nat) (i : Nat) : qw_St := (up2 (up2 S (81 + 8 * t + i) 4 ((S (81 + 8 * t + i) 4) - ((S (81 + 8 * t + i) 4) / (2 : Int32)))) (81 + 8 * t + i) 5 ((S (81 + 8 * t + i) 5) + ((S (81 + 8 * t + i) 4) / (2 : Int32))))
set_option maxHeartbeats 4000000 in
set_option maxRecDepth 100000 in
theorem c_X5_hideHalf (l : Launch) (D : va_G) {r : Nat → Nat} (c : Nat → ClassId) (g : Nat → Int64) (hr : qw_inj r) (S : qw_St) (t : Nat) (i : Nat) (ht : t < 8) (hi : i < 6) : MV l D r c g yX5_hideHalf wsX5_hideHalf ({ frames := 0, cells := 0, slots := 0, locals := 0 }) [.ref (r (81 + 8 * t + i))] S (g_X5_hideHalf S t i) := by
  have hiX5 : ∀ w ∈ wsX50, w ∈ wsX5_hideHalf := by decide +kernel
  refine wx_of (cc := cX5_hideHalf) (nL := 2) (ret := none) (lvs := [(0, .ref (r (81 + 8 * t + i)))]) (by decide) rfl rfl (Nat.le_of_ble_eq_true rfl) ?_
  intro p e s m below meth c0 ls hx hb hret hml hts hown hlk hK hP hS hl
  have hP : qw_P D r c g S s.heap := hP
  refine lv_aload_n hx hb dX5_hideHalf_0 rfl (lv_at hl 0 rfl) ?_
  refine wx_get hx hb hts hiX5 hown hK hP (81 + 8 * t + i) (by omega) (qc_wares ht hi) rfl 4 (by decide) (hts (.fieldLink RX5 22 "PriceEdict$Wares" "stock" "I") (by decide +kernel)) rfl dX5_hideHalf_1 ?_
  refine lv_iconst (v := 2) hx hb dX5_hideHalf_4 (by decide) ?_
  refine lv_idiv hx hb dX5_hideHalf_5 (by decide) ?_
  refine lv_topi (fun x_1 ex_1 => ?_)
  refine lv_istore_n (lv' := [(1, .int x_1), (0, .ref (r (81 + 8 * t + i)))]) hx hb dX5_hideHalf_6 rfl hl (by decide) rfl (fun ls hl => ?_)
  refine lv_aload_n hx hb dX5_hideHalf_7 rfl (lv_at hl 1 rfl) ?_
  refine lv_dup hx hb dX5_hideHalf_8 rfl ?_
  refine wx_get hx hb hts hiX5 hown hK hP (81 + 8 * t + i) (by omega) (qc_wares ht hi) rfl 4 (by decide) (hts (.fieldLink RX5 22 "PriceEdict$Wares" "stock" "I") (by decide +kernel)) rfl dX5_hideHalf_9 ?_
  refine lv_iload_n hx hb dX5_hideHalf_12 rfl (lv_at hl 0 rfl) ?_
  refine lv_isub hx hb dX5_hideHalf_13 ?_
  refine wx_put hr hx hb hts hiX5 tyX5 tyX5_ok nmX5 hown hK hP hS (81 + 8 * t + i) (by omega) (qc_wares ht hi) rfl 4 (by decide) (hts (.fieldLink RX5 22 "PriceEdict$Wares" "stock" "I") (by decide +kernel)) rfl (by decide +kernel) (fun _ => rfl) (Nat.le_of_ble_eq_true rfl) dX5_hideHalf_14 (fun H locs hP hS => ?_)
  refine lv_aload_n hx hb dX5_hideHalf_17 rfl (lv_at hl 1 rfl) ?_
  refine lv_dup hx hb dX5_hideHalf_18 rfl ?_
  refine wx_get hx hb hts hiX5 hown hK hP (81 + 8 * t + i) (by omega) (qc_wares ht hi) rfl 5 (by decide) (hts (.fieldLink RX5 25 "PriceEdict$Wares" "hidden" "I") (by decide +kernel)) rfl dX5_hideHalf_19 ?_
  refine lv_tope (S (81 + 8 * t + i) 5) ((up2_ne _ _ (Or.inr (by decide)))) ?_
  refine lv_iload_n hx hb dX5_hideHalf_22 rfl (lv_at hl 0 rfl) ?_
  refine lv_iadd hx hb dX5_hideHalf_23 ?_
  refine wx_put hr hx hb hts hiX5 tyX5 tyX5_ok nmX5 hown hK hP hS (81 + 8 * t + i) (by omega) (qc_wares ht hi) rfl 5 (by decide) (hts (.fieldLink RX5 25 "PriceEdict$Wares" "hidden" "I") (by decide +kernel)) rfl (by decide +kernel) (fun _ => rfl) (Nat.le_of_ble_eq_true rfl) dX5_hideHalf_24 (fun H locs hP hS => ?_)
  exact wx_vret hx hb hret hlk hK hP hS (by subst ex_1; unfold g_X5_hideHalf; exact rfl) dX5_hideHalf_27
theorem fr_X5_hideHalf (S : qw_St) (t i : Nat) {k : Nat} (j : Nat) (h : k ≠ 81 + 8 * t + i) : g_X5_hideHalf S t i k j = S k j := by
  unfold g_X5_hideHalf
  repeat' (first | rfl | rw [up2_ne _ _ (Or.inl h)] | split)
def g_X5_showAll (S : qw_St) (t : Nat) (i : Nat) : qw_St := (up2 (up2 S (81 + 8 * t + i) 4 ((S (81 + 8 * t + i) 4) + (S (81 + 8 * t + i) 5))) (81 + 8 * t + i) 5 (0 : Int32))
set_option maxHeartbeats 4000000 in
set_option maxRecDepth 100000 in
theorem c_X5_showAll (l : Launch) (D : va_G) {r : Nat → Nat} (c : Nat → ClassId) (g : Nat → Int64) (hr : qw_inj r) (S : qw_St) (t : Nat) (i : Nat) (ht : t < 8) (hi : i < 6) : MV l D r c g yX5_showAll wsX5_showAll ({ frames := 0, cells := 0, slots := 0, locals := 0 }) [.ref (r (81 + 8 * t + i))] S (g_X5_showAll S t i) := by
  have hiX5 : ∀ w ∈ wsX50, w ∈ wsX5_showAll := by decide +kernel
  refine wx_of (cc := cX5_showAll) (nL := 1) (ret := none) (lvs := [(0, .ref (r (81 + 8 * t + i)))]) (by decide) rfl rfl (Nat.le_of_ble_eq_true rfl) ?_
  intro p e s m below meth c0 ls hx hb hret hml hts hown hlk hK hP hS hl
  have hP : qw_P D r c g S s.heap := hP
  refine lv_aload_n hx hb dX5_showAll_0 rfl (lv_at hl 0 rfl) ?_
  refine lv_dup hx hb dX5_showAll_1 rfl ?_
  refine wx_get hx hb hts hiX5 hown hK hP (81 + 8 * t + i) (by omega) (qc_wares ht hi) rfl 4 (by decide) (hts (.fieldLink RX5 22 "PriceEdict$Wares" "stock" "I") (by decide +kernel)) rfl dX5_showAll_2 ?_
  refine lv_aload_n hx hb dX5_showAll_5 rfl (lv_at hl 0 rfl) ?_
  refine wx_get hx hb hts hiX5 hown hK hP (81 + 8 * t + i) (by omega) (qc_wares ht hi) rfl 5 (by decide) (hts (.fieldLink RX5 25 "PriceEdict$Wares" "hidden" "I") (by decide +kernel)) rfl dX5_showAll_6 ?_
  refine lv_iadd hx hb dX5_showAll_9 ?_
  refine wx_put hr hx hb hts hiX5 tyX5 tyX5_ok nmX5 hown hK hP hS (81 + 8 * t + i) (by omega) (qc_wares ht hi) rfl 4 (by decide) (hts (.fieldLink RX5 22 "PriceEdict$Wares" "stock" "I") (by decide +kernel)) rfl (by decide +kernel) (fun _ => rfl) (Nat.le_of_ble_eq_true rfl) dX5_showAll_10 (fun H locs hP hS => ?_)
  refine lv_aload_n hx hb dX5_showAll_13 rfl (lv_at hl 0 rfl) ?_
  refine lv_iconst (v := 0) hx hb dX5_showAll_14 (by decide) ?_
  refine wx_put hr hx hb hts hiX5 tyX5 tyX5_ok nmX5 hown hK hP hS (81 + 8 * t + i) (by omega) (qc_wares ht hi) rfl 5 (by decide) (hts (.fieldLink RX5 25 "PriceEdict$Wares" "hidden" "I") (by decide +kernel)) rfl (by decide +kernel) (fun _ => rfl) (Nat.le_of_ble_eq_true rfl) dX5_showAll_15 (fun H locs hP hS => ?_)
  exact wx_vret hx hb hret hlk hK hP hS (by unfold g_X5_showAll; exact rfl) dX5_showAll_18
theorem fr_X5_showAll (S : qw_St) (t i : Nat) {k : Nat} (j : Nat) (h : k ≠ 81 + 8 * t + i) : g_X5_showAll S t i k j = S k j := by
  unfold g_X5_showAll
  repeat' (first | rfl | rw [up2_ne _ _ (Or.inl h)] | split)
def f_X5_weightOfPiece (S : qw_St) (t : Nat) (i : Nat) (a1 : Int32) : Int32 := (if (S (81 + 8 * t + i) 1) ≤ 0 then (100 : Int32) else (if (S (81 + 8 * t + i) 1) ≤ a1 then (100 : Int32) else ((a1 * (100 : Int32)) / (S (81 + 8 * t + i) 1))))
set_option maxHeartbeats 4000000 in
set_option maxRecDepth 100000 in
theorem c_X5_weightOfPiece (l : Launch) (D : va_G) {r : Nat → Nat} (c : Nat → ClassId) (g : Nat → Int64) (hr : qw_inj r) (S : qw_St) (t : Nat) (i : Nat) (a1 : Int32) (ht : t < 8) (hi : i < 6) : MI l D r c g yX5_weightOfPiece wsX5_weightOfPiece ({ frames := 0, cells := 0, slots := 0, locals := 0 }) [.ref (r (81 + 8 * t + i)), .int a1] S (f_X5_weightOfPiece S t i a1) S := by
  have hiX5 : ∀ w ∈ wsX50, w ∈ wsX5_weightOfPiece := by decide +kernel
  refine wx_of (cc := cX5_weightOfPiece) (nL := 2) (ret := (some .int)) (lvs := [(0, .ref (r (81 + 8 * t + i))), (1, .int a1)]) (by decide) rfl rfl (Nat.le_of_ble_eq_true rfl) ?_
  intro p e s m below meth c0 ls hx hb hret hml hts hown hlk hK hP hS hl
  have hP : qw_P D r c g S s.heap := hP
  refine lv_aload_n hx hb dX5_weightOfPiece_0 rfl (lv_at hl 0 rfl) ?_
  refine wx_get hx hb hts hiX5 hown hK hP (81 + 8 * t + i) (by omega) (qc_wares ht hi) rfl 1 (by decide) (hts (.fieldLink RX5 13 "PriceEdict$Wares" "bid" "I") (by decide +kernel)) rfl dX5_weightOfPiece_1 ?_
  refine lv_if_le (tgt := 27) hx hb dX5_weightOfPiece_4 (by decide) (fun c_4 => ?_) (fun c_4 => ?_)
  · refine lv_bipush (v := 100) hx hb dX5_weightOfPiece_27 (by decide) ?_
    exact wx_iret hx hb hret hlk hK hP hS (by unfold f_X5_weightOfPiece; rw [if_pos c_4]) rfl dX5_weightOfPiece_29
  · refine lv_iload_n hx hb dX5_weightOfPiece_7 rfl (lv_at hl 1 rfl) ?_
    refine lv_aload_n hx hb dX5_weightOfPiece_8 rfl (lv_at hl 0 rfl) ?_
    refine wx_get hx hb hts hiX5 hown hK hP (81 + 8 * t + i) (by omega) (qc_wares ht hi) rfl 1 (by decide) (hts (.fieldLink RX5 13 "PriceEdict$Wares" "bid" "I") (by decide +kernel)) rfl dX5_weightOfPiece_9 ?_
    refine lv_icmp_ge (tgt := 27) hx hb dX5_weightOfPiece_12 (by decide) (fun c_12 => ?_) (fun c_12 => ?_)
    · refine lv_bipush (v := 100) hx hb dX5_weightOfPiece_27 (by decide) ?_
      exact wx_iret hx hb hret hlk hK hP hS (by unfold f_X5_weightOfPiece; rw [if_neg c_4, if_pos c_12]) rfl dX5_weightOfPiece_29
    · refine lv_iload_n hx hb dX5_weightOfPiece_15 rfl (lv_at hl 1 rfl) ?_
      refine lv_bipush (v := 100) hx hb dX5_weightOfPiece_16 (by decide) ?_
      refine lv_imul hx hb dX5_weightOfPiece_18 ?_
      refine lv_aload_n hx hb dX5_weightOfPiece_19 rfl (lv_at hl 0 rfl) ?_
      refine wx_get hx hb hts hiX5 hown hK hP (81 + 8 * t + i) (by omega) (qc_wares ht hi) rfl 1 (by decide) (hts (.fieldLink RX5 13 "PriceEdict$Wares" "bid" "I") (by decide +kernel)) rfl dX5_weightOfPiece_20 ?_
      refine lv_idiv hx hb dX5_weightOfPiece_23 (qi_ne0 c_4) ?_
      refine lv_goto (tgt := 29) hx hb dX5_weightOfPiece_24 (by decide) ?_
      exact wx_iret hx hb hret hlk hK hP hS (by unfold f_X5_weightOfPiece; rw [if_neg c_4, if_neg c_12]) rfl dX5_weightOfPiece_29
def f_X5_hundredthsUp (a0 : Int32) (a1 : Int32) : Int32 := (((a0 * a1) + (99 : Int32)) / (100 : Int32))
set_option maxHeartbeats 4000000 in
set_option maxRecDepth 100000 in
theorem c_X5_hundredthsUp (l : Launch) (D : va_G) {r : Nat → Nat} (c : Nat → ClassId) (g : Nat → Int64) (hr : qw_inj r) (S : qw_St) (a0 : Int32) (a1 : Int32) : MI l D r c g yX5_hundredthsUp wsX5_hundredthsUp ({ frames := 0, cells := 0, slots := 0, locals := 0 }) [.int a0, .int a1] S (f_X5_hundredthsUp a0 a1) S := by
  refine wx_of (cc := cX5_hundredthsUp) (nL := 2) (ret := (some .int)) (lvs := [(0, .int a0), (1, .int a1)]) (by decide) rfl rfl (Nat.le_of_ble_eq_true rfl) ?_
  intro p e s m below meth c0 ls hx hb hret hml hts hown hlk hK hP hS hl
  have hP : qw_P D r c g S s.heap := hP
  refine lv_iload_n hx hb dX5_hundredthsUp_0 rfl (lv_at hl 0 rfl) ?_
  refine lv_iload_n hx hb dX5_hundredthsUp_1 rfl (lv_at hl 1 rfl) ?_
  refine lv_imul hx hb dX5_hundredthsUp_2 ?_
  refine lv_bipush (v := 99) hx hb dX5_hundredthsUp_3 (by decide) ?_
  refine lv_iadd hx hb dX5_hundredthsUp_5 ?_
  refine lv_bipush (v := 100) hx hb dX5_hundredthsUp_6 (by decide) ?_
  refine lv_idiv hx hb dX5_hundredthsUp_8 (by decide) ?_
  exact wx_iret hx hb hret hlk hK hP hS (by unfold f_X5_hundredthsUp; exact rfl) rfl dX5_hundredthsUp_9
def g_X5_sell (S : qw_St) (t : Nat) (i : Nat) (a1 : Int32) : qw_St := (up2 (up2 (up2 (up2 S (81 + 8 * t + i) 4 ((S (81 + 8 * t + i) 4) - (if (S (81 + 8 * t + i) 3) < (S (81 + 8 * t + i) 4) then (S (81 + 8 * t + i) 3) else (S (81 + 8 * t + i) 4)))) (81 + 8 * t + i) 7 ((S (81 + 8 * t + i) 7) + (if (S (81 + 8 * t + i) 3) < (S (81 + 8 * t + i) 4) then (S (81 + 8 * t + i) 3) else (S (81 + 8 * t + i) 4)))) (81 + 8 * t + i) 9 ((S (81 + 8 * t + i) 9) + ((if (S (81 + 8 * t + i) 3) < (S (81 + 8 * t + i) 4) then (S (81 + 8 * t + i) 3) else (S (81 + 8 * t + i) 4)) * a1))) (81 + 8 * t + i) 10 ((S (81 + 8 * t + i) 10) + ((if (S (81 + 8 * t + i) 3) < (S (81 + 8 * t + i) 4) then (S (81 + 8 * t + i) 3) else (S (81 + 8 * t + i) 4)) * (f_X5_weightOfPiece (up2 (up2 (up2 S (81 + 8 * t + i) 4 ((S (81 + 8 * t + i) 4) - (if (S (81 + 8 * t + i) 3) < (S (81 + 8 * t + i) 4) then (S (81 + 8 * t + i) 3) else (S (81 + 8 * t + i) 4)))) (81 + 8 * t + i) 7 ((S (81 + 8 * t + i) 7) + (if (S (81 + 8 * t + i) 3) < (S (81 + 8 * t + i) 4) then (S (81 + 8 * t + i) 3) else (S (81 + 8 * t + i) 4)))) (81 + 8 * t + i) 9 ((S (81 + 8 * t + i) 9) + ((if (S (81 + 8 * t + i) 3) < (S (81 + 8 * t + i) 4) then (S (81 + 8 * t + i) 3) else (S (81 + 8 * t + i) 4)) * a1))) t i a1))))
set_option maxHeartbeats 4000000 in
set_option maxRecDepth 100000 in
theorem c_X5_sell (l : Launch) (D : va_G) {r : Nat → Nat} (c : Nat → ClassId) (g : Nat → Int64) (hr : qw_inj r) (S : qw_St) (t : Nat) (i : Nat) (a1 : Int32) (ht : t < 8) (hi : i < 6) : MV l D r c g yX5_sell wsX5_sell ({ frames := 1, cells := 0, slots := 0, locals := 21 }) [.ref (r (81 + 8 * t + i)), .int a1] S (g_X5_sell S t i a1) := by
  have hiX5 : ∀ w ∈ wsX50, w ∈ wsX5_sell := by decide +kernel
  refine wx_of (cc := cX5_sell) (nL := 3) (ret := none) (lvs := [(0, .ref (r (81 + 8 * t + i))), (1, .int a1)]) (by decide) rfl rfl (Nat.le_of_ble_eq_true rfl) ?_
  intro p e s m below meth c0 ls hx hb hret hml hts hown hlk hK hP hS hl
  have hP : qw_P D r c g S s.heap := hP
  refine lv_aload_n hx hb dX5_sell_0 rfl (lv_at hl 0 rfl) ?_
  refine wx_get hx hb hts hiX5 hown hK hP (81 + 8 * t + i) (by omega) (qc_wares ht hi) rfl 4 (by decide) (hts (.fieldLink RX5 22 "PriceEdict$Wares" "stock" "I") (by decide +kernel)) rfl dX5_sell_1 ?_
  refine lv_aload_n hx hb dX5_sell_4 rfl (lv_at hl 0 rfl) ?_
  refine wx_get hx hb hts hiX5 hown hK hP (81 + 8 * t + i) (by omega) (qc_wares ht hi) rfl 3 (by decide) (hts (.fieldLink RX5 19 "PriceEdict$Wares" "want" "I") (by decide +kernel)) rfl dX5_sell_5 ?_
  refine va_mmin hx hb (hml.trans hl.1.symm) hown (hts (.methodLink RX5 59 Lib.Math.min.name) (by decide +kernel)) (hts (.static Lib.Math.min.name) (by decide +kernel)) (hts (.initialized "java/lang/Math") (by decide +kernel)) (hts (.code Lib.Math.min.name Lib.Math.min.code 2 (some .int)) (by decide +kernel)) (Nat.le_of_ble_eq_true rfl) (Nat.le_of_ble_eq_true rfl) (Nat.zero_le _) (Nat.zero_le _) dX5_sell_8 ?_
  refine lv_topi (fun x_1 ex_1 => ?_)
  refine lv_istore_n (lv' := [(2, .int x_1), (0, .ref (r (81 + 8 * t + i))), (1, .int a1)]) hx hb dX5_sell_11 rfl hl (by decide) rfl (fun ls hl => ?_)
  refine lv_aload_n hx hb dX5_sell_12 rfl (lv_at hl 1 rfl) ?_
  refine lv_dup hx hb dX5_sell_13 rfl ?_
  refine wx_get hx hb hts hiX5 hown hK hP (81 + 8 * t + i) (by omega) (qc_wares ht hi) rfl 4 (by decide) (hts (.fieldLink RX5 22 "PriceEdict$Wares" "stock" "I") (by decide +kernel)) rfl dX5_sell_14 ?_
  refine lv_iload_n hx hb dX5_sell_17 rfl (lv_at hl 0 rfl) ?_
  refine lv_isub hx hb dX5_sell_18 ?_
  refine wx_put hr hx hb hts hiX5 tyX5 tyX5_ok nmX5 hown hK hP hS (81 + 8 * t + i) (by omega) (qc_wares ht hi) rfl 4 (by decide) (hts (.fieldLink RX5 22 "PriceEdict$Wares" "stock" "I") (by decide +kernel)) rfl (by decide +kernel) (fun _ => rfl) (Nat.le_of_ble_eq_true rfl) dX5_sell_19 (fun H locs hP hS => ?_)
  refine lv_aload_n hx hb dX5_sell_22 rfl (lv_at hl 1 rfl) ?_
  refine lv_dup hx hb dX5_sell_23 rfl ?_
  refine wx_get hx hb hts hiX5 hown hK hP (81 + 8 * t + i) (by omega) (qc_wares ht hi) rfl 7 (by decide) (hts (.fieldLink RX5 31 "PriceEdict$Wares" "sold" "I") (by decide +kernel)) rfl dX5_sell_24 ?_
  refine lv_tope (S (81 + 8 * t + i) 7) ((up2_ne _ _ (Or.inr (by decide)))) ?_
  refine lv_iload_n hx hb dX5_sell_27 rfl (lv_at hl 0 rfl) ?_
  refine lv_iadd hx hb dX5_sell_28 ?_
  refine wx_put hr hx hb hts hiX5 tyX5 tyX5_ok nmX5 hown hK hP hS (81 + 8 * t + i) (by omega) (qc_wares ht hi) rfl 7 (by decide) (hts (.fieldLink RX5 31 "PriceEdict$Wares" "sold" "I") (by decide +kernel)) rfl (by decide +kernel) (fun _ => rfl) (Nat.le_of_ble_eq_true rfl) dX5_sell_29 (fun H locs hP hS => ?_)
  refine lv_aload_n hx hb dX5_sell_32 rfl (lv_at hl 1 rfl) ?_
  refine lv_dup hx hb dX5_sell_33 rfl ?_
  refine wx_get hx hb hts hiX5 hown hK hP (81 + 8 * t + i) (by omega) (qc_wares ht hi) rfl 9 (by decide) (hts (.fieldLink RX5 37 "PriceEdict$Wares" "paid" "I") (by decide +kernel)) rfl dX5_sell_34 ?_
  refine lv_tope (S (81 + 8 * t + i) 9) ((up2_ne _ _ (Or.inr (by decide))).trans ((up2_ne _ _ (Or.inr (by decide))))) ?_
  refine lv_iload_n hx hb dX5_sell_37 rfl (lv_at hl 0 rfl) ?_
  refine lv_iload_n hx hb dX5_sell_38 rfl (lv_at hl 2 rfl) ?_
  refine lv_imul hx hb dX5_sell_39 ?_
  refine lv_iadd hx hb dX5_sell_40 ?_
  refine wx_put hr hx hb hts hiX5 tyX5 tyX5_ok nmX5 hown hK hP hS (81 + 8 * t + i) (by omega) (qc_wares ht hi) rfl 9 (by decide) (hts (.fieldLink RX5 37 "PriceEdict$Wares" "paid" "I") (by decide +kernel)) rfl (by decide +kernel) (fun _ => rfl) (Nat.le_of_ble_eq_true rfl) dX5_sell_41 (fun H locs hP hS => ?_)
  refine lv_aload_n hx hb dX5_sell_44 rfl (lv_at hl 1 rfl) ?_
  refine lv_dup hx hb dX5_sell_45 rfl ?_
  refine wx_get hx hb hts hiX5 hown hK hP (81 + 8 * t + i) (by omega) (qc_wares ht hi) rfl 10 (by decide) (hts (.fieldLink RX5 40 "PriceEdict$Wares" "weight" "I") (by decide +kernel)) rfl dX5_sell_46 ?_
  refine lv_tope (S (81 + 8 * t + i) 10) ((up2_ne _ _ (Or.inr (by decide))).trans ((up2_ne _ _ (Or.inr (by decide))).trans ((up2_ne _ _ (Or.inr (by decide)))))) ?_
  refine lv_iload_n hx hb dX5_sell_49 rfl (lv_at hl 0 rfl) ?_
  refine lv_aload_n hx hb dX5_sell_50 rfl (lv_at hl 1 rfl) ?_
  refine lv_iload_n hx hb dX5_sell_51 rfl (lv_at hl 2 rfl) ?_
  refine wc_iV (k := (81 + 8 * t + i)) (C := RX5) (As := [.int a1]) (rest := [.int x_1, .int (S (81 + 8 * t + i) 10), .ref (r (81 + 8 * t + i))]) ⟨hx, hb, hml, hown, hts⟩ (c_X5_weightOfPiece l D c g hr (up2 (up2 (up2 S (81 + 8 * t + i) 4 ((S (81 + 8 * t + i) 4) - x_1)) (81 + 8 * t + i) 7 ((S (81 + 8 * t + i) 7) + x_1)) (81 + 8 * t + i) 9 ((S (81 + 8 * t + i) 9) + (x_1 * a1))) t i a1 ht hi) (cwV 1 hts gX5_sell_X5_weightOfPiece rfl rfl rfl (by decide +kernel) ⟨Nat.le_of_ble_eq_true rfl, Nat.le_of_ble_eq_true rfl⟩) (wx_recv hK hP (by omega) (qc_wares ht hi) rfl) hK hP hS (fun _ h => h) rfl hl.1 rfl (lv_room (Nat.le_of_ble_eq_true rfl)) dX5_sell_52 ⟨Nat.zero_le _, Nat.zero_le _⟩ (fun H locs hP hS => ?_)
  refine lv_imul hx hb dX5_sell_55 ?_
  refine lv_iadd hx hb dX5_sell_56 ?_
  refine wx_put hr hx hb hts hiX5 tyX5 tyX5_ok nmX5 hown hK hP hS (81 + 8 * t + i) (by omega) (qc_wares ht hi) rfl 10 (by decide) (hts (.fieldLink RX5 40 "PriceEdict$Wares" "weight" "I") (by decide +kernel)) rfl (by decide +kernel) (fun _ => rfl) (Nat.le_of_ble_eq_true rfl) dX5_sell_57 (fun H locs hP hS => ?_)
  exact wx_vret hx hb hret hlk hK hP hS (by subst ex_1; unfold g_X5_sell; exact rfl) dX5_sell_60
theorem fr_X5_sell (S : qw_St) (t i : Nat) (a1 : Int32) {k : Nat} (j : Nat) (h : k ≠ 81 + 8 * t + i) : g_X5_sell S t i a1 k j = S k j := by
  unfold g_X5_sell
  repeat' (first | rfl | rw [up2_ne _ _ (Or.inl h)] | split)
def g_X5_rot (S : qw_St) (t : Nat) (i : Nat) (a1 : Int32) : qw_St := (up2 (up2 (up2 S (81 + 8 * t + i) 4 ((S (81 + 8 * t + i) 4) - (f_X5_hundredthsUp (S (81 + 8 * t + i) 4) a1))) (81 + 8 * t + i) 5 ((S (81 + 8 * t + i) 5) - (f_X5_hundredthsUp (S (81 + 8 * t + i) 5) a1))) (81 + 8 * t + i) 8 ((S (81 + 8 * t + i) 8) + ((f_X5_hundredthsUp (S (81 + 8 * t + i) 4) a1) + (f_X5_hundredthsUp (S (81 + 8 * t + i) 5) a1))))
set_option maxHeartbeats 4000000 in
set_option maxRecDepth 100000 in
theorem c_X5_rot (l : Launch) (D : va_G) {r : Nat → Nat} (c : Nat → ClassId) (g : Nat → Int64) (hr : qw_inj r) (S : qw_St) (t : Nat) (i : Nat) (a1 : Int32) (ht : t < 8) (hi : i < 6) : MV l D r c g yX5_rot wsX5_rot ({ frames := 1, cells := 0, slots := 0, locals := 21 }) [.ref (r (81 + 8 * t + i)), .int a1] S (g_X5_rot S t i a1) := by
  have hiX5 : ∀ w ∈ wsX50, w ∈ wsX5_rot := by decide +kernel
  refine wx_of (cc := cX5_rot) (nL := 4) (ret := none) (lvs := [(0, .ref (r (81 + 8 * t + i))), (1, .int a1)]) (by decide) rfl rfl (Nat.le_of_ble_eq_true rfl) ?_
  intro p e s m below meth c0 ls hx hb hret hml hts hown hlk hK hP hS hl
  have hP : qw_P D r c g S s.heap := hP
  refine lv_aload_n hx hb dX5_rot_0 rfl (lv_at hl 0 rfl) ?_
  refine wx_get hx hb hts hiX5 hown hK hP (81 + 8 * t + i) (by omega) (qc_wares ht hi) rfl 4 (by decide) (hts (.fieldLink RX5 22 "PriceEdict$Wares" "stock" "I") (by decide +kernel)) rfl dX5_rot_1 ?_
  refine lv_iload_n hx hb dX5_rot_4 rfl (lv_at hl 1 rfl) ?_
  refine wc_iS (As := [.int (S (81 + 8 * t + i) 4), .int a1]) (rest := []) ⟨hx, hb, hml, hown, hts⟩ (c_X5_hundredthsUp l D c g hr S (S (81 + 8 * t + i) 4) a1) (va_cwS 2 hts gX5_rot_X5_hundredthsUp rfl rfl rfl (by decide +kernel) ⟨Nat.le_of_ble_eq_true rfl, Nat.le_of_ble_eq_true rfl⟩) hK hP hS (fun _ h => h) rfl hl.1 rfl (lv_room (Nat.le_of_ble_eq_true rfl)) dX5_rot_5 ⟨Nat.zero_le _, Nat.zero_le _⟩ (fun H locs hP hS => ?_)
  refine lv_topi (fun x_1 ex_1 => ?_)
  refine lv_istore_n (lv' := [(2, .int x_1), (0, .ref (r (81 + 8 * t + i))), (1, .int a1)]) hx hb dX5_rot_8 rfl hl (by decide) rfl (fun ls hl => ?_)
  refine lv_aload_n hx hb dX5_rot_9 rfl (lv_at hl 1 rfl) ?_
  refine wx_get hx hb hts hiX5 hown hK hP (81 + 8 * t + i) (by omega) (qc_wares ht hi) rfl 5 (by decide) (hts (.fieldLink RX5 25 "PriceEdict$Wares" "hidden" "I") (by decide +kernel)) rfl dX5_rot_10 ?_
  refine lv_iload_n hx hb dX5_rot_13 rfl (lv_at hl 2 rfl) ?_
  refine wc_iS (As := [.int (S (81 + 8 * t + i) 5), .int a1]) (rest := []) ⟨hx, hb, hml, hown, hts⟩ (c_X5_hundredthsUp l D c g hr S (S (81 + 8 * t + i) 5) a1) (va_cwS 2 hts gX5_rot_X5_hundredthsUp rfl rfl rfl (by decide +kernel) ⟨Nat.le_of_ble_eq_true rfl, Nat.le_of_ble_eq_true rfl⟩) hK hP hS (fun _ h => h) rfl hl.1 rfl (lv_room (Nat.le_of_ble_eq_true rfl)) dX5_rot_14 ⟨Nat.zero_le _, Nat.zero_le _⟩ (fun H locs hP hS => ?_)
  refine lv_topi (fun x_2 ex_2 => ?_)
  refine lv_istore_n (lv' := [(3, .int x_2), (2, .int x_1), (0, .ref (r (81 + 8 * t + i))), (1, .int a1)]) hx hb dX5_rot_17 rfl hl (by decide) rfl (fun ls hl => ?_)
  refine lv_aload_n hx hb dX5_rot_18 rfl (lv_at hl 2 rfl) ?_
  refine lv_dup hx hb dX5_rot_19 rfl ?_
  refine wx_get hx hb hts hiX5 hown hK hP (81 + 8 * t + i) (by omega) (qc_wares ht hi) rfl 4 (by decide) (hts (.fieldLink RX5 22 "PriceEdict$Wares" "stock" "I") (by decide +kernel)) rfl dX5_rot_20 ?_
  refine lv_iload_n hx hb dX5_rot_23 rfl (lv_at hl 1 rfl) ?_
  refine lv_isub hx hb dX5_rot_24 ?_
  refine wx_put hr hx hb hts hiX5 tyX5 tyX5_ok nmX5 hown hK hP hS (81 + 8 * t + i) (by omega) (qc_wares ht hi) rfl 4 (by decide) (hts (.fieldLink RX5 22 "PriceEdict$Wares" "stock" "I") (by decide +kernel)) rfl (by decide +kernel) (fun _ => rfl) (Nat.le_of_ble_eq_true rfl) dX5_rot_25 (fun H locs hP hS => ?_)
  refine lv_aload_n hx hb dX5_rot_28 rfl (lv_at hl 2 rfl) ?_
  refine lv_dup hx hb dX5_rot_29 rfl ?_
  refine wx_get hx hb hts hiX5 hown hK hP (81 + 8 * t + i) (by omega) (qc_wares ht hi) rfl 5 (by decide) (hts (.fieldLink RX5 25 "PriceEdict$Wares" "hidden" "I") (by decide +kernel)) rfl dX5_rot_30 ?_
  refine lv_tope (S (81 + 8 * t + i) 5) ((up2_ne _ _ (Or.inr (by decide)))) ?_
  refine lv_iload_n hx hb dX5_rot_33 rfl (lv_at hl 0 rfl) ?_
  refine lv_isub hx hb dX5_rot_34 ?_
  refine wx_put hr hx hb hts hiX5 tyX5 tyX5_ok nmX5 hown hK hP hS (81 + 8 * t + i) (by omega) (qc_wares ht hi) rfl 5 (by decide) (hts (.fieldLink RX5 25 "PriceEdict$Wares" "hidden" "I") (by decide +kernel)) rfl (by decide +kernel) (fun _ => rfl) (Nat.le_of_ble_eq_true rfl) dX5_rot_35 (fun H locs hP hS => ?_)
  refine lv_aload_n hx hb dX5_rot_38 rfl (lv_at hl 2 rfl) ?_
  refine lv_dup hx hb dX5_rot_39 rfl ?_
  refine wx_get hx hb hts hiX5 hown hK hP (81 + 8 * t + i) (by omega) (qc_wares ht hi) rfl 8 (by decide) (hts (.fieldLink RX5 34 "PriceEdict$Wares" "spoilt" "I") (by decide +kernel)) rfl dX5_rot_40 ?_
  refine lv_tope (S (81 + 8 * t + i) 8) ((up2_ne _ _ (Or.inr (by decide))).trans ((up2_ne _ _ (Or.inr (by decide))))) ?_
  refine lv_iload_n hx hb dX5_rot_43 rfl (lv_at hl 1 rfl) ?_
  refine lv_iload_n hx hb dX5_rot_44 rfl (lv_at hl 0 rfl) ?_
  refine lv_iadd hx hb dX5_rot_45 ?_
  refine lv_iadd hx hb dX5_rot_46 ?_
  refine wx_put hr hx hb hts hiX5 tyX5 tyX5_ok nmX5 hown hK hP hS (81 + 8 * t + i) (by omega) (qc_wares ht hi) rfl 8 (by decide) (hts (.fieldLink RX5 34 "PriceEdict$Wares" "spoilt" "I") (by decide +kernel)) rfl (by decide +kernel) (fun _ => rfl) (Nat.le_of_ble_eq_true rfl) dX5_rot_47 (fun H locs hP hS => ?_)
  exact wx_vret hx hb hret hlk hK hP hS (by subst ex_2; subst ex_1; unfold g_X5_rot; exact rfl) dX5_rot_50
theorem fr_X5_rot (S : qw_St) (t i : Nat) (a1 : Int32) {k : Nat} (j : Nat) (h : k ≠ 81 + 8 * t + i) : g_X5_rot S t i a1 k j = S k j := by
  unfold g_X5_rot
  repeat' (first | rfl | rw [up2_ne _ _ (Or.inl h)] | split)
def g_X5_passWeek (S : qw_St) (t : Nat) (i : Nat) (a1 : Int32) (a2 : Int32) (a3 : Int32) : qw_St := (g_X5_rot (g_X5_sell (if ((if a1 < ((S (81 + 8 * t + i) 0) + a2) then S else (g_X5_bring S t i)) (81 + 8 * t + i) 1) ≤ a1 then (g_X5_showAll (if a1 < ((S (81 + 8 * t + i) 0) + a2) then S else (g_X5_bring S t i)) t i) else (g_X5_hideHalf (if a1 < ((S (81 + 8 * t + i) 0) + a2) then S else (g_X5_bring S t i)) t i)) t i a1) t i a3)
set_option maxHeartbeats 4000000 in
set_option maxRecDepth 100000 in
theorem c_X5_passWeek (l : Launch) (D : va_G) {r : Nat → Nat} (c : Nat → ClassId) (g : Nat → Int64) (hr : qw_inj r) (S : qw_St) (t : Nat) (i : Nat) (a1 : Int32) (a2 : Int32) (a3 : Int32) (ht : t < 8) (hi : i < 6) : MV l D r c g yX5_passWeek wsX5_passWeek ({ frames := 2, cells := 0, slots := 0, locals := 44 }) [.ref (r (81 + 8 * t + i)), .int a1, .int a2, .int a3] S (g_X5_passWeek S t i a1 a2 a3) := by
  have hiX5 : ∀ w ∈ wsX50, w ∈ wsX5_passWeek := by decide +kernel
  refine wx_of (cc := cX5_passWeek) (nL := 4) (ret := none) (lvs := [(0, .ref (r (81 + 8 * t + i))), (1, .int a1), (2, .int a2), (3, .int a3)]) (by decide) rfl rfl (Nat.le_of_ble_eq_true rfl) ?_
  intro p e s m below meth c0 ls hx hb hret hml hts hown hlk hK hP hS hl
  have hP : qw_P D r c g S s.heap := hP
  have J_14 : ∀ (S_1 : qw_St) (H : Heap) (locs : List Loc) (ls : Array Slot) (eS_1 : S_1 = (if a1 < ((S (81 + 8 * t + i) 0) + a2) then S else (g_X5_bring S t i))), qw_P D r c g S_1 H → va_S (qw_A r) s.heap H locs → lv_has ls 4 [(0, .ref (r (81 + 8 * t + i))), (1, .int a1), (2, .int a2), (3, .int a3)] → W p l e ({ frames := 2, cells := 0, slots := 0, locals := 44 }) s m [.ref (r (81 + 8 * t + i)), .int a1, .int a2, .int a3].toArray below meth c0 H locs 0 0 (MQ below (qw_Qv D r c g (g_X5_passWeek S t i a1 a2 a3)) [.ref (r (81 + 8 * t + i)), .int a1, .int a2, .int a3].toArray s 0 0 (qw_A r)) (F0 m 14 ls []) := by
    intro S_1 H locs ls eS_1 hP hS hl
    have J_33 : ∀ (S_2 : qw_St) (H : Heap) (locs : List Loc) (ls : Array Slot) (eS_2 : S_2 = (if (S_1 (81 + 8 * t + i) 1) ≤ a1 then (g_X5_showAll S_1 t i) else (g_X5_hideHalf S_1 t i))), qw_P D r c g S_2 H → va_S (qw_A r) s.heap H locs → lv_has ls 4 [(0, .ref (r (81 + 8 * t + i))), (1, .int a1), (2, .int a2), (3, .int a3)] → W p l e ({ frames := 2, cells := 0, slots := 0, locals := 44 }) s m [.ref (r (81 + 8 * t + i)), .int a1, .int a2, .int a3].toArray below meth c0 H locs 0 0 (MQ below (qw_Qv D r c g (g_X5_passWeek S t i a1 a2 a3)) [.ref (r (81 + 8 * t + i)), .int a1, .int a2, .int a3].toArray s 0 0 (qw_A r)) (F0 m 33 ls []) := by
      intro S_2 H locs ls eS_2 hP hS hl
      refine lv_aload_n hx hb dX5_passWeek_33 rfl (lv_at hl 0 rfl) ?_
      refine lv_iload_n hx hb dX5_passWeek_34 rfl (lv_at hl 1 rfl) ?_
      refine wc_vV (k := (81 + 8 * t + i)) (C := RX5) (As := [.int a1]) (rest := []) ⟨hx, hb, hml, hown, hts⟩ (c_X5_sell l D c g hr S_2 t i a1 ht hi) (cwV 1 hts gX5_passWeek_X5_sell rfl rfl rfl (by decide +kernel) ⟨Nat.le_of_ble_eq_true rfl, Nat.le_of_ble_eq_true rfl⟩) (wx_recv hK hP (by omega) (qc_wares ht hi) rfl) hK hP hS (fun _ h => h) rfl hl.1 rfl (lv_room (Nat.le_of_ble_eq_true rfl)) dX5_passWeek_35 ⟨Nat.zero_le _, Nat.zero_le _⟩ (fun H locs hP hS => ?_)
      refine lv_aload_n hx hb dX5_passWeek_38 rfl (lv_at hl 0 rfl) ?_
      refine lv_iload_n hx hb dX5_passWeek_39 rfl (lv_at hl 3 rfl) ?_
      refine wc_vV (k := (81 + 8 * t + i)) (C := RX5) (As := [.int a3]) (rest := []) ⟨hx, hb, hml, hown, hts⟩ (c_X5_rot l D c g hr (g_X5_sell S_2 t i a1) t i a3 ht hi) (cwV 1 hts gX5_passWeek_X5_rot rfl rfl rfl (by decide +kernel) ⟨Nat.le_of_ble_eq_true rfl, Nat.le_of_ble_eq_true rfl⟩) (wx_recv hK hP (by omega) (qc_wares ht hi) rfl) hK hP hS (fun _ h => h) rfl hl.1 rfl (lv_room (Nat.le_of_ble_eq_true rfl)) dX5_passWeek_40 ⟨Nat.zero_le _, Nat.zero_le _⟩ (fun H locs hP hS => ?_)
      exact wx_vret hx hb hret hlk hK hP hS (by subst eS_2; subst eS_1; unfold g_X5_passWeek; exact rfl) dX5_passWeek_43
    refine lv_iload_n hx hb dX5_passWeek_14 rfl (lv_at hl 1 rfl) ?_
    refine lv_aload_n hx hb dX5_passWeek_15 rfl (lv_at hl 0 rfl) ?_
    refine wx_get hx hb hts hiX5 hown hK hP (81 + 8 * t + i) (by omega) (qc_wares ht hi) rfl 1 (by decide) (hts (.fieldLink RX5 13 "PriceEdict$Wares" "bid" "I") (by decide +kernel)) rfl dX5_passWeek_16 ?_
    refine lv_icmp_ge (tgt := 29) hx hb dX5_passWeek_19 (by decide) (fun c_19 => ?_) (fun c_19 => ?_)
    · refine lv_aload_n hx hb dX5_passWeek_29 rfl (lv_at hl 0 rfl) ?_
      refine wc_vV (k := (81 + 8 * t + i)) (C := RX5) (As := []) (rest := []) ⟨hx, hb, hml, hown, hts⟩ (c_X5_showAll l D c g hr S_1 t i ht hi) (cwV 0 hts gX5_passWeek_X5_showAll rfl rfl rfl (by decide +kernel) ⟨Nat.le_of_ble_eq_true rfl, Nat.le_of_ble_eq_true rfl⟩) (wx_recv hK hP (by omega) (qc_wares ht hi) rfl) hK hP hS (fun _ h => h) rfl hl.1 rfl (lv_room (Nat.le_of_ble_eq_true rfl)) dX5_passWeek_30 ⟨Nat.zero_le _, Nat.zero_le _⟩ (fun H locs hP hS => ?_)
      exact J_33 _ _ _ _ (by rw [if_pos c_19]) hP hS (lv_sub hl [0, 1, 2, 3] rfl)
    · refine lv_aload_n hx hb dX5_passWeek_22 rfl (lv_at hl 0 rfl) ?_
      refine wc_vV (k := (81 + 8 * t + i)) (C := RX5) (As := []) (rest := []) ⟨hx, hb, hml, hown, hts⟩ (c_X5_hideHalf l D c g hr S_1 t i ht hi) (cwV 0 hts gX5_passWeek_X5_hideHalf rfl rfl rfl (by decide +kernel) ⟨Nat.le_of_ble_eq_true rfl, Nat.le_of_ble_eq_true rfl⟩) (wx_recv hK hP (by omega) (qc_wares ht hi) rfl) hK hP hS (fun _ h => h) rfl hl.1 rfl (lv_room (Nat.le_of_ble_eq_true rfl)) dX5_passWeek_23 ⟨Nat.zero_le _, Nat.zero_le _⟩ (fun H locs hP hS => ?_)
      refine lv_goto (tgt := 33) hx hb dX5_passWeek_26 (by decide) ?_
      exact J_33 _ _ _ _ (by rw [if_neg c_19]) hP hS (lv_sub hl [0, 1, 2, 3] rfl)
  refine lv_iload_n hx hb dX5_passWeek_0 rfl (lv_at hl 1 rfl) ?_
  refine lv_aload_n hx hb dX5_passWeek_1 rfl (lv_at hl 0 rfl) ?_
  refine wx_get hx hb hts hiX5 hown hK hP (81 + 8 * t + i) (by omega) (qc_wares ht hi) rfl 0 (by decide) (hts (.fieldLink RX5 7 "PriceEdict$Wares" "cost" "I") (by decide +kernel)) rfl dX5_passWeek_2 ?_
  refine lv_iload_n hx hb dX5_passWeek_5 rfl (lv_at hl 2 rfl) ?_
  refine lv_iadd hx hb dX5_passWeek_6 ?_
  refine lv_icmp_lt (tgt := 14) hx hb dX5_passWeek_7 (by decide) (fun c_7 => ?_) (fun c_7 => ?_)
  · exact J_14 _ _ _ _ (by rw [if_pos c_7]) hP hS (lv_sub hl [0, 1, 2, 3] rfl)
  · refine lv_aload_n hx hb dX5_passWeek_10 rfl (lv_at hl 0 rfl) ?_
    refine wc_vV (k := (81 + 8 * t + i)) (C := RX5) (As := []) (rest := []) ⟨hx, hb, hml, hown, hts⟩ (c_X5_bring l D c g hr S t i ht hi) (cwV 0 hts gX5_passWeek_X5_bring rfl rfl rfl (by decide +kernel) ⟨Nat.le_of_ble_eq_true rfl, Nat.le_of_ble_eq_true rfl⟩) (wx_recv hK hP (by omega) (qc_wares ht hi) rfl) hK hP hS (fun _ h => h) rfl hl.1 rfl (lv_room (Nat.le_of_ble_eq_true rfl)) dX5_passWeek_11 ⟨Nat.zero_le _, Nat.zero_le _⟩ (fun H locs hP hS => ?_)
    exact J_14 _ _ _ _ (by rw [if_neg c_7]) hP hS (lv_sub hl [0, 1, 2, 3] rfl)
theorem fr_X5_passWeek (S : qw_St) (t i : Nat) (a1 a2 a3 : Int32) {k : Nat} (j : Nat) (h : k ≠ 81 + 8 * t + i) : g_X5_passWeek S t i a1 a2 a3 k j = S k j := by
  unfold g_X5_passWeek
  rw [fr_X5_rot _ _ _ _ _ h, fr_X5_sell _ _ _ _ _ h]
  repeat' (first | rfl | rw [fr_X5_hideHalf _ _ _ _ h] | rw [fr_X5_showAll _ _ _ _ h] | rw [fr_X5_bring _ _ _ _ h] | split)
