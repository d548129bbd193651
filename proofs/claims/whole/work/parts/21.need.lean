/-! The class's own tests of its arguments -/
def ok_X6_needLine (a0 : Int32) : Bool := decide (¬ a0 < 0) && decide (a0 < 30)
def f_X6_needLine (a0 : Int32) : Except String Int32 := if ok_X6_needLine a0 = true then .ok 0 else .error "java/lang/IndexOutOfBoundsException"
set_option maxHeartbeats 4000000 in
set_option maxRecDepth 100000 in
theorem c_X6_needLine (l : Launch) (hlT : l.stackTraces = false) (D : va_G) {r : Nat → Nat} (c : Nat → ClassId) (g : Nat → Int64) (hr : qw_inj r) (S : qw_St) (a0 : Int32) : MXv l D r c g yX6_needLine wsX6_needLine ({ frames := 6, cells := 1, slots := 6, locals := 82 }) [.int a0] S (f_X6_needLine a0) S 1 6 := by
  refine wx_ofX (cc := cX6_needLine) (nL := 1) (ret := none) (lvs := [(0, .int a0)]) (by decide) rfl rfl (Nat.le_of_ble_eq_true rfl) ?_
  intro p e s m below meth c0 ls hx hb hret hml hts hown hlk hK hP hS hl hE hnt
  refine lv_iload_n hx hb dX6_needLine_0 rfl (lv_at hl 0 rfl) ?_
  refine lv_if_lt (tgt := 10) hx hb dX6_needLine_1 (by decide) (fun c_1 => ?_) (fun c_1 => ?_)
  · exact wx_throw (own := RX6) (cls := "java/lang/IndexOutOfBoundsException") (ik := 95) (ic := 99) (is := 221) (text := "there is no such LINE") hx hb hlT hts hown (by decide +kernel) (by decide +kernel) (by decide +kernel) (by decide +kernel) (by decide +kernel) (by decide +kernel) (by decide +kernel) hK hP hS hE (hl.1.trans hml.symm) dX6_needLine_10 dX6_needLine_13 dX6_needLine_14 dX6_needLine_16 dX6_needLine_19 hnt (by decide) (Nat.le_of_ble_eq_true rfl) (Nat.le_of_ble_eq_true rfl) (Nat.le_of_ble_eq_true rfl) hlk (by simp [f_X6_needLine, ok_X6_needLine, c_1]) rfl (Nat.le_refl _) (Nat.le_refl _)
  · refine lv_iload_n hx hb dX6_needLine_4 rfl (lv_at hl 0 rfl) ?_
    refine lv_bipush (v := 30) hx hb dX6_needLine_5 (by decide) ?_
    refine lv_icmp_lt (tgt := 20) hx hb dX6_needLine_7 (by decide) (fun c_7 => ?_) (fun c_7 => ?_)
    · exact wx_xvret (Nat.le_of_ble_eq_true rfl) (Nat.le_of_ble_eq_true rfl) hx hb hret hlk hK hP hS (by simp [f_X6_needLine, ok_X6_needLine, c_1, c_7]) rfl dX6_needLine_20
    · exact wx_throw (own := RX6) (cls := "java/lang/IndexOutOfBoundsException") (ik := 95) (ic := 99) (is := 221) (text := "there is no such LINE") hx hb hlT hts hown (by decide +kernel) (by decide +kernel) (by decide +kernel) (by decide +kernel) (by decide +kernel) (by decide +kernel) (by decide +kernel) hK hP hS hE (hl.1.trans hml.symm) dX6_needLine_10 dX6_needLine_13 dX6_needLine_14 dX6_needLine_16 dX6_needLine_19 hnt (by decide) (Nat.le_of_ble_eq_true rfl) (Nat.le_of_ble_eq_true rfl) (Nat.le_of_ble_eq_true rfl) hlk (by simp [f_X6_needLine, ok_X6_needLine, c_7]) rfl (Nat.le_refl _) (Nat.le_refl _)
