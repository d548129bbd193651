/-! The class's own tests of its arguments -/
def ok_X6_needLine (a0 : Int32) : Bool := decide (¬ a0 < 0) && decide (a0 < 30)
def f_X6_needLine (a0 : Int32) : Except String Int32 := if ok_X6_needLine a0 = true then .ok 0 else .error "java/lang/IndexOutOfBoundsException"
set_option maxHeartbeats 4000000 in
set_option maxRecDepth 100000 in
theorem c_X6_needLine (l : Launch) (hlT : l.stackTraces = false) (D : va_G) {r : Nat → Nat} (c : Nat → ClassId) (g : Nat → Int64) (hr : qw_inj r) (S : qw_St) (a0 : Int32) : MXv l D r c g yX6_needLine wsX6_needLine ({ frames := 6, cells := 1, slots := 6, locals := 82 }) [.int a0] S (f_X6_needLine a0) S 1 6 := by
  refine wx_ofX (cc := cX6_needLine) (nL := 1) (ret := none) (lvs := [(0, .int a0)]) (by decide) rfl rfl (Nat.le_of_ble_eq_true rfl) ?_
  intro p e s m below meth c0 ls hx hb hret hml hts hown hlk hK hP hS hl hE hnt
  refine lv_iload_n hx hb dX6_needLine_0 rfl (lv_at hl 0 rfl) ?_
  refine lv_if_lt (tgt := 10) hx hb dX6_needLine_1 (by decide) (fun c_1 => ?_) (fun c_1 => ?_)
  · exact wx_throw (own := RX6) (cls := "java/lang/IndexOutOfBoundsException") (ik := 92) (ic := 96) (is := 219) (text := "there is no such LINE") hx hb hlT hts hown (by decide +kernel) (by decide +kernel) (by decide +kernel) (by decide +kernel) (by decide +kernel) (by decide +kernel) (by decide +kernel) hK hP hS hE (hl.1.trans hml.symm) dX6_needLine_10 dX6_needLine_13 dX6_needLine_14 dX6_needLine_16 dX6_needLine_19 hnt (by decide) (Nat.le_of_ble_eq_true rfl) (Nat.le_of_ble_eq_true rfl) (Nat.le_of_ble_eq_true rfl) hlk (by simp [f_X6_needLine, ok_X6_needLine, c_1]) rfl (Nat.le_refl _) (Nat.le_refl _)
  · refine lv_iload_n hx hb dX6_needLine_4 rfl (lv_at hl 0 rfl) ?_
    refine lv_bipush (v := 30) hx hb dX6_needLine_5 (by decide) ?_
    refine lv_icmp_lt (tgt := 20) hx hb dX6_needLine_7 (by decide) (fun c_7 => ?_) (fun c_7 => ?_)
    · exact wx_xvret (Nat.le_of_ble_eq_true rfl) (Nat.le_of_ble_eq_true rfl) hx hb hret hlk hK hP hS (by simp [f_X6_needLine, ok_X6_needLine, c_1, c_7]) rfl dX6_needLine_20
    · exact wx_throw (own := RX6) (cls := "java/lang/IndexOutOfBoundsException") (ik := 92) (ic := 96) (is := 219) (text := "there is no such LINE") hx hb hlT hts hown (by decide +kernel) (by decide +kernel) (by decide +kernel) (by decide +kernel) (by decide +kernel) (by decide +kernel) (by decide +kernel) hK hP hS hE (hl.1.trans hml.symm) dX6_needLine_10 dX6_needLine_13 dX6_needLine_14 dX6_needLine_16 dX6_needLine_19 hnt (by decide) (Nat.le_of_ble_eq_true rfl) (Nat.le_of_ble_eq_true rfl) (Nat.le_of_ble_eq_true rfl) hlk (by simp [f_X6_needLine, ok_X6_needLine, c_7]) rfl (Nat.le_refl _) (Nat.le_refl _)
-- more: the others, by mkneed.py
def ok_X6_needThing (a0 : Int32) : Bool := decide (¬ a0 < 0) && decide (a0 < 6)
def f_X6_needThing (a0 : Int32) : Except String Int32 := if ok_X6_needThing a0 = true then .ok 0 else .error "java/lang/IndexOutOfBoundsException"
set_option maxHeartbeats 4000000 in
set_option maxRecDepth 100000 in
theorem c_X6_needThing (l : Launch) (hlT : l.stackTraces = false) (D : va_G) {r : Nat → Nat} (c : Nat → ClassId) (g : Nat → Int64) (hr : qw_inj r) (S : qw_St) (a0 : Int32) : MXv l D r c g yX6_needThing wsX6_needThing ({ frames := 6, cells := 1, slots := 6, locals := 82 }) [.int a0] S (f_X6_needThing a0) S 1 6 := by
  refine wx_ofX (cc := cX6_needThing) (nL := 1) (ret := none) (lvs := [(0, .int a0)]) (by decide) rfl rfl (Nat.le_of_ble_eq_true rfl) ?_
  intro p e s m below meth c0 ls hx hb hret hml hts hown hlk hK hP hS hl hE hnt
  refine lv_iload_n hx hb dX6_needThing_0 rfl (lv_at hl 0 rfl) ?_
  refine lv_if_lt (tgt := 10) hx hb dX6_needThing_1 (by decide) (fun c_1 => ?_) (fun c_1 => ?_)
  · exact wx_throw (own := RX6) (cls := "java/lang/IndexOutOfBoundsException") (ik := 92) (ic := 96) (is := 221) (text := "there is no such THING") hx hb hlT hts hown (by decide +kernel) (by decide +kernel) (by decide +kernel) (by decide +kernel) (by decide +kernel) (by decide +kernel) (by decide +kernel) hK hP hS hE (hl.1.trans hml.symm) dX6_needThing_10 dX6_needThing_13 dX6_needThing_14 dX6_needThing_16 dX6_needThing_19 hnt (by decide) (Nat.le_of_ble_eq_true rfl) (Nat.le_of_ble_eq_true rfl) (Nat.le_of_ble_eq_true rfl) hlk (by simp [f_X6_needThing, ok_X6_needThing, c_1]) rfl (Nat.le_refl _) (Nat.le_refl _)
  · refine lv_iload_n hx hb dX6_needThing_4 rfl (lv_at hl 0 rfl) ?_
    refine lv_bipush (v := 6) hx hb dX6_needThing_5 (by decide) ?_
    refine lv_icmp_lt (tgt := 20) hx hb dX6_needThing_7 (by decide) (fun c_7 => ?_) (fun c_7 => ?_)
    · exact wx_xvret (Nat.le_of_ble_eq_true rfl) (Nat.le_of_ble_eq_true rfl) hx hb hret hlk hK hP hS (by simp [f_X6_needThing, ok_X6_needThing, c_1, c_7]) rfl dX6_needThing_20
    · exact wx_throw (own := RX6) (cls := "java/lang/IndexOutOfBoundsException") (ik := 92) (ic := 96) (is := 221) (text := "there is no such THING") hx hb hlT hts hown (by decide +kernel) (by decide +kernel) (by decide +kernel) (by decide +kernel) (by decide +kernel) (by decide +kernel) (by decide +kernel) hK hP hS hE (hl.1.trans hml.symm) dX6_needThing_10 dX6_needThing_13 dX6_needThing_14 dX6_needThing_16 dX6_needThing_19 hnt (by decide) (Nat.le_of_ble_eq_true rfl) (Nat.le_of_ble_eq_true rfl) (Nat.le_of_ble_eq_true rfl) hlk (by simp [f_X6_needThing, ok_X6_needThing, c_7]) rfl (Nat.le_refl _) (Nat.le_refl _)
def ok_X6_needTown (S : qw_St) (a1 : Int32) : Bool := decide (¬ a1 < 0) && decide (a1 < S 0 7)
def f_X6_needTown (S : qw_St) (a1 : Int32) : Except String Int32 := if ok_X6_needTown S a1 = true then .ok 0 else .error "java/lang/IndexOutOfBoundsException"
set_option maxHeartbeats 4000000 in
set_option maxRecDepth 100000 in
theorem c_X6_needTown (l : Launch) (hlT : l.stackTraces = false) (D : va_G) {r : Nat → Nat} (c : Nat → ClassId) (g : Nat → Int64) (hr : qw_inj r) (S : qw_St) (a1 : Int32) : MXv l D r c g yX6_needTown wsX6_needTown ({ frames := 6, cells := 1, slots := 6, locals := 82 }) [.ref (r 0), .int a1] S (f_X6_needTown S a1) S 1 6 := by
  have hiX6 : ∀ w ∈ wsX60, w ∈ wsX6_needTown := by decide +kernel
  refine wx_ofX (cc := cX6_needTown) (nL := 2) (ret := none) (lvs := [(0, .ref (r 0)), (1, .int a1)]) (by decide) rfl rfl (Nat.le_of_ble_eq_true rfl) ?_
  intro p e s m below meth c0 ls hx hb hret hml hts hown hlk hK hP hS hl hE hnt
  refine lv_iload_n hx hb dX6_needTown_0 rfl (lv_at hl 1 rfl) ?_
  refine lv_if_lt (tgt := 12) hx hb dX6_needTown_1 (by decide) (fun c_1 => ?_) (fun c_1 => ?_)
  · exact wx_throw (own := RX6) (cls := "java/lang/IndexOutOfBoundsException") (ik := 92) (ic := 96) (is := 223) (text := "there is no such TOWN") hx hb hlT hts hown (by decide +kernel) (by decide +kernel) (by decide +kernel) (by decide +kernel) (by decide +kernel) (by decide +kernel) (by decide +kernel) hK hP hS hE (hl.1.trans hml.symm) dX6_needTown_12 dX6_needTown_15 dX6_needTown_16 dX6_needTown_18 dX6_needTown_21 hnt (by decide) (Nat.le_of_ble_eq_true rfl) (Nat.le_of_ble_eq_true rfl) (Nat.le_of_ble_eq_true rfl) hlk (by simp [f_X6_needTown, ok_X6_needTown, c_1]) rfl (Nat.le_refl _) (Nat.le_refl _)
  · refine lv_iload_n hx hb dX6_needTown_4 rfl (lv_at hl 1 rfl) ?_
    refine lv_aload_n hx hb dX6_needTown_5 rfl (lv_at hl 0 rfl) ?_
    refine wx_get hx hb hts hiX6 hown hK hP 0 (by decide) qc_0 rfl 7 (by decide) (hts (.fieldLink RX6 50 "PriceEdict" "townCount" "I") (by decide +kernel)) rfl dX6_needTown_6 ?_
    refine lv_icmp_lt (tgt := 22) hx hb dX6_needTown_9 (by decide) (fun c_9 => ?_) (fun c_9 => ?_)
    · exact wx_xvret (Nat.le_of_ble_eq_true rfl) (Nat.le_of_ble_eq_true rfl) hx hb hret hlk hK hP hS (by simp [f_X6_needTown, ok_X6_needTown, c_1, c_9]) rfl dX6_needTown_22
    · exact wx_throw (own := RX6) (cls := "java/lang/IndexOutOfBoundsException") (ik := 92) (ic := 96) (is := 223) (text := "there is no such TOWN") hx hb hlT hts hown (by decide +kernel) (by decide +kernel) (by decide +kernel) (by decide +kernel) (by decide +kernel) (by decide +kernel) (by decide +kernel) hK hP hS hE (hl.1.trans hml.symm) dX6_needTown_12 dX6_needTown_15 dX6_needTown_16 dX6_needTown_18 dX6_needTown_21 hnt (by decide) (Nat.le_of_ble_eq_true rfl) (Nat.le_of_ble_eq_true rfl) (Nat.le_of_ble_eq_true rfl) hlk (by simp [f_X6_needTown, ok_X6_needTown, c_9]) rfl (Nat.le_refl _) (Nat.le_refl _)
def ok_X6_needWithin (a0 : Int32) (a1 : Int32) (a2 : Int32) : Bool := decide (¬ a0 < a1) && decide (a0 ≤ a2)
def f_X6_needWithin (a0 : Int32) (a1 : Int32) (a2 : Int32) : Except String Int32 := if ok_X6_needWithin a0 a1 a2 = true then .ok 0 else .error "java/lang/IllegalArgumentException"
set_option maxHeartbeats 4000000 in
set_option maxRecDepth 100000 in
theorem c_X6_needWithin (l : Launch) (hlT : l.stackTraces = false) (D : va_G) {r : Nat → Nat} (c : Nat → ClassId) (g : Nat → Int64) (hr : qw_inj r) (S : qw_St) (a0 : Int32) (a1 : Int32) (a2 : Int32) : MXv l D r c g yX6_needWithin wsX6_needWithin ({ frames := 6, cells := 1, slots := 6, locals := 82 }) [.int a0, .int a1, .int a2] S (f_X6_needWithin a0 a1 a2) S 1 6 := by
  refine wx_ofX (cc := cX6_needWithin) (nL := 3) (ret := none) (lvs := [(0, .int a0), (1, .int a1), (2, .int a2)]) (by decide) rfl rfl (Nat.le_of_ble_eq_true rfl) ?_
  intro p e s m below meth c0 ls hx hb hret hml hts hown hlk hK hP hS hl hE hnt
  refine lv_iload_n hx hb dX6_needWithin_0 rfl (lv_at hl 0 rfl) ?_
  refine lv_iload_n hx hb dX6_needWithin_1 rfl (lv_at hl 1 rfl) ?_
  refine lv_icmp_lt (tgt := 10) hx hb dX6_needWithin_2 (by decide) (fun c_2 => ?_) (fun c_2 => ?_)
  · exact wx_throw (own := RX6) (cls := "java/lang/IllegalArgumentException") (ik := 101) (ic := 105) (is := 225) (text := "a number is out of its bounds") hx hb hlT hts hown (by decide +kernel) (by decide +kernel) (by decide +kernel) (by decide +kernel) (by decide +kernel) (by decide +kernel) (by decide +kernel) hK hP hS hE (hl.1.trans hml.symm) dX6_needWithin_10 dX6_needWithin_13 dX6_needWithin_14 dX6_needWithin_16 dX6_needWithin_19 hnt (by decide) (Nat.le_of_ble_eq_true rfl) (Nat.le_of_ble_eq_true rfl) (Nat.le_of_ble_eq_true rfl) hlk (by simp [f_X6_needWithin, ok_X6_needWithin, c_2]) rfl (Nat.le_refl _) (Nat.le_refl _)
  · refine lv_iload_n hx hb dX6_needWithin_5 rfl (lv_at hl 0 rfl) ?_
    refine lv_iload_n hx hb dX6_needWithin_6 rfl (lv_at hl 2 rfl) ?_
    refine lv_icmp_le (tgt := 20) hx hb dX6_needWithin_7 (by decide) (fun c_7 => ?_) (fun c_7 => ?_)
    · exact wx_xvret (Nat.le_of_ble_eq_true rfl) (Nat.le_of_ble_eq_true rfl) hx hb hret hlk hK hP hS (by simp [f_X6_needWithin, ok_X6_needWithin, c_2, c_7]) rfl dX6_needWithin_20
    · exact wx_throw (own := RX6) (cls := "java/lang/IllegalArgumentException") (ik := 101) (ic := 105) (is := 225) (text := "a number is out of its bounds") hx hb hlT hts hown (by decide +kernel) (by decide +kernel) (by decide +kernel) (by decide +kernel) (by decide +kernel) (by decide +kernel) (by decide +kernel) hK hP hS hE (hl.1.trans hml.symm) dX6_needWithin_10 dX6_needWithin_13 dX6_needWithin_14 dX6_needWithin_16 dX6_needWithin_19 hnt (by decide) (Nat.le_of_ble_eq_true rfl) (Nat.le_of_ble_eq_true rfl) (Nat.le_of_ble_eq_true rfl) hlk (by simp [f_X6_needWithin, ok_X6_needWithin, c_7]) rfl (Nat.le_refl _) (Nat.le_refl _)
def ok_X6_needWhat (a0 : Int32) (a1 : Int32) : Bool := decide (¬ a0 < 0) && decide (a0 ≤ a1)
def f_X6_needWhat (a0 : Int32) (a1 : Int32) : Except String Int32 := if ok_X6_needWhat a0 a1 = true then .ok 0 else .error "java/util/NoSuchElementException"
set_option maxHeartbeats 4000000 in
set_option maxRecDepth 100000 in
theorem c_X6_needWhat (l : Launch) (hlT : l.stackTraces = false) (D : va_G) {r : Nat → Nat} (c : Nat → ClassId) (g : Nat → Int64) (hr : qw_inj r) (S : qw_St) (a0 : Int32) (a1 : Int32) : MXv l D r c g yX6_needWhat wsX6_needWhat ({ frames := 6, cells := 1, slots := 6, locals := 82 }) [.int a0, .int a1] S (f_X6_needWhat a0 a1) S 1 6 := by
  refine wx_ofX (cc := cX6_needWhat) (nL := 2) (ret := none) (lvs := [(0, .int a0), (1, .int a1)]) (by decide) rfl rfl (Nat.le_of_ble_eq_true rfl) ?_
  intro p e s m below meth c0 ls hx hb hret hml hts hown hlk hK hP hS hl hE hnt
  refine lv_iload_n hx hb dX6_needWhat_0 rfl (lv_at hl 0 rfl) ?_
  refine lv_if_lt (tgt := 9) hx hb dX6_needWhat_1 (by decide) (fun c_1 => ?_) (fun c_1 => ?_)
  · exact wx_throwN (own := RX6) (ik := 227) (ic := 231) (is := 229) (text := "there is no such what") hx hb hlT hts hown (by decide +kernel) (by decide +kernel) (by decide +kernel) (by decide +kernel) (by decide +kernel) (by decide +kernel) hK hP hS hE (hl.1.trans hml.symm) dX6_needWhat_9 dX6_needWhat_12 dX6_needWhat_13 dX6_needWhat_15 dX6_needWhat_18 hnt (Nat.le_of_ble_eq_true rfl) (Nat.le_of_ble_eq_true rfl) (Nat.le_of_ble_eq_true rfl) (Nat.le_of_ble_eq_true rfl) hlk (by simp [f_X6_needWhat, ok_X6_needWhat, nx_N, c_1]) rfl (Nat.le_refl _) (Nat.le_refl _)
  · refine lv_iload_n hx hb dX6_needWhat_4 rfl (lv_at hl 0 rfl) ?_
    refine lv_iload_n hx hb dX6_needWhat_5 rfl (lv_at hl 1 rfl) ?_
    refine lv_icmp_le (tgt := 19) hx hb dX6_needWhat_6 (by decide) (fun c_6 => ?_) (fun c_6 => ?_)
    · exact wx_xvret (Nat.le_of_ble_eq_true rfl) (Nat.le_of_ble_eq_true rfl) hx hb hret hlk hK hP hS (by simp [f_X6_needWhat, ok_X6_needWhat, c_1, c_6]) rfl dX6_needWhat_19
    · exact wx_throwN (own := RX6) (ik := 227) (ic := 231) (is := 229) (text := "there is no such what") hx hb hlT hts hown (by decide +kernel) (by decide +kernel) (by decide +kernel) (by decide +kernel) (by decide +kernel) (by decide +kernel) hK hP hS hE (hl.1.trans hml.symm) dX6_needWhat_9 dX6_needWhat_12 dX6_needWhat_13 dX6_needWhat_15 dX6_needWhat_18 hnt (Nat.le_of_ble_eq_true rfl) (Nat.le_of_ble_eq_true rfl) (Nat.le_of_ble_eq_true rfl) (Nat.le_of_ble_eq_true rfl) hlk (by simp [f_X6_needWhat, ok_X6_needWhat, nx_N, c_6]) rfl (Nat.le_refl _) (Nat.le_refl _)
