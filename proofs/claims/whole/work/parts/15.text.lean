/-! THE JDK's members over texts: length(), charAt(int) -/
theorem ev_s.at {A : Nat → Prop} {a : Nat} {bs : List Int32} {s U : State} {H : Heap} {locs : List Loc} (h : ev_s A a bs s s.heap) (hS : va_S A s.heap H locs) (hU : U.heap = H) (hW : s.WarmedH U.vm) : ev_s A a bs U U.heap := by
  subst hU
  exact h.to hS.2.1 (fun _ h => h) hW.alike
abbrev ev_E (r : Nat → Nat) (a : Nat) (bs : List Int32) (U : State) : Prop := EV (qw_A r) U ∧ ev_s (qw_A r) a bs U U.heap
theorem ev_E_bl (r : Nat → Nat) (a : Nat) (bs : List Int32) : qw_bl (ev_E r a bs) := fun _ g mk x h => ⟨h.1.calling g mk x, h.2.calling g mk x⟩
theorem ev_E.at {r : Nat → Nat} {a : Nat} {bs : List Int32} {s : State} {H : Heap} {locs : List Loc} (h : ev_E r a bs s) (hS : va_S (qw_A r) s.heap H locs) : ∀ U : State, U.heap = H → s.WarmedH U.vm → ev_E r a bs U := fun _ hU hW => ⟨h.1.to hS (fun _ h => h) hU hW, h.2.at hS hU hW⟩
theorem ev_recv {A : Nat → Prop} {a : Nat} {bs : List Int32} {s : State} {H : Heap} {locs : List Loc} (h : ev_s A a bs s s.heap) (hS : va_S A s.heap H locs) : ∃ cell : Cell, H[a]? = some cell ∧ cell.vm.isStatics = false ∧ s.vm.findClass RJ0 = some cell.cls := by
  obtain ⟨v, h1, -⟩ := h
  obtain ⟨cell, g1, g2, g3, -⟩ := h1.kept hS.2.1
  exact ⟨cell, g1, g2, g3⟩
def ev_ch (bs : List Int32) (i : Int32) : Int32 := ((bs.getD i.toNatClampNeg 0 &&& 255).toUInt32 % 65536).toInt32
set_option maxHeartbeats 4000000 in
set_option maxRecDepth 100000 in
theorem c_J3_checkIndex (l : Launch) (D : va_G) {r : Nat → Nat} (c : Nat → ClassId) (g : Nat → Int64) (S : qw_St) (i n : Int32) (v : Value) (hv : v = .null ∨ ∃ t, v = .ref t) (h0 : ¬ i < 0) (h1 : i < n) : MI l D r c g yJ3_checkIndex_8e157 wsJ3_checkIndex_8e157 ({ frames := 0, cells := 0, slots := 0, locals := 0 }) [.int i, .int n, v] S i S := by
  refine wx_of (cc := cJ3_checkIndex_8e157) (nL := 3) (ret := (some .int)) (lvs := [(0, .int i), (1, .int n), (2, v)]) (by decide) rfl rfl (by rcases hv with rfl | ⟨t, rfl⟩ <;> exact Nat.le_of_ble_eq_true rfl) ?_
  intro p e s m below meth c0 ls hx hb hret hml hts hown hlk hK hP hS hl
  refine lv_iload_n hx hb dJ3_checkIndex_8e157_0 rfl (lv_at hl 0 rfl) ?_
  refine lv_if_lt (tgt := 9) hx hb dJ3_checkIndex_8e157_1 (by decide) (fun q => absurd q h0) (fun _ => ?_)
  refine lv_iload_n hx hb dJ3_checkIndex_8e157_4 rfl (lv_at hl 0 rfl) ?_
  refine lv_iload_n hx hb dJ3_checkIndex_8e157_5 rfl (lv_at hl 1 rfl) ?_
  refine lv_icmp_lt (tgt := 16) hx hb dJ3_checkIndex_8e157_6 (by decide) (fun _ => ?_) (fun q => absurd h1 q)
  refine lv_iload_n hx hb dJ3_checkIndex_8e157_16 rfl (lv_at hl 0 rfl) ?_
  exact wx_iret hx hb hret hlk hK hP hS rfl rfl dJ3_checkIndex_8e157_17
set_option maxHeartbeats 4000000 in
set_option maxRecDepth 100000 in
theorem c_J0_checkIndex (l : Launch) (D : va_G) {r : Nat → Nat} (c : Nat → ClassId) (g : Nat → Int64) (S : qw_St) (i n : Int32) (h0 : ¬ i < 0) (h1 : i < n) : Met l yJ0_checkIndex_df160 wsJ0_checkIndex_df160 ({ frames := 1, cells := 0, slots := 0, locals := 22 }) (va_Pc [.int i, .int n] (fun U => qw_X D r c g S U ∧ EV (qw_A r) U)) (qw_Qv D r c g S) 0 0 (qw_A r) := by
  refine wx_ofE (cc := cJ0_checkIndex_df160) (nL := 2) (ret := none) (lvs := [(0, .int i), (1, .int n)]) (by decide) rfl rfl (Nat.le_of_ble_eq_true rfl) ?_
  intro p e s m below meth c0 ls hx hb hret hml hts hown hlk hK hP hS hl hE
  refine lv_iload_n hx hb dJ0_checkIndex_df160_0 rfl (lv_at hl 0 rfl) ?_
  refine lv_iload_n hx hb dJ0_checkIndex_df160_1 rfl (lv_at hl 1 rfl) ?_
  obtain ⟨v, hv, hZ⟩ : ∃ v : Value, (v = .null ∨ ∃ t, v = .ref t) ∧ va_Z "jdk/internal/util/Preconditions" "SIOOBE_FORMATTER" "Ljava/util/function/BiFunction;" v (qw_A r) s s.heap := by
    rcases hE.2.2.1 with h | ⟨t, h⟩
    · exact ⟨_, Or.inl rfl, h⟩
    · exact ⟨_, Or.inr ⟨t, rfl⟩, h⟩
  refine va_gets hx hb hZ hS hown (hts (.fieldLink RJ0 1053 "jdk/internal/util/Preconditions" "SIOOBE_FORMATTER" "Ljava/util/function/BiFunction;") (by decide +kernel)) (fun _ h => h) dJ0_checkIndex_df160_2 ?_
  refine wc_iS (As := [.int i, .int n, v]) (rest := []) ⟨hx, hb, hml, hown, hts⟩ (c_J3_checkIndex l D c g S i n v hv h0 h1) (va_cwS 3 hts gJ0_checkIndex_df160_J3_checkIndex_8e157 rfl rfl rfl (by decide +kernel) ⟨Nat.le_of_ble_eq_true rfl, Nat.le_of_ble_eq_true rfl⟩) hK hP hS (fun _ h => h) rfl hl.1 rfl (lv_room (Nat.le_of_ble_eq_true rfl)) dJ0_checkIndex_df160_5 ⟨Nat.zero_le _, Nat.zero_le _⟩ (fun H locs hP hS => ?_)
  refine lv_pop hx hb dJ0_checkIndex_df160_8 rfl ?_
  exact wx_vret hx hb hret hlk hK hP hS rfl dJ0_checkIndex_df160_9
abbrev ev_T (r : Nat → Nat) (v : Nat) (bs : List Int32) (U : State) : Prop := EV (qw_A r) U ∧ va_T .byte v bs.length (fun j => .int (bs.getD j 0)) (qw_A r) U U.heap
theorem ev_T_bl (r : Nat → Nat) (v : Nat) (bs : List Int32) : qw_bl (ev_T r v bs) := fun U g mk x h => ⟨h.1.calling g mk x, va_T.moved (u := U) (U := U.calling g mk x) (Vm.Alike.refl U.vm) h.2⟩
set_option maxHeartbeats 4000000 in
set_option maxRecDepth 100000 in
theorem c_J1_charAt (l : Launch) (D : va_G) {r : Nat → Nat} (c : Nat → ClassId) (g : Nat → Int64) (S : qw_St) (v : Nat) (bs : List Int32) (i : Int32) (hL : bs.length < 2 ^ 31) (hi : vp_in i bs.length) : Met l yJ1_charAt_3b067 wsJ1_charAt_3b067 ({ frames := 2, cells := 0, slots := 0, locals := 43 }) (va_Pc [.ref v, .int i] (fun U => qw_X D r c g S U ∧ ev_T r v bs U)) (qw_Qi D r c g (ev_ch bs i) S) 0 0 (qw_A r) := by
  have h0 : ¬ i < 0 := fun q => hi (Or.inl q)
  have h1 : i < nI bs.length := by
    rw [Int32.lt_iff_toInt_lt, nI_toInt hL]; exact (vp_in_iff.mp hi).2
  refine wx_ofE (cc := cJ1_charAt_3b067) (nL := 2) (ret := (some .char)) (lvs := [(0, .ref v), (1, .int i)]) (by decide) rfl rfl (Nat.le_of_ble_eq_true rfl) ?_
  intro p e s m below meth c0 ls hx hb hret hml hts hown hlk hK hP hS hl hE
  refine lv_iload_n hx hb dJ1_charAt_3b067_0 rfl (lv_at hl 1 rfl) ?_
  refine lv_aload_n hx hb dJ1_charAt_3b067_1 rfl (lv_at hl 0 rfl) ?_
  refine va_tlen hx hb hE.2 hS (v := nI bs.length) rfl dJ1_charAt_3b067_2 ?_
  refine wd_vS (As := [.int i, .int (nI bs.length)]) (rest := []) ⟨hx, hb, hml, hown, hts⟩ (c_J0_checkIndex l D c g S i (nI bs.length) h0 h1) (ev_bl _) (fun U hU hW => hE.1.to hS (fun _ h => h) hU hW) (va_cwS 2 hts gJ1_charAt_3b067_J0_checkIndex_df160 rfl rfl rfl (by decide +kernel) ⟨Nat.le_of_ble_eq_true rfl, Nat.le_of_ble_eq_true rfl⟩) hK hP hS (fun _ h => h) rfl hl.1 rfl (lv_room (Nat.le_of_ble_eq_true rfl)) dJ1_charAt_3b067_3 ⟨Nat.zero_le _, Nat.zero_le _⟩ (fun H locs hP hS => ?_)
  refine lv_aload_n hx hb dJ1_charAt_3b067_6 rfl (lv_at hl 0 rfl) ?_
  refine lv_iload_n hx hb dJ1_charAt_3b067_7 rfl (lv_at hl 1 rfl) ?_
  refine va_tb hx hb hE.2 hS hi (v := .int (bs.getD i.toNatClampNeg 0)) rfl dJ1_charAt_3b067_8 ?_
  refine lv_sipush (v := 255) hx hb dJ1_charAt_3b067_9 (by decide) ?_
  refine lv_iand hx hb dJ1_charAt_3b067_12 ?_
  refine lv_i2c hx hb dJ1_charAt_3b067_13 rfl ?_
  exact wx_zret hx hb hret hlk hK hP hS (pk_nc _) rfl rfl dJ1_charAt_3b067_14
set_option maxHeartbeats 4000000 in
set_option maxRecDepth 100000 in
theorem c_J0_coder (l : Launch) (D : va_G) {r : Nat → Nat} (c : Nat → ClassId) (g : Nat → Int64) (S : qw_St) (a : Nat) (bs : List Int32) : Met l yJ0_coder_7d493 wsJ0_coder_7d493 ({ frames := 0, cells := 0, slots := 0, locals := 0 }) (va_Pc [.ref a] (fun U => qw_X D r c g S U ∧ ev_E r a bs U)) (qw_Qi D r c g 0 S) 0 0 (qw_A r) := by
  refine wx_ofE (cc := cJ0_coder_7d493) (nL := 1) (ret := (some .byte)) (lvs := [(0, .ref a)]) (by decide) rfl rfl (Nat.le_of_ble_eq_true rfl) ?_
  intro p e s m below meth c0 ls hx hb hret hml hts hown hlk hK hP hS hl hE
  obtain ⟨v, g1, g2, g3, g4⟩ := id hE.2
  refine va_gets hx hb hE.1.2.1 hS hown (hts (.fieldLink RJ0 38 "java/lang/String" "COMPACT_STRINGS" "Z") (by decide +kernel)) (fun _ h => h) dJ0_coder_7d493_0 ?_
  refine lv_if_eq (tgt := 13) hx hb dJ0_coder_7d493_3 (by decide) (fun q => absurd q (by decide)) (fun _ => ?_)
  refine lv_aload_n hx hb dJ0_coder_7d493_6 rfl (lv_at hl 0 rfl) ?_
  refine vk_getf hx hb g2 hS hown (hts (.fieldLink RJ0 15 "java/lang/String" "coder" "B") (by decide +kernel)) (fun _ h => h) dJ0_coder_7d493_7 ?_
  refine lv_goto (tgt := 14) hx hb dJ0_coder_7d493_10 (by decide) ?_
  exact wx_zret hx hb hret hlk hK hP hS rfl rfl rfl dJ0_coder_7d493_14
set_option maxHeartbeats 4000000 in
set_option maxRecDepth 100000 in
theorem c_J0_isLatin1 (l : Launch) (D : va_G) {r : Nat → Nat} (c : Nat → ClassId) (g : Nat → Int64) (S : qw_St) (a : Nat) (bs : List Int32) : Met l yJ0_isLatin1_aae02 wsJ0_isLatin1_aae02 ({ frames := 0, cells := 0, slots := 0, locals := 0 }) (va_Pc [.ref a] (fun U => qw_X D r c g S U ∧ ev_E r a bs U)) (qw_Qi D r c g 1 S) 0 0 (qw_A r) := by
  refine wx_ofE (cc := cJ0_isLatin1_aae02) (nL := 1) (ret := (some .boolean)) (lvs := [(0, .ref a)]) (by decide) rfl rfl (Nat.le_of_ble_eq_true rfl) ?_
  intro p e s m below meth c0 ls hx hb hret hml hts hown hlk hK hP hS hl hE
  obtain ⟨v, g1, g2, g3, g4⟩ := id hE.2
  refine va_gets hx hb hE.1.2.1 hS hown (hts (.fieldLink RJ0 38 "java/lang/String" "COMPACT_STRINGS" "Z") (by decide +kernel)) (fun _ h => h) dJ0_isLatin1_aae02_0 ?_
  refine lv_if_eq (tgt := 17) hx hb dJ0_isLatin1_aae02_3 (by decide) (fun q => absurd q (by decide)) (fun _ => ?_)
  refine lv_aload_n hx hb dJ0_isLatin1_aae02_6 rfl (lv_at hl 0 rfl) ?_
  refine vk_getf hx hb g2 hS hown (hts (.fieldLink RJ0 15 "java/lang/String" "coder" "B") (by decide +kernel)) (fun _ h => h) dJ0_isLatin1_aae02_7 ?_
  refine lv_if_ne (tgt := 17) hx hb dJ0_isLatin1_aae02_10 (by decide) (fun q => absurd rfl q) (fun _ => ?_)
  refine lv_iconst (v := 1) hx hb dJ0_isLatin1_aae02_13 (by decide) ?_
  refine lv_goto (tgt := 18) hx hb dJ0_isLatin1_aae02_14 (by decide) ?_
  exact wx_zret hx hb hret hlk hK hP hS rfl rfl rfl dJ0_isLatin1_aae02_18
set_option maxHeartbeats 4000000 in
set_option maxRecDepth 100000 in
theorem c_J0_length (l : Launch) (D : va_G) {r : Nat → Nat} (c : Nat → ClassId) (g : Nat → Int64) (S : qw_St) (a : Nat) (bs : List Int32) : Met l yJ0_length_8abf5 wsJ0_length_8abf5 ({ frames := 1, cells := 0, slots := 0, locals := 20 }) (va_Pc [.ref a] (fun U => qw_X D r c g S U ∧ ev_E r a bs U)) (qw_Qi D r c g (nI bs.length) S) 0 0 (qw_A r) := by
  refine wx_ofE (cc := cJ0_length_8abf5) (nL := 1) (ret := (some .int)) (lvs := [(0, .ref a)]) (by decide) rfl rfl (Nat.le_of_ble_eq_true rfl) ?_
  intro p e s m below meth c0 ls hx hb hret hml hts hown hlk hK hP hS hl hE
  obtain ⟨v, g1, g2, g3, g4⟩ := id hE.2
  refine lv_aload_n hx hb dJ0_length_8abf5_0 rfl (lv_at hl 0 rfl) ?_
  refine vk_getf hx hb g3 hS hown (hts (.fieldLink RJ0 9 "java/lang/String" "value" "[B") (by decide +kernel)) (fun _ h => h) dJ0_length_8abf5_1 ?_
  refine va_tlen hx hb g4 hS (v := nI bs.length) rfl dJ0_length_8abf5_4 ?_
  refine lv_aload_n hx hb dJ0_length_8abf5_5 rfl (lv_at hl 0 rfl) ?_
  refine wd_iV (b := a) (C := RJ0) (As := []) (rest := [.int (nI bs.length)]) ⟨hx, hb, hml, hown, hts⟩ (c_J0_coder l D c g S a bs) (ev_E_bl _ _ _) (hE.at hS) (cwV 0 hts gJ0_length_8abf5_J0_coder_7d493 rfl rfl rfl (by decide +kernel) ⟨Nat.le_of_ble_eq_true rfl, Nat.le_of_ble_eq_true rfl⟩) (ev_recv hE.2 hS) hK hP hS (fun _ h => h) rfl hl.1 rfl (lv_room (Nat.le_of_ble_eq_true rfl)) dJ0_length_8abf5_6 ⟨Nat.zero_le _, Nat.zero_le _⟩ (fun H locs hP hS => ?_)
  refine lv_ishr hx hb dJ0_length_8abf5_9 ?_
  exact wx_iret hx hb hret hlk hK hP hS (sb_shr0 _) rfl dJ0_length_8abf5_10
set_option maxHeartbeats 4000000 in
set_option maxRecDepth 100000 in
theorem c_J0_charAt (l : Launch) (D : va_G) {r : Nat → Nat} (c : Nat → ClassId) (g : Nat → Int64) (S : qw_St) (a : Nat) (bs : List Int32) (i : Int32) (hL : bs.length < 2 ^ 31) (hi : vp_in i bs.length) : Met l yJ0_charAt_5068e wsJ0_charAt_5068e ({ frames := 3, cells := 0, slots := 0, locals := 64 }) (va_Pc [.ref a, .int i] (fun U => qw_X D r c g S U ∧ ev_E r a bs U)) (qw_Qi D r c g (ev_ch bs i) S) 0 0 (qw_A r) := by
  refine wx_ofE (cc := cJ0_charAt_5068e) (nL := 2) (ret := (some .char)) (lvs := [(0, .ref a), (1, .int i)]) (by decide) rfl rfl (Nat.le_of_ble_eq_true rfl) ?_
  intro p e s m below meth c0 ls hx hb hret hml hts hown hlk hK hP hS hl hE
  obtain ⟨v, g1, g2, g3, g4⟩ := id hE.2
  refine lv_aload_n hx hb dJ0_charAt_5068e_0 rfl (lv_at hl 0 rfl) ?_
  refine wd_iV (b := a) (C := RJ0) (As := []) (rest := []) ⟨hx, hb, hml, hown, hts⟩ (c_J0_isLatin1 l D c g S a bs) (ev_E_bl _ _ _) (hE.at hS) (cwV 0 hts gJ0_charAt_5068e_J0_isLatin1_aae02 rfl rfl rfl (by decide +kernel) ⟨Nat.le_of_ble_eq_true rfl, Nat.le_of_ble_eq_true rfl⟩) (ev_recv hE.2 hS) hK hP hS (fun _ h => h) rfl hl.1 rfl (lv_room (Nat.le_of_ble_eq_true rfl)) dJ0_charAt_5068e_1 ⟨Nat.zero_le _, Nat.zero_le _⟩ (fun H locs hP hS => ?_)
  refine lv_if_eq (tgt := 16) hx hb dJ0_charAt_5068e_4 (by decide) (fun q => absurd q (by decide)) (fun _ => ?_)
  refine lv_aload_n hx hb dJ0_charAt_5068e_7 rfl (lv_at hl 0 rfl) ?_
  refine vk_getf hx hb g3 hS hown (hts (.fieldLink RJ0 9 "java/lang/String" "value" "[B") (by decide +kernel)) (fun _ h => h) dJ0_charAt_5068e_8 ?_
  refine lv_iload_n hx hb dJ0_charAt_5068e_11 rfl (lv_at hl 1 rfl) ?_
  refine wd_iS (As := [.ref v, .int i]) (rest := []) ⟨hx, hb, hml, hown, hts⟩ (c_J1_charAt l D c g S v bs i hL hi) (ev_T_bl _ _ _) (fun U hU hW => ⟨hE.1.to hS (fun _ h => h) hU hW, by rw [hU]; exact (g4.kept hS.2.1).moved hW.alike⟩) (va_cwS 2 hts gJ0_charAt_5068e_J1_charAt_3b067 rfl rfl rfl (by decide +kernel) ⟨Nat.le_of_ble_eq_true rfl, Nat.le_of_ble_eq_true rfl⟩) hK hP hS (fun _ h => h) rfl hl.1 rfl (lv_room (Nat.le_of_ble_eq_true rfl)) dJ0_charAt_5068e_12 ⟨Nat.zero_le _, Nat.zero_le _⟩ (fun H locs hP hS => ?_)
  exact wx_zret hx hb hret hlk hK hP hS (pk_nc _) rfl rfl dJ0_charAt_5068e_15
