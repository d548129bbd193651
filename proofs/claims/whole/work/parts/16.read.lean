def f_X3_isWord_17 (a1 : Int32) (bs : List Int32) : Nat → qw_St → Int32 → Int32
  | 0, S, _ => 0
  | n + 1, S, z3 => (if (nI bs.length) ≤ z3 then (1 : Int32) else (if (f_X3_byteAt S (a1 + z3)) = (ev_ch bs z3) then (f_X3_isWord_17 a1 bs n S (z3 + (1 : Int32))) else (0 : Int32)))
def f_X3_isWord (S : qw_St) (a1 : Int32) (bs : List Int32) : Int32 := (if ((S 1 2) - a1) = (nI bs.length) then (f_X3_isWord_17 a1 bs (bs.length + 1) S (0 : Int32)) else (0 : Int32))
set_option maxHeartbeats 4000000 in
set_option maxRecDepth 100000 in
theorem c_X3_isWord (l : Launch) (D : va_G) {r : Nat → Nat} (c : Nat → ClassId) (g : Nat → Int64) (hr : qw_inj r) (S : qw_St) (a1 : Int32) (bs : List Int32) (w : Nat) (hz : qz (S 1 1) 400) (hL : bs.length < 2 ^ 31) : Met l yX3_isWord wsX3_isWord ({ frames := 4, cells := 0, slots := 0, locals := 85 }) (va_Pc [.ref (r 1), .int a1, .ref w] (fun U => qw_X D r c g S U ∧ ev_E r w bs U)) (qw_Qi D r c g (f_X3_isWord S a1 bs) S) 0 0 (qw_A r) := by
  have hiX3 : ∀ w ∈ wsX30, w ∈ wsX3_isWord := by decide +kernel
  refine wx_ofE (cc := cX3_isWord) (nL := 4) (ret := (some .boolean)) (lvs := [(0, .ref (r 1)), (1, .int a1), (2, .ref w)]) (by decide) rfl rfl (Nat.le_of_ble_eq_true rfl) ?_
  intro p e s m below meth c0 ls hx hb hret hml hts hown hlk hK hP hS hl hE
  have hP : qw_P D r c g S s.heap := hP
  refine lv_aload_n hx hb dX3_isWord_0 rfl (lv_at hl 0 rfl) ?_
  refine wx_get hx hb hts hiX3 hown hK hP 1 (by decide) qc_1 rfl 2 (by decide) (hts (.fieldLink RX3 19 "PriceEdict$Tape" "at" "I") (by decide +kernel)) rfl dX3_isWord_1 ?_
  refine lv_iload_n hx hb dX3_isWord_4 rfl (lv_at hl 1 rfl) ?_
  refine lv_isub hx hb dX3_isWord_5 ?_
  refine lv_aload_n hx hb dX3_isWord_6 rfl (lv_at hl 2 rfl) ?_
  refine wd_iV (b := w) (C := RJ0) (As := []) (rest := [.int ((S 1 2) - a1)]) ⟨hx, hb, hml, hown, hts⟩ (c_J0_length l D c g S w bs) (ev_E_bl _ _ _) (hE.at hS) (cwV 0 hts gX3_isWord_J0_length_8abf5 rfl rfl rfl (by decide +kernel) ⟨Nat.le_of_ble_eq_true rfl, Nat.le_of_ble_eq_true rfl⟩) (ev_recv hE.2 hS) hK hP hS (fun _ h => h) rfl hl.1 rfl (lv_room (Nat.le_of_ble_eq_true rfl)) dX3_isWord_7 ⟨Nat.zero_le _, Nat.zero_le _⟩ (fun H locs hP hS => ?_)
  refine lv_icmp_eq (tgt := 15) hx hb dX3_isWord_10 (by decide) (fun c_10 => ?_) (fun c_10 => ?_)
  · refine lv_iconst (v := 0) hx hb dX3_isWord_15 (by decide) ?_
    refine lv_istore_n (lv' := [(3, .int (0 : Int32)), (0, .ref (r 1)), (1, .int a1), (2, .ref w)]) hx hb dX3_isWord_16 rfl hl (by decide) rfl (fun ls hl => ?_)
    have L_17 : ∀ (n : Nat) (k : Nat) (z3 : Int32) (H : Heap) (locs : List Loc) (ls : Array Slot) (hk : k + n = bs.length + 1 ∧ k ≤ bs.length) (hz3 : z3 = nI k) (hf_17 : f_X3_isWord_17 a1 bs n S z3 = (f_X3_isWord S a1 bs)), qw_P D r c g S H → va_S (qw_A r) s.heap H locs → lv_has ls 4 [(3, .int z3), (0, .ref (r 1)), (1, .int a1), (2, .ref w)] → W p l e ({ frames := 4, cells := 0, slots := 0, locals := 85 }) s m [.ref (r 1), .int a1, .ref w].toArray below meth c0 H locs 0 0 (MQ below (qw_Qi D r c g (f_X3_isWord S a1 bs) S) [.ref (r 1), .int a1, .ref w].toArray s 0 0 (qw_A r)) (F0 m 17 ls []) := by
      intro n
      induction n with
      | zero =>
        intro k z3 H locs ls hk hz3 hf_17 hP hS hl
        omega
      | succ n ih_17 =>
        intro k z3 H locs ls hk hz3 hf_17 hP hS hl
        refine lv_iload_n hx hb dX3_isWord_17 rfl (lv_at hl 0 rfl) ?_
        refine lv_aload_n hx hb dX3_isWord_18 rfl (lv_at hl 3 rfl) ?_
        refine wd_iV (b := w) (C := RJ0) (As := []) (rest := [.int z3]) ⟨hx, hb, hml, hown, hts⟩ (c_J0_length l D c g S w bs) (ev_E_bl _ _ _) (hE.at hS) (cwV 0 hts gX3_isWord_J0_length_8abf5 rfl rfl rfl (by decide +kernel) ⟨Nat.le_of_ble_eq_true rfl, Nat.le_of_ble_eq_true rfl⟩) (ev_recv hE.2 hS) hK hP hS (fun _ h => h) rfl hl.1 rfl (lv_room (Nat.le_of_ble_eq_true rfl)) dX3_isWord_19 ⟨Nat.zero_le _, Nat.zero_le _⟩ (fun H locs hP hS => ?_)
        refine lv_icmp_ge (tgt := 48) hx hb dX3_isWord_22 (by decide) (fun c_22 => ?_) (fun c_22 => ?_)
        · refine lv_iconst (v := 1) hx hb dX3_isWord_48 (by decide) ?_
          exact wx_zret hx hb hret hlk hK hP hS rfl (by rw [← hf_17, f_X3_isWord_17]; rw [if_pos c_22]) rfl dX3_isWord_49
        · have hk5 : k < bs.length := qi_ltn hz3 (by omega) rfl hL c_22
          refine lv_aload_n hx hb dX3_isWord_25 rfl (lv_at hl 1 rfl) ?_
          refine lv_iload_n hx hb dX3_isWord_26 rfl (lv_at hl 2 rfl) ?_
          refine lv_iload_n hx hb dX3_isWord_27 rfl (lv_at hl 0 rfl) ?_
          refine lv_iadd hx hb dX3_isWord_28 ?_
          refine wc_iV (k := 1) (C := RX3) (As := [.int (a1 + z3)]) (rest := []) ⟨hx, hb, hml, hown, hts⟩ (c_X3_byteAt l D c g hr S (a1 + z3) (by first | assumption | omega)) (cwV 1 hts gX3_isWord_X3_byteAt rfl rfl rfl (by decide +kernel) ⟨Nat.le_of_ble_eq_true rfl, Nat.le_of_ble_eq_true rfl⟩) (wx_recv hK hP (by decide) qc_1 rfl) hK hP hS (fun _ h => h) rfl hl.1 rfl (lv_room (Nat.le_of_ble_eq_true rfl)) dX3_isWord_29 ⟨Nat.zero_le _, Nat.zero_le _⟩ (fun H locs hP hS => ?_)
          refine lv_aload_n hx hb dX3_isWord_32 rfl (lv_at hl 3 rfl) ?_
          refine lv_iload_n hx hb dX3_isWord_33 rfl (lv_at hl 0 rfl) ?_
          refine wd_iV (b := w) (C := RJ0) (As := [.int z3]) (rest := [.int (f_X3_byteAt S (a1 + z3))]) ⟨hx, hb, hml, hown, hts⟩ (c_J0_charAt l D c g S w bs z3 hL (qi_in hz3 hk5 hL)) (ev_E_bl _ _ _) (hE.at hS) (cwV 1 hts gX3_isWord_J0_charAt_5068e rfl rfl rfl (by decide +kernel) ⟨Nat.le_of_ble_eq_true rfl, Nat.le_of_ble_eq_true rfl⟩) (ev_recv hE.2 hS) hK hP hS (fun _ h => h) rfl hl.1 rfl (lv_room (Nat.le_of_ble_eq_true rfl)) dX3_isWord_34 ⟨Nat.zero_le _, Nat.zero_le _⟩ (fun H locs hP hS => ?_)
          refine lv_icmp_eq (tgt := 42) hx hb dX3_isWord_37 (by decide) (fun c_37 => ?_) (fun c_37 => ?_)
          · obtain ⟨x_1, ex_1⟩ : ∃ y : Int32, y = (z3 + (1 : Int32)) := ⟨_, rfl⟩
            refine lv_iinc (v := x_1) (lv' := [(3, .int x_1), (0, .ref (r 1)), (1, .int a1), (2, .ref w)]) hx hb dX3_isWord_42 hl (k := 0) rfl (by rw [ex_1]; rfl) (by decide) rfl (fun ls hl => ?_)
            refine lv_goto (tgt := 17) hx hb dX3_isWord_45 (by decide) ?_
            exact ih_17 (k + 1) x_1 _ _ _ (by omega) (by rw [ex_1]; exact qi_add hz3) (by subst ex_1; rw [← hf_17, f_X3_isWord_17]; rw [if_neg c_22, if_pos c_37]) hP hS (lv_sub hl [0, 1, 2, 3] rfl)
          · refine lv_iconst (v := 0) hx hb dX3_isWord_40 (by decide) ?_
            exact wx_zret hx hb hret hlk hK hP hS rfl (by rw [← hf_17, f_X3_isWord_17]; rw [if_neg c_22, if_neg c_37]) rfl dX3_isWord_41
    exact L_17 (bs.length + 1) 0 (0 : Int32) _ _ _ (by omega) nI_0.symm (by unfold f_X3_isWord; rw [if_pos c_10]) hP hS (lv_sub hl [0, 1, 2, 3] rfl)
  · refine lv_iconst (v := 0) hx hb dX3_isWord_13 (by decide) ?_
    exact wx_zret hx hb hret hlk hK hP hS rfl (by unfold f_X3_isWord; rw [if_neg c_10]) rfl dX3_isWord_14
theorem ti_put3 {S : qw_St} (h : TI S) (v : Int32) : TI (up2 S 1 3 v) := ⟨by rw [up2_ne _ _ (Or.inr (by decide))]; exact h.1, by rw [up2_ne _ _ (Or.inr (by decide))]; exact h.2⟩
theorem ti_cell {S S' : qw_St} (h : TI S) (hf : ∀ j, S' 1 j = S 1 j) : TI S' := ⟨by rw [hf]; exact h.1, by rw [hf]; exact h.2⟩
theorem fr_X0_capByPrice (S : qw_St) (d : Nat) (a1 a2 : Int32) {k : Nat} (j : Nat) (h : k ≠ 17 + 3 * d) (h2 : k ≠ 18 + 3 * d) : g_X0_capByPrice S d a1 a2 k j = S k j := by
  unfold g_X0_capByPrice
  repeat' (first | rfl | rw [up2_ne _ _ (Or.inl h2), up2_ne _ _ (Or.inl h)] | split)
theorem fr_X0_capByLine (S : qw_St) (d : Nat) (a1 a2 : Int32) {k : Nat} (j : Nat) (h : k ≠ 17 + 3 * d) (h2 : k ≠ 18 + 3 * d) : g_X0_capByLine S d a1 a2 k j = S k j := by
  unfold g_X0_capByLine
  repeat' (first | rfl | rw [up2_ne _ _ (Or.inl h2), up2_ne _ _ (Or.inl h)] | split)
theorem ti_X3_readCap {S : qw_St} (d : Nat) (h : TI S) : TI (g_X3_readCap S d) := by
  unfold g_X3_readCap
  have h2 := ti_X3_readNumber (1 : Int32) 9999 (ti_X3_readNumber (0 : Int32) 5 h)
  split
  · exact ti_cell h2 (fun j => fr_X0_capByPrice _ _ _ _ _ (by omega) (by omega))
  · exact h2
theorem ti_X3_readLine {S : qw_St} (d : Nat) (h : TI S) : TI (g_X3_readLine S d) := by
  unfold g_X3_readLine
  have h2 := ti_X3_readNumber (0 : Int32) 29 (ti_X3_readNumber (0 : Int32) 5 h)
  split
  · exact ti_cell h2 (fun j => fr_X0_capByLine _ _ _ _ _ (by omega) (by omega))
  · exact h2
theorem ti_X3_readCarriage {S : qw_St} (d : Nat) (h : TI S) : TI (g_X3_readCarriage S d) := by
  unfold g_X3_readCarriage
  split
  · exact ti_cell (ti_X3_readNumber (0 : Int32) 99 h) (fun j => up2_ne _ _ (Or.inl (by omega)))
  · exact ti_X3_readNumber _ _ h
theorem ti_X3_readCredit {S : qw_St} (d : Nat) (h : TI S) : TI (g_X3_readCredit S d) := by
  unfold g_X3_readCredit
  split
  · exact ti_cell (ti_X3_readNumber (0 : Int32) 100 h) (fun j => up2_ne _ _ (Or.inl (by omega)))
  · exact ti_X3_readNumber _ _ h
theorem ti_X3_readFree {S : qw_St} (d : Nat) (h : TI S) : TI (g_X3_readFree S d) := by
  unfold g_X3_readFree g_X0_setFree
  split
  · exact ti_cell (ti_X3_readNumber (0 : Int32) 7 h) (fun j => up2_ne _ _ (Or.inl (by omega)))
  · exact ti_X3_readNumber _ _ h
def g_X3_readClause (S : qw_St) (d : Nat) : qw_St := (if (f_X3_isWord (g_X3_skipWord (g_X3_skipBlanks S)) ((g_X3_skipBlanks S) 1 2) tx_cap) = 0 then (if (f_X3_isWord (g_X3_skipWord (g_X3_skipBlanks S)) ((g_X3_skipBlanks S) 1 2) tx_line) = 0 then (if (f_X3_isWord (g_X3_skipWord (g_X3_skipBlanks S)) ((g_X3_skipBlanks S) 1 2) tx_carriage) = 0 then (if (f_X3_isWord (g_X3_skipWord (g_X3_skipBlanks S)) ((g_X3_skipBlanks S) 1 2) tx_credit) = 0 then (if (f_X3_isWord (g_X3_skipWord (g_X3_skipBlanks S)) ((g_X3_skipBlanks S) 1 2) tx_free) = 0 then (up2 (g_X3_skipWord (g_X3_skipBlanks S)) 1 3 ((g_X3_skipBlanks S) 1 2)) else (g_X3_readFree (g_X3_skipWord (g_X3_skipBlanks S)) d)) else (g_X3_readCredit (g_X3_skipWord (g_X3_skipBlanks S)) d)) else (g_X3_readCarriage (g_X3_skipWord (g_X3_skipBlanks S)) d)) else (g_X3_readLine (g_X3_skipWord (g_X3_skipBlanks S)) d)) else (g_X3_readCap (g_X3_skipWord (g_X3_skipBlanks S)) d))
set_option maxHeartbeats 4000000 in
set_option maxRecDepth 100000 in
theorem c_X3_readClause (l : Launch) (D : va_G) {r : Nat → Nat} (c : Nat → ClassId) (g : Nat → Int64) (hr : qw_inj r) (S : qw_St) (d : Nat) (hd : d < 21) (hT : TI S) : Met l yX3_readClause wsX3_readClause ({ frames := 5, cells := 0, slots := 0, locals := 108 }) (va_Pc [.ref (r 1), .ref (r (16 + 3 * d))] (fun U => qw_X D r c g S U ∧ EV (qw_A r) U)) (qw_Qv D r c g (g_X3_readClause S d)) 0 0 (qw_A r) := by
  have hiX3 : ∀ w ∈ wsX30, w ∈ wsX3_readClause := by decide +kernel
  refine wx_ofE (cc := cX3_readClause) (nL := 3) (ret := none) (lvs := [(0, .ref (r 1)), (1, .ref (r (16 + 3 * d)))]) (by decide) rfl rfl (Nat.le_of_ble_eq_true rfl) ?_
  intro p e s m below meth c0 ls hx hb hret hml hts hown hlk hK hP hS hl hE
  have hP : qw_P D r c g S s.heap := hP
  refine lv_aload_n hx hb dX3_readClause_0 rfl (lv_at hl 0 rfl) ?_
  refine wc_vV (k := 1) (C := RX3) (As := []) (rest := []) ⟨hx, hb, hml, hown, hts⟩ (c_X3_skipBlanks l D c g hr S hT) (cwV 0 hts gX3_readClause_X3_skipBlanks rfl rfl rfl (by decide +kernel) ⟨Nat.le_of_ble_eq_true rfl, Nat.le_of_ble_eq_true rfl⟩) (wx_recv hK hP (by decide) qc_1 rfl) hK hP hS (fun _ h => h) rfl hl.1 rfl (lv_room (Nat.le_of_ble_eq_true rfl)) dX3_readClause_1 ⟨Nat.zero_le _, Nat.zero_le _⟩ (fun H locs hP hS => ?_)
  refine lv_aload_n hx hb dX3_readClause_4 rfl (lv_at hl 0 rfl) ?_
  refine wx_get hx hb hts hiX3 hown hK hP 1 (by decide) qc_1 rfl 2 (by decide) (hts (.fieldLink RX3 19 "PriceEdict$Tape" "at" "I") (by decide +kernel)) rfl dX3_readClause_5 ?_
  refine lv_topi (fun x_1 ex_1 => ?_)
  refine lv_istore_n (lv' := [(2, .int x_1), (0, .ref (r 1)), (1, .ref (r (16 + 3 * d)))]) hx hb dX3_readClause_8 rfl hl (by decide) rfl (fun ls hl => ?_)
  refine lv_aload_n hx hb dX3_readClause_9 rfl (lv_at hl 1 rfl) ?_
  refine wc_vV (k := 1) (C := RX3) (As := []) (rest := []) ⟨hx, hb, hml, hown, hts⟩ (c_X3_skipWord l D c g hr (g_X3_skipBlanks S) (ti_X3_skipBlanks hT)) (cwV 0 hts gX3_readClause_X3_skipWord rfl rfl rfl (by decide +kernel) ⟨Nat.le_of_ble_eq_true rfl, Nat.le_of_ble_eq_true rfl⟩) (wx_recv hK hP (by decide) qc_1 rfl) hK hP hS (fun _ h => h) rfl hl.1 rfl (lv_room (Nat.le_of_ble_eq_true rfl)) dX3_readClause_10 ⟨Nat.zero_le _, Nat.zero_le _⟩ (fun H locs hP hS => ?_)
  refine lv_aload_n hx hb dX3_readClause_13 rfl (lv_at hl 1 rfl) ?_
  refine lv_iload_n hx hb dX3_readClause_14 rfl (lv_at hl 0 rfl) ?_
  obtain ⟨w_44, hR_44, hs_44⟩ := hE.2.2.2 (RX3, 44, "cap", tx_cap) (by simp [ev_W])
  refine va_ldcS hx hb hown hR_44 dX3_readClause_15 ?_
  refine wd_iV (b := r 1) (C := RX3) (As := [.int x_1, .ref w_44]) (rest := []) ⟨hx, hb, hml, hown, hts⟩ (c_X3_isWord l D c g hr (g_X3_skipWord (g_X3_skipBlanks S)) x_1 tx_cap w_44 (ti_X3_skipWord (ti_X3_skipBlanks hT)).1 (by decide)) (ev_E_bl _ _ _) (fun U hU hW => ⟨hE.to hS (fun _ h => h) hU hW, hs_44.at hS hU hW⟩) (cwV 2 hts gX3_readClause_X3_isWord rfl rfl rfl (by decide +kernel) ⟨Nat.le_of_ble_eq_true rfl, Nat.le_of_ble_eq_true rfl⟩) (wx_recv hK hP (by decide) qc_1 rfl) hK hP hS (fun _ h => h) rfl hl.1 rfl (lv_room (Nat.le_of_ble_eq_true rfl)) dX3_readClause_17 ⟨Nat.zero_le _, Nat.zero_le _⟩ (fun H locs hP hS => ?_)
  refine lv_if_eq (tgt := 31) hx hb dX3_readClause_20 (by decide) (fun c_20 => ?_) (fun c_20 => ?_)
  · refine lv_aload_n hx hb dX3_readClause_31 rfl (lv_at hl 1 rfl) ?_
    refine lv_iload_n hx hb dX3_readClause_32 rfl (lv_at hl 0 rfl) ?_
    obtain ⟨w_53, hR_53, hs_53⟩ := hE.2.2.2 (RX3, 53, "line", tx_line) (by simp [ev_W])
    refine va_ldcS hx hb hown hR_53 dX3_readClause_33 ?_
    refine wd_iV (b := r 1) (C := RX3) (As := [.int x_1, .ref w_53]) (rest := []) ⟨hx, hb, hml, hown, hts⟩ (c_X3_isWord l D c g hr (g_X3_skipWord (g_X3_skipBlanks S)) x_1 tx_line w_53 (ti_X3_skipWord (ti_X3_skipBlanks hT)).1 (by decide)) (ev_E_bl _ _ _) (fun U hU hW => ⟨hE.to hS (fun _ h => h) hU hW, hs_53.at hS hU hW⟩) (cwV 2 hts gX3_readClause_X3_isWord rfl rfl rfl (by decide +kernel) ⟨Nat.le_of_ble_eq_true rfl, Nat.le_of_ble_eq_true rfl⟩) (wx_recv hK hP (by decide) qc_1 rfl) hK hP hS (fun _ h => h) rfl hl.1 rfl (lv_room (Nat.le_of_ble_eq_true rfl)) dX3_readClause_35 ⟨Nat.zero_le _, Nat.zero_le _⟩ (fun H locs hP hS => ?_)
    refine lv_if_eq (tgt := 49) hx hb dX3_readClause_38 (by decide) (fun c_38 => ?_) (fun c_38 => ?_)
    · refine lv_aload_n hx hb dX3_readClause_49 rfl (lv_at hl 1 rfl) ?_
      refine lv_iload_n hx hb dX3_readClause_50 rfl (lv_at hl 0 rfl) ?_
      obtain ⟨w_58, hR_58, hs_58⟩ := hE.2.2.2 (RX3, 58, "carriage", tx_carriage) (by simp [ev_W])
      refine va_ldcS hx hb hown hR_58 dX3_readClause_51 ?_
      refine wd_iV (b := r 1) (C := RX3) (As := [.int x_1, .ref w_58]) (rest := []) ⟨hx, hb, hml, hown, hts⟩ (c_X3_isWord l D c g hr (g_X3_skipWord (g_X3_skipBlanks S)) x_1 tx_carriage w_58 (ti_X3_skipWord (ti_X3_skipBlanks hT)).1 (by decide)) (ev_E_bl _ _ _) (fun U hU hW => ⟨hE.to hS (fun _ h => h) hU hW, hs_58.at hS hU hW⟩) (cwV 2 hts gX3_readClause_X3_isWord rfl rfl rfl (by decide +kernel) ⟨Nat.le_of_ble_eq_true rfl, Nat.le_of_ble_eq_true rfl⟩) (wx_recv hK hP (by decide) qc_1 rfl) hK hP hS (fun _ h => h) rfl hl.1 rfl (lv_room (Nat.le_of_ble_eq_true rfl)) dX3_readClause_53 ⟨Nat.zero_le _, Nat.zero_le _⟩ (fun H locs hP hS => ?_)
      refine lv_if_eq (tgt := 67) hx hb dX3_readClause_56 (by decide) (fun c_56 => ?_) (fun c_56 => ?_)
      · refine lv_aload_n hx hb dX3_readClause_67 rfl (lv_at hl 1 rfl) ?_
        refine lv_iload_n hx hb dX3_readClause_68 rfl (lv_at hl 0 rfl) ?_
        obtain ⟨w_63, hR_63, hs_63⟩ := hE.2.2.2 (RX3, 63, "credit", tx_credit) (by simp [ev_W])
        refine va_ldcS hx hb hown hR_63 dX3_readClause_69 ?_
        refine wd_iV (b := r 1) (C := RX3) (As := [.int x_1, .ref w_63]) (rest := []) ⟨hx, hb, hml, hown, hts⟩ (c_X3_isWord l D c g hr (g_X3_skipWord (g_X3_skipBlanks S)) x_1 tx_credit w_63 (ti_X3_skipWord (ti_X3_skipBlanks hT)).1 (by decide)) (ev_E_bl _ _ _) (fun U hU hW => ⟨hE.to hS (fun _ h => h) hU hW, hs_63.at hS hU hW⟩) (cwV 2 hts gX3_readClause_X3_isWord rfl rfl rfl (by decide +kernel) ⟨Nat.le_of_ble_eq_true rfl, Nat.le_of_ble_eq_true rfl⟩) (wx_recv hK hP (by decide) qc_1 rfl) hK hP hS (fun _ h => h) rfl hl.1 rfl (lv_room (Nat.le_of_ble_eq_true rfl)) dX3_readClause_71 ⟨Nat.zero_le _, Nat.zero_le _⟩ (fun H locs hP hS => ?_)
        refine lv_if_eq (tgt := 85) hx hb dX3_readClause_74 (by decide) (fun c_74 => ?_) (fun c_74 => ?_)
        · refine lv_aload_n hx hb dX3_readClause_85 rfl (lv_at hl 1 rfl) ?_
          refine lv_iload_n hx hb dX3_readClause_86 rfl (lv_at hl 0 rfl) ?_
          obtain ⟨w_68, hR_68, hs_68⟩ := hE.2.2.2 (RX3, 68, "free", tx_free) (by simp [ev_W])
          refine va_ldcS hx hb hown hR_68 dX3_readClause_87 ?_
          refine wd_iV (b := r 1) (C := RX3) (As := [.int x_1, .ref w_68]) (rest := []) ⟨hx, hb, hml, hown, hts⟩ (c_X3_isWord l D c g hr (g_X3_skipWord (g_X3_skipBlanks S)) x_1 tx_free w_68 (ti_X3_skipWord (ti_X3_skipBlanks hT)).1 (by decide)) (ev_E_bl _ _ _) (fun U hU hW => ⟨hE.to hS (fun _ h => h) hU hW, hs_68.at hS hU hW⟩) (cwV 2 hts gX3_readClause_X3_isWord rfl rfl rfl (by decide +kernel) ⟨Nat.le_of_ble_eq_true rfl, Nat.le_of_ble_eq_true rfl⟩) (wx_recv hK hP (by decide) qc_1 rfl) hK hP hS (fun _ h => h) rfl hl.1 rfl (lv_room (Nat.le_of_ble_eq_true rfl)) dX3_readClause_89 ⟨Nat.zero_le _, Nat.zero_le _⟩ (fun H locs hP hS => ?_)
          refine lv_if_eq (tgt := 103) hx hb dX3_readClause_92 (by decide) (fun c_92 => ?_) (fun c_92 => ?_)
          · refine lv_aload_n hx hb dX3_readClause_103 rfl (lv_at hl 1 rfl) ?_
            refine lv_iload_n hx hb dX3_readClause_104 rfl (lv_at hl 0 rfl) ?_
            refine wx_put hr hx hb hts hiX3 tyX3 tyX3_ok nmX3 hown hK hP hS 1 (by decide) qc_1 rfl 3 (by decide) (hts (.fieldLink RX3 22 "PriceEdict$Tape" "wrong" "I") (by decide +kernel)) rfl (by decide +kernel) (fun _ => rfl) (Nat.le_of_ble_eq_true rfl) dX3_readClause_105 (fun H locs hP hS => ?_)
            exact wx_vret hx hb hret hlk hK hP hS (by subst ex_1; unfold g_X3_readClause; rw [if_pos c_20, if_pos c_38, if_pos c_56, if_pos c_74, if_pos c_92]) dX3_readClause_108
          · refine lv_aload_n hx hb dX3_readClause_95 rfl (lv_at hl 1 rfl) ?_
            refine lv_aload_n hx hb dX3_readClause_96 rfl (lv_at hl 2 rfl) ?_
            refine wc_vV (k := 1) (C := RX3) (As := [.ref (r (16 + 3 * d))]) (rest := []) ⟨hx, hb, hml, hown, hts⟩ (c_X3_readFree l D c g hr (g_X3_skipWord (g_X3_skipBlanks S)) d hd (ti_X3_skipWord (ti_X3_skipBlanks hT))) (cwV 1 hts gX3_readClause_X3_readFree rfl rfl rfl (by decide +kernel) ⟨Nat.le_of_ble_eq_true rfl, Nat.le_of_ble_eq_true rfl⟩) (wx_recv hK hP (by decide) qc_1 rfl) hK hP hS (fun _ h => h) rfl hl.1 rfl (lv_room (Nat.le_of_ble_eq_true rfl)) dX3_readClause_97 ⟨Nat.zero_le _, Nat.zero_le _⟩ (fun H locs hP hS => ?_)
            refine lv_goto (tgt := 108) hx hb dX3_readClause_100 (by decide) ?_
            exact wx_vret hx hb hret hlk hK hP hS (by subst ex_1; unfold g_X3_readClause; rw [if_pos c_20, if_pos c_38, if_pos c_56, if_pos c_74, if_neg c_92]) dX3_readClause_108
        · refine lv_aload_n hx hb dX3_readClause_77 rfl (lv_at hl 1 rfl) ?_
          refine lv_aload_n hx hb dX3_readClause_78 rfl (lv_at hl 2 rfl) ?_
          refine wc_vV (k := 1) (C := RX3) (As := [.ref (r (16 + 3 * d))]) (rest := []) ⟨hx, hb, hml, hown, hts⟩ (c_X3_readCredit l D c g hr (g_X3_skipWord (g_X3_skipBlanks S)) d hd (ti_X3_skipWord (ti_X3_skipBlanks hT))) (cwV 1 hts gX3_readClause_X3_readCredit rfl rfl rfl (by decide +kernel) ⟨Nat.le_of_ble_eq_true rfl, Nat.le_of_ble_eq_true rfl⟩) (wx_recv hK hP (by decide) qc_1 rfl) hK hP hS (fun _ h => h) rfl hl.1 rfl (lv_room (Nat.le_of_ble_eq_true rfl)) dX3_readClause_79 ⟨Nat.zero_le _, Nat.zero_le _⟩ (fun H locs hP hS => ?_)
          refine lv_goto (tgt := 108) hx hb dX3_readClause_82 (by decide) ?_
          exact wx_vret hx hb hret hlk hK hP hS (by subst ex_1; unfold g_X3_readClause; rw [if_pos c_20, if_pos c_38, if_pos c_56, if_neg c_74]) dX3_readClause_108
      · refine lv_aload_n hx hb dX3_readClause_59 rfl (lv_at hl 1 rfl) ?_
        refine lv_aload_n hx hb dX3_readClause_60 rfl (lv_at hl 2 rfl) ?_
        refine wc_vV (k := 1) (C := RX3) (As := [.ref (r (16 + 3 * d))]) (rest := []) ⟨hx, hb, hml, hown, hts⟩ (c_X3_readCarriage l D c g hr (g_X3_skipWord (g_X3_skipBlanks S)) d hd (ti_X3_skipWord (ti_X3_skipBlanks hT))) (cwV 1 hts gX3_readClause_X3_readCarriage rfl rfl rfl (by decide +kernel) ⟨Nat.le_of_ble_eq_true rfl, Nat.le_of_ble_eq_true rfl⟩) (wx_recv hK hP (by decide) qc_1 rfl) hK hP hS (fun _ h => h) rfl hl.1 rfl (lv_room (Nat.le_of_ble_eq_true rfl)) dX3_readClause_61 ⟨Nat.zero_le _, Nat.zero_le _⟩ (fun H locs hP hS => ?_)
        refine lv_goto (tgt := 108) hx hb dX3_readClause_64 (by decide) ?_
        exact wx_vret hx hb hret hlk hK hP hS (by subst ex_1; unfold g_X3_readClause; rw [if_pos c_20, if_pos c_38, if_neg c_56]) dX3_readClause_108
    · refine lv_aload_n hx hb dX3_readClause_41 rfl (lv_at hl 1 rfl) ?_
      refine lv_aload_n hx hb dX3_readClause_42 rfl (lv_at hl 2 rfl) ?_
      refine wc_vV (k := 1) (C := RX3) (As := [.ref (r (16 + 3 * d))]) (rest := []) ⟨hx, hb, hml, hown, hts⟩ (c_X3_readLine l D c g hr (g_X3_skipWord (g_X3_skipBlanks S)) d hd (ti_X3_skipWord (ti_X3_skipBlanks hT))) (cwV 1 hts gX3_readClause_X3_readLine rfl rfl rfl (by decide +kernel) ⟨Nat.le_of_ble_eq_true rfl, Nat.le_of_ble_eq_true rfl⟩) (wx_recv hK hP (by decide) qc_1 rfl) hK hP hS (fun _ h => h) rfl hl.1 rfl (lv_room (Nat.le_of_ble_eq_true rfl)) dX3_readClause_43 ⟨Nat.zero_le _, Nat.zero_le _⟩ (fun H locs hP hS => ?_)
      refine lv_goto (tgt := 108) hx hb dX3_readClause_46 (by decide) ?_
      exact wx_vret hx hb hret hlk hK hP hS (by subst ex_1; unfold g_X3_readClause; rw [if_pos c_20, if_neg c_38]) dX3_readClause_108
  · refine lv_aload_n hx hb dX3_readClause_23 rfl (lv_at hl 1 rfl) ?_
    refine lv_aload_n hx hb dX3_readClause_24 rfl (lv_at hl 2 rfl) ?_
    refine wc_vV (k := 1) (C := RX3) (As := [.ref (r (16 + 3 * d))]) (rest := []) ⟨hx, hb, hml, hown, hts⟩ (c_X3_readCap l D c g hr (g_X3_skipWord (g_X3_skipBlanks S)) d hd (ti_X3_skipWord (ti_X3_skipBlanks hT))) (cwV 1 hts gX3_readClause_X3_readCap rfl rfl rfl (by decide +kernel) ⟨Nat.le_of_ble_eq_true rfl, Nat.le_of_ble_eq_true rfl⟩) (wx_recv hK hP (by decide) qc_1 rfl) hK hP hS (fun _ h => h) rfl hl.1 rfl (lv_room (Nat.le_of_ble_eq_true rfl)) dX3_readClause_25 ⟨Nat.zero_le _, Nat.zero_le _⟩ (fun H locs hP hS => ?_)
    refine lv_goto (tgt := 108) hx hb dX3_readClause_28 (by decide) ?_
    exact wx_vret hx hb hret hlk hK hP hS (by subst ex_1; unfold g_X3_readClause; rw [if_neg c_20]) dX3_readClause_108
theorem ti_X3_readClause {S : qw_St} (d : Nat) (h : TI S) : TI (g_X3_readClause S d) := by
  unfold g_X3_readClause
  have h2 := ti_X3_skipWord (ti_X3_skipBlanks h)
  generalize g_X3_skipWord (g_X3_skipBlanks S) = S2 at h2 ⊢
  split
  · split
    · split
      · split
        · split
          · exact ti_put3 h2 _
          · exact ti_X3_readFree _ h2
        · exact ti_X3_readCredit _ h2
      · exact ti_X3_readCarriage _ h2
    · exact ti_X3_readLine _ h2
  · exact ti_X3_readCap _ h2
theorem ti_X3_readSemicolon {S : qw_St} (h : TI S) : TI (g_X3_readSemicolon S) := by
  have h2 := ti_X3_skipBlanks h
  unfold g_X3_readSemicolon
  split
  · split
    · next c =>
      split
      · refine ⟨by rw [up2_ne _ _ (Or.inr (by decide))]; exact h2.1, ?_⟩
        rw [up2_same]
        obtain ⟨m1, hm1, em1⟩ := h2.1
        obtain ⟨m0, hm0, em0⟩ := h2.2
        rw [fr_X3_skipBlanks _ _ (Or.inr (by decide))] at em1
        have hlt : m0 < m1 := by
          rw [em0, em1, nI_ltI (by omega) (by omega)] at c; exact c
        exact ⟨m0 + 1, by omega, qi_add em0⟩
      · exact ti_put3 h2 _
    · exact h2
  · exact h
theorem fr_X0_clear_2 (d : Nat) : ∀ (n : Nat) (S : qw_St) (z : Int32) (k j : Nat), (k < 16 + 3 * d ∨ 18 + 3 * d < k) → g_X0_clear_2 d n S z k j = S k j := by
  intro n
  induction n with
  | zero => intro S z k j h; rfl
  | succ n ih =>
    intro S z k j h
    rw [g_X0_clear_2]
    split
    · rw [up2_ne _ _ (Or.inl (by omega)), up2_ne _ _ (Or.inl (by omega)), up2_ne _ _ (Or.inl (by omega))]
    · rw [ih _ _ _ _ h, up2_ne _ _ (Or.inl (by omega)), up2_ne _ _ (Or.inl (by omega))]
theorem fr_X0_clear (S : qw_St) (d : Nat) {k : Nat} (j : Nat) (h : k < 16 + 3 * d ∨ 18 + 3 * d < k) : g_X0_clear S d k j = S k j := fr_X0_clear_2 d _ _ _ _ _ h
def g_X3_readInto_18 (d : Nat) : Nat → qw_St → Int32 → Int32 → qw_St
  | 0, S, _, _ => S
  | n + 1, S, z2, z3 => (if z2 = 0 then S else (if (400 : Int32) ≤ z3 then S else (g_X3_readInto_18 d n (g_X3_readSemicolon (g_X3_readClause S d)) (f_X3_readSemicolon (g_X3_readClause S d)) (z3 + (1 : Int32)))))
def f_X3_readInto_18 (d : Nat) : Nat → qw_St → Int32 → Int32 → Int32
  | 0, S, _, _ => 0
  | n + 1, S, z2, z3 => (if z2 = 0 then (S 1 3) else (if (400 : Int32) ≤ z3 then (S 1 3) else (f_X3_readInto_18 d n (g_X3_readSemicolon (g_X3_readClause S d)) (f_X3_readSemicolon (g_X3_readClause S d)) (z3 + (1 : Int32)))))
def g_X3_readInto (S : qw_St) (d : Nat) : qw_St := (g_X3_readInto_18 d 401 (up2 (up2 (g_X0_clear S d) 1 2 (0 : Int32)) 1 3 (-1 : Int32)) (1 : Int32) (0 : Int32))
def f_X3_readInto (S : qw_St) (d : Nat) : Int32 := (f_X3_readInto_18 d 401 (up2 (up2 (g_X0_clear S d) 1 2 (0 : Int32)) 1 3 (-1 : Int32)) (1 : Int32) (0 : Int32))
set_option maxHeartbeats 4000000 in
set_option maxRecDepth 100000 in
theorem c_X3_readInto (l : Launch) (D : va_G) {r : Nat → Nat} (c : Nat → ClassId) (g : Nat → Int64) (hr : qw_inj r) (S : qw_St) (d : Nat) (hd : d < 21) (hz : qz (S 1 1) 400) : Met l yX3_readInto wsX3_readInto ({ frames := 6, cells := 0, slots := 0, locals := 130 }) (va_Pc [.ref (r 1), .ref (r (16 + 3 * d))] (fun U => qw_X D r c g S U ∧ EV (qw_A r) U)) (qw_Qi D r c g (f_X3_readInto S d) (g_X3_readInto S d)) 0 0 (qw_A r) := by
  have hiX3 : ∀ w ∈ wsX30, w ∈ wsX3_readInto := by decide +kernel
  refine wx_ofE (cc := cX3_readInto) (nL := 4) (ret := (some .int)) (lvs := [(0, .ref (r 1)), (1, .ref (r (16 + 3 * d)))]) (by decide) rfl rfl (Nat.le_of_ble_eq_true rfl) ?_
  intro p e s m below meth c0 ls hx hb hret hml hts hown hlk hK hP hS hl hE
  have hT0 : TI (up2 (up2 (g_X0_clear S d) 1 2 (0 : Int32)) 1 3 (-1 : Int32)) := by
    refine ti_put3 ⟨?_, ?_⟩ _
    · rw [up2_ne _ _ (Or.inr (by decide)), fr_X0_clear _ _ _ (by omega)]; exact hz
    · rw [up2_same]; exact ⟨0, by omega, nI_0.symm⟩
  have hP : qw_P D r c g S s.heap := hP
  refine lv_aload_n hx hb dX3_readInto_0 rfl (lv_at hl 1 rfl) ?_
  refine wc_vV (k := (16 + 3 * d)) (C := RX0) (As := []) (rest := []) ⟨hx, hb, hml, hown, hts⟩ (c_X0_clear l D c g hr S d hd) (cwV 0 hts gX3_readInto_X0_clear rfl rfl rfl (by decide +kernel) ⟨Nat.le_of_ble_eq_true rfl, Nat.le_of_ble_eq_true rfl⟩) (wx_recv hK hP (by omega) (qc_dec hd) rfl) hK hP hS (fun _ h => h) rfl hl.1 rfl (lv_room (Nat.le_of_ble_eq_true rfl)) dX3_readInto_1 ⟨Nat.zero_le _, Nat.zero_le _⟩ (fun H locs hP hS => ?_)
  refine lv_aload_n hx hb dX3_readInto_4 rfl (lv_at hl 0 rfl) ?_
  refine lv_iconst (v := 0) hx hb dX3_readInto_5 (by decide) ?_
  refine wx_put hr hx hb hts hiX3 tyX3 tyX3_ok nmX3 hown hK hP hS 1 (by decide) qc_1 rfl 2 (by decide) (hts (.fieldLink RX3 19 "PriceEdict$Tape" "at" "I") (by decide +kernel)) rfl (by decide +kernel) (fun _ => rfl) (Nat.le_of_ble_eq_true rfl) dX3_readInto_6 (fun H locs hP hS => ?_)
  refine lv_aload_n hx hb dX3_readInto_9 rfl (lv_at hl 0 rfl) ?_
  refine lv_iconst (v := (-1)) hx hb dX3_readInto_10 (by decide) ?_
  refine wx_put hr hx hb hts hiX3 tyX3 tyX3_ok nmX3 hown hK hP hS 1 (by decide) qc_1 rfl 3 (by decide) (hts (.fieldLink RX3 22 "PriceEdict$Tape" "wrong" "I") (by decide +kernel)) rfl (by decide +kernel) (fun _ => rfl) (Nat.le_of_ble_eq_true rfl) dX3_readInto_11 (fun H locs hP hS => ?_)
  refine lv_iconst (v := 1) hx hb dX3_readInto_14 (by decide) ?_
  refine lv_istore_n (lv' := [(2, .int (1 : Int32)), (0, .ref (r 1)), (1, .ref (r (16 + 3 * d)))]) hx hb dX3_readInto_15 rfl hl (by decide) rfl (fun ls hl => ?_)
  refine lv_iconst (v := 0) hx hb dX3_readInto_16 (by decide) ?_
  refine lv_istore_n (lv' := [(3, .int (0 : Int32)), (2, .int (1 : Int32)), (0, .ref (r 1)), (1, .ref (r (16 + 3 * d)))]) hx hb dX3_readInto_17 rfl hl (by decide) rfl (fun ls hl => ?_)
  have L_18 : ∀ (n : Nat) (k : Nat) (z2 : Int32) (z3 : Int32) (S1 : qw_St) (H : Heap) (locs : List Loc) (ls : Array Slot) (hk : k + n = 401 ∧ k ≤ 400) (hz3 : z3 = nI k) (hT1 : TI S1) (hf_18 : f_X3_readInto_18 d n S1 z2 z3 = (f_X3_readInto S d)) (hg_18 : g_X3_readInto_18 d n S1 z2 z3 = (g_X3_readInto S d)), qw_P D r c g S1 H → va_S (qw_A r) s.heap H locs → lv_has ls 4 [(3, .int z3), (2, .int z2), (0, .ref (r 1)), (1, .ref (r (16 + 3 * d)))] → W p l e ({ frames := 6, cells := 0, slots := 0, locals := 130 }) s m [.ref (r 1), .ref (r (16 + 3 * d))].toArray below meth c0 H locs 0 0 (MQ below (qw_Qi D r c g (f_X3_readInto S d) (g_X3_readInto S d)) [.ref (r 1), .ref (r (16 + 3 * d))].toArray s 0 0 (qw_A r)) (F0 m 18 ls []) := by
    intro n
    induction n with
    | zero =>
      intro k z2 z3 S1 H locs ls hk hz3 hT1 hf_18 hg_18 hP hS hl
      omega
    | succ n ih_18 =>
      intro k z2 z3 S1 H locs ls hk hz3 hT1 hf_18 hg_18 hP hS hl
      refine lv_iload_n hx hb dX3_readInto_18 rfl (lv_at hl 1 rfl) ?_
      refine lv_if_eq (tgt := 45) hx hb dX3_readInto_19 (by decide) (fun c_19 => ?_) (fun c_19 => ?_)
      · refine lv_aload_n hx hb dX3_readInto_45 rfl (lv_at hl 2 rfl) ?_
        refine wx_get hx hb hts hiX3 hown hK hP 1 (by decide) qc_1 rfl 3 (by decide) (hts (.fieldLink RX3 22 "PriceEdict$Tape" "wrong" "I") (by decide +kernel)) rfl dX3_readInto_46 ?_
        exact wx_iret hx hb hret hlk hK hP hS (by rw [← hf_18, f_X3_readInto_18]; rw [if_pos c_19]) (by rw [← hg_18, g_X3_readInto_18]; rw [if_pos c_19]) dX3_readInto_49
      · refine lv_iload_n hx hb dX3_readInto_22 rfl (lv_at hl 0 rfl) ?_
        refine lv_sipush (v := 400) hx hb dX3_readInto_23 (by decide) ?_
        refine lv_icmp_ge (tgt := 45) hx hb dX3_readInto_26 (by decide) (fun c_26 => ?_) (fun c_26 => ?_)
        · refine lv_aload_n hx hb dX3_readInto_45 rfl (lv_at hl 2 rfl) ?_
          refine wx_get hx hb hts hiX3 hown hK hP 1 (by decide) qc_1 rfl 3 (by decide) (hts (.fieldLink RX3 22 "PriceEdict$Tape" "wrong" "I") (by decide +kernel)) rfl dX3_readInto_46 ?_
          exact wx_iret hx hb hret hlk hK hP hS (by rw [← hf_18, f_X3_readInto_18]; rw [if_neg c_19, if_pos c_26]) (by rw [← hg_18, g_X3_readInto_18]; rw [if_neg c_19, if_pos c_26]) dX3_readInto_49
        · have hk4 : k < 400 := qi_lt hz3 (by omega) (m := 400) rfl c_26
          refine lv_aload_n hx hb dX3_readInto_29 rfl (lv_at hl 2 rfl) ?_
          refine lv_aload_n hx hb dX3_readInto_30 rfl (lv_at hl 3 rfl) ?_
          refine wd_vV (b := r 1) (C := RX3) (As := [.ref (r (16 + 3 * d))]) (rest := []) ⟨hx, hb, hml, hown, hts⟩ (c_X3_readClause l D c g hr S1 d hd hT1) (ev_bl _) (fun U hU hW => hE.to hS (fun _ h => h) hU hW) (cwV 1 hts gX3_readInto_X3_readClause rfl rfl rfl (by decide +kernel) ⟨Nat.le_of_ble_eq_true rfl, Nat.le_of_ble_eq_true rfl⟩) (wx_recv hK hP (by decide) qc_1 rfl) hK hP hS (fun _ h => h) rfl hl.1 rfl (lv_room (Nat.le_of_ble_eq_true rfl)) dX3_readInto_31 ⟨Nat.zero_le _, Nat.zero_le _⟩ (fun H locs hP hS => ?_)
          refine lv_aload_n hx hb dX3_readInto_34 rfl (lv_at hl 2 rfl) ?_
          refine wc_iV (k := 1) (C := RX3) (As := []) (rest := []) ⟨hx, hb, hml, hown, hts⟩ (c_X3_readSemicolon l D c g hr (g_X3_readClause S1 d) (ti_X3_readClause _ hT1)) (cwV 0 hts gX3_readInto_X3_readSemicolon rfl rfl rfl (by decide +kernel) ⟨Nat.le_of_ble_eq_true rfl, Nat.le_of_ble_eq_true rfl⟩) (wx_recv hK hP (by decide) qc_1 rfl) hK hP hS (fun _ h => h) rfl hl.1 rfl (lv_room (Nat.le_of_ble_eq_true rfl)) dX3_readInto_35 ⟨Nat.zero_le _, Nat.zero_le _⟩ (fun H locs hP hS => ?_)
          refine lv_topi (fun x_1 ex_1 => ?_)
          refine lv_istore_n (lv' := [(2, .int x_1), (3, .int z3), (0, .ref (r 1)), (1, .ref (r (16 + 3 * d)))]) hx hb dX3_readInto_38 rfl hl (by decide) rfl (fun ls hl => ?_)
          obtain ⟨x_2, ex_2⟩ : ∃ y : Int32, y = (z3 + (1 : Int32)) := ⟨_, rfl⟩
          refine lv_iinc (v := x_2) (lv' := [(3, .int x_2), (2, .int x_1), (0, .ref (r 1)), (1, .ref (r (16 + 3 * d)))]) hx hb dX3_readInto_39 hl (k := 1) rfl (by rw [ex_2]; rfl) (by decide) rfl (fun ls hl => ?_)
          refine lv_goto (tgt := 18) hx hb dX3_readInto_42 (by decide) ?_
          exact ih_18 (k + 1) x_1 x_2 (g_X3_readSemicolon (g_X3_readClause S1 d)) _ _ _ (by omega) (by rw [ex_2]; exact qi_add hz3) (ti_X3_readSemicolon (ti_X3_readClause _ hT1)) (by subst ex_2; subst ex_1; rw [← hf_18, f_X3_readInto_18]; rw [if_neg c_19, if_neg c_26]) (by subst ex_2; subst ex_1; rw [← hg_18, g_X3_readInto_18]; rw [if_neg c_19, if_neg c_26]) hP hS (lv_sub hl [0, 1, 2, 3] rfl)
  exact L_18 401 0 (1 : Int32) (0 : Int32) (up2 (up2 (g_X0_clear S d) 1 2 (0 : Int32)) 1 3 (-1 : Int32)) _ _ _ (by omega) nI_0.symm hT0 (by rw [f_X3_readInto]) (by rw [g_X3_readInto]) hP hS (lv_sub hl [0, 1, 2, 3] rfl)
