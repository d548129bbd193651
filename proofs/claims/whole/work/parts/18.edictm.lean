def MonP (k m1 : Nat) (S : qw_St) : Prop := ∃ k1, k ≤ k1 ∧ k1 ≤ 400 ∧ S 143 20 = nI k1 ∧ S 143 21 = nI m1
theorem MonP.up {k m1 : Nat} {S : qw_St} (h : MonP k m1 S) {c : Nat} (hc : 143 ≠ c) (j : Nat) (v : Int32) : MonP k m1 (up2 S c j v) := by
  obtain ⟨k1, q1, q2, q3, q4⟩ := h
  exact ⟨k1, q1, q2, by rw [up2_ne _ _ (Or.inl hc)]; exact q3, by rw [up2_ne _ _ (Or.inl hc)]; exact q4⟩
theorem MonP.num {k m1 : Nat} {S : qw_St} (h : MonP k m1 S) (h1 : m1 ≤ 400) (a b : Int32) : MonP k m1 (g_X7_number S a b) := by
  obtain ⟨k1, q1, q2, q3, q4⟩ := h
  obtain ⟨k2, r1, r2, r3, r4⟩ := number_m a b q3 q4 h1 q2
  exact ⟨k2, by omega, r2, r3, r4⟩
theorem MonP.bl {k m1 : Nat} {S : qw_St} (h : MonP k m1 S) (h1 : m1 ≤ 400) : MonP k m1 (g_X7_blanks S) := by
  obtain ⟨k1, q1, q2, q3, q4⟩ := h
  obtain ⟨k2, r1, r2, r3, r4⟩ := blanks_m q3 q4 h1 q2
  exact ⟨k2, by omega, r2, r3, by rw [fr_X7_blanks _ _ (Or.inr (by decide))]; exact q4⟩
theorem MonP.pt {k m1 : Nat} {S : qw_St} (h : MonP k m1 S) (h1 : m1 ≤ 400) {a b : Int32} (c : ¬ f_X7_isAt S a b = 0) : MonP k m1 (up2 S 143 20 (S 143 20 + 1)) := by
  obtain ⟨k1, q1, q2, q3, q4⟩ := h
  have hlt : k1 < m1 := qi_ltn q3 (by omega) q4 (by omega) (isAt_t c)
  exact ⟨k1 + 1, by omega, by omega, by rw [up2_same]; exact qi_add q3, by rw [up2_ne _ _ (Or.inr (by decide))]; exact q4⟩
theorem rc_m_4 : ∀ (n : Nat) (S : qw_St) (k m1 : Nat), m1 ≤ 400 → MonP k m1 S → MonP k m1 (g_X7_readClause_4 n S) := by
  intro n
  induction n with
  | zero => intro S k m1 h1 h; exact h
  | succ n ih =>
    intro S k m1 h1 h
    rw [g_X7_readClause_4]
    split
    · have h5 := h.num h1 0 5
      have h7 := h.num h1 0 7
      have h100 := h.num h1 0 100
      have h99 := h.num h1 0 99
      have ha := h5.num h1 0 29
      have hb := h5.num h1 1 9999
      have hab : ∀ (c : Prop) [Decidable c], MonP k m1 (if c then g_X7_number (g_X7_number S 0 5) 0 29 else g_X7_number (g_X7_number S 0 5) 1 9999) := fun c _ => by
        by_cases q : c
        · rw [if_pos q]; exact ha
        · rw [if_neg q]; exact hb
      split
      · split
        · split
          · split
            · split
              · exact h
              · split
                · exact h7.up (by decide) _ _
                · exact h7
            · split
              · exact h100.up (by decide) _ _
              · exact h100.up (by decide) _ _
          · split
            · exact h99.up (by decide) _ _
            · exact h99.up (by decide) _ _
        · split
          · split
            · exact (ha.up (by decide) _ _).up (by decide) _ _
            · exact ha
          · exact h5
      · split
        · split
          · exact (hb.up (by decide) _ _).up (by decide) _ _
          · exact hb
        · exact h5
    · next c => exact ih _ k m1 h1 (h.pt h1 c)
theorem MonP.rc {k m1 : Nat} {S : qw_St} (h : MonP k m1 S) (h1 : m1 ≤ 400) : MonP k m1 (g_X7_readClause S) := rc_m_4 401 _ k m1 h1 (h.bl h1)
theorem fr_X7_readClause_4 : ∀ (n : Nat) (S : qw_St) (k j : Nat), (k ≠ 143 ∨ (j ≠ 20 ∧ j ≠ 22)) → (k < 149 ∨ 153 < k) → g_X7_readClause_4 n S k j = S k j := by
  intro n
  induction n with
  | zero => intro S k j h h2; rfl
  | succ n ih =>
    intro S k j h h2
    have hn : ∀ (S : qw_St) (a b : Int32), g_X7_number S a b k j = S k j := fun S a b => fr_X7_number S a b j h
    have hu : ∀ (S : qw_St) (c i : Nat) (v : Int32), 149 ≤ c → c ≤ 153 → up2 S c i v k j = S k j := fun S c i v h3 h4 => up2_ne _ _ (Or.inl (by omega))
    have hab : ∀ (c : Prop) [Decidable c], (if c then g_X7_number (g_X7_number S 0 5) 0 29 else g_X7_number (g_X7_number S 0 5) 1 9999) k j = S k j := fun c _ => by
      by_cases q : c
      · rw [if_pos q, hn, hn]
      · rw [if_neg q, hn, hn]
    rw [g_X7_readClause_4]
    split
    · split
      · split
        · split
          · split
            · split
              · rfl
              · split
                · rw [hu _ _ _ _ (by decide) (by decide), hn]
                · rw [hn]
            · split
              · rw [hu _ _ _ _ (by decide) (by decide), hn]
              · rw [hu _ _ _ _ (by decide) (by decide), hn]
          · split
            · rw [hu _ _ _ _ (by decide) (by decide), hn]
            · rw [hu _ _ _ _ (by decide) (by decide), hn]
        · split
          · split
            · rw [hu _ _ _ _ (by decide) (by decide), hu _ _ _ _ (by decide) (by decide), hn, hn]
            · rw [hn, hn]
          · rw [hn]
      · split
        · split
          · rw [hu _ _ _ _ (by decide) (by decide), hu _ _ _ _ (by decide) (by decide), hn, hn]
          · rw [hn, hn]
        · rw [hn]
    · rw [ih _ _ _ h h2, up2_ne _ _ (h.imp id (fun q => q.1))]
theorem fr_X7_readClause (S : qw_St) {k : Nat} (j : Nat) (h : k ≠ 143 ∨ (j ≠ 20 ∧ j ≠ 22)) (h2 : k < 149 ∨ 153 < k) : g_X7_readClause S k j = S k j := by
  unfold g_X7_readClause
  rw [fr_X7_readClause_4 _ _ _ _ h h2, fr_X7_blanks _ _ h]
theorem t6_in {z : Int32} {k : Nat} (hz : z = nI k) (hk : k < 6) : vp_in (120 + z) 126 := by
  rw [hz, show (120 : Int32) = nI 120 from rfl, nI_add]; exact vp_in_nI (by omega) (by decide)
def g_X7_readAll_76 (y1 : Int32) : Nat → qw_St → qw_St
  | 0, S => S
  | n + 1, S => (if (f_X7_readClause S) = 0 then (g_X7_readClause S) else (if ((g_X7_blanks (g_X7_readClause S)) 143 20) = ((g_X7_readClause S) 143 21) then (g_X7_blanks (g_X7_readClause S)) else (if (f_X7_isAt (g_X7_blanks (g_X7_readClause S)) (59 : Int32) (59 : Int32)) = 0 then (g_X7_blanks (g_X7_readClause S)) else (g_X7_readAll_76 y1 n (up2 (g_X7_blanks (g_X7_readClause S)) 143 20 (((g_X7_blanks (g_X7_readClause S)) 143 20) + (1 : Int32)))))))
def g_X7_readAll_44 : Nat → qw_St → Int32 → qw_St
  | 0, S, _ => S
  | n + 1, S, z1 => (if (6 : Int32) ≤ z1 then (g_X7_readAll_76 z1 401 S) else (g_X7_readAll_44 n (up2 (up2 S 149 ((120 : Int32) + z1).toNatClampNeg (-1 : Int32)) 150 ((120 : Int32) + z1).toNatClampNeg (-1 : Int32)) (z1 + (1 : Int32))))
def f_X7_readAll_76 (y1 : Int32) : Nat → qw_St → Int32
  | 0, S => 0
  | n + 1, S => (if (f_X7_readClause S) = 0 then (0 : Int32) else (if ((g_X7_blanks (g_X7_readClause S)) 143 20) = ((g_X7_readClause S) 143 21) then (1 : Int32) else (if (f_X7_isAt (g_X7_blanks (g_X7_readClause S)) (59 : Int32) (59 : Int32)) = 0 then (0 : Int32) else (f_X7_readAll_76 y1 n (up2 (g_X7_blanks (g_X7_readClause S)) 143 20 (((g_X7_blanks (g_X7_readClause S)) 143 20) + (1 : Int32)))))))
def f_X7_readAll_44 : Nat → qw_St → Int32 → Int32
  | 0, S, _ => 0
  | n + 1, S, z1 => (if (6 : Int32) ≤ z1 then (f_X7_readAll_76 z1 401 S) else (f_X7_readAll_44 n (up2 (up2 S 149 ((120 : Int32) + z1).toNatClampNeg (-1 : Int32)) 150 ((120 : Int32) + z1).toNatClampNeg (-1 : Int32)) (z1 + (1 : Int32))))
def g_X7_readAll (S : qw_St) : qw_St := (g_X7_readAll_44 7 (up2 (up2 (up2 (up2 (up2 (up2 S 143 21 (S 143 19)) 143 19 (0 : Int32)) 143 20 (0 : Int32)) 151 (20 : Int32).toNatClampNeg (0 : Int32)) 152 (20 : Int32).toNatClampNeg (0 : Int32)) 153 (20 : Int32).toNatClampNeg (0 : Int32)) (0 : Int32))
def f_X7_readAll (S : qw_St) : Int32 := (f_X7_readAll_44 7 (up2 (up2 (up2 (up2 (up2 (up2 S 143 21 (S 143 19)) 143 19 (0 : Int32)) 143 20 (0 : Int32)) 151 (20 : Int32).toNatClampNeg (0 : Int32)) 152 (20 : Int32).toNatClampNeg (0 : Int32)) 153 (20 : Int32).toNatClampNeg (0 : Int32)) (0 : Int32))
set_option maxHeartbeats 4000000 in
set_option maxRecDepth 100000 in
theorem c_X7_readAll (l : Launch) (D : va_G) {r : Nat → Nat} (c : Nat → ClassId) (g : Nat → Int64) (hr : qw_inj r) (S : qw_St) (hz : qz (S 143 19) 400) : Met l yX7_readAll wsX7_readAll ({ frames := 6, cells := 0, slots := 0, locals := 131 }) (va_Pc [.ref (r 143)] (fun U => qw_X D r c g S U ∧ EV (qw_A r) U)) (qw_Qi D r c g (f_X7_readAll S) (g_X7_readAll S)) 0 0 (qw_A r) := by
  have hiX7 : ∀ w ∈ wsX70, w ∈ wsX7_readAll := by decide +kernel
  refine wx_ofE (cc := cX7_readAll) (nL := 2) (ret := (some .boolean)) (lvs := [(0, .ref (r 143))]) (by decide) rfl rfl (Nat.le_of_ble_eq_true rfl) ?_
  intro p e s m below meth c0 ls hx hb hret hml hts hown hlk hK hP hS hl hE
  obtain ⟨m1, hm1, em1⟩ := id hz
  have hP : qw_P D r c g S s.heap := hP
  refine lv_aload_n hx hb dX7_readAll_0 rfl (lv_at hl 0 rfl) ?_
  refine lv_aload_n hx hb dX7_readAll_1 rfl (lv_at hl 0 rfl) ?_
  refine wx_get hx hb hts hiX7 hown hK hP 143 (by decide) qc_143 rfl 19 (by decide) (hts (.fieldLink RX7 141 "PriceEdictModel" "taped" "I") (by decide +kernel)) rfl dX7_readAll_2 ?_
  refine wx_put hr hx hb hts hiX7 tyX7 tyX7_ok nmX7 hown hK hP hS 143 (by decide) qc_143 rfl 21 (by decide) (hts (.fieldLink RX7 147 "PriceEdictModel" "end" "I") (by decide +kernel)) rfl (by decide +kernel) (fun _ => rfl) (Nat.le_of_ble_eq_true rfl) dX7_readAll_5 (fun H locs hP hS => ?_)
  refine lv_aload_n hx hb dX7_readAll_8 rfl (lv_at hl 0 rfl) ?_
  refine lv_iconst (v := 0) hx hb dX7_readAll_9 (by decide) ?_
  refine wx_put hr hx hb hts hiX7 tyX7 tyX7_ok nmX7 hown hK hP hS 143 (by decide) qc_143 rfl 19 (by decide) (hts (.fieldLink RX7 141 "PriceEdictModel" "taped" "I") (by decide +kernel)) rfl (by decide +kernel) (fun _ => rfl) (Nat.le_of_ble_eq_true rfl) dX7_readAll_10 (fun H locs hP hS => ?_)
  refine lv_aload_n hx hb dX7_readAll_13 rfl (lv_at hl 0 rfl) ?_
  refine lv_iconst (v := 0) hx hb dX7_readAll_14 (by decide) ?_
  refine wx_put hr hx hb hts hiX7 tyX7 tyX7_ok nmX7 hown hK hP hS 143 (by decide) qc_143 rfl 20 (by decide) (hts (.fieldLink RX7 144 "PriceEdictModel" "point" "I") (by decide +kernel)) rfl (by decide +kernel) (fun _ => rfl) (Nat.le_of_ble_eq_true rfl) dX7_readAll_15 (fun H locs hP hS => ?_)
  refine lv_aload_n hx hb dX7_readAll_18 rfl (lv_at hl 0 rfl) ?_
  refine wx_get hx hb hts hiX7 hown hK hP 143 (by decide) qc_143 rfl 11 (by decide) (hts (.fieldLink RX7 31 "PriceEdictModel" "carriage" "[I") (by decide +kernel)) rfl dX7_readAll_19 ?_
  refine lv_bipush (v := 20) hx hb dX7_readAll_22 (by decide) ?_
  refine lv_iconst (v := 0) hx hb dX7_readAll_24 (by decide) ?_
  refine wx_ist hr hx hb hK hP hS 151 (by decide) qc_151 (vp_in_iff.mpr (by decide)) dX7_readAll_25 (fun H locs hP hS => ?_)
  refine lv_aload_n hx hb dX7_readAll_26 rfl (lv_at hl 0 rfl) ?_
  refine wx_get hx hb hts hiX7 hown hK hP 143 (by decide) qc_143 rfl 12 (by decide) (hts (.fieldLink RX7 34 "PriceEdictModel" "credit" "[I") (by decide +kernel)) rfl dX7_readAll_27 ?_
  refine lv_bipush (v := 20) hx hb dX7_readAll_30 (by decide) ?_
  refine lv_iconst (v := 0) hx hb dX7_readAll_32 (by decide) ?_
  refine wx_ist hr hx hb hK hP hS 152 (by decide) qc_152 (vp_in_iff.mpr (by decide)) dX7_readAll_33 (fun H locs hP hS => ?_)
  refine lv_aload_n hx hb dX7_readAll_34 rfl (lv_at hl 0 rfl) ?_
  refine wx_get hx hb hts hiX7 hown hK hP 143 (by decide) qc_143 rfl 13 (by decide) (hts (.fieldLink RX7 37 "PriceEdictModel" "free" "[I") (by decide +kernel)) rfl dX7_readAll_35 ?_
  refine lv_bipush (v := 20) hx hb dX7_readAll_38 (by decide) ?_
  refine lv_iconst (v := 0) hx hb dX7_readAll_40 (by decide) ?_
  refine wx_ist hr hx hb hK hP hS 153 (by decide) qc_153 (vp_in_iff.mpr (by decide)) dX7_readAll_41 (fun H locs hP hS => ?_)
  refine lv_iconst (v := 0) hx hb dX7_readAll_42 (by decide) ?_
  refine lv_istore_n (lv' := [(1, .int (0 : Int32)), (0, .ref (r 143))]) hx hb dX7_readAll_43 rfl hl (by decide) rfl (fun ls hl => ?_)
  have L_44 : ∀ (n : Nat) (k : Nat) (z1 : Int32) (S1 : qw_St) (H : Heap) (locs : List Loc) (ls : Array Slot) (hk : k + n = 7 ∧ k ≤ 6) (hz1 : z1 = nI k) (hp0 : S1 143 20 = 0) (he0 : S1 143 21 = nI m1) (hf_44 : f_X7_readAll_44 n S1 z1 = (f_X7_readAll S)) (hg_44 : g_X7_readAll_44 n S1 z1 = (g_X7_readAll S)), qw_P D r c g S1 H → va_S (qw_A r) s.heap H locs → lv_has ls 2 [(1, .int z1), (0, .ref (r 143))] → W p l e ({ frames := 6, cells := 0, slots := 0, locals := 131 }) s m [.ref (r 143)].toArray below meth c0 H locs 0 0 (MQ below (qw_Qi D r c g (f_X7_readAll S) (g_X7_readAll S)) [.ref (r 143)].toArray s 0 0 (qw_A r)) (F0 m 44 ls []) := by
    intro n
    induction n with
    | zero =>
      intro k z1 S1 H locs ls hk hz1 hp0 he0 hf_44 hg_44 hP hS hl
      omega
    | succ n ih_44 =>
      intro k z1 S1 H locs ls hk hz1 hp0 he0 hf_44 hg_44 hP hS hl
      refine lv_iload_n hx hb dX7_readAll_44 rfl (lv_at hl 0 rfl) ?_
      refine lv_bipush (v := 6) hx hb dX7_readAll_45 (by decide) ?_
      refine lv_icmp_ge (tgt := 76) hx hb dX7_readAll_47 (by decide) (fun c_47 => ?_) (fun c_47 => ?_)
      · have L_76 : ∀ (n2 : Nat) (k2 : Nat) (S1 : qw_St) (H : Heap) (locs : List Loc) (ls : Array Slot) (hk2 : k2 ≤ 400 ∧ 401 ≤ k2 + n2) (hp1 : S1 143 20 = nI k2) (he1 : S1 143 21 = nI m1) (hf_76 : f_X7_readAll_76 z1 n2 S1 = (f_X7_readAll S)) (hg_76 : g_X7_readAll_76 z1 n2 S1 = (g_X7_readAll S)), qw_P D r c g S1 H → va_S (qw_A r) s.heap H locs → lv_has ls 2 [(1, .int z1), (0, .ref (r 143))] → W p l e ({ frames := 6, cells := 0, slots := 0, locals := 131 }) s m [.ref (r 143)].toArray below meth c0 H locs 0 0 (MQ below (qw_Qi D r c g (f_X7_readAll S) (g_X7_readAll S)) [.ref (r 143)].toArray s 0 0 (qw_A r)) (F0 m 76 ls []) := by
          intro n2
          induction n2 with
          | zero =>
            intro k2 S1 H locs ls hk2 hp1 he1 hf_76 hg_76 hP hS hl
            omega
          | succ n2 ih_76 =>
            intro k2 S1 H locs ls hk2 hp1 he1 hf_76 hg_76 hP hS hl
            have hm3 : MonP k2 m1 (g_X7_readClause S1) := MonP.rc ⟨k2, by omega, by omega, hp1, he1⟩ hm1
            obtain ⟨k3, hk3, hk34, ek3, em3⟩ := id hm3
            have hm4 := hm3.bl hm1
            obtain ⟨k4, hk4, hk44, ek4, em4⟩ := id hm4
            refine lv_aload_n hx hb dX7_readAll_76 rfl (lv_at hl 1 rfl) ?_
            refine wd_iV (b := r 143) (C := RX7) (As := []) (rest := []) ⟨hx, hb, hml, hown, hts⟩ (c_X7_readClause l D c g hr S1 ⟨k2, by omega, hp1⟩ ⟨m1, hm1, he1⟩) (ev_bl _) (fun U hU hW => hE.to hS (fun _ h => h) hU hW) (cwV 0 hts gX7_readAll_X7_readClause rfl rfl rfl (by decide +kernel) ⟨Nat.le_of_ble_eq_true rfl, Nat.le_of_ble_eq_true rfl⟩) (wx_recv hK hP (by decide) qc_143 rfl) hK hP hS (fun _ h => h) rfl hl.1 rfl (lv_room (Nat.le_of_ble_eq_true rfl)) dX7_readAll_77 ⟨Nat.zero_le _, Nat.zero_le _⟩ (fun H locs hP hS => ?_)
            refine lv_if_ne (tgt := 85) hx hb dX7_readAll_80 (by decide) (fun c_80 => ?_) (fun c_80 => ?_)
            · refine lv_aload_n hx hb dX7_readAll_85 rfl (lv_at hl 1 rfl) ?_
              refine wc_vV (k := 143) (C := RX7) (As := []) (rest := []) ⟨hx, hb, hml, hown, hts⟩ (c_X7_blanks l D c g hr (g_X7_readClause S1) ⟨k3, hk34, ek3⟩ ⟨m1, hm1, em3⟩) (cwV 0 hts gX7_readAll_X7_blanks rfl rfl rfl (by decide +kernel) ⟨Nat.le_of_ble_eq_true rfl, Nat.le_of_ble_eq_true rfl⟩) (wx_recv hK hP (by decide) qc_143 rfl) hK hP hS (fun _ h => h) rfl hl.1 rfl (lv_room (Nat.le_of_ble_eq_true rfl)) dX7_readAll_86 ⟨Nat.zero_le _, Nat.zero_le _⟩ (fun H locs hP hS => ?_)
              refine lv_aload_n hx hb dX7_readAll_89 rfl (lv_at hl 1 rfl) ?_
              refine wx_get hx hb hts hiX7 hown hK hP 143 (by decide) qc_143 rfl 20 (by decide) (hts (.fieldLink RX7 144 "PriceEdictModel" "point" "I") (by decide +kernel)) rfl dX7_readAll_90 ?_
              refine lv_aload_n hx hb dX7_readAll_93 rfl (lv_at hl 1 rfl) ?_
              refine wx_get hx hb hts hiX7 hown hK hP 143 (by decide) qc_143 rfl 21 (by decide) (hts (.fieldLink RX7 147 "PriceEdictModel" "end" "I") (by decide +kernel)) rfl dX7_readAll_94 ?_
              refine lv_tope ((g_X7_readClause S1) 143 21) ((fr_X7_blanks (g_X7_readClause S1) 21 (Or.inr (by decide)))) ?_
              refine lv_icmp_ne (tgt := 102) hx hb dX7_readAll_97 (by decide) (fun c_97 => ?_) (fun c_97 => ?_)
              · refine lv_aload_n hx hb dX7_readAll_102 rfl (lv_at hl 1 rfl) ?_
                refine lv_bipush (v := 59) hx hb dX7_readAll_103 (by decide) ?_
                refine lv_bipush (v := 59) hx hb dX7_readAll_105 (by decide) ?_
                refine wc_iV (k := 143) (C := RX7) (As := [.int (59 : Int32), .int (59 : Int32)]) (rest := []) ⟨hx, hb, hml, hown, hts⟩ (c_X7_isAt l D c g hr (g_X7_blanks (g_X7_readClause S1)) (59 : Int32) (59 : Int32) ⟨k4, hk44, ek4⟩ ⟨m1, hm1, em4⟩) (cwV 2 hts gX7_readAll_X7_isAt rfl rfl rfl (by decide +kernel) ⟨Nat.le_of_ble_eq_true rfl, Nat.le_of_ble_eq_true rfl⟩) (wx_recv hK hP (by decide) qc_143 rfl) hK hP hS (fun _ h => h) rfl hl.1 rfl (lv_room (Nat.le_of_ble_eq_true rfl)) dX7_readAll_107 ⟨Nat.zero_le _, Nat.zero_le _⟩ (fun H locs hP hS => ?_)
                refine lv_if_ne (tgt := 115) hx hb dX7_readAll_110 (by decide) (fun c_110 => ?_) (fun c_110 => ?_)
                · have hlt : k4 < m1 := qi_ltn ek4 (by omega) em4 (by omega) (isAt_t c_110)
                  refine lv_aload_n hx hb dX7_readAll_115 rfl (lv_at hl 1 rfl) ?_
                  refine lv_dup hx hb dX7_readAll_116 rfl ?_
                  refine wx_get hx hb hts hiX7 hown hK hP 143 (by decide) qc_143 rfl 20 (by decide) (hts (.fieldLink RX7 144 "PriceEdictModel" "point" "I") (by decide +kernel)) rfl dX7_readAll_117 ?_
                  refine lv_iconst (v := 1) hx hb dX7_readAll_120 (by decide) ?_
                  refine lv_iadd hx hb dX7_readAll_121 ?_
                  refine wx_put hr hx hb hts hiX7 tyX7 tyX7_ok nmX7 hown hK hP hS 143 (by decide) qc_143 rfl 20 (by decide) (hts (.fieldLink RX7 144 "PriceEdictModel" "point" "I") (by decide +kernel)) rfl (by decide +kernel) (fun _ => rfl) (Nat.le_of_ble_eq_true rfl) dX7_readAll_122 (fun H locs hP hS => ?_)
                  refine lv_goto (tgt := 76) hx hb dX7_readAll_125 (by decide) ?_
                  exact ih_76 (k4 + 1) (up2 (g_X7_blanks (g_X7_readClause S1)) 143 20 (((g_X7_blanks (g_X7_readClause S1)) 143 20) + (1 : Int32))) _ _ _ (by omega) (by rw [up2_same]; exact qi_add ek4) (by rw [up2_ne _ _ (Or.inr (by decide))]; exact em4) (by rw [← hf_76, f_X7_readAll_76]; rw [if_neg c_80, if_neg c_97, if_neg c_110]) (by rw [← hg_76, g_X7_readAll_76]; rw [if_neg c_80, if_neg c_97, if_neg c_110]) hP hS (lv_sub hl [0, 1] rfl)
                · refine lv_iconst (v := 0) hx hb dX7_readAll_113 (by decide) ?_
                  exact wx_zret hx hb hret hlk hK hP hS rfl (by rw [← hf_76, f_X7_readAll_76]; rw [if_neg c_80, if_neg c_97, if_pos c_110]) (by rw [← hg_76, g_X7_readAll_76]; rw [if_neg c_80, if_neg c_97, if_pos c_110]) dX7_readAll_114
              · refine lv_iconst (v := 1) hx hb dX7_readAll_100 (by decide) ?_
                exact wx_zret hx hb hret hlk hK hP hS rfl (by rw [← hf_76, f_X7_readAll_76]; rw [if_neg c_80, if_pos c_97]) (by rw [← hg_76, g_X7_readAll_76]; rw [if_neg c_80, if_pos c_97]) dX7_readAll_101
            · refine lv_iconst (v := 0) hx hb dX7_readAll_83 (by decide) ?_
              exact wx_zret hx hb hret hlk hK hP hS rfl (by rw [← hf_76, f_X7_readAll_76]; rw [if_pos c_80]) (by rw [← hg_76, g_X7_readAll_76]; rw [if_pos c_80]) dX7_readAll_84
        exact L_76 401 0 S1 _ _ _ (by omega) (by rw [hp0]; exact nI_0.symm) he0 (by rw [← hf_44, f_X7_readAll_44]; rw [if_pos c_47]) (by rw [← hg_44, g_X7_readAll_44]; rw [if_pos c_47]) hP hS (lv_sub hl [0, 1] rfl)
      · have hk6 : k < 6 := qi_lt hz1 (by omega) (m := 6) rfl c_47
        refine lv_aload_n hx hb dX7_readAll_50 rfl (lv_at hl 1 rfl) ?_
        refine wx_get hx hb hts hiX7 hown hK hP 143 (by decide) qc_143 rfl 9 (by decide) (hts (.fieldLink RX7 25 "PriceEdictModel" "cap" "[I") (by decide +kernel)) rfl dX7_readAll_51 ?_
        refine lv_bipush (v := 120) hx hb dX7_readAll_54 (by decide) ?_
        refine lv_iload_n hx hb dX7_readAll_56 rfl (lv_at hl 0 rfl) ?_
        refine lv_iadd hx hb dX7_readAll_57 ?_
        refine lv_iconst (v := (-1)) hx hb dX7_readAll_58 (by decide) ?_
        refine wx_ist hr hx hb hK hP hS 149 (by decide) qc_149 (t6_in hz1 hk6) dX7_readAll_59 (fun H locs hP hS => ?_)
        refine lv_aload_n hx hb dX7_readAll_60 rfl (lv_at hl 1 rfl) ?_
        refine wx_get hx hb hts hiX7 hown hK hP 143 (by decide) qc_143 rfl 10 (by decide) (hts (.fieldLink RX7 28 "PriceEdictModel" "byLine" "[I") (by decide +kernel)) rfl dX7_readAll_61 ?_
        refine lv_bipush (v := 120) hx hb dX7_readAll_64 (by decide) ?_
        refine lv_iload_n hx hb dX7_readAll_66 rfl (lv_at hl 0 rfl) ?_
        refine lv_iadd hx hb dX7_readAll_67 ?_
        refine lv_iconst (v := (-1)) hx hb dX7_readAll_68 (by decide) ?_
        refine wx_ist hr hx hb hK hP hS 150 (by decide) qc_150 (t6_in hz1 hk6) dX7_readAll_69 (fun H locs hP hS => ?_)
        obtain ⟨x_1, ex_1⟩ : ∃ y : Int32, y = (z1 + (1 : Int32)) := ⟨_, rfl⟩
        refine lv_iinc (v := x_1) (lv' := [(1, .int x_1), (0, .ref (r 143))]) hx hb dX7_readAll_70 hl (k := 0) rfl (by rw [ex_1]; rfl) (by decide) rfl (fun ls hl => ?_)
        refine lv_goto (tgt := 44) hx hb dX7_readAll_73 (by decide) ?_
        exact ih_44 (k + 1) x_1 (up2 (up2 S1 149 ((120 : Int32) + z1).toNatClampNeg (-1 : Int32)) 150 ((120 : Int32) + z1).toNatClampNeg (-1 : Int32)) _ _ _ (by omega) (by rw [ex_1]; exact qi_add hz1) (by rw [up2_ne _ _ (Or.inl (by decide)), up2_ne _ _ (Or.inl (by decide))]; exact hp0) (by rw [up2_ne _ _ (Or.inl (by decide)), up2_ne _ _ (Or.inl (by decide))]; exact he0) (by subst ex_1; rw [← hf_44, f_X7_readAll_44]; rw [if_neg c_47]) (by subst ex_1; rw [← hg_44, g_X7_readAll_44]; rw [if_neg c_47]) hP hS (lv_sub hl [0, 1] rfl)
  exact L_44 7 0 (0 : Int32) (up2 (up2 (up2 (up2 (up2 (up2 S 143 21 (S 143 19)) 143 19 (0 : Int32)) 143 20 (0 : Int32)) 151 (20 : Int32).toNatClampNeg (0 : Int32)) 152 (20 : Int32).toNatClampNeg (0 : Int32)) 153 (20 : Int32).toNatClampNeg (0 : Int32)) _ _ _ (by omega) nI_0.symm (by rw [up2_ne _ _ (Or.inl (by decide)), up2_ne _ _ (Or.inl (by decide)), up2_ne _ _ (Or.inl (by decide)), up2_same]) (by rw [up2_ne _ _ (Or.inl (by decide)), up2_ne _ _ (Or.inl (by decide)), up2_ne _ _ (Or.inl (by decide)), up2_ne _ _ (Or.inr (by decide)), up2_ne _ _ (Or.inr (by decide)), up2_same]; exact em1) (by rw [f_X7_readAll]) (by rw [g_X7_readAll]) hP hS (lv_sub hl [0, 1] rfl)
theorem fr_X7_readAll_76 (y1 : Int32) : ∀ (n : Nat) (S : qw_St) (k j : Nat), (k ≠ 143 ∨ (j ≠ 20 ∧ j ≠ 22)) → (k < 149 ∨ 153 < k) → g_X7_readAll_76 y1 n S k j = S k j := by
  intro n
  induction n with
  | zero => intro S k j h h2; rfl
  | succ n ih =>
    intro S k j h h2
    have e1 := fr_X7_readClause S j h h2
    have e2 : g_X7_blanks (g_X7_readClause S) k j = S k j := (fr_X7_blanks _ _ h).trans e1
    rw [g_X7_readAll_76]
    split
    · exact e1
    · split
      · exact e2
      · split
        · exact e2
        · rw [ih _ _ _ h h2, up2_ne _ _ (h.imp id (fun q => q.1))]; exact e2
theorem fr_X7_readAll_44 : ∀ (n : Nat) (S : qw_St) (z : Int32) (k j : Nat), (k ≠ 143 ∨ (j ≠ 20 ∧ j ≠ 22)) → (k < 149 ∨ 153 < k) → g_X7_readAll_44 n S z k j = S k j := by
  intro n
  induction n with
  | zero => intro S z k j h h2; rfl
  | succ n ih =>
    intro S z k j h h2
    rw [g_X7_readAll_44]
    split
    · exact fr_X7_readAll_76 _ _ _ _ _ h h2
    · rw [ih _ _ _ _ h h2, up2_ne _ _ (Or.inl (by omega)), up2_ne _ _ (Or.inl (by omega))]
theorem fr_X7_readAll (S : qw_St) {k : Nat} (j : Nat) (h : k ≠ 143 ∨ (j ≠ 19 ∧ j ≠ 20 ∧ j ≠ 21 ∧ j ≠ 22)) (h2 : k < 149 ∨ 153 < k) : g_X7_readAll S k j = S k j := by
  unfold g_X7_readAll
  rw [fr_X7_readAll_44 _ _ _ _ _ (h.imp id (fun q => ⟨q.2.1, q.2.2.2⟩)) h2]
  rw [up2_ne _ _ (Or.inl (by omega)), up2_ne _ _ (Or.inl (by omega)), up2_ne _ _ (Or.inl (by omega)), up2_ne _ _ (h.imp id (fun q => q.2.1)), up2_ne _ _ (h.imp id (fun q => q.1)), up2_ne _ _ (h.imp id (fun q => q.2.2.1))]
