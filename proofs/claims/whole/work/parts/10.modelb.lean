theorem tt_in {S : qw_St} {a1 a2 : Int32} (hz : qz (S 143 26) 8) (h : (if f_X7_noTown S a1 = 0 then if f_X7_noThing a2 = 0 then (0 : Int32) else 1 else 1) = 0) : vp_in a1 8 ∧ vp_in a2 6 := by
  split at h
  · next q1 =>
    split at h
    · next q2 => exact ⟨noTown_in hz q1, noThing_in q2⟩
    · exact absurd h (by decide)
  · exact absurd h (by decide)
theorem fo_pos {z : Int32} {k : Nat} (hz : z = nI k - 1) (hk : k ≤ 40) (h : ¬ z < 0) : 0 < k := by
  rcases Nat.eq_zero_or_pos k with q | q
  · subst q; subst hz; exact absurd (by decide) h
  · exact q
theorem fo_dec {z : Int32} {k : Nat} (hz : z = nI k - 1) (h : 0 < k) : z + (-1) = nI (k - 1) - 1 := by
  obtain ⟨j, rfl⟩ : ∃ j, k = j + 1 := ⟨k - 1, by omega⟩
  rw [hz, nI_pred, Nat.add_sub_cancel, Int32.sub_eq_add_neg]
theorem fo_in {z : Int32} {k : Nat} (hz : z = nI k - 1) (hk : k ≤ 40) (h : 0 < k) : vp_in z 40 := by
  obtain ⟨j, rfl⟩ : ∃ j, k = j + 1 := ⟨k - 1, by omega⟩
  rw [hz, nI_pred]; exact vp_in_nI (by omega) (by decide)
def g_X7_blanks_0 : Nat → qw_St → qw_St
  | 0, S => S
  | n + 1, S => (if (f_X7_isAt S (32 : Int32) (32 : Int32)) = 0 then (up2 S 143 22 (S 143 20)) else (g_X7_blanks_0 n (up2 S 143 20 ((S 143 20) + (1 : Int32)))))
def g_X7_blanks (S : qw_St) : qw_St := (g_X7_blanks_0 401 S)
set_option maxHeartbeats 4000000 in
set_option maxRecDepth 100000 in
theorem c_X7_blanks (l : Launch) (D : va_G) {r : Nat → Nat} (c : Nat → ClassId) (g : Nat → Int64) (hr : qw_inj r) (S : qw_St) (hp : qz (S 143 20) 400) (he : qz (S 143 21) 400) : MV l D r c g yX7_blanks wsX7_blanks ({ frames := 1, cells := 0, slots := 0, locals := 22 }) [.ref (r 143)] S (g_X7_blanks S) := by
  have hiX7 : ∀ w ∈ wsX70, w ∈ wsX7_blanks := by decide +kernel
  refine wx_of (cc := cX7_blanks) (nL := 1) (ret := none) (lvs := [(0, .ref (r 143))]) (by decide) rfl rfl (Nat.le_of_ble_eq_true rfl) ?_
  intro p e s m below meth c0 ls hx hb hret hml hts hown hlk hK hP hS hl
  obtain ⟨m0, hm0, em0⟩ := id hp
  obtain ⟨m1, hm1, em1⟩ := id he
  have hP : qw_P D r c g S s.heap := hP
  have L_0 : ∀ (n : Nat) (k : Nat) (S1 : qw_St) (H : Heap) (locs : List Loc) (ls : Array Slot) (hk : k ≤ 400 ∧ 401 ≤ k + n) (hp1 : S1 143 20 = nI k) (he1 : S1 143 21 = nI m1) (hg_0 : g_X7_blanks_0 n S1 = (g_X7_blanks S)), qw_P D r c g S1 H → va_S (qw_A r) s.heap H locs → lv_has ls 1 [(0, .ref (r 143))] → W p l e ({ frames := 1, cells := 0, slots := 0, locals := 22 }) s m [.ref (r 143)].toArray below meth c0 H locs 0 0 (MQ below (qw_Qv D r c g (g_X7_blanks S)) [.ref (r 143)].toArray s 0 0 (qw_A r)) (F0 m 0 ls []) := by
    intro n
    induction n with
    | zero =>
      intro k S1 H locs ls hk hp1 he1 hg_0 hP hS hl
      omega
    | succ n ih_0 =>
      intro k S1 H locs ls hk hp1 he1 hg_0 hP hS hl
      refine lv_aload_n hx hb dX7_blanks_0 rfl (lv_at hl 0 rfl) ?_
      refine lv_bipush (v := 32) hx hb dX7_blanks_1 (by decide) ?_
      refine lv_bipush (v := 32) hx hb dX7_blanks_3 (by decide) ?_
      refine wc_iV (k := 143) (C := RX7) (As := [.int (32 : Int32), .int (32 : Int32)]) (rest := []) ⟨hx, hb, hml, hown, hts⟩ (c_X7_isAt l D c g hr S1 (32 : Int32) (32 : Int32) ⟨k, by omega, hp1⟩ ⟨m1, hm1, he1⟩) (cwV 2 hts gX7_blanks_X7_isAt rfl rfl rfl (by decide +kernel) ⟨Nat.le_of_ble_eq_true rfl, Nat.le_of_ble_eq_true rfl⟩) (wx_recv hK hP (by decide) qc_143 rfl) hK hP hS (fun _ h => h) rfl hl.1 rfl (lv_room (Nat.le_of_ble_eq_true rfl)) dX7_blanks_5 ⟨Nat.zero_le _, Nat.zero_le _⟩ (fun H locs hP hS => ?_)
      refine lv_if_eq (tgt := 24) hx hb dX7_blanks_8 (by decide) (fun c_8 => ?_) (fun c_8 => ?_)
      · refine lv_aload_n hx hb dX7_blanks_24 rfl (lv_at hl 0 rfl) ?_
        refine lv_aload_n hx hb dX7_blanks_25 rfl (lv_at hl 0 rfl) ?_
        refine wx_get hx hb hts hiX7 hown hK hP 143 (by decide) qc_143 rfl 20 (by decide) (hts (.fieldLink RX7 144 "PriceEdictModel" "point" "I") (by decide +kernel)) rfl dX7_blanks_26 ?_
        refine wx_put hr hx hb hts hiX7 tyX7 tyX7_ok nmX7 hown hK hP hS 143 (by decide) qc_143 rfl 22 (by decide) (hts (.fieldLink RX7 154 "PriceEdictModel" "begin" "I") (by decide +kernel)) rfl (by decide +kernel) (fun _ => rfl) (Nat.le_of_ble_eq_true rfl) dX7_blanks_29 (fun H locs hP hS => ?_)
        exact wx_vret hx hb hret hlk hK hP hS (by rw [← hg_0, g_X7_blanks_0]; rw [if_pos c_8]) dX7_blanks_32
      · have hlt : k < m1 := qi_ltn hp1 (by omega) he1 (by omega) (isAt_t c_8)
        refine lv_aload_n hx hb dX7_blanks_11 rfl (lv_at hl 0 rfl) ?_
        refine lv_dup hx hb dX7_blanks_12 rfl ?_
        refine wx_get hx hb hts hiX7 hown hK hP 143 (by decide) qc_143 rfl 20 (by decide) (hts (.fieldLink RX7 144 "PriceEdictModel" "point" "I") (by decide +kernel)) rfl dX7_blanks_13 ?_
        refine lv_iconst (v := 1) hx hb dX7_blanks_16 (by decide) ?_
        refine lv_iadd hx hb dX7_blanks_17 ?_
        refine wx_put hr hx hb hts hiX7 tyX7 tyX7_ok nmX7 hown hK hP hS 143 (by decide) qc_143 rfl 20 (by decide) (hts (.fieldLink RX7 144 "PriceEdictModel" "point" "I") (by decide +kernel)) rfl (by decide +kernel) (fun _ => rfl) (Nat.le_of_ble_eq_true rfl) dX7_blanks_18 (fun H locs hP hS => ?_)
        refine lv_goto (tgt := 0) hx hb dX7_blanks_21 (by decide) ?_
        exact ih_0 (k + 1) (up2 S1 143 20 ((S1 143 20) + (1 : Int32))) _ _ _ (by omega) (by rw [up2_same]; exact qi_add hp1) (by rw [up2_ne _ _ (Or.inr (by decide))]; exact he1) (by rw [← hg_0, g_X7_blanks_0]; rw [if_neg c_8]) hP hS (lv_sub hl [0] rfl)
  exact L_0 401 m0 S _ _ _ (by omega) em0 em1 (by rw [g_X7_blanks]) hP hS (lv_sub hl [0] rfl)
theorem fr_X7_blanks_0 : ∀ (n : Nat) (S : qw_St) (k j : Nat), (k ≠ 143 ∨ (j ≠ 20 ∧ j ≠ 22)) → g_X7_blanks_0 n S k j = S k j := by
  intro n
  induction n with
  | zero => intro S k j h; rfl
  | succ n ih =>
    intro S k j h
    rw [g_X7_blanks_0]
    split
    · rw [up2_ne _ _ (h.imp id (fun q => q.2))]
    · rw [ih _ _ _ h, up2_ne _ _ (h.imp id (fun q => q.1))]
theorem fr_X7_blanks (S : qw_St) {k : Nat} (j : Nat) (h : k ≠ 143 ∨ (j ≠ 20 ∧ j ≠ 22)) : g_X7_blanks S k j = S k j := fr_X7_blanks_0 _ _ _ _ h
theorem blanks_p_0 : ∀ (n : Nat) (S : qw_St) (k m1 : Nat), S 143 20 = nI k → S 143 21 = nI m1 → m1 ≤ 400 → k ≤ 400 → qz (g_X7_blanks_0 n S 143 20) 400 := by
  intro n
  induction n with
  | zero => intro S k m1 hp he h1 hk; exact ⟨k, hk, hp⟩
  | succ n ih =>
    intro S k m1 hp he h1 hk
    rw [g_X7_blanks_0]
    split
    · rw [up2_ne _ _ (Or.inr (by decide))]; exact ⟨k, hk, hp⟩
    · next c =>
      have hlt : k < m1 := qi_ltn hp (by omega) he (by omega) (isAt_t c)
      exact ih _ (k + 1) m1 (by rw [up2_same]; exact qi_add hp) (by rw [up2_ne _ _ (Or.inr (by decide))]; exact he) h1 (by omega)
theorem blanks_p {S : qw_St} (hp : qz (S 143 20) 400) (he : qz (S 143 21) 400) : qz (g_X7_blanks S 143 20) 400 := by
  obtain ⟨k, hk, ek⟩ := hp
  obtain ⟨m1, hm1, em1⟩ := he
  exact blanks_p_0 401 S k m1 ek em1 hm1 hk
theorem blanks_e {S : qw_St} (he : qz (S 143 21) 400) : qz (g_X7_blanks S 143 21) 400 := by rw [fr_X7_blanks _ _ (Or.inr (by decide))]; exact he
def g_X7_number_6 (a1 : Int32) (a2 : Int32) : Nat → qw_St → Int32 → qw_St
  | 0, S, _ => S
  | n + 1, S, z3 => (if (f_X7_isAt S (48 : Int32) (57 : Int32)) = 0 then (if (S 143 20) = (S 143 22) then S else (if (4 : Int32) < ((S 143 20) - (S 143 22)) then S else (if z3 < a1 then S else (if z3 ≤ a2 then S else S)))) else (g_X7_number_6 a1 a2 n (up2 S 143 20 ((S 143 20) + (1 : Int32))) (if (4 : Int32) ≤ ((S 143 20) - (S 143 22)) then z3 else ((((10 : Int32) * z3) + (S 156 (S 143 20).toNatClampNeg)) - (48 : Int32)))))
def f_X7_number_6 (a1 : Int32) (a2 : Int32) : Nat → qw_St → Int32 → Int32
  | 0, S, _ => 0
  | n + 1, S, z3 => (if (f_X7_isAt S (48 : Int32) (57 : Int32)) = 0 then (if (S 143 20) = (S 143 22) then (-1 : Int32) else (if (4 : Int32) < ((S 143 20) - (S 143 22)) then (-1 : Int32) else (if z3 < a1 then (-1 : Int32) else (if z3 ≤ a2 then z3 else (-1 : Int32))))) else (f_X7_number_6 a1 a2 n (up2 S 143 20 ((S 143 20) + (1 : Int32))) (if (4 : Int32) ≤ ((S 143 20) - (S 143 22)) then z3 else ((((10 : Int32) * z3) + (S 156 (S 143 20).toNatClampNeg)) - (48 : Int32)))))
def g_X7_number (S : qw_St) (a1 : Int32) (a2 : Int32) : qw_St := (g_X7_number_6 a1 a2 401 (g_X7_blanks S) (0 : Int32))
def f_X7_number (S : qw_St) (a1 : Int32) (a2 : Int32) : Int32 := (f_X7_number_6 a1 a2 401 (g_X7_blanks S) (0 : Int32))
set_option maxHeartbeats 4000000 in
set_option maxRecDepth 100000 in
theorem c_X7_number (l : Launch) (D : va_G) {r : Nat → Nat} (c : Nat → ClassId) (g : Nat → Int64) (hr : qw_inj r) (S : qw_St) (a1 : Int32) (a2 : Int32) (hp : qz (S 143 20) 400) (he : qz (S 143 21) 400) : MI l D r c g yX7_number wsX7_number ({ frames := 2, cells := 0, slots := 0, locals := 42 }) [.ref (r 143), .int a1, .int a2] S (f_X7_number S a1 a2) (g_X7_number S a1 a2) := by
  have hiX7 : ∀ w ∈ wsX70, w ∈ wsX7_number := by decide +kernel
  refine wx_of (cc := cX7_number) (nL := 4) (ret := (some .int)) (lvs := [(0, .ref (r 143)), (1, .int a1), (2, .int a2)]) (by decide) rfl rfl (Nat.le_of_ble_eq_true rfl) ?_
  intro p e s m below meth c0 ls hx hb hret hml hts hown hlk hK hP hS hl
  obtain ⟨m0, hm0, em0⟩ := blanks_p hp he
  obtain ⟨m1, hm1, em1⟩ := blanks_e he
  have hP : qw_P D r c g S s.heap := hP
  refine lv_aload_n hx hb dX7_number_0 rfl (lv_at hl 0 rfl) ?_
  refine wc_vV (k := 143) (C := RX7) (As := []) (rest := []) ⟨hx, hb, hml, hown, hts⟩ (c_X7_blanks l D c g hr S hp he) (cwV 0 hts gX7_number_X7_blanks rfl rfl rfl (by decide +kernel) ⟨Nat.le_of_ble_eq_true rfl, Nat.le_of_ble_eq_true rfl⟩) (wx_recv hK hP (by decide) qc_143 rfl) hK hP hS (fun _ h => h) rfl hl.1 rfl (lv_room (Nat.le_of_ble_eq_true rfl)) dX7_number_1 ⟨Nat.zero_le _, Nat.zero_le _⟩ (fun H locs hP hS => ?_)
  refine lv_iconst (v := 0) hx hb dX7_number_4 (by decide) ?_
  refine lv_istore_n (lv' := [(3, .int (0 : Int32)), (0, .ref (r 143)), (1, .int a1), (2, .int a2)]) hx hb dX7_number_5 rfl hl (by decide) rfl (fun ls hl => ?_)
  have L_6 : ∀ (n : Nat) (k : Nat) (z3 : Int32) (S1 : qw_St) (H : Heap) (locs : List Loc) (ls : Array Slot) (hk : k ≤ 400 ∧ 401 ≤ k + n) (hp1 : S1 143 20 = nI k) (he1 : S1 143 21 = nI m1) (hf_6 : f_X7_number_6 a1 a2 n S1 z3 = (f_X7_number S a1 a2)) (hg_6 : g_X7_number_6 a1 a2 n S1 z3 = (g_X7_number S a1 a2)), qw_P D r c g S1 H → va_S (qw_A r) s.heap H locs → lv_has ls 4 [(3, .int z3), (0, .ref (r 143)), (1, .int a1), (2, .int a2)] → W p l e ({ frames := 2, cells := 0, slots := 0, locals := 42 }) s m [.ref (r 143), .int a1, .int a2].toArray below meth c0 H locs 0 0 (MQ below (qw_Qi D r c g (f_X7_number S a1 a2) (g_X7_number S a1 a2)) [.ref (r 143), .int a1, .int a2].toArray s 0 0 (qw_A r)) (F0 m 6 ls []) := by
    intro n
    induction n with
    | zero =>
      intro k z3 S1 H locs ls hk hp1 he1 hf_6 hg_6 hP hS hl
      omega
    | succ n ih_6 =>
      intro k z3 S1 H locs ls hk hp1 he1 hf_6 hg_6 hP hS hl
      refine lv_aload_n hx hb dX7_number_6 rfl (lv_at hl 1 rfl) ?_
      refine lv_bipush (v := 48) hx hb dX7_number_7 (by decide) ?_
      refine lv_bipush (v := 57) hx hb dX7_number_9 (by decide) ?_
      refine wc_iV (k := 143) (C := RX7) (As := [.int (48 : Int32), .int (57 : Int32)]) (rest := []) ⟨hx, hb, hml, hown, hts⟩ (c_X7_isAt l D c g hr S1 (48 : Int32) (57 : Int32) ⟨k, by omega, hp1⟩ ⟨m1, hm1, he1⟩) (cwV 2 hts gX7_number_X7_isAt rfl rfl rfl (by decide +kernel) ⟨Nat.le_of_ble_eq_true rfl, Nat.le_of_ble_eq_true rfl⟩) (wx_recv hK hP (by decide) qc_143 rfl) hK hP hS (fun _ h => h) rfl hl.1 rfl (lv_room (Nat.le_of_ble_eq_true rfl)) dX7_number_11 ⟨Nat.zero_le _, Nat.zero_le _⟩ (fun H locs hP hS => ?_)
      refine lv_if_eq (tgt := 65) hx hb dX7_number_14 (by decide) (fun c_14 => ?_) (fun c_14 => ?_)
      · refine lv_aload_n hx hb dX7_number_65 rfl (lv_at hl 1 rfl) ?_
        refine wx_get hx hb hts hiX7 hown hK hP 143 (by decide) qc_143 rfl 20 (by decide) (hts (.fieldLink RX7 144 "PriceEdictModel" "point" "I") (by decide +kernel)) rfl dX7_number_66 ?_
        refine lv_aload_n hx hb dX7_number_69 rfl (lv_at hl 1 rfl) ?_
        refine wx_get hx hb hts hiX7 hown hK hP 143 (by decide) qc_143 rfl 22 (by decide) (hts (.fieldLink RX7 154 "PriceEdictModel" "begin" "I") (by decide +kernel)) rfl dX7_number_70 ?_
        refine lv_icmp_eq (tgt := 99) hx hb dX7_number_73 (by decide) (fun c_73 => ?_) (fun c_73 => ?_)
        · refine lv_iconst (v := (-1)) hx hb dX7_number_99 (by decide) ?_
          refine lv_goto (tgt := 104) hx hb dX7_number_100 (by decide) ?_
          exact wx_iret hx hb hret hlk hK hP hS (by rw [← hf_6, f_X7_number_6]; rw [if_pos c_14, if_pos c_73]) (by rw [← hg_6, g_X7_number_6]; rw [if_pos c_14, if_pos c_73]) dX7_number_104
        · refine lv_aload_n hx hb dX7_number_76 rfl (lv_at hl 1 rfl) ?_
          refine wx_get hx hb hts hiX7 hown hK hP 143 (by decide) qc_143 rfl 20 (by decide) (hts (.fieldLink RX7 144 "PriceEdictModel" "point" "I") (by decide +kernel)) rfl dX7_number_77 ?_
          refine lv_aload_n hx hb dX7_number_80 rfl (lv_at hl 1 rfl) ?_
          refine wx_get hx hb hts hiX7 hown hK hP 143 (by decide) qc_143 rfl 22 (by decide) (hts (.fieldLink RX7 154 "PriceEdictModel" "begin" "I") (by decide +kernel)) rfl dX7_number_81 ?_
          refine lv_isub hx hb dX7_number_84 ?_
          refine lv_iconst (v := 4) hx hb dX7_number_85 (by decide) ?_
          refine lv_icmp_gt (tgt := 99) hx hb dX7_number_86 (by decide) (fun c_86 => ?_) (fun c_86 => ?_)
          · refine lv_iconst (v := (-1)) hx hb dX7_number_99 (by decide) ?_
            refine lv_goto (tgt := 104) hx hb dX7_number_100 (by decide) ?_
            exact wx_iret hx hb hret hlk hK hP hS (by rw [← hf_6, f_X7_number_6]; rw [if_pos c_14, if_neg c_73, if_pos c_86]) (by rw [← hg_6, g_X7_number_6]; rw [if_pos c_14, if_neg c_73, if_pos c_86]) dX7_number_104
          · refine lv_iload_n hx hb dX7_number_89 rfl (lv_at hl 0 rfl) ?_
            refine lv_iload_n hx hb dX7_number_90 rfl (lv_at hl 2 rfl) ?_
            refine lv_icmp_lt (tgt := 99) hx hb dX7_number_91 (by decide) (fun c_91 => ?_) (fun c_91 => ?_)
            · refine lv_iconst (v := (-1)) hx hb dX7_number_99 (by decide) ?_
              refine lv_goto (tgt := 104) hx hb dX7_number_100 (by decide) ?_
              exact wx_iret hx hb hret hlk hK hP hS (by rw [← hf_6, f_X7_number_6]; rw [if_pos c_14, if_neg c_73, if_neg c_86, if_pos c_91]) (by rw [← hg_6, g_X7_number_6]; rw [if_pos c_14, if_neg c_73, if_neg c_86, if_pos c_91]) dX7_number_104
            · refine lv_iload_n hx hb dX7_number_94 rfl (lv_at hl 0 rfl) ?_
              refine lv_iload_n hx hb dX7_number_95 rfl (lv_at hl 3 rfl) ?_
              refine lv_icmp_le (tgt := 103) hx hb dX7_number_96 (by decide) (fun c_96 => ?_) (fun c_96 => ?_)
              · refine lv_iload_n hx hb dX7_number_103 rfl (lv_at hl 0 rfl) ?_
                exact wx_iret hx hb hret hlk hK hP hS (by rw [← hf_6, f_X7_number_6]; rw [if_pos c_14, if_neg c_73, if_neg c_86, if_neg c_91, if_pos c_96]) (by rw [← hg_6, g_X7_number_6]; rw [if_pos c_14, if_neg c_73, if_neg c_86, if_neg c_91, if_pos c_96]) dX7_number_104
              · refine lv_iconst (v := (-1)) hx hb dX7_number_99 (by decide) ?_
                refine lv_goto (tgt := 104) hx hb dX7_number_100 (by decide) ?_
                exact wx_iret hx hb hret hlk hK hP hS (by rw [← hf_6, f_X7_number_6]; rw [if_pos c_14, if_neg c_73, if_neg c_86, if_neg c_91, if_neg c_96]) (by rw [← hg_6, g_X7_number_6]; rw [if_pos c_14, if_neg c_73, if_neg c_86, if_neg c_91, if_neg c_96]) dX7_number_104
      · have hlt : k < m1 := qi_ltn hp1 (by omega) he1 (by omega) (isAt_t c_14)
        have J_51 : ∀ (v_1 : Int32) (H : Heap) (locs : List Loc) (ls : Array Slot) (ev_1 : v_1 = (if (4 : Int32) ≤ ((S1 143 20) - (S1 143 22)) then z3 else ((((10 : Int32) * z3) + (S1 156 (S1 143 20).toNatClampNeg)) - (48 : Int32)))), qw_P D r c g S1 H → va_S (qw_A r) s.heap H locs → lv_has ls 4 [(3, .int z3), (0, .ref (r 143)), (1, .int a1), (2, .int a2)] → W p l e ({ frames := 2, cells := 0, slots := 0, locals := 42 }) s m [.ref (r 143), .int a1, .int a2].toArray below meth c0 H locs 0 0 (MQ below (qw_Qi D r c g (f_X7_number S a1 a2) (g_X7_number S a1 a2)) [.ref (r 143), .int a1, .int a2].toArray s 0 0 (qw_A r)) (F0 m 51 ls [.int v_1]) := by
          intro v_1 H locs ls ev_1 hP hS hl
          refine lv_istore_n (lv' := [(3, .int v_1), (0, .ref (r 143)), (1, .int a1), (2, .int a2)]) hx hb dX7_number_51 rfl hl (by decide) rfl (fun ls hl => ?_)
          refine lv_aload_n hx hb dX7_number_52 rfl (lv_at hl 1 rfl) ?_
          refine lv_dup hx hb dX7_number_53 rfl ?_
          refine wx_get hx hb hts hiX7 hown hK hP 143 (by decide) qc_143 rfl 20 (by decide) (hts (.fieldLink RX7 144 "PriceEdictModel" "point" "I") (by decide +kernel)) rfl dX7_number_54 ?_
          refine lv_iconst (v := 1) hx hb dX7_number_57 (by decide) ?_
          refine lv_iadd hx hb dX7_number_58 ?_
          refine wx_put hr hx hb hts hiX7 tyX7 tyX7_ok nmX7 hown hK hP hS 143 (by decide) qc_143 rfl 20 (by decide) (hts (.fieldLink RX7 144 "PriceEdictModel" "point" "I") (by decide +kernel)) rfl (by decide +kernel) (fun _ => rfl) (Nat.le_of_ble_eq_true rfl) dX7_number_59 (fun H locs hP hS => ?_)
          refine lv_goto (tgt := 6) hx hb dX7_number_62 (by decide) ?_
          exact ih_6 (k + 1) v_1 (up2 S1 143 20 ((S1 143 20) + (1 : Int32))) _ _ _ (by omega) (by rw [up2_same]; exact qi_add hp1) (by rw [up2_ne _ _ (Or.inr (by decide))]; exact he1) (by subst ev_1; rw [← hf_6, f_X7_number_6]; rw [if_neg c_14]) (by subst ev_1; rw [← hg_6, g_X7_number_6]; rw [if_neg c_14]) hP hS (lv_sub hl [0, 1, 2, 3] rfl)
        refine lv_aload_n hx hb dX7_number_17 rfl (lv_at hl 1 rfl) ?_
        refine wx_get hx hb hts hiX7 hown hK hP 143 (by decide) qc_143 rfl 20 (by decide) (hts (.fieldLink RX7 144 "PriceEdictModel" "point" "I") (by decide +kernel)) rfl dX7_number_18 ?_
        refine lv_aload_n hx hb dX7_number_21 rfl (lv_at hl 1 rfl) ?_
        refine wx_get hx hb hts hiX7 hown hK hP 143 (by decide) qc_143 rfl 22 (by decide) (hts (.fieldLink RX7 154 "PriceEdictModel" "begin" "I") (by decide +kernel)) rfl dX7_number_22 ?_
        refine lv_isub hx hb dX7_number_25 ?_
        refine lv_iconst (v := 4) hx hb dX7_number_26 (by decide) ?_
        refine lv_icmp_ge (tgt := 50) hx hb dX7_number_27 (by decide) (fun c_27 => ?_) (fun c_27 => ?_)
        · refine lv_iload_n hx hb dX7_number_50 rfl (lv_at hl 0 rfl) ?_
          exact J_51 _ _ _ _ (by rw [if_pos c_27]) hP hS (lv_sub hl [0, 1, 2, 3] rfl)
        · refine lv_bipush (v := 10) hx hb dX7_number_30 (by decide) ?_
          refine lv_iload_n hx hb dX7_number_32 rfl (lv_at hl 0 rfl) ?_
          refine lv_imul hx hb dX7_number_33 ?_
          refine lv_aload_n hx hb dX7_number_34 rfl (lv_at hl 1 rfl) ?_
          refine wx_get hx hb hts hiX7 hown hK hP 143 (by decide) qc_143 rfl 18 (by decide) (hts (.fieldLink RX7 46 "PriceEdictModel" "tape" "[B") (by decide +kernel)) rfl dX7_number_35 ?_
          refine lv_aload_n hx hb dX7_number_38 rfl (lv_at hl 1 rfl) ?_
          refine wx_get hx hb hts hiX7 hown hK hP 143 (by decide) qc_143 rfl 20 (by decide) (hts (.fieldLink RX7 144 "PriceEdictModel" "point" "I") (by decide +kernel)) rfl dX7_number_39 ?_
          refine wx_bld hx hb hK hP 156 (by decide) qc_156 (qi_in hp1 (by omega) (by decide)) dX7_number_42 ?_
          refine lv_iadd hx hb dX7_number_43 ?_
          refine lv_bipush (v := 48) hx hb dX7_number_44 (by decide) ?_
          refine lv_isub hx hb dX7_number_46 ?_
          refine lv_goto (tgt := 51) hx hb dX7_number_47 (by decide) ?_
          exact J_51 _ _ _ _ (by rw [if_neg c_27]) hP hS (lv_sub hl [0, 1, 2, 3] rfl)
  exact L_6 401 m0 (0 : Int32) (g_X7_blanks S) _ _ _ (by omega) em0 em1 (by rw [f_X7_number]) (by rw [g_X7_number]) hP hS (lv_sub hl [0, 1, 2, 3] rfl)
theorem qi_39 {x : Int32} (h : qz x 39) : vp_in x 40 := by obtain ⟨k, hk, e⟩ := h; exact qi_in e (by omega) (by decide)
theorem qi_17 {S : qw_St} (h : ¬ S 143 17 = 0) (hz : qz (S 143 17) 40) : vp_in (S 143 17 - 1) 40 := by
  obtain ⟨k, hk, e⟩ := hz
  rcases Nat.eq_zero_or_pos k with q | q
  · subst q; exact absurd e h
  · exact fo_in (by rw [e]) hk q
def g_X7_tells (S : qw_St) (a1 : Int32) : qw_St := (up2 (up2 (up2 S 154 (S 143 17).toNatClampNeg a1) 155 (S 143 17).toNatClampNeg (S 143 1)) 143 17 ((S 143 17) + (1 : Int32)))
set_option maxHeartbeats 4000000 in
set_option maxRecDepth 100000 in
theorem c_X7_tells (l : Launch) (D : va_G) {r : Nat → Nat} (c : Nat → ClassId) (g : Nat → Int64) (hr : qw_inj r) (S : qw_St) (a1 : Int32) (hz : qz (S 143 17) 39) : MV l D r c g yX7_tells wsX7_tells ({ frames := 0, cells := 0, slots := 0, locals := 0 }) [.ref (r 143), .int a1] S (g_X7_tells S a1) := by
  have hiX7 : ∀ w ∈ wsX70, w ∈ wsX7_tells := by decide +kernel
  refine wx_of (cc := cX7_tells) (nL := 2) (ret := none) (lvs := [(0, .ref (r 143)), (1, .int a1)]) (by decide) rfl rfl (Nat.le_of_ble_eq_true rfl) ?_
  intro p e s m below meth c0 ls hx hb hret hml hts hown hlk hK hP hS hl
  have hP : qw_P D r c g S s.heap := hP
  refine lv_aload_n hx hb dX7_tells_0 rfl (lv_at hl 0 rfl) ?_
  refine wx_get hx hb hts hiX7 hown hK hP 143 (by decide) qc_143 rfl 15 (by decide) (hts (.fieldLink RX7 40 "PriceEdictModel" "told" "[I") (by decide +kernel)) rfl dX7_tells_1 ?_
  refine lv_aload_n hx hb dX7_tells_4 rfl (lv_at hl 0 rfl) ?_
  refine wx_get hx hb hts hiX7 hown hK hP 143 (by decide) qc_143 rfl 17 (by decide) (hts (.fieldLink RX7 186 "PriceEdictModel" "tellings" "I") (by decide +kernel)) rfl dX7_tells_5 ?_
  refine lv_iload_n hx hb dX7_tells_8 rfl (lv_at hl 1 rfl) ?_
  refine wx_ist hr hx hb hK hP hS 154 (by decide) qc_154 (qi_39 hz) dX7_tells_9 (fun H locs hP hS => ?_)
  refine lv_aload_n hx hb dX7_tells_10 rfl (lv_at hl 0 rfl) ?_
  refine wx_get hx hb hts hiX7 hown hK hP 143 (by decide) qc_143 rfl 16 (by decide) (hts (.fieldLink RX7 43 "PriceEdictModel" "toldOn" "[I") (by decide +kernel)) rfl dX7_tells_11 ?_
  refine lv_aload_n hx hb dX7_tells_14 rfl (lv_at hl 0 rfl) ?_
  refine wx_get hx hb hts hiX7 hown hK hP 143 (by decide) qc_143 rfl 17 (by decide) (hts (.fieldLink RX7 186 "PriceEdictModel" "tellings" "I") (by decide +kernel)) rfl dX7_tells_15 ?_
  refine lv_tope (S 143 17) ((up2_ne _ _ (Or.inl (by decide)))) ?_
  refine lv_aload_n hx hb dX7_tells_18 rfl (lv_at hl 0 rfl) ?_
  refine wx_get hx hb hts hiX7 hown hK hP 143 (by decide) qc_143 rfl 1 (by decide) (hts (.fieldLink RX7 117 "PriceEdictModel" "today" "I") (by decide +kernel)) rfl dX7_tells_19 ?_
  refine lv_tope (S 143 1) ((up2_ne _ _ (Or.inl (by decide)))) ?_
  refine wx_ist hr hx hb hK hP hS 155 (by decide) qc_155 (qi_39 hz) dX7_tells_22 (fun H locs hP hS => ?_)
  refine lv_aload_n hx hb dX7_tells_23 rfl (lv_at hl 0 rfl) ?_
  refine lv_dup hx hb dX7_tells_24 rfl ?_
  refine wx_get hx hb hts hiX7 hown hK hP 143 (by decide) qc_143 rfl 17 (by decide) (hts (.fieldLink RX7 186 "PriceEdictModel" "tellings" "I") (by decide +kernel)) rfl dX7_tells_25 ?_
  refine lv_tope (S 143 17) ((up2_ne _ _ (Or.inl (by decide))).trans ((up2_ne _ _ (Or.inl (by decide))))) ?_
  refine lv_iconst (v := 1) hx hb dX7_tells_28 (by decide) ?_
  refine lv_iadd hx hb dX7_tells_29 ?_
  refine wx_put hr hx hb hts hiX7 tyX7 tyX7_ok nmX7 hown hK hP hS 143 (by decide) qc_143 rfl 17 (by decide) (hts (.fieldLink RX7 186 "PriceEdictModel" "tellings" "I") (by decide +kernel)) rfl (by decide +kernel) (fun _ => rfl) (Nat.le_of_ble_eq_true rfl) dX7_tells_30 (fun H locs hP hS => ?_)
  exact wx_vret hx hb hret hlk hK hP hS (by unfold g_X7_tells; exact rfl) dX7_tells_33
def g_X7_fault (S : qw_St) : qw_St := (up2 S 143 0 (0 : Int32))
def f_X7_fault (S : qw_St) : Int32 := (S 143 23)
set_option maxHeartbeats 4000000 in
set_option maxRecDepth 100000 in
theorem c_X7_fault (l : Launch) (D : va_G) {r : Nat → Nat} (c : Nat → ClassId) (g : Nat → Int64) (hr : qw_inj r) (S : qw_St) : MI l D r c g yX7_fault wsX7_fault ({ frames := 0, cells := 0, slots := 0, locals := 0 }) [.ref (r 143)] S (f_X7_fault S) (g_X7_fault S) := by
  have hiX7 : ∀ w ∈ wsX70, w ∈ wsX7_fault := by decide +kernel
  refine wx_of (cc := cX7_fault) (nL := 1) (ret := (some .int)) (lvs := [(0, .ref (r 143))]) (by decide) rfl rfl (Nat.le_of_ble_eq_true rfl) ?_
  intro p e s m below meth c0 ls hx hb hret hml hts hown hlk hK hP hS hl
  have hP : qw_P D r c g S s.heap := hP
  refine lv_aload_n hx hb dX7_fault_0 rfl (lv_at hl 0 rfl) ?_
  refine lv_iconst (v := 0) hx hb dX7_fault_1 (by decide) ?_
  refine wx_put hr hx hb hts hiX7 tyX7 tyX7_ok nmX7 hown hK hP hS 143 (by decide) qc_143 rfl 0 (by decide) (hts (.fieldLink RX7 99 "PriceEdictModel" "thrown" "I") (by decide +kernel)) rfl (by decide +kernel) (fun _ => rfl) (Nat.le_of_ble_eq_true rfl) dX7_fault_2 (fun H locs hP hS => ?_)
  refine lv_aload_n hx hb dX7_fault_5 rfl (lv_at hl 0 rfl) ?_
  refine wx_get hx hb hts hiX7 hown hK hP 143 (by decide) qc_143 rfl 23 (by decide) (hts (.fieldLink RX7 50 "PriceEdictModel" "faultAt" "I") (by decide +kernel)) rfl dX7_fault_6 ?_
  refine lv_tope (S 143 23) ((up2_ne _ _ (Or.inr (by decide)))) ?_
  exact wx_iret hx hb hret hlk hK hP hS (by unfold f_X7_fault; exact rfl) (by unfold g_X7_fault; exact rfl) dX7_fault_9
def g_X7_undo (S : qw_St) : qw_St := (if (S 143 17) = 0 then (up2 S 143 0 (0 : Int32)) else (if (S 154 ((S 143 17) - (1 : Int32)).toNatClampNeg) = (-1 : Int32) then (up2 S 143 0 (0 : Int32)) else (g_X7_tells (up2 S 143 0 (0 : Int32)) (-1 : Int32))))
def f_X7_undo (S : qw_St) : Int32 := (if (S 143 17) = 0 then (0 : Int32) else (if (S 154 ((S 143 17) - (1 : Int32)).toNatClampNeg) = (-1 : Int32) then (0 : Int32) else (1 : Int32)))
set_option maxHeartbeats 4000000 in
set_option maxRecDepth 100000 in
theorem c_X7_undo (l : Launch) (D : va_G) {r : Nat → Nat} (c : Nat → ClassId) (g : Nat → Int64) (hr : qw_inj r) (S : qw_St) (hz0 : qz (S 143 17) 40) (hu : S 143 17 = 0 ∨ S 154 (S 143 17 - 1).toNatClampNeg = -1 ∨ qz (S 143 17) 39) : MI l D r c g yX7_undo wsX7_undo ({ frames := 1, cells := 0, slots := 0, locals := 21 }) [.ref (r 143)] S (f_X7_undo S) (g_X7_undo S) := by
  have hiX7 : ∀ w ∈ wsX70, w ∈ wsX7_undo := by decide +kernel
  refine wx_of (cc := cX7_undo) (nL := 1) (ret := (some .boolean)) (lvs := [(0, .ref (r 143))]) (by decide) rfl rfl (Nat.le_of_ble_eq_true rfl) ?_
  intro p e s m below meth c0 ls hx hb hret hml hts hown hlk hK hP hS hl
  have hP : qw_P D r c g S s.heap := hP
  refine lv_aload_n hx hb dX7_undo_0 rfl (lv_at hl 0 rfl) ?_
  refine lv_iconst (v := 0) hx hb dX7_undo_1 (by decide) ?_
  refine wx_put hr hx hb hts hiX7 tyX7 tyX7_ok nmX7 hown hK hP hS 143 (by decide) qc_143 rfl 0 (by decide) (hts (.fieldLink RX7 99 "PriceEdictModel" "thrown" "I") (by decide +kernel)) rfl (by decide +kernel) (fun _ => rfl) (Nat.le_of_ble_eq_true rfl) dX7_undo_2 (fun H locs hP hS => ?_)
  refine lv_aload_n hx hb dX7_undo_5 rfl (lv_at hl 0 rfl) ?_
  refine wx_get hx hb hts hiX7 hown hK hP 143 (by decide) qc_143 rfl 17 (by decide) (hts (.fieldLink RX7 186 "PriceEdictModel" "tellings" "I") (by decide +kernel)) rfl dX7_undo_6 ?_
  refine lv_tope (S 143 17) ((up2_ne _ _ (Or.inr (by decide)))) ?_
  refine lv_if_eq (tgt := 27) hx hb dX7_undo_9 (by decide) (fun c_9 => ?_) (fun c_9 => ?_)
  · refine lv_iconst (v := 0) hx hb dX7_undo_27 (by decide) ?_
    exact wx_zret hx hb hret hlk hK hP hS rfl (by unfold f_X7_undo; rw [if_pos c_9]) (by unfold g_X7_undo; rw [if_pos c_9]) dX7_undo_28
  · refine lv_aload_n hx hb dX7_undo_12 rfl (lv_at hl 0 rfl) ?_
    refine wx_get hx hb hts hiX7 hown hK hP 143 (by decide) qc_143 rfl 15 (by decide) (hts (.fieldLink RX7 40 "PriceEdictModel" "told" "[I") (by decide +kernel)) rfl dX7_undo_13 ?_
    refine lv_aload_n hx hb dX7_undo_16 rfl (lv_at hl 0 rfl) ?_
    refine wx_get hx hb hts hiX7 hown hK hP 143 (by decide) qc_143 rfl 17 (by decide) (hts (.fieldLink RX7 186 "PriceEdictModel" "tellings" "I") (by decide +kernel)) rfl dX7_undo_17 ?_
    refine lv_tope (S 143 17) ((up2_ne _ _ (Or.inr (by decide)))) ?_
    refine lv_iconst (v := 1) hx hb dX7_undo_20 (by decide) ?_
    refine lv_isub hx hb dX7_undo_21 ?_
    refine wx_ild hx hb hK hP 154 (by decide) qc_154 (qi_17 c_9 hz0) dX7_undo_22 ?_
    refine lv_tope (S 154 ((S 143 17) - (1 : Int32)).toNatClampNeg) ((up2_ne _ _ (Or.inl (by decide)))) ?_
    refine lv_iconst (v := (-1)) hx hb dX7_undo_23 (by decide) ?_
    refine lv_icmp_ne (tgt := 29) hx hb dX7_undo_24 (by decide) (fun c_24 => ?_) (fun c_24 => ?_)
    · refine lv_aload_n hx hb dX7_undo_29 rfl (lv_at hl 0 rfl) ?_
      refine lv_iconst (v := (-1)) hx hb dX7_undo_30 (by decide) ?_
      refine wc_vV (k := 143) (C := RX7) (As := [.int (-1 : Int32)]) (rest := []) ⟨hx, hb, hml, hown, hts⟩ (c_X7_tells l D c g hr (up2 S 143 0 (0 : Int32)) (-1 : Int32) ((hu.resolve_left c_9).resolve_left c_24)) (cwV 1 hts gX7_undo_X7_tells rfl rfl rfl (by decide +kernel) ⟨Nat.le_of_ble_eq_true rfl, Nat.le_of_ble_eq_true rfl⟩) (wx_recv hK hP (by decide) qc_143 rfl) hK hP hS (fun _ h => h) rfl hl.1 rfl (lv_room (Nat.le_of_ble_eq_true rfl)) dX7_undo_31 ⟨Nat.zero_le _, Nat.zero_le _⟩ (fun H locs hP hS => ?_)
      refine lv_iconst (v := 1) hx hb dX7_undo_34 (by decide) ?_
      exact wx_zret hx hb hret hlk hK hP hS rfl (by unfold f_X7_undo; rw [if_neg c_9, if_neg c_24]) (by unfold g_X7_undo; rw [if_neg c_9, if_neg c_24]) dX7_undo_35
    · refine lv_iconst (v := 0) hx hb dX7_undo_27 (by decide) ?_
      exact wx_zret hx hb hret hlk hK hP hS rfl (by unfold f_X7_undo; rw [if_neg c_9, if_pos c_24]) (by unfold g_X7_undo; rw [if_neg c_9, if_pos c_24]) dX7_undo_28
def g_X7_town (S : qw_St) (a1 : Int32) : qw_St := (if (if (f_X7_in a1 (0 : Int32) (2000 : Int32)) = 0 then (1 : Int32) else (0 : Int32)) = 0 then (if (if (S 143 26) = (8 : Int32) then (1 : Int32) else (0 : Int32)) = 0 then (up2 (up2 (g_X7_throwsIf (g_X7_throwsIf (up2 S 143 0 (0 : Int32)) (if (f_X7_in a1 (0 : Int32) (2000 : Int32)) = 0 then (1 : Int32) else (0 : Int32)) (1 : Int32)) (if (S 143 26) = (8 : Int32) then (1 : Int32) else (0 : Int32)) (2 : Int32)) 158 (S 143 26).toNatClampNeg a1) 143 26 ((S 143 26) + (1 : Int32))) else (g_X7_throwsIf (g_X7_throwsIf (up2 S 143 0 (0 : Int32)) (if (f_X7_in a1 (0 : Int32) (2000 : Int32)) = 0 then (1 : Int32) else (0 : Int32)) (1 : Int32)) (if (S 143 26) = (8 : Int32) then (1 : Int32) else (0 : Int32)) (2 : Int32))) else (g_X7_throwsIf (up2 S 143 0 (0 : Int32)) (if (f_X7_in a1 (0 : Int32) (2000 : Int32)) = 0 then (1 : Int32) else (0 : Int32)) (1 : Int32)))
def f_X7_town (S : qw_St) (a1 : Int32) : Int32 := (if (if (f_X7_in a1 (0 : Int32) (2000 : Int32)) = 0 then (1 : Int32) else (0 : Int32)) = 0 then (if (if (S 143 26) = (8 : Int32) then (1 : Int32) else (0 : Int32)) = 0 then (((S 143 26) + (1 : Int32)) - (1 : Int32)) else (0 : Int32)) else (0 : Int32))
set_option maxHeartbeats 4000000 in
set_option maxRecDepth 100000 in
theorem c_X7_town (l : Launch) (D : va_G) {r : Nat → Nat} (c : Nat → ClassId) (g : Nat → Int64) (hr : qw_inj r) (S : qw_St) (a1 : Int32) (hz0 : qz (S 143 26) 8) : MI l D r c g yX7_town wsX7_town ({ frames := 1, cells := 0, slots := 0, locals := 22 }) [.ref (r 143), .int a1] S (f_X7_town S a1) (g_X7_town S a1) := by
  have hiX7 : ∀ w ∈ wsX70, w ∈ wsX7_town := by decide +kernel
  refine wx_of (cc := cX7_town) (nL := 2) (ret := (some .int)) (lvs := [(0, .ref (r 143)), (1, .int a1)]) (by decide) rfl rfl (Nat.le_of_ble_eq_true rfl) ?_
  intro p e s m below meth c0 ls hx hb hret hml hts hown hlk hK hP hS hl
  obtain ⟨m0, hm0, em0⟩ := id hz0
  have hP : qw_P D r c g S s.heap := hP
  refine lv_aload_n hx hb dX7_town_0 rfl (lv_at hl 0 rfl) ?_
  refine lv_iconst (v := 0) hx hb dX7_town_1 (by decide) ?_
  refine wx_put hr hx hb hts hiX7 tyX7 tyX7_ok nmX7 hown hK hP hS 143 (by decide) qc_143 rfl 0 (by decide) (hts (.fieldLink RX7 99 "PriceEdictModel" "thrown" "I") (by decide +kernel)) rfl (by decide +kernel) (fun _ => rfl) (Nat.le_of_ble_eq_true rfl) dX7_town_2 (fun H locs hP hS => ?_)
  refine lv_aload_n hx hb dX7_town_5 rfl (lv_at hl 0 rfl) ?_
  have J_22 : ∀ (v_1 : Int32) (H : Heap) (locs : List Loc) (ls : Array Slot) (ev_1 : v_1 = (if (f_X7_in a1 (0 : Int32) (2000 : Int32)) = 0 then (1 : Int32) else (0 : Int32))), qw_P D r c g (up2 S 143 0 (0 : Int32)) H → va_S (qw_A r) s.heap H locs → lv_has ls 2 [(0, .ref (r 143)), (1, .int a1)] → W p l e ({ frames := 1, cells := 0, slots := 0, locals := 22 }) s m [.ref (r 143), .int a1].toArray below meth c0 H locs 0 0 (MQ below (qw_Qi D r c g (f_X7_town S a1) (g_X7_town S a1)) [.ref (r 143), .int a1].toArray s 0 0 (qw_A r)) (F0 m 22 ls [.int v_1, .ref (r 143)]) := by
    intro v_1 H locs ls ev_1 hP hS hl
    refine lv_iconst (v := 1) hx hb dX7_town_22 (by decide) ?_
    refine wc_iV (k := 143) (C := RX7) (As := [.int v_1, .int (1 : Int32)]) (rest := []) ⟨hx, hb, hml, hown, hts⟩ (c_X7_throwsIf l D c g hr (up2 S 143 0 (0 : Int32)) v_1 (1 : Int32) (by rw [ev_1]; repeat' (first | split | exact Or.inl rfl | exact Or.inr rfl))) (cwV 2 hts gX7_town_X7_throwsIf rfl rfl rfl (by decide +kernel) ⟨Nat.le_of_ble_eq_true rfl, Nat.le_of_ble_eq_true rfl⟩) (wx_recv hK hP (by decide) qc_143 rfl) hK hP hS (fun _ h => h) rfl hl.1 rfl (lv_room (Nat.le_of_ble_eq_true rfl)) dX7_town_23 ⟨Nat.zero_le _, Nat.zero_le _⟩ (fun H locs hP hS => ?_)
    refine lv_tope v_1 rfl ?_
    refine lv_if_ne (tgt := 51) hx hb dX7_town_26 (by decide) (fun c_26 => ?_) (fun c_26 => ?_)
    · refine lv_iconst (v := 0) hx hb dX7_town_51 (by decide) ?_
      exact wx_iret hx hb hret hlk hK hP hS (by subst ev_1; unfold f_X7_town; rw [if_neg c_26]) (by subst ev_1; unfold g_X7_town; rw [if_neg c_26]) dX7_town_52
    · refine lv_aload_n hx hb dX7_town_29 rfl (lv_at hl 0 rfl) ?_
      have J_44 : ∀ (v_2 : Int32) (H : Heap) (locs : List Loc) (ls : Array Slot) (ev_2 : v_2 = (if (S 143 26) = (8 : Int32) then (1 : Int32) else (0 : Int32))), qw_P D r c g (g_X7_throwsIf (up2 S 143 0 (0 : Int32)) v_1 (1 : Int32)) H → va_S (qw_A r) s.heap H locs → lv_has ls 2 [(0, .ref (r 143)), (1, .int a1)] → W p l e ({ frames := 1, cells := 0, slots := 0, locals := 22 }) s m [.ref (r 143), .int a1].toArray below meth c0 H locs 0 0 (MQ below (qw_Qi D r c g (f_X7_town S a1) (g_X7_town S a1)) [.ref (r 143), .int a1].toArray s 0 0 (qw_A r)) (F0 m 44 ls [.int v_2, .ref (r 143)]) := by
        intro v_2 H locs ls ev_2 hP hS hl
        refine lv_iconst (v := 2) hx hb dX7_town_44 (by decide) ?_
        refine wc_iV (k := 143) (C := RX7) (As := [.int v_2, .int (2 : Int32)]) (rest := []) ⟨hx, hb, hml, hown, hts⟩ (c_X7_throwsIf l D c g hr (g_X7_throwsIf (up2 S 143 0 (0 : Int32)) v_1 (1 : Int32)) v_2 (2 : Int32) (by rw [ev_2]; repeat' (first | split | exact Or.inl rfl | exact Or.inr rfl))) (cwV 2 hts gX7_town_X7_throwsIf rfl rfl rfl (by decide +kernel) ⟨Nat.le_of_ble_eq_true rfl, Nat.le_of_ble_eq_true rfl⟩) (wx_recv hK hP (by decide) qc_143 rfl) hK hP hS (fun _ h => h) rfl hl.1 rfl (lv_room (Nat.le_of_ble_eq_true rfl)) dX7_town_45 ⟨Nat.zero_le _, Nat.zero_le _⟩ (fun H locs hP hS => ?_)
        refine lv_tope v_2 rfl ?_
        refine lv_if_eq (tgt := 53) hx hb dX7_town_48 (by decide) (fun c_48 => ?_) (fun c_48 => ?_)
        · have hm1 : m0 < 8 := qi_ne8 em0 hm0 (qb0 (ev_2.symm.trans c_48))
          refine lv_aload_n hx hb dX7_town_53 rfl (lv_at hl 0 rfl) ?_
          refine wx_get hx hb hts hiX7 hown hK hP 143 (by decide) qc_143 rfl 25 (by decide) (hts (.fieldLink RX7 57 "PriceEdictModel" "miles" "[I") (by decide +kernel)) rfl dX7_town_54 ?_
          refine lv_aload_n hx hb dX7_town_57 rfl (lv_at hl 0 rfl) ?_
          refine wx_get hx hb hts hiX7 hown hK hP 143 (by decide) qc_143 rfl 26 (by decide) (hts (.fieldLink RX7 199 "PriceEdictModel" "towns" "I") (by decide +kernel)) rfl dX7_town_58 ?_
          refine lv_tope (S 143 26) ((fr_X7_throwsIf (g_X7_throwsIf (up2 S 143 0 (0 : Int32)) v_1 (1 : Int32)) v_2 (2 : Int32) 26 (Or.inr (by decide))).trans ((fr_X7_throwsIf (up2 S 143 0 (0 : Int32)) v_1 (1 : Int32) 26 (Or.inr (by decide))).trans ((up2_ne _ _ (Or.inr (by decide)))))) ?_
          refine lv_iload_n hx hb dX7_town_61 rfl (lv_at hl 1 rfl) ?_
          refine wx_ist hr hx hb hK hP hS 158 (by decide) qc_158 (qi_in em0 hm1 (by decide)) dX7_town_62 (fun H locs hP hS => ?_)
          refine lv_aload_n hx hb dX7_town_63 rfl (lv_at hl 0 rfl) ?_
          refine lv_dup hx hb dX7_town_64 rfl ?_
          refine wx_get hx hb hts hiX7 hown hK hP 143 (by decide) qc_143 rfl 26 (by decide) (hts (.fieldLink RX7 199 "PriceEdictModel" "towns" "I") (by decide +kernel)) rfl dX7_town_65 ?_
          refine lv_tope (S 143 26) ((up2_ne _ _ (Or.inl (by decide))).trans ((fr_X7_throwsIf (g_X7_throwsIf (up2 S 143 0 (0 : Int32)) v_1 (1 : Int32)) v_2 (2 : Int32) 26 (Or.inr (by decide))).trans ((fr_X7_throwsIf (up2 S 143 0 (0 : Int32)) v_1 (1 : Int32) 26 (Or.inr (by decide))).trans ((up2_ne _ _ (Or.inr (by decide))))))) ?_
          refine lv_iconst (v := 1) hx hb dX7_town_68 (by decide) ?_
          refine lv_iadd hx hb dX7_town_69 ?_
          refine wx_put hr hx hb hts hiX7 tyX7 tyX7_ok nmX7 hown hK hP hS 143 (by decide) qc_143 rfl 26 (by decide) (hts (.fieldLink RX7 199 "PriceEdictModel" "towns" "I") (by decide +kernel)) rfl (by decide +kernel) (fun _ => rfl) (Nat.le_of_ble_eq_true rfl) dX7_town_70 (fun H locs hP hS => ?_)
          refine lv_aload_n hx hb dX7_town_73 rfl (lv_at hl 0 rfl) ?_
          refine wx_get hx hb hts hiX7 hown hK hP 143 (by decide) qc_143 rfl 26 (by decide) (hts (.fieldLink RX7 199 "PriceEdictModel" "towns" "I") (by decide +kernel)) rfl dX7_town_74 ?_
          refine lv_tope ((S 143 26) + (1 : Int32)) ((up2_same _ _ _ _)) ?_
          refine lv_iconst (v := 1) hx hb dX7_town_77 (by decide) ?_
          refine lv_isub hx hb dX7_town_78 ?_
          exact wx_iret hx hb hret hlk hK hP hS (by subst ev_2; subst ev_1; unfold f_X7_town; rw [if_pos c_26, if_pos c_48]) (by subst ev_2; subst ev_1; unfold g_X7_town; rw [if_pos c_26, if_pos c_48]) dX7_town_79
        · refine lv_iconst (v := 0) hx hb dX7_town_51 (by decide) ?_
          exact wx_iret hx hb hret hlk hK hP hS (by subst ev_2; subst ev_1; unfold f_X7_town; rw [if_pos c_26, if_neg c_48]) (by subst ev_2; subst ev_1; unfold g_X7_town; rw [if_pos c_26, if_neg c_48]) dX7_town_52
      refine lv_aload_n hx hb dX7_town_30 rfl (lv_at hl 0 rfl) ?_
      refine wx_get hx hb hts hiX7 hown hK hP 143 (by decide) qc_143 rfl 26 (by decide) (hts (.fieldLink RX7 199 "PriceEdictModel" "towns" "I") (by decide +kernel)) rfl dX7_town_31 ?_
      refine lv_tope (S 143 26) ((fr_X7_throwsIf (up2 S 143 0 (0 : Int32)) v_1 (1 : Int32) 26 (Or.inr (by decide))).trans ((up2_ne _ _ (Or.inr (by decide))))) ?_
      refine lv_bipush (v := 8) hx hb dX7_town_34 (by decide) ?_
      refine lv_icmp_ne (tgt := 43) hx hb dX7_town_36 (by decide) (fun c_36 => ?_) (fun c_36 => ?_)
      · refine lv_iconst (v := 0) hx hb dX7_town_43 (by decide) ?_
        exact J_44 _ _ _ _ (by rw [if_neg c_36]) hP hS (lv_sub hl [0, 1] rfl)
      · refine lv_iconst (v := 1) hx hb dX7_town_39 (by decide) ?_
        refine lv_goto (tgt := 44) hx hb dX7_town_40 (by decide) ?_
        exact J_44 _ _ _ _ (by rw [if_pos c_36]) hP hS (lv_sub hl [0, 1] rfl)
  refine lv_iload_n hx hb dX7_town_6 rfl (lv_at hl 1 rfl) ?_
  refine lv_iconst (v := 0) hx hb dX7_town_7 (by decide) ?_
  refine lv_sipush (v := 2000) hx hb dX7_town_8 (by decide) ?_
  refine wc_iS (As := [.int a1, .int (0 : Int32), .int (2000 : Int32)]) (rest := [.ref (r 143)]) ⟨hx, hb, hml, hown, hts⟩ (c_X7_in l D c g hr (up2 S 143 0 (0 : Int32)) a1 (0 : Int32) (2000 : Int32)) (va_cwS 3 hts gX7_town_X7_in rfl rfl rfl (by decide +kernel) ⟨Nat.le_of_ble_eq_true rfl, Nat.le_of_ble_eq_true rfl⟩) hK hP hS (fun _ h => h) rfl hl.1 rfl (lv_room (Nat.le_of_ble_eq_true rfl)) dX7_town_11 ⟨Nat.zero_le _, Nat.zero_le _⟩ (fun H locs hP hS => ?_)
  refine lv_if_ne (tgt := 21) hx hb dX7_town_14 (by decide) (fun c_14 => ?_) (fun c_14 => ?_)
  · refine lv_iconst (v := 0) hx hb dX7_town_21 (by decide) ?_
    exact J_22 _ _ _ _ (by rw [if_neg c_14]) hP hS (lv_sub hl [0, 1] rfl)
  · refine lv_iconst (v := 1) hx hb dX7_town_17 (by decide) ?_
    refine lv_goto (tgt := 22) hx hb dX7_town_18 (by decide) ?_
    exact J_22 _ _ _ _ (by rw [if_pos c_14]) hP hS (lv_sub hl [0, 1] rfl)
def g_X7_goods (S : qw_St) (a1 : Int32) (a2 : Int32) (a3 : Int32) (a4 : Int32) (a5 : Int32) (a6 : Int32) : qw_St := (if (if (f_X7_noTown (up2 S 143 0 (0 : Int32)) a1) = 0 then (if (f_X7_noThing a2) = 0 then (0 : Int32) else (1 : Int32)) else (1 : Int32)) = 0 then (if (if (f_X7_in a3 (0 : Int32) (9999 : Int32)) = 0 then (1 : Int32) else (if (f_X7_in a4 (0 : Int32) (9999 : Int32)) = 0 then (1 : Int32) else (if (f_X7_in a5 (0 : Int32) (1000 : Int32)) = 0 then (1 : Int32) else (if (f_X7_in a6 (0 : Int32) (1000 : Int32)) = 0 then (1 : Int32) else (0 : Int32))))) = 0 then (up2 (up2 (up2 (up2 (g_X7_throwsIf (g_X7_throwsIf (up2 S 143 0 (0 : Int32)) (if (f_X7_noTown (up2 S 143 0 (0 : Int32)) a1) = 0 then (if (f_X7_noThing a2) = 0 then (0 : Int32) else (1 : Int32)) else (1 : Int32)) (1 : Int32)) (if (f_X7_in a3 (0 : Int32) (9999 : Int32)) = 0 then (1 : Int32) else (if (f_X7_in a4 (0 : Int32) (9999 : Int32)) = 0 then (1 : Int32) else (if (f_X7_in a5 (0 : Int32) (1000 : Int32)) = 0 then (1 : Int32) else (if (f_X7_in a6 (0 : Int32) (1000 : Int32)) = 0 then (1 : Int32) else (0 : Int32))))) (2 : Int32)) 159 (((6 : Int32) * a1) + a2).toNatClampNeg a3) 160 (((6 : Int32) * a1) + a2).toNatClampNeg a4) 161 (((6 : Int32) * a1) + a2).toNatClampNeg a5) 162 (((6 : Int32) * a1) + a2).toNatClampNeg a6) else (g_X7_throwsIf (g_X7_throwsIf (up2 S 143 0 (0 : Int32)) (if (f_X7_noTown (up2 S 143 0 (0 : Int32)) a1) = 0 then (if (f_X7_noThing a2) = 0 then (0 : Int32) else (1 : Int32)) else (1 : Int32)) (1 : Int32)) (if (f_X7_in a3 (0 : Int32) (9999 : Int32)) = 0 then (1 : Int32) else (if (f_X7_in a4 (0 : Int32) (9999 : Int32)) = 0 then (1 : Int32) else (if (f_X7_in a5 (0 : Int32) (1000 : Int32)) = 0 then (1 : Int32) else (if (f_X7_in a6 (0 : Int32) (1000 : Int32)) = 0 then (1 : Int32) else (0 : Int32))))) (2 : Int32))) else (g_X7_throwsIf (up2 S 143 0 (0 : Int32)) (if (f_X7_noTown (up2 S 143 0 (0 : Int32)) a1) = 0 then (if (f_X7_noThing a2) = 0 then (0 : Int32) else (1 : Int32)) else (1 : Int32)) (1 : Int32)))
set_option maxHeartbeats 4000000 in
set_option maxRecDepth 100000 in
theorem c_X7_goods (l : Launch) (D : va_G) {r : Nat → Nat} (c : Nat → ClassId) (g : Nat → Int64) (hr : qw_inj r) (S : qw_St) (a1 : Int32) (a2 : Int32) (a3 : Int32) (a4 : Int32) (a5 : Int32) (a6 : Int32) (hz0 : qz (S 143 26) 8) : MV l D r c g yX7_goods wsX7_goods ({ frames := 2, cells := 0, slots := 0, locals := 43 }) [.ref (r 143), .int a1, .int a2, .int a3, .int a4, .int a5, .int a6] S (g_X7_goods S a1 a2 a3 a4 a5 a6) := by
  have hiX7 : ∀ w ∈ wsX70, w ∈ wsX7_goods := by decide +kernel
  refine wx_of (cc := cX7_goods) (nL := 8) (ret := none) (lvs := [(0, .ref (r 143)), (1, .int a1), (2, .int a2), (3, .int a3), (4, .int a4), (5, .int a5), (6, .int a6)]) (by decide) rfl rfl (Nat.le_of_ble_eq_true rfl) ?_
  intro p e s m below meth c0 ls hx hb hret hml hts hown hlk hK hP hS hl
  have hP : qw_P D r c g S s.heap := hP
  refine lv_aload_n hx hb dX7_goods_0 rfl (lv_at hl 0 rfl) ?_
  refine lv_iconst (v := 0) hx hb dX7_goods_1 (by decide) ?_
  refine wx_put hr hx hb hts hiX7 tyX7 tyX7_ok nmX7 hown hK hP hS 143 (by decide) qc_143 rfl 0 (by decide) (hts (.fieldLink RX7 99 "PriceEdictModel" "thrown" "I") (by decide +kernel)) rfl (by decide +kernel) (fun _ => rfl) (Nat.le_of_ble_eq_true rfl) dX7_goods_2 (fun H locs hP hS => ?_)
  refine lv_aload_n hx hb dX7_goods_5 rfl (lv_at hl 0 rfl) ?_
  have J_26 : ∀ (v_1 : Int32) (H : Heap) (locs : List Loc) (ls : Array Slot) (ev_1 : v_1 = (if (f_X7_noTown (up2 S 143 0 (0 : Int32)) a1) = 0 then (if (f_X7_noThing a2) = 0 then (0 : Int32) else (1 : Int32)) else (1 : Int32))), qw_P D r c g (up2 S 143 0 (0 : Int32)) H → va_S (qw_A r) s.heap H locs → lv_has ls 8 [(0, .ref (r 143)), (1, .int a1), (2, .int a2), (3, .int a3), (4, .int a4), (5, .int a5), (6, .int a6)] → W p l e ({ frames := 2, cells := 0, slots := 0, locals := 43 }) s m [.ref (r 143), .int a1, .int a2, .int a3, .int a4, .int a5, .int a6].toArray below meth c0 H locs 0 0 (MQ below (qw_Qv D r c g (g_X7_goods S a1 a2 a3 a4 a5 a6)) [.ref (r 143), .int a1, .int a2, .int a3, .int a4, .int a5, .int a6].toArray s 0 0 (qw_A r)) (F0 m 26 ls [.int v_1, .ref (r 143)]) := by
    intro v_1 H locs ls ev_1 hP hS hl
    refine lv_iconst (v := 1) hx hb dX7_goods_26 (by decide) ?_
    refine wc_iV (k := 143) (C := RX7) (As := [.int v_1, .int (1 : Int32)]) (rest := []) ⟨hx, hb, hml, hown, hts⟩ (c_X7_throwsIf l D c g hr (up2 S 143 0 (0 : Int32)) v_1 (1 : Int32) (by rw [ev_1]; repeat' (first | split | exact Or.inl rfl | exact Or.inr rfl))) (cwV 2 hts gX7_goods_X7_throwsIf rfl rfl rfl (by decide +kernel) ⟨Nat.le_of_ble_eq_true rfl, Nat.le_of_ble_eq_true rfl⟩) (wx_recv hK hP (by decide) qc_143 rfl) hK hP hS (fun _ h => h) rfl hl.1 rfl (lv_room (Nat.le_of_ble_eq_true rfl)) dX7_goods_27 ⟨Nat.zero_le _, Nat.zero_le _⟩ (fun H locs hP hS => ?_)
    refine lv_tope v_1 rfl ?_
    refine lv_if_ne (tgt := 93) hx hb dX7_goods_30 (by decide) (fun c_30 => ?_) (fun c_30 => ?_)
    · exact wx_vret hx hb hret hlk hK hP hS (by subst ev_1; unfold g_X7_goods; rw [if_neg c_30]) dX7_goods_93
    · refine lv_aload_n hx hb dX7_goods_33 rfl (lv_at hl 0 rfl) ?_
      have J_86 : ∀ (v_2 : Int32) (H : Heap) (locs : List Loc) (ls : Array Slot) (ev_2 : v_2 = (if (f_X7_in a3 (0 : Int32) (9999 : Int32)) = 0 then (1 : Int32) else (if (f_X7_in a4 (0 : Int32) (9999 : Int32)) = 0 then (1 : Int32) else (if (f_X7_in a5 (0 : Int32) (1000 : Int32)) = 0 then (1 : Int32) else (if (f_X7_in a6 (0 : Int32) (1000 : Int32)) = 0 then (1 : Int32) else (0 : Int32)))))), qw_P D r c g (g_X7_throwsIf (up2 S 143 0 (0 : Int32)) v_1 (1 : Int32)) H → va_S (qw_A r) s.heap H locs → lv_has ls 8 [(0, .ref (r 143)), (1, .int a1), (2, .int a2), (3, .int a3), (4, .int a4), (5, .int a5), (6, .int a6)] → W p l e ({ frames := 2, cells := 0, slots := 0, locals := 43 }) s m [.ref (r 143), .int a1, .int a2, .int a3, .int a4, .int a5, .int a6].toArray below meth c0 H locs 0 0 (MQ below (qw_Qv D r c g (g_X7_goods S a1 a2 a3 a4 a5 a6)) [.ref (r 143), .int a1, .int a2, .int a3, .int a4, .int a5, .int a6].toArray s 0 0 (qw_A r)) (F0 m 86 ls [.int v_2, .ref (r 143)]) := by
        intro v_2 H locs ls ev_2 hP hS hl
        refine lv_iconst (v := 2) hx hb dX7_goods_86 (by decide) ?_
        refine wc_iV (k := 143) (C := RX7) (As := [.int v_2, .int (2 : Int32)]) (rest := []) ⟨hx, hb, hml, hown, hts⟩ (c_X7_throwsIf l D c g hr (g_X7_throwsIf (up2 S 143 0 (0 : Int32)) v_1 (1 : Int32)) v_2 (2 : Int32) (by rw [ev_2]; repeat' (first | split | exact Or.inl rfl | exact Or.inr rfl))) (cwV 2 hts gX7_goods_X7_throwsIf rfl rfl rfl (by decide +kernel) ⟨Nat.le_of_ble_eq_true rfl, Nat.le_of_ble_eq_true rfl⟩) (wx_recv hK hP (by decide) qc_143 rfl) hK hP hS (fun _ h => h) rfl hl.1 rfl (lv_room (Nat.le_of_ble_eq_true rfl)) dX7_goods_87 ⟨Nat.zero_le _, Nat.zero_le _⟩ (fun H locs hP hS => ?_)
        refine lv_tope v_2 rfl ?_
        refine lv_if_eq (tgt := 94) hx hb dX7_goods_90 (by decide) (fun c_90 => ?_) (fun c_90 => ?_)
        · have ht := tt_in (S := up2 S 143 0 (0 : Int32)) hz0 (ev_1.symm.trans c_30)
          refine lv_bipush (v := 6) hx hb dX7_goods_94 (by decide) ?_
          refine lv_iload_n hx hb dX7_goods_96 rfl (lv_at hl 1 rfl) ?_
          refine lv_imul hx hb dX7_goods_97 ?_
          refine lv_iload_n hx hb dX7_goods_98 rfl (lv_at hl 2 rfl) ?_
          refine lv_iadd hx hb dX7_goods_99 ?_
          refine lv_topi (fun x_3 ex_3 => ?_)
          refine lv_istore (lv' := [(7, .int x_3), (0, .ref (r 143)), (1, .int a1), (2, .int a2), (3, .int a3), (4, .int a4), (5, .int a5), (6, .int a6)]) hx hb dX7_goods_100 hl (by decide) rfl (fun ls hl => ?_)
          have hx7 : vp_in x_3 48 := by rw [ex_3]; exact qi_6m ht.1 ht.2 (by decide) (by decide)
          refine lv_aload_n hx hb dX7_goods_102 rfl (lv_at hl 1 rfl) ?_
          refine wx_get hx hb hts hiX7 hown hK hP 143 (by decide) qc_143 rfl 27 (by decide) (hts (.fieldLink RX7 60 "PriceEdictModel" "cost" "[I") (by decide +kernel)) rfl dX7_goods_103 ?_
          refine lv_iload hx hb dX7_goods_106 (lv_at hl 0 rfl) ?_
          refine lv_iload_n hx hb dX7_goods_108 rfl (lv_at hl 4 rfl) ?_
          refine wx_ist hr hx hb hK hP hS 159 (by decide) qc_159 hx7 dX7_goods_109 (fun H locs hP hS => ?_)
          refine lv_aload_n hx hb dX7_goods_110 rfl (lv_at hl 1 rfl) ?_
          refine wx_get hx hb hts hiX7 hown hK hP 143 (by decide) qc_143 rfl 28 (by decide) (hts (.fieldLink RX7 63 "PriceEdictModel" "bid" "[I") (by decide +kernel)) rfl dX7_goods_111 ?_
          refine lv_iload hx hb dX7_goods_114 (lv_at hl 0 rfl) ?_
          refine lv_iload hx hb dX7_goods_116 (lv_at hl 5 rfl) ?_
          refine wx_ist hr hx hb hK hP hS 160 (by decide) qc_160 hx7 dX7_goods_118 (fun H locs hP hS => ?_)
          refine lv_aload_n hx hb dX7_goods_119 rfl (lv_at hl 1 rfl) ?_
          refine wx_get hx hb hts hiX7 hown hK hP 143 (by decide) qc_143 rfl 29 (by decide) (hts (.fieldLink RX7 66 "PriceEdictModel" "supply" "[I") (by decide +kernel)) rfl dX7_goods_120 ?_
          refine lv_iload hx hb dX7_goods_123 (lv_at hl 0 rfl) ?_
          refine lv_iload hx hb dX7_goods_125 (lv_at hl 6 rfl) ?_
          refine wx_ist hr hx hb hK hP hS 161 (by decide) qc_161 hx7 dX7_goods_127 (fun H locs hP hS => ?_)
          refine lv_aload_n hx hb dX7_goods_128 rfl (lv_at hl 1 rfl) ?_
          refine wx_get hx hb hts hiX7 hown hK hP 143 (by decide) qc_143 rfl 30 (by decide) (hts (.fieldLink RX7 69 "PriceEdictModel" "want" "[I") (by decide +kernel)) rfl dX7_goods_129 ?_
          refine lv_iload hx hb dX7_goods_132 (lv_at hl 0 rfl) ?_
          refine lv_iload hx hb dX7_goods_134 (lv_at hl 7 rfl) ?_
          refine wx_ist hr hx hb hK hP hS 162 (by decide) qc_162 hx7 dX7_goods_136 (fun H locs hP hS => ?_)
          exact wx_vret hx hb hret hlk hK hP hS (by subst ex_3; subst ev_2; subst ev_1; unfold g_X7_goods; rw [if_pos c_30, if_pos c_90]) dX7_goods_137
        · exact wx_vret hx hb hret hlk hK hP hS (by subst ev_2; subst ev_1; unfold g_X7_goods; rw [if_pos c_30, if_neg c_90]) dX7_goods_93
      refine lv_iload_n hx hb dX7_goods_34 rfl (lv_at hl 3 rfl) ?_
      refine lv_iconst (v := 0) hx hb dX7_goods_35 (by decide) ?_
      refine lv_sipush (v := 9999) hx hb dX7_goods_36 (by decide) ?_
      refine wc_iS (As := [.int a3, .int (0 : Int32), .int (9999 : Int32)]) (rest := [.ref (r 143)]) ⟨hx, hb, hml, hown, hts⟩ (c_X7_in l D c g hr (g_X7_throwsIf (up2 S 143 0 (0 : Int32)) v_1 (1 : Int32)) a3 (0 : Int32) (9999 : Int32)) (va_cwS 3 hts gX7_goods_X7_in rfl rfl rfl (by decide +kernel) ⟨Nat.le_of_ble_eq_true rfl, Nat.le_of_ble_eq_true rfl⟩) hK hP hS (fun _ h => h) rfl hl.1 rfl (lv_room (Nat.le_of_ble_eq_true rfl)) dX7_goods_39 ⟨Nat.zero_le _, Nat.zero_le _⟩ (fun H locs hP hS => ?_)
      refine lv_if_eq (tgt := 81) hx hb dX7_goods_42 (by decide) (fun c_42 => ?_) (fun c_42 => ?_)
      · refine lv_iconst (v := 1) hx hb dX7_goods_81 (by decide) ?_
        refine lv_goto (tgt := 86) hx hb dX7_goods_82 (by decide) ?_
        exact J_86 _ _ _ _ (by rw [if_pos c_42]) hP hS (lv_sub hl [0, 1, 2, 3, 4, 5, 6] rfl)
      · refine lv_iload hx hb dX7_goods_45 (lv_at hl 4 rfl) ?_
        refine lv_iconst (v := 0) hx hb dX7_goods_47 (by decide) ?_
        refine lv_sipush (v := 9999) hx hb dX7_goods_48 (by decide) ?_
        refine wc_iS (As := [.int a4, .int (0 : Int32), .int (9999 : Int32)]) (rest := [.ref (r 143)]) ⟨hx, hb, hml, hown, hts⟩ (c_X7_in l D c g hr (g_X7_throwsIf (up2 S 143 0 (0 : Int32)) v_1 (1 : Int32)) a4 (0 : Int32) (9999 : Int32)) (va_cwS 3 hts gX7_goods_X7_in rfl rfl rfl (by decide +kernel) ⟨Nat.le_of_ble_eq_true rfl, Nat.le_of_ble_eq_true rfl⟩) hK hP hS (fun _ h => h) rfl hl.1 rfl (lv_room (Nat.le_of_ble_eq_true rfl)) dX7_goods_51 ⟨Nat.zero_le _, Nat.zero_le _⟩ (fun H locs hP hS => ?_)
        refine lv_if_eq (tgt := 81) hx hb dX7_goods_54 (by decide) (fun c_54 => ?_) (fun c_54 => ?_)
        · refine lv_iconst (v := 1) hx hb dX7_goods_81 (by decide) ?_
          refine lv_goto (tgt := 86) hx hb dX7_goods_82 (by decide) ?_
          exact J_86 _ _ _ _ (by rw [if_neg c_42, if_pos c_54]) hP hS (lv_sub hl [0, 1, 2, 3, 4, 5, 6] rfl)
        · refine lv_iload hx hb dX7_goods_57 (lv_at hl 5 rfl) ?_
          refine lv_iconst (v := 0) hx hb dX7_goods_59 (by decide) ?_
          refine lv_sipush (v := 1000) hx hb dX7_goods_60 (by decide) ?_
          refine wc_iS (As := [.int a5, .int (0 : Int32), .int (1000 : Int32)]) (rest := [.ref (r 143)]) ⟨hx, hb, hml, hown, hts⟩ (c_X7_in l D c g hr (g_X7_throwsIf (up2 S 143 0 (0 : Int32)) v_1 (1 : Int32)) a5 (0 : Int32) (1000 : Int32)) (va_cwS 3 hts gX7_goods_X7_in rfl rfl rfl (by decide +kernel) ⟨Nat.le_of_ble_eq_true rfl, Nat.le_of_ble_eq_true rfl⟩) hK hP hS (fun _ h => h) rfl hl.1 rfl (lv_room (Nat.le_of_ble_eq_true rfl)) dX7_goods_63 ⟨Nat.zero_le _, Nat.zero_le _⟩ (fun H locs hP hS => ?_)
          refine lv_if_eq (tgt := 81) hx hb dX7_goods_66 (by decide) (fun c_66 => ?_) (fun c_66 => ?_)
          · refine lv_iconst (v := 1) hx hb dX7_goods_81 (by decide) ?_
            refine lv_goto (tgt := 86) hx hb dX7_goods_82 (by decide) ?_
            exact J_86 _ _ _ _ (by rw [if_neg c_42, if_neg c_54, if_pos c_66]) hP hS (lv_sub hl [0, 1, 2, 3, 4, 5, 6] rfl)
          · refine lv_iload hx hb dX7_goods_69 (lv_at hl 6 rfl) ?_
            refine lv_iconst (v := 0) hx hb dX7_goods_71 (by decide) ?_
            refine lv_sipush (v := 1000) hx hb dX7_goods_72 (by decide) ?_
            refine wc_iS (As := [.int a6, .int (0 : Int32), .int (1000 : Int32)]) (rest := [.ref (r 143)]) ⟨hx, hb, hml, hown, hts⟩ (c_X7_in l D c g hr (g_X7_throwsIf (up2 S 143 0 (0 : Int32)) v_1 (1 : Int32)) a6 (0 : Int32) (1000 : Int32)) (va_cwS 3 hts gX7_goods_X7_in rfl rfl rfl (by decide +kernel) ⟨Nat.le_of_ble_eq_true rfl, Nat.le_of_ble_eq_true rfl⟩) hK hP hS (fun _ h => h) rfl hl.1 rfl (lv_room (Nat.le_of_ble_eq_true rfl)) dX7_goods_75 ⟨Nat.zero_le _, Nat.zero_le _⟩ (fun H locs hP hS => ?_)
            refine lv_if_ne (tgt := 85) hx hb dX7_goods_78 (by decide) (fun c_78 => ?_) (fun c_78 => ?_)
            · refine lv_iconst (v := 0) hx hb dX7_goods_85 (by decide) ?_
              exact J_86 _ _ _ _ (by rw [if_neg c_42, if_neg c_54, if_neg c_66, if_neg c_78]) hP hS (lv_sub hl [0, 1, 2, 3, 4, 5, 6] rfl)
            · refine lv_iconst (v := 1) hx hb dX7_goods_81 (by decide) ?_
              refine lv_goto (tgt := 86) hx hb dX7_goods_82 (by decide) ?_
              exact J_86 _ _ _ _ (by rw [if_neg c_42, if_neg c_54, if_neg c_66, if_pos c_78]) hP hS (lv_sub hl [0, 1, 2, 3, 4, 5, 6] rfl)
  refine lv_aload_n hx hb dX7_goods_6 rfl (lv_at hl 0 rfl) ?_
  refine lv_iload_n hx hb dX7_goods_7 rfl (lv_at hl 1 rfl) ?_
  refine wc_iV (k := 143) (C := RX7) (As := [.int a1]) (rest := [.ref (r 143)]) ⟨hx, hb, hml, hown, hts⟩ (c_X7_noTown l D c g hr (up2 S 143 0 (0 : Int32)) a1) (cwV 1 hts gX7_goods_X7_noTown rfl rfl rfl (by decide +kernel) ⟨Nat.le_of_ble_eq_true rfl, Nat.le_of_ble_eq_true rfl⟩) (wx_recv hK hP (by decide) qc_143 rfl) hK hP hS (fun _ h => h) rfl hl.1 rfl (lv_room (Nat.le_of_ble_eq_true rfl)) dX7_goods_8 ⟨Nat.zero_le _, Nat.zero_le _⟩ (fun H locs hP hS => ?_)
  refine lv_if_ne (tgt := 21) hx hb dX7_goods_11 (by decide) (fun c_11 => ?_) (fun c_11 => ?_)
  · refine lv_iconst (v := 1) hx hb dX7_goods_21 (by decide) ?_
    refine lv_goto (tgt := 26) hx hb dX7_goods_22 (by decide) ?_
    exact J_26 _ _ _ _ (by rw [if_neg c_11]) hP hS (lv_sub hl [0, 1, 2, 3, 4, 5, 6] rfl)
  · refine lv_iload_n hx hb dX7_goods_14 rfl (lv_at hl 2 rfl) ?_
    refine wc_iS (As := [.int a2]) (rest := [.ref (r 143)]) ⟨hx, hb, hml, hown, hts⟩ (c_X7_noThing l D c g hr (up2 S 143 0 (0 : Int32)) a2) (va_cwS 1 hts gX7_goods_X7_noThing rfl rfl rfl (by decide +kernel) ⟨Nat.le_of_ble_eq_true rfl, Nat.le_of_ble_eq_true rfl⟩) hK hP hS (fun _ h => h) rfl hl.1 rfl (lv_room (Nat.le_of_ble_eq_true rfl)) dX7_goods_15 ⟨Nat.zero_le _, Nat.zero_le _⟩ (fun H locs hP hS => ?_)
    refine lv_if_eq (tgt := 25) hx hb dX7_goods_18 (by decide) (fun c_18 => ?_) (fun c_18 => ?_)
    · refine lv_iconst (v := 0) hx hb dX7_goods_25 (by decide) ?_
      exact J_26 _ _ _ _ (by rw [if_pos c_11, if_pos c_18]) hP hS (lv_sub hl [0, 1, 2, 3, 4, 5, 6] rfl)
    · refine lv_iconst (v := 1) hx hb dX7_goods_21 (by decide) ?_
      refine lv_goto (tgt := 26) hx hb dX7_goods_22 (by decide) ?_
      exact J_26 _ _ _ _ (by rw [if_pos c_11, if_neg c_18]) hP hS (lv_sub hl [0, 1, 2, 3, 4, 5, 6] rfl)
def g_X7_spoil (S : qw_St) (a1 : Int32) (a2 : Int32) : qw_St := (if (f_X7_noThing a1) = 0 then (if (if (f_X7_in a2 (0 : Int32) (100 : Int32)) = 0 then (1 : Int32) else (0 : Int32)) = 0 then (up2 (g_X7_throwsIf (g_X7_throwsIf (up2 S 143 0 (0 : Int32)) (f_X7_noThing a1) (1 : Int32)) (if (f_X7_in a2 (0 : Int32) (100 : Int32)) = 0 then (1 : Int32) else (0 : Int32)) (2 : Int32)) 170 a1.toNatClampNeg a2) else (g_X7_throwsIf (g_X7_throwsIf (up2 S 143 0 (0 : Int32)) (f_X7_noThing a1) (1 : Int32)) (if (f_X7_in a2 (0 : Int32) (100 : Int32)) = 0 then (1 : Int32) else (0 : Int32)) (2 : Int32))) else (g_X7_throwsIf (up2 S 143 0 (0 : Int32)) (f_X7_noThing a1) (1 : Int32)))
set_option maxHeartbeats 4000000 in
set_option maxRecDepth 100000 in
theorem c_X7_spoil (l : Launch) (D : va_G) {r : Nat → Nat} (c : Nat → ClassId) (g : Nat → Int64) (hr : qw_inj r) (S : qw_St) (a1 : Int32) (a2 : Int32) : MV l D r c g yX7_spoil wsX7_spoil ({ frames := 2, cells := 0, slots := 0, locals := 42 }) [.ref (r 143), .int a1, .int a2] S (g_X7_spoil S a1 a2) := by
  have hiX7 : ∀ w ∈ wsX70, w ∈ wsX7_spoil := by decide +kernel
  refine wx_of (cc := cX7_spoil) (nL := 3) (ret := none) (lvs := [(0, .ref (r 143)), (1, .int a1), (2, .int a2)]) (by decide) rfl rfl (Nat.le_of_ble_eq_true rfl) ?_
  intro p e s m below meth c0 ls hx hb hret hml hts hown hlk hK hP hS hl
  have hP : qw_P D r c g S s.heap := hP
  refine lv_aload_n hx hb dX7_spoil_0 rfl (lv_at hl 0 rfl) ?_
  refine lv_iconst (v := 0) hx hb dX7_spoil_1 (by decide) ?_
  refine wx_put hr hx hb hts hiX7 tyX7 tyX7_ok nmX7 hown hK hP hS 143 (by decide) qc_143 rfl 0 (by decide) (hts (.fieldLink RX7 99 "PriceEdictModel" "thrown" "I") (by decide +kernel)) rfl (by decide +kernel) (fun _ => rfl) (Nat.le_of_ble_eq_true rfl) dX7_spoil_2 (fun H locs hP hS => ?_)
  refine lv_aload_n hx hb dX7_spoil_5 rfl (lv_at hl 0 rfl) ?_
  refine lv_iload_n hx hb dX7_spoil_6 rfl (lv_at hl 1 rfl) ?_
  refine wc_iS (As := [.int a1]) (rest := [.ref (r 143)]) ⟨hx, hb, hml, hown, hts⟩ (c_X7_noThing l D c g hr (up2 S 143 0 (0 : Int32)) a1) (va_cwS 1 hts gX7_spoil_X7_noThing rfl rfl rfl (by decide +kernel) ⟨Nat.le_of_ble_eq_true rfl, Nat.le_of_ble_eq_true rfl⟩) hK hP hS (fun _ h => h) rfl hl.1 rfl (lv_room (Nat.le_of_ble_eq_true rfl)) dX7_spoil_7 ⟨Nat.zero_le _, Nat.zero_le _⟩ (fun H locs hP hS => ?_)
  refine lv_iconst (v := 1) hx hb dX7_spoil_10 (by decide) ?_
  refine wc_iV (k := 143) (C := RX7) (As := [.int (f_X7_noThing a1), .int (1 : Int32)]) (rest := []) ⟨hx, hb, hml, hown, hts⟩ (c_X7_throwsIf l D c g hr (up2 S 143 0 (0 : Int32)) (f_X7_noThing a1) (1 : Int32) (noThing_b _)) (cwV 2 hts gX7_spoil_X7_throwsIf rfl rfl rfl (by decide +kernel) ⟨Nat.le_of_ble_eq_true rfl, Nat.le_of_ble_eq_true rfl⟩) (wx_recv hK hP (by decide) qc_143 rfl) hK hP hS (fun _ h => h) rfl hl.1 rfl (lv_room (Nat.le_of_ble_eq_true rfl)) dX7_spoil_11 ⟨Nat.zero_le _, Nat.zero_le _⟩ (fun H locs hP hS => ?_)
  refine lv_tope (f_X7_noThing a1) rfl ?_
  refine lv_if_ne (tgt := 40) hx hb dX7_spoil_14 (by decide) (fun c_14 => ?_) (fun c_14 => ?_)
  · exact wx_vret hx hb hret hlk hK hP hS (by unfold g_X7_spoil; rw [if_neg c_14]) dX7_spoil_40
  · refine lv_aload_n hx hb dX7_spoil_17 rfl (lv_at hl 0 rfl) ?_
    have J_33 : ∀ (v_1 : Int32) (H : Heap) (locs : List Loc) (ls : Array Slot) (ev_1 : v_1 = (if (f_X7_in a2 (0 : Int32) (100 : Int32)) = 0 then (1 : Int32) else (0 : Int32))), qw_P D r c g (g_X7_throwsIf (up2 S 143 0 (0 : Int32)) (f_X7_noThing a1) (1 : Int32)) H → va_S (qw_A r) s.heap H locs → lv_has ls 3 [(0, .ref (r 143)), (1, .int a1), (2, .int a2)] → W p l e ({ frames := 2, cells := 0, slots := 0, locals := 42 }) s m [.ref (r 143), .int a1, .int a2].toArray below meth c0 H locs 0 0 (MQ below (qw_Qv D r c g (g_X7_spoil S a1 a2)) [.ref (r 143), .int a1, .int a2].toArray s 0 0 (qw_A r)) (F0 m 33 ls [.int v_1, .ref (r 143)]) := by
      intro v_1 H locs ls ev_1 hP hS hl
      refine lv_iconst (v := 2) hx hb dX7_spoil_33 (by decide) ?_
      refine wc_iV (k := 143) (C := RX7) (As := [.int v_1, .int (2 : Int32)]) (rest := []) ⟨hx, hb, hml, hown, hts⟩ (c_X7_throwsIf l D c g hr (g_X7_throwsIf (up2 S 143 0 (0 : Int32)) (f_X7_noThing a1) (1 : Int32)) v_1 (2 : Int32) (by rw [ev_1]; repeat' (first | split | exact Or.inl rfl | exact Or.inr rfl))) (cwV 2 hts gX7_spoil_X7_throwsIf rfl rfl rfl (by decide +kernel) ⟨Nat.le_of_ble_eq_true rfl, Nat.le_of_ble_eq_true rfl⟩) (wx_recv hK hP (by decide) qc_143 rfl) hK hP hS (fun _ h => h) rfl hl.1 rfl (lv_room (Nat.le_of_ble_eq_true rfl)) dX7_spoil_34 ⟨Nat.zero_le _, Nat.zero_le _⟩ (fun H locs hP hS => ?_)
      refine lv_tope v_1 rfl ?_
      refine lv_if_eq (tgt := 41) hx hb dX7_spoil_37 (by decide) (fun c_37 => ?_) (fun c_37 => ?_)
      · refine lv_aload_n hx hb dX7_spoil_41 rfl (lv_at hl 0 rfl) ?_
        refine wx_get hx hb hts hiX7 hown hK hP 143 (by decide) qc_143 rfl 38 (by decide) (hts (.fieldLink RX7 93 "PriceEdictModel" "spoil" "[I") (by decide +kernel)) rfl dX7_spoil_42 ?_
        refine lv_iload_n hx hb dX7_spoil_45 rfl (lv_at hl 1 rfl) ?_
        refine lv_iload_n hx hb dX7_spoil_46 rfl (lv_at hl 2 rfl) ?_
        refine wx_ist hr hx hb hK hP hS 170 (by decide) qc_170 (noThing_in c_14) dX7_spoil_47 (fun H locs hP hS => ?_)
        exact wx_vret hx hb hret hlk hK hP hS (by subst ev_1; unfold g_X7_spoil; rw [if_pos c_14, if_pos c_37]) dX7_spoil_48
      · exact wx_vret hx hb hret hlk hK hP hS (by subst ev_1; unfold g_X7_spoil; rw [if_pos c_14, if_neg c_37]) dX7_spoil_40
    refine lv_iload_n hx hb dX7_spoil_18 rfl (lv_at hl 2 rfl) ?_
    refine lv_iconst (v := 0) hx hb dX7_spoil_19 (by decide) ?_
    refine lv_bipush (v := 100) hx hb dX7_spoil_20 (by decide) ?_
    refine wc_iS (As := [.int a2, .int (0 : Int32), .int (100 : Int32)]) (rest := [.ref (r 143)]) ⟨hx, hb, hml, hown, hts⟩ (c_X7_in l D c g hr (g_X7_throwsIf (up2 S 143 0 (0 : Int32)) (f_X7_noThing a1) (1 : Int32)) a2 (0 : Int32) (100 : Int32)) (va_cwS 3 hts gX7_spoil_X7_in rfl rfl rfl (by decide +kernel) ⟨Nat.le_of_ble_eq_true rfl, Nat.le_of_ble_eq_true rfl⟩) hK hP hS (fun _ h => h) rfl hl.1 rfl (lv_room (Nat.le_of_ble_eq_true rfl)) dX7_spoil_22 ⟨Nat.zero_le _, Nat.zero_le _⟩ (fun H locs hP hS => ?_)
    refine lv_if_ne (tgt := 32) hx hb dX7_spoil_25 (by decide) (fun c_25 => ?_) (fun c_25 => ?_)
    · refine lv_iconst (v := 0) hx hb dX7_spoil_32 (by decide) ?_
      exact J_33 _ _ _ _ (by rw [if_neg c_25]) hP hS (lv_sub hl [0, 1, 2] rfl)
    · refine lv_iconst (v := 1) hx hb dX7_spoil_28 (by decide) ?_
      refine lv_goto (tgt := 33) hx hb dX7_spoil_29 (by decide) ?_
      exact J_33 _ _ _ _ (by rw [if_pos c_25]) hP hS (lv_sub hl [0, 1, 2] rfl)
def g_X7_carry (S : qw_St) (a1 : Int32) : qw_St := (if (if (f_X7_in a1 (0 : Int32) (99 : Int32)) = 0 then (1 : Int32) else (0 : Int32)) = 0 then (up2 (g_X7_throwsIf (up2 S 143 0 (0 : Int32)) (if (f_X7_in a1 (0 : Int32) (99 : Int32)) = 0 then (1 : Int32) else (0 : Int32)) (1 : Int32)) 143 39 a1) else (g_X7_throwsIf (up2 S 143 0 (0 : Int32)) (if (f_X7_in a1 (0 : Int32) (99 : Int32)) = 0 then (1 : Int32) else (0 : Int32)) (1 : Int32)))
set_option maxHeartbeats 4000000 in
set_option maxRecDepth 100000 in
theorem c_X7_carry (l : Launch) (D : va_G) {r : Nat → Nat} (c : Nat → ClassId) (g : Nat → Int64) (hr : qw_inj r) (S : qw_St) (a1 : Int32) : MV l D r c g yX7_carry wsX7_carry ({ frames := 1, cells := 0, slots := 0, locals := 22 }) [.ref (r 143), .int a1] S (g_X7_carry S a1) := by
  have hiX7 : ∀ w ∈ wsX70, w ∈ wsX7_carry := by decide +kernel
  refine wx_of (cc := cX7_carry) (nL := 2) (ret := none) (lvs := [(0, .ref (r 143)), (1, .int a1)]) (by decide) rfl rfl (Nat.le_of_ble_eq_true rfl) ?_
  intro p e s m below meth c0 ls hx hb hret hml hts hown hlk hK hP hS hl
  have hP : qw_P D r c g S s.heap := hP
  refine lv_aload_n hx hb dX7_carry_0 rfl (lv_at hl 0 rfl) ?_
  refine lv_iconst (v := 0) hx hb dX7_carry_1 (by decide) ?_
  refine wx_put hr hx hb hts hiX7 tyX7 tyX7_ok nmX7 hown hK hP hS 143 (by decide) qc_143 rfl 0 (by decide) (hts (.fieldLink RX7 99 "PriceEdictModel" "thrown" "I") (by decide +kernel)) rfl (by decide +kernel) (fun _ => rfl) (Nat.le_of_ble_eq_true rfl) dX7_carry_2 (fun H locs hP hS => ?_)
  refine lv_aload_n hx hb dX7_carry_5 rfl (lv_at hl 0 rfl) ?_
  have J_21 : ∀ (v_1 : Int32) (H : Heap) (locs : List Loc) (ls : Array Slot) (ev_1 : v_1 = (if (f_X7_in a1 (0 : Int32) (99 : Int32)) = 0 then (1 : Int32) else (0 : Int32))), qw_P D r c g (up2 S 143 0 (0 : Int32)) H → va_S (qw_A r) s.heap H locs → lv_has ls 2 [(0, .ref (r 143)), (1, .int a1)] → W p l e ({ frames := 1, cells := 0, slots := 0, locals := 22 }) s m [.ref (r 143), .int a1].toArray below meth c0 H locs 0 0 (MQ below (qw_Qv D r c g (g_X7_carry S a1)) [.ref (r 143), .int a1].toArray s 0 0 (qw_A r)) (F0 m 21 ls [.int v_1, .ref (r 143)]) := by
    intro v_1 H locs ls ev_1 hP hS hl
    refine lv_iconst (v := 1) hx hb dX7_carry_21 (by decide) ?_
    refine wc_iV (k := 143) (C := RX7) (As := [.int v_1, .int (1 : Int32)]) (rest := []) ⟨hx, hb, hml, hown, hts⟩ (c_X7_throwsIf l D c g hr (up2 S 143 0 (0 : Int32)) v_1 (1 : Int32) (by rw [ev_1]; repeat' (first | split | exact Or.inl rfl | exact Or.inr rfl))) (cwV 2 hts gX7_carry_X7_throwsIf rfl rfl rfl (by decide +kernel) ⟨Nat.le_of_ble_eq_true rfl, Nat.le_of_ble_eq_true rfl⟩) (wx_recv hK hP (by decide) qc_143 rfl) hK hP hS (fun _ h => h) rfl hl.1 rfl (lv_room (Nat.le_of_ble_eq_true rfl)) dX7_carry_22 ⟨Nat.zero_le _, Nat.zero_le _⟩ (fun H locs hP hS => ?_)
    refine lv_tope v_1 rfl ?_
    refine lv_if_eq (tgt := 29) hx hb dX7_carry_25 (by decide) (fun c_25 => ?_) (fun c_25 => ?_)
    · refine lv_aload_n hx hb dX7_carry_29 rfl (lv_at hl 0 rfl) ?_
      refine lv_iload_n hx hb dX7_carry_30 rfl (lv_at hl 1 rfl) ?_
      refine wx_put hr hx hb hts hiX7 tyX7 tyX7_ok nmX7 hown hK hP hS 143 (by decide) qc_143 rfl 39 (by decide) (hts (.fieldLink RX7 96 "PriceEdictModel" "carry" "I") (by decide +kernel)) rfl (by decide +kernel) (fun _ => rfl) (Nat.le_of_ble_eq_true rfl) dX7_carry_31 (fun H locs hP hS => ?_)
      exact wx_vret hx hb hret hlk hK hP hS (by subst ev_1; unfold g_X7_carry; rw [if_pos c_25]) dX7_carry_34
    · exact wx_vret hx hb hret hlk hK hP hS (by subst ev_1; unfold g_X7_carry; rw [if_neg c_25]) dX7_carry_28
  refine lv_iload_n hx hb dX7_carry_6 rfl (lv_at hl 1 rfl) ?_
  refine lv_iconst (v := 0) hx hb dX7_carry_7 (by decide) ?_
  refine lv_bipush (v := 99) hx hb dX7_carry_8 (by decide) ?_
  refine wc_iS (As := [.int a1, .int (0 : Int32), .int (99 : Int32)]) (rest := [.ref (r 143)]) ⟨hx, hb, hml, hown, hts⟩ (c_X7_in l D c g hr (up2 S 143 0 (0 : Int32)) a1 (0 : Int32) (99 : Int32)) (va_cwS 3 hts gX7_carry_X7_in rfl rfl rfl (by decide +kernel) ⟨Nat.le_of_ble_eq_true rfl, Nat.le_of_ble_eq_true rfl⟩) hK hP hS (fun _ h => h) rfl hl.1 rfl (lv_room (Nat.le_of_ble_eq_true rfl)) dX7_carry_10 ⟨Nat.zero_le _, Nat.zero_le _⟩ (fun H locs hP hS => ?_)
  refine lv_if_ne (tgt := 20) hx hb dX7_carry_13 (by decide) (fun c_13 => ?_) (fun c_13 => ?_)
  · refine lv_iconst (v := 0) hx hb dX7_carry_20 (by decide) ?_
    exact J_21 _ _ _ _ (by rw [if_neg c_13]) hP hS (lv_sub hl [0, 1] rfl)
  · refine lv_iconst (v := 1) hx hb dX7_carry_16 (by decide) ?_
    refine lv_goto (tgt := 21) hx hb dX7_carry_17 (by decide) ?_
    exact J_21 _ _ _ _ (by rw [if_pos c_13]) hP hS (lv_sub hl [0, 1] rfl)
def g_X7_days (S : qw_St) (a1 : Int32) : qw_St := (if (if (f_X7_in a1 (0 : Int32) (100 : Int32)) = 0 then (1 : Int32) else (0 : Int32)) = 0 then (up2 (g_X7_throwsIf (up2 S 143 0 (0 : Int32)) (if (f_X7_in a1 (0 : Int32) (100 : Int32)) = 0 then (1 : Int32) else (0 : Int32)) (1 : Int32)) 143 1 (if ((S 143 1) + a1) < (5000 : Int32) then ((S 143 1) + a1) else (5000 : Int32))) else (g_X7_throwsIf (up2 S 143 0 (0 : Int32)) (if (f_X7_in a1 (0 : Int32) (100 : Int32)) = 0 then (1 : Int32) else (0 : Int32)) (1 : Int32)))
def f_X7_days (S : qw_St) (a1 : Int32) : Int32 := (if (if (f_X7_in a1 (0 : Int32) (100 : Int32)) = 0 then (1 : Int32) else (0 : Int32)) = 0 then (if ((S 143 1) + a1) < (5000 : Int32) then ((S 143 1) + a1) else (5000 : Int32)) else (0 : Int32))
set_option maxHeartbeats 4000000 in
set_option maxRecDepth 100000 in
theorem c_X7_days (l : Launch) (D : va_G) {r : Nat → Nat} (c : Nat → ClassId) (g : Nat → Int64) (hr : qw_inj r) (S : qw_St) (a1 : Int32) : MI l D r c g yX7_days wsX7_days ({ frames := 1, cells := 0, slots := 0, locals := 22 }) [.ref (r 143), .int a1] S (f_X7_days S a1) (g_X7_days S a1) := by
  have hiX7 : ∀ w ∈ wsX70, w ∈ wsX7_days := by decide +kernel
  refine wx_of (cc := cX7_days) (nL := 2) (ret := (some .int)) (lvs := [(0, .ref (r 143)), (1, .int a1)]) (by decide) rfl rfl (Nat.le_of_ble_eq_true rfl) ?_
  intro p e s m below meth c0 ls hx hb hret hml hts hown hlk hK hP hS hl
  have hP : qw_P D r c g S s.heap := hP
  refine lv_aload_n hx hb dX7_days_0 rfl (lv_at hl 0 rfl) ?_
  refine lv_iconst (v := 0) hx hb dX7_days_1 (by decide) ?_
  refine wx_put hr hx hb hts hiX7 tyX7 tyX7_ok nmX7 hown hK hP hS 143 (by decide) qc_143 rfl 0 (by decide) (hts (.fieldLink RX7 99 "PriceEdictModel" "thrown" "I") (by decide +kernel)) rfl (by decide +kernel) (fun _ => rfl) (Nat.le_of_ble_eq_true rfl) dX7_days_2 (fun H locs hP hS => ?_)
  refine lv_aload_n hx hb dX7_days_5 rfl (lv_at hl 0 rfl) ?_
  have J_21 : ∀ (v_1 : Int32) (H : Heap) (locs : List Loc) (ls : Array Slot) (ev_1 : v_1 = (if (f_X7_in a1 (0 : Int32) (100 : Int32)) = 0 then (1 : Int32) else (0 : Int32))), qw_P D r c g (up2 S 143 0 (0 : Int32)) H → va_S (qw_A r) s.heap H locs → lv_has ls 2 [(0, .ref (r 143)), (1, .int a1)] → W p l e ({ frames := 1, cells := 0, slots := 0, locals := 22 }) s m [.ref (r 143), .int a1].toArray below meth c0 H locs 0 0 (MQ below (qw_Qi D r c g (f_X7_days S a1) (g_X7_days S a1)) [.ref (r 143), .int a1].toArray s 0 0 (qw_A r)) (F0 m 21 ls [.int v_1, .ref (r 143)]) := by
    intro v_1 H locs ls ev_1 hP hS hl
    refine lv_iconst (v := 1) hx hb dX7_days_21 (by decide) ?_
    refine wc_iV (k := 143) (C := RX7) (As := [.int v_1, .int (1 : Int32)]) (rest := []) ⟨hx, hb, hml, hown, hts⟩ (c_X7_throwsIf l D c g hr (up2 S 143 0 (0 : Int32)) v_1 (1 : Int32) (by rw [ev_1]; repeat' (first | split | exact Or.inl rfl | exact Or.inr rfl))) (cwV 2 hts gX7_days_X7_throwsIf rfl rfl rfl (by decide +kernel) ⟨Nat.le_of_ble_eq_true rfl, Nat.le_of_ble_eq_true rfl⟩) (wx_recv hK hP (by decide) qc_143 rfl) hK hP hS (fun _ h => h) rfl hl.1 rfl (lv_room (Nat.le_of_ble_eq_true rfl)) dX7_days_22 ⟨Nat.zero_le _, Nat.zero_le _⟩ (fun H locs hP hS => ?_)
    refine lv_tope v_1 rfl ?_
    refine lv_if_eq (tgt := 30) hx hb dX7_days_25 (by decide) (fun c_25 => ?_) (fun c_25 => ?_)
    · refine lv_aload_n hx hb dX7_days_30 rfl (lv_at hl 0 rfl) ?_
      refine lv_sipush (v := 5000) hx hb dX7_days_31 (by decide) ?_
      refine lv_aload_n hx hb dX7_days_34 rfl (lv_at hl 0 rfl) ?_
      refine wx_get hx hb hts hiX7 hown hK hP 143 (by decide) qc_143 rfl 1 (by decide) (hts (.fieldLink RX7 117 "PriceEdictModel" "today" "I") (by decide +kernel)) rfl dX7_days_35 ?_
      refine lv_tope (S 143 1) ((fr_X7_throwsIf (up2 S 143 0 (0 : Int32)) v_1 (1 : Int32) 1 (Or.inr (by decide))).trans ((up2_ne _ _ (Or.inr (by decide))))) ?_
      refine lv_iload_n hx hb dX7_days_38 rfl (lv_at hl 1 rfl) ?_
      refine lv_iadd hx hb dX7_days_39 ?_
      refine va_mmin hx hb (hml.trans hl.1.symm) hown (hts (.methodLink RX7 218 Lib.Math.min.name) (by decide +kernel)) (hts (.static Lib.Math.min.name) (by decide +kernel)) (hts (.initialized "java/lang/Math") (by decide +kernel)) (hts (.code Lib.Math.min.name Lib.Math.min.code 2 (some .int)) (by decide +kernel)) (Nat.le_of_ble_eq_true rfl) (Nat.le_of_ble_eq_true rfl) (Nat.zero_le _) (Nat.zero_le _) dX7_days_40 ?_
      refine wx_put hr hx hb hts hiX7 tyX7 tyX7_ok nmX7 hown hK hP hS 143 (by decide) qc_143 rfl 1 (by decide) (hts (.fieldLink RX7 117 "PriceEdictModel" "today" "I") (by decide +kernel)) rfl (by decide +kernel) (fun _ => rfl) (Nat.le_of_ble_eq_true rfl) dX7_days_43 (fun H locs hP hS => ?_)
      refine lv_aload_n hx hb dX7_days_46 rfl (lv_at hl 0 rfl) ?_
      refine wx_get hx hb hts hiX7 hown hK hP 143 (by decide) qc_143 rfl 1 (by decide) (hts (.fieldLink RX7 117 "PriceEdictModel" "today" "I") (by decide +kernel)) rfl dX7_days_47 ?_
      refine lv_tope (if ((S 143 1) + a1) < (5000 : Int32) then ((S 143 1) + a1) else (5000 : Int32)) ((up2_same _ _ _ _)) ?_
      exact wx_iret hx hb hret hlk hK hP hS (by subst ev_1; unfold f_X7_days; rw [if_pos c_25]) (by subst ev_1; unfold g_X7_days; rw [if_pos c_25]) dX7_days_50
    · refine lv_iconst (v := 0) hx hb dX7_days_28 (by decide) ?_
      exact wx_iret hx hb hret hlk hK hP hS (by subst ev_1; unfold f_X7_days; rw [if_neg c_25]) (by subst ev_1; unfold g_X7_days; rw [if_neg c_25]) dX7_days_29
  refine lv_iload_n hx hb dX7_days_6 rfl (lv_at hl 1 rfl) ?_
  refine lv_iconst (v := 0) hx hb dX7_days_7 (by decide) ?_
  refine lv_bipush (v := 100) hx hb dX7_days_8 (by decide) ?_
  refine wc_iS (As := [.int a1, .int (0 : Int32), .int (100 : Int32)]) (rest := [.ref (r 143)]) ⟨hx, hb, hml, hown, hts⟩ (c_X7_in l D c g hr (up2 S 143 0 (0 : Int32)) a1 (0 : Int32) (100 : Int32)) (va_cwS 3 hts gX7_days_X7_in rfl rfl rfl (by decide +kernel) ⟨Nat.le_of_ble_eq_true rfl, Nat.le_of_ble_eq_true rfl⟩) hK hP hS (fun _ h => h) rfl hl.1 rfl (lv_room (Nat.le_of_ble_eq_true rfl)) dX7_days_10 ⟨Nat.zero_le _, Nat.zero_le _⟩ (fun H locs hP hS => ?_)
  refine lv_if_ne (tgt := 20) hx hb dX7_days_13 (by decide) (fun c_13 => ?_) (fun c_13 => ?_)
  · refine lv_iconst (v := 0) hx hb dX7_days_20 (by decide) ?_
    exact J_21 _ _ _ _ (by rw [if_neg c_13]) hP hS (lv_sub hl [0, 1] rfl)
  · refine lv_iconst (v := 1) hx hb dX7_days_16 (by decide) ?_
    refine lv_goto (tgt := 21) hx hb dX7_days_17 (by decide) ?_
    exact J_21 _ _ _ _ (by rw [if_pos c_13]) hP hS (lv_sub hl [0, 1] rfl)
