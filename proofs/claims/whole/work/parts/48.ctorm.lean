/-! CONSTRUCTORS: the reference (written by program) -/
set_option maxHeartbeats 4000000 in
set_option maxRecDepth 100000 in
theorem c_X7_init (l : Launch) (D : va_G) (c : Nat → ClassId) (b : Nat) (cf : Nat → va_E) (f_0_0 : cf (143) = .inr (7, [.int 0, .int 0, .null, .null, .null, .null, .int 0, .int 0, .null, .null, .null, .null, .null, .null, .int 0, .null, .null, .int 0, .null, .int 0, .int 0, .int 0, .int 0, .int 0, .null, .null, .int 0, .null, .null, .null, .null, .null, .null, .null, .null, .null, .null, .null, .null, .int 0])) : MCf l D c b yX7_init wsX7_init ({ frames := 1, cells := 27, slots := 1772, locals := 12 }) [.ref (b + 143)] (144) cf (171) (fun u => (∀ j, j < 143 → u j = cf j) ∧ u (143) = .inr (7, [.int 0, .int 0, .ref (b + 144), .ref (b + 145), .ref (b + 146), .ref (b + 147), .int 0, .int 0, .ref (b + 148), .ref (b + 149), .ref (b + 150), .ref (b + 151), .ref (b + 152), .ref (b + 153), .int 0, .ref (b + 154), .ref (b + 155), .int 0, .ref (b + 156), .int 0, .int 0, .int 0, .int 0, .int (-1), .ref (b + 157), .ref (b + 158), .int 0, .ref (b + 159), .ref (b + 160), .ref (b + 161), .ref (b + 162), .ref (b + 163), .ref (b + 164), .ref (b + 165), .ref (b + 166), .ref (b + 167), .ref (b + 168), .ref (b + 169), .ref (b + 170), .int 1]) ∧ u (144) = .inl (c 0, 60, .inl fun _ => 0) ∧ u (145) = .inl (c 0, 240, .inl fun _ => 0) ∧ u (146) = .inl (c 0, 60, .inl fun _ => 0) ∧ u (147) = .inl (c 0, 60, .inl fun _ => 0) ∧ u (148) = .inl (c 0, 10, .inl (upd (upd (upd (upd (upd (upd (upd (upd (upd (upd (fun _ => 0) 0 1) 1 2) 2 4) 3 8) 4 16) 5 32) 6 64) 7 128) 8 256) 9 512)) ∧ u (149) = .inl (c 0, 126, .inl fun _ => 0) ∧ u (150) = .inl (c 0, 126, .inl fun _ => 0) ∧ u (151) = .inl (c 0, 21, .inl fun _ => 0) ∧ u (152) = .inl (c 0, 21, .inl fun _ => 0) ∧ u (153) = .inl (c 0, 21, .inl fun _ => 0) ∧ u (154) = .inl (c 0, 40, .inl fun _ => 0) ∧ u (155) = .inl (c 0, 40, .inl fun _ => 0) ∧ u (156) = .inl (c 1, 400, .inl fun _ => 0) ∧ u (157) = .inl (c 0, 5, .inl fun _ => 0) ∧ u (158) = .inl (c 0, 8, .inl fun _ => 0) ∧ u (159) = .inl (c 0, 48, .inl fun _ => 0) ∧ u (160) = .inl (c 0, 48, .inl fun _ => 0) ∧ u (161) = .inl (c 0, 48, .inl fun _ => 0) ∧ u (162) = .inl (c 0, 48, .inl fun _ => 0) ∧ u (163) = .inl (c 0, 48, .inl fun _ => 0) ∧ u (164) = .inl (c 0, 48, .inl fun _ => 0) ∧ u (165) = .inl (c 0, 48, .inl fun _ => 0) ∧ u (166) = .inl (c 0, 48, .inl fun _ => 0) ∧ u (167) = .inl (c 0, 48, .inl fun _ => 0) ∧ u (168) = .inl (c 0, 48, .inl fun _ => 0) ∧ u (169) = .inl (c 0, 48, .inl fun _ => 0) ∧ u (170) = .inl (c 0, 6, .inl fun _ => 0)) (fun _ => True) 27 1772 := by
  refine px_of (cc := cX7_init) (nL := 1) (lvs := [(0, .ref (b + 143))]) (by decide) rfl rfl rfl (Nat.le_of_ble_eq_true rfl) ?_
  intro p e s m below meth c0 ls hx hb hret hml hts hown hlk hmn hK hP hS hl hE
  have g_0 : ∀ j, j < 143 → cf j = cf j := fun _ _ => rfl
  refine lv_aload_n hx hb dX7_init_0 rfl (lv_at hl 0 rfl) ?_
  refine W.objInit hx hb hown (hts (.methodLink RX7 1 objectInit) (by decide +kernel)) (hts (.instanceMethod objectInit) (by decide +kernel)) (hts (.code objectInit ⟨#[0xb1]⟩ 1 none) (by decide +kernel)) rfl (by rw [hml]; exact hl.1) rfl dX7_init_1 (Nat.le_of_ble_eq_true rfl) (Nat.le_of_ble_eq_true rfl) ?_
  refine W.eq (g2 := F0 m 4 ls []) rfl ?_
  refine lv_aload_n hx hb dX7_init_4 rfl (lv_at hl 0 rfl) ?_
  refine lv_bipush (v := 60) hx hb dX7_init_5 (by decide) ?_
  refine px_newa (atype := .int) (ty := .int) (a0 := (60, .inl fun _ => 0)) (N' := 60) hx hb (hts (.arrayClass .int) (by decide +kernel)) rfl hK hP hS 0 rfl (fun h => h) (fun _ => rfl) (by decide) (by decide) (by show 60 * 4 ≤ 536870912; omega) (Nat.le_of_ble_eq_true rfl) (Nat.le_of_ble_eq_true rfl) dX7_init_7 (fun H hP hS => ?_)
  have hP : px_H D b (145) (va_up cf (144) (.inl (c 0, 60, .inl fun _ => 0))) H := hP
  obtain ⟨cf_1, e_1⟩ : ∃ z, z = va_up cf (144) (.inl (c 0, 60, .inl fun _ => 0)) := ⟨_, rfl⟩
  rw [← e_1] at hP
  have f_1_0 : cf_1 (143) = .inr (7, [.int 0, .int 0, .null, .null, .null, .null, .int 0, .int 0, .null, .null, .null, .null, .null, .null, .int 0, .null, .null, .int 0, .null, .int 0, .int 0, .int 0, .int 0, .int 0, .null, .null, .int 0, .null, .null, .null, .null, .null, .null, .null, .null, .null, .null, .null, .null, .int 0]) := by rw [e_1, va_up_ne _ _ (by omega)]; exact f_0_0
  have f_1_1 : cf_1 (144) = .inl (c 0, 60, .inl fun _ => 0) := by rw [e_1]; exact va_up_self _ _ _
  have g_1 : ∀ j, j < 143 → cf_1 j = cf j := fun j hj => by rw [e_1]; exact (va_up_ne _ _ (by omega)).trans (g_0 j hj)
  refine px_putF (ty := (.array .int)) (v := .ref (b + 144)) hx hb hts (by decide +kernel) tyX7 tyX7_ok nmX7 hown hK hP hS (143) (by omega) f_1_0 rfl 2 (by decide) (hts (.fieldLink RX7 9 "PriceEdictModel" "line" "[I") (by decide +kernel)) rfl hmn rfl (by decide +kernel) rfl rfl (Nat.le_of_ble_eq_true rfl) dX7_init_9 (fun H locs hP hS => ?_)
  have hP : px_H D b (145) (va_up cf_1 (143) (.inr (7, [.int 0, .int 0, .ref (b + 144), .null, .null, .null, .int 0, .int 0, .null, .null, .null, .null, .null, .null, .int 0, .null, .null, .int 0, .null, .int 0, .int 0, .int 0, .int 0, .int 0, .null, .null, .int 0, .null, .null, .null, .null, .null, .null, .null, .null, .null, .null, .null, .null, .int 0]))) H := hP
  obtain ⟨cf_2, e_2⟩ : ∃ z, z = va_up cf_1 (143) (.inr (7, [.int 0, .int 0, .ref (b + 144), .null, .null, .null, .int 0, .int 0, .null, .null, .null, .null, .null, .null, .int 0, .null, .null, .int 0, .null, .int 0, .int 0, .int 0, .int 0, .int 0, .null, .null, .int 0, .null, .null, .null, .null, .null, .null, .null, .null, .null, .null, .null, .null, .int 0])) := ⟨_, rfl⟩
  rw [← e_2] at hP
  have f_2_0 : cf_2 (143) = .inr (7, [.int 0, .int 0, .ref (b + 144), .null, .null, .null, .int 0, .int 0, .null, .null, .null, .null, .null, .null, .int 0, .null, .null, .int 0, .null, .int 0, .int 0, .int 0, .int 0, .int 0, .null, .null, .int 0, .null, .null, .null, .null, .null, .null, .null, .null, .null, .null, .null, .null, .int 0]) := by rw [e_2]; exact va_up_self _ _ _
  have f_2_1 : cf_2 (144) = .inl (c 0, 60, .inl fun _ => 0) := by rw [e_2, va_up_ne _ _ (by omega)]; exact f_1_1
  have g_2 : ∀ j, j < 143 → cf_2 j = cf j := fun j hj => by rw [e_2]; exact (va_up_ne _ _ (by omega)).trans (g_1 j hj)
  refine lv_aload_n hx hb dX7_init_12 rfl (lv_at hl 0 rfl) ?_
  refine lv_sipush (v := 240) hx hb dX7_init_13 (by decide) ?_
  refine px_newa (atype := .int) (ty := .int) (a0 := (240, .inl fun _ => 0)) (N' := 240) hx hb (hts (.arrayClass .int) (by decide +kernel)) rfl hK hP hS 0 rfl (fun h => h) (fun _ => rfl) (by decide) (by decide) (by show 240 * 4 ≤ 536870912; omega) (Nat.le_of_ble_eq_true rfl) (Nat.le_of_ble_eq_true rfl) dX7_init_16 (fun H hP hS => ?_)
  have hP : px_H D b (146) (va_up cf_2 (145) (.inl (c 0, 240, .inl fun _ => 0))) H := hP
  obtain ⟨cf_3, e_3⟩ : ∃ z, z = va_up cf_2 (145) (.inl (c 0, 240, .inl fun _ => 0)) := ⟨_, rfl⟩
  rw [← e_3] at hP
  have f_3_0 : cf_3 (143) = .inr (7, [.int 0, .int 0, .ref (b + 144), .null, .null, .null, .int 0, .int 0, .null, .null, .null, .null, .null, .null, .int 0, .null, .null, .int 0, .null, .int 0, .int 0, .int 0, .int 0, .int 0, .null, .null, .int 0, .null, .null, .null, .null, .null, .null, .null, .null, .null, .null, .null, .null, .int 0]) := by rw [e_3, va_up_ne _ _ (by omega)]; exact f_2_0
  have f_3_1 : cf_3 (144) = .inl (c 0, 60, .inl fun _ => 0) := by rw [e_3, va_up_ne _ _ (by omega)]; exact f_2_1
  have f_3_2 : cf_3 (145) = .inl (c 0, 240, .inl fun _ => 0) := by rw [e_3]; exact va_up_self _ _ _
  have g_3 : ∀ j, j < 143 → cf_3 j = cf j := fun j hj => by rw [e_3]; exact (va_up_ne _ _ (by omega)).trans (g_2 j hj)
  refine px_putF (ty := (.array .int)) (v := .ref (b + 145)) hx hb hts (by decide +kernel) tyX7 tyX7_ok nmX7 hown hK hP hS (143) (by omega) f_3_0 rfl 3 (by decide) (hts (.fieldLink RX7 13 "PriceEdictModel" "figure" "[I") (by decide +kernel)) rfl hmn rfl (by decide +kernel) rfl rfl (Nat.le_of_ble_eq_true rfl) dX7_init_18 (fun H locs hP hS => ?_)
  have hP : px_H D b (146) (va_up cf_3 (143) (.inr (7, [.int 0, .int 0, .ref (b + 144), .ref (b + 145), .null, .null, .int 0, .int 0, .null, .null, .null, .null, .null, .null, .int 0, .null, .null, .int 0, .null, .int 0, .int 0, .int 0, .int 0, .int 0, .null, .null, .int 0, .null, .null, .null, .null, .null, .null, .null, .null, .null, .null, .null, .null, .int 0]))) H := hP
  obtain ⟨cf_4, e_4⟩ : ∃ z, z = va_up cf_3 (143) (.inr (7, [.int 0, .int 0, .ref (b + 144), .ref (b + 145), .null, .null, .int 0, .int 0, .null, .null, .null, .null, .null, .null, .int 0, .null, .null, .int 0, .null, .int 0, .int 0, .int 0, .int 0, .int 0, .null, .null, .int 0, .null, .null, .null, .null, .null, .null, .null, .null, .null, .null, .null, .null, .int 0])) := ⟨_, rfl⟩
  rw [← e_4] at hP
  have f_4_0 : cf_4 (143) = .inr (7, [.int 0, .int 0, .ref (b + 144), .ref (b + 145), .null, .null, .int 0, .int 0, .null, .null, .null, .null, .null, .null, .int 0, .null, .null, .int 0, .null, .int 0, .int 0, .int 0, .int 0, .int 0, .null, .null, .int 0, .null, .null, .null, .null, .null, .null, .null, .null, .null, .null, .null, .null, .int 0]) := by rw [e_4]; exact va_up_self _ _ _
  have f_4_1 : cf_4 (144) = .inl (c 0, 60, .inl fun _ => 0) := by rw [e_4, va_up_ne _ _ (by omega)]; exact f_3_1
  have f_4_2 : cf_4 (145) = .inl (c 0, 240, .inl fun _ => 0) := by rw [e_4, va_up_ne _ _ (by omega)]; exact f_3_2
  have g_4 : ∀ j, j < 143 → cf_4 j = cf j := fun j hj => by rw [e_4]; exact (va_up_ne _ _ (by omega)).trans (g_3 j hj)
  refine lv_aload_n hx hb dX7_init_21 rfl (lv_at hl 0 rfl) ?_
  refine lv_bipush (v := 60) hx hb dX7_init_22 (by decide) ?_
  refine px_newa (atype := .int) (ty := .int) (a0 := (60, .inl fun _ => 0)) (N' := 60) hx hb (hts (.arrayClass .int) (by decide +kernel)) rfl hK hP hS 0 rfl (fun h => h) (fun _ => rfl) (by decide) (by decide) (by show 60 * 4 ≤ 536870912; omega) (Nat.le_of_ble_eq_true rfl) (Nat.le_of_ble_eq_true rfl) dX7_init_24 (fun H hP hS => ?_)
  have hP : px_H D b (147) (va_up cf_4 (146) (.inl (c 0, 60, .inl fun _ => 0))) H := hP
  obtain ⟨cf_5, e_5⟩ : ∃ z, z = va_up cf_4 (146) (.inl (c 0, 60, .inl fun _ => 0)) := ⟨_, rfl⟩
  rw [← e_5] at hP
  have f_5_0 : cf_5 (143) = .inr (7, [.int 0, .int 0, .ref (b + 144), .ref (b + 145), .null, .null, .int 0, .int 0, .null, .null, .null, .null, .null, .null, .int 0, .null, .null, .int 0, .null, .int 0, .int 0, .int 0, .int 0, .int 0, .null, .null, .int 0, .null, .null, .null, .null, .null, .null, .null, .null, .null, .null, .null, .null, .int 0]) := by rw [e_5, va_up_ne _ _ (by omega)]; exact f_4_0
  have f_5_1 : cf_5 (144) = .inl (c 0, 60, .inl fun _ => 0) := by rw [e_5, va_up_ne _ _ (by omega)]; exact f_4_1
  have f_5_2 : cf_5 (145) = .inl (c 0, 240, .inl fun _ => 0) := by rw [e_5, va_up_ne _ _ (by omega)]; exact f_4_2
  have f_5_3 : cf_5 (146) = .inl (c 0, 60, .inl fun _ => 0) := by rw [e_5]; exact va_up_self _ _ _
  have g_5 : ∀ j, j < 143 → cf_5 j = cf j := fun j hj => by rw [e_5]; exact (va_up_ne _ _ (by omega)).trans (g_4 j hj)
  refine px_putF (ty := (.array .int)) (v := .ref (b + 146)) hx hb hts (by decide +kernel) tyX7 tyX7_ok nmX7 hown hK hP hS (143) (by omega) f_5_0 rfl 4 (by decide) (hts (.fieldLink RX7 16 "PriceEdictModel" "foundOn" "[I") (by decide +kernel)) rfl hmn rfl (by decide +kernel) rfl rfl (Nat.le_of_ble_eq_true rfl) dX7_init_26 (fun H locs hP hS => ?_)
  have hP : px_H D b (147) (va_up cf_5 (143) (.inr (7, [.int 0, .int 0, .ref (b + 144), .ref (b + 145), .ref (b + 146), .null, .int 0, .int 0, .null, .null, .null, .null, .null, .null, .int 0, .null, .null, .int 0, .null, .int 0, .int 0, .int 0, .int 0, .int 0, .null, .null, .int 0, .null, .null, .null, .null, .null, .null, .null, .null, .null, .null, .null, .null, .int 0]))) H := hP
  obtain ⟨cf_6, e_6⟩ : ∃ z, z = va_up cf_5 (143) (.inr (7, [.int 0, .int 0, .ref (b + 144), .ref (b + 145), .ref (b + 146), .null, .int 0, .int 0, .null, .null, .null, .null, .null, .null, .int 0, .null, .null, .int 0, .null, .int 0, .int 0, .int 0, .int 0, .int 0, .null, .null, .int 0, .null, .null, .null, .null, .null, .null, .null, .null, .null, .null, .null, .null, .int 0])) := ⟨_, rfl⟩
  rw [← e_6] at hP
  have f_6_0 : cf_6 (143) = .inr (7, [.int 0, .int 0, .ref (b + 144), .ref (b + 145), .ref (b + 146), .null, .int 0, .int 0, .null, .null, .null, .null, .null, .null, .int 0, .null, .null, .int 0, .null, .int 0, .int 0, .int 0, .int 0, .int 0, .null, .null, .int 0, .null, .null, .null, .null, .null, .null, .null, .null, .null, .null, .null, .null, .int 0]) := by rw [e_6]; exact va_up_self _ _ _
  have f_6_1 : cf_6 (144) = .inl (c 0, 60, .inl fun _ => 0) := by rw [e_6, va_up_ne _ _ (by omega)]; exact f_5_1
  have f_6_2 : cf_6 (145) = .inl (c 0, 240, .inl fun _ => 0) := by rw [e_6, va_up_ne _ _ (by omega)]; exact f_5_2
  have f_6_3 : cf_6 (146) = .inl (c 0, 60, .inl fun _ => 0) := by rw [e_6, va_up_ne _ _ (by omega)]; exact f_5_3
  have g_6 : ∀ j, j < 143 → cf_6 j = cf j := fun j hj => by rw [e_6]; exact (va_up_ne _ _ (by omega)).trans (g_5 j hj)
  refine lv_aload_n hx hb dX7_init_29 rfl (lv_at hl 0 rfl) ?_
  refine lv_bipush (v := 60) hx hb dX7_init_30 (by decide) ?_
  refine px_newa (atype := .int) (ty := .int) (a0 := (60, .inl fun _ => 0)) (N' := 60) hx hb (hts (.arrayClass .int) (by decide +kernel)) rfl hK hP hS 0 rfl (fun h => h) (fun _ => rfl) (by decide) (by decide) (by show 60 * 4 ≤ 536870912; omega) (Nat.le_of_ble_eq_true rfl) (Nat.le_of_ble_eq_true rfl) dX7_init_32 (fun H hP hS => ?_)
  have hP : px_H D b (148) (va_up cf_6 (147) (.inl (c 0, 60, .inl fun _ => 0))) H := hP
  obtain ⟨cf_7, e_7⟩ : ∃ z, z = va_up cf_6 (147) (.inl (c 0, 60, .inl fun _ => 0)) := ⟨_, rfl⟩
  rw [← e_7] at hP
  have f_7_0 : cf_7 (143) = .inr (7, [.int 0, .int 0, .ref (b + 144), .ref (b + 145), .ref (b + 146), .null, .int 0, .int 0, .null, .null, .null, .null, .null, .null, .int 0, .null, .null, .int 0, .null, .int 0, .int 0, .int 0, .int 0, .int 0, .null, .null, .int 0, .null, .null, .null, .null, .null, .null, .null, .null, .null, .null, .null, .null, .int 0]) := by rw [e_7, va_up_ne _ _ (by omega)]; exact f_6_0
  have f_7_1 : cf_7 (144) = .inl (c 0, 60, .inl fun _ => 0) := by rw [e_7, va_up_ne _ _ (by omega)]; exact f_6_1
  have f_7_2 : cf_7 (145) = .inl (c 0, 240, .inl fun _ => 0) := by rw [e_7, va_up_ne _ _ (by omega)]; exact f_6_2
  have f_7_3 : cf_7 (146) = .inl (c 0, 60, .inl fun _ => 0) := by rw [e_7, va_up_ne _ _ (by omega)]; exact f_6_3
  have f_7_4 : cf_7 (147) = .inl (c 0, 60, .inl fun _ => 0) := by rw [e_7]; exact va_up_self _ _ _
  have g_7 : ∀ j, j < 143 → cf_7 j = cf j := fun j hj => by rw [e_7]; exact (va_up_ne _ _ (by omega)).trans (g_6 j hj)
  refine px_putF (ty := (.array .int)) (v := .ref (b + 147)) hx hb hts (by decide +kernel) tyX7 tyX7_ok nmX7 hown hK hP hS (143) (by omega) f_7_0 rfl 5 (by decide) (hts (.fieldLink RX7 19 "PriceEdictModel" "struckOn" "[I") (by decide +kernel)) rfl hmn rfl (by decide +kernel) rfl rfl (Nat.le_of_ble_eq_true rfl) dX7_init_34 (fun H locs hP hS => ?_)
  have hP : px_H D b (148) (va_up cf_7 (143) (.inr (7, [.int 0, .int 0, .ref (b + 144), .ref (b + 145), .ref (b + 146), .ref (b + 147), .int 0, .int 0, .null, .null, .null, .null, .null, .null, .int 0, .null, .null, .int 0, .null, .int 0, .int 0, .int 0, .int 0, .int 0, .null, .null, .int 0, .null, .null, .null, .null, .null, .null, .null, .null, .null, .null, .null, .null, .int 0]))) H := hP
  obtain ⟨cf_8, e_8⟩ : ∃ z, z = va_up cf_7 (143) (.inr (7, [.int 0, .int 0, .ref (b + 144), .ref (b + 145), .ref (b + 146), .ref (b + 147), .int 0, .int 0, .null, .null, .null, .null, .null, .null, .int 0, .null, .null, .int 0, .null, .int 0, .int 0, .int 0, .int 0, .int 0, .null, .null, .int 0, .null, .null, .null, .null, .null, .null, .null, .null, .null, .null, .null, .null, .int 0])) := ⟨_, rfl⟩
  rw [← e_8] at hP
  have f_8_0 : cf_8 (143) = .inr (7, [.int 0, .int 0, .ref (b + 144), .ref (b + 145), .ref (b + 146), .ref (b + 147), .int 0, .int 0, .null, .null, .null, .null, .null, .null, .int 0, .null, .null, .int 0, .null, .int 0, .int 0, .int 0, .int 0, .int 0, .null, .null, .int 0, .null, .null, .null, .null, .null, .null, .null, .null, .null, .null, .null, .null, .int 0]) := by rw [e_8]; exact va_up_self _ _ _
  have f_8_1 : cf_8 (144) = .inl (c 0, 60, .inl fun _ => 0) := by rw [e_8, va_up_ne _ _ (by omega)]; exact f_7_1
  have f_8_2 : cf_8 (145) = .inl (c 0, 240, .inl fun _ => 0) := by rw [e_8, va_up_ne _ _ (by omega)]; exact f_7_2
  have f_8_3 : cf_8 (146) = .inl (c 0, 60, .inl fun _ => 0) := by rw [e_8, va_up_ne _ _ (by omega)]; exact f_7_3
  have f_8_4 : cf_8 (147) = .inl (c 0, 60, .inl fun _ => 0) := by rw [e_8, va_up_ne _ _ (by omega)]; exact f_7_4
  have g_8 : ∀ j, j < 143 → cf_8 j = cf j := fun j hj => by rw [e_8]; exact (va_up_ne _ _ (by omega)).trans (g_7 j hj)
  refine lv_aload_n hx hb dX7_init_37 rfl (lv_at hl 0 rfl) ?_
  refine lv_bipush (v := 10) hx hb dX7_init_38 (by decide) ?_
  refine px_newa (atype := .int) (ty := .int) (a0 := (10, .inl fun _ => 0)) (N' := 10) hx hb (hts (.arrayClass .int) (by decide +kernel)) rfl hK hP hS 0 rfl (fun h => h) (fun _ => rfl) (by decide) (by decide) (by show 10 * 4 ≤ 536870912; omega) (Nat.le_of_ble_eq_true rfl) (Nat.le_of_ble_eq_true rfl) dX7_init_40 (fun H hP hS => ?_)
  have hP : px_H D b (149) (va_up cf_8 (148) (.inl (c 0, 10, .inl fun _ => 0))) H := hP
  obtain ⟨cf_9, e_9⟩ : ∃ z, z = va_up cf_8 (148) (.inl (c 0, 10, .inl fun _ => 0)) := ⟨_, rfl⟩
  rw [← e_9] at hP
  have f_9_0 : cf_9 (143) = .inr (7, [.int 0, .int 0, .ref (b + 144), .ref (b + 145), .ref (b + 146), .ref (b + 147), .int 0, .int 0, .null, .null, .null, .null, .null, .null, .int 0, .null, .null, .int 0, .null, .int 0, .int 0, .int 0, .int 0, .int 0, .null, .null, .int 0, .null, .null, .null, .null, .null, .null, .null, .null, .null, .null, .null, .null, .int 0]) := by rw [e_9, va_up_ne _ _ (by omega)]; exact f_8_0
  have f_9_1 : cf_9 (144) = .inl (c 0, 60, .inl fun _ => 0) := by rw [e_9, va_up_ne _ _ (by omega)]; exact f_8_1
  have f_9_2 : cf_9 (145) = .inl (c 0, 240, .inl fun _ => 0) := by rw [e_9, va_up_ne _ _ (by omega)]; exact f_8_2
  have f_9_3 : cf_9 (146) = .inl (c 0, 60, .inl fun _ => 0) := by rw [e_9, va_up_ne _ _ (by omega)]; exact f_8_3
  have f_9_4 : cf_9 (147) = .inl (c 0, 60, .inl fun _ => 0) := by rw [e_9, va_up_ne _ _ (by omega)]; exact f_8_4
  have f_9_5 : cf_9 (148) = .inl (c 0, 10, .inl fun _ => 0) := by rw [e_9]; exact va_up_self _ _ _
  have g_9 : ∀ j, j < 143 → cf_9 j = cf j := fun j hj => by rw [e_9]; exact (va_up_ne _ _ (by omega)).trans (g_8 j hj)
  refine lv_dup hx hb dX7_init_42 rfl ?_
  refine lv_iconst (v := 0) hx hb dX7_init_43 (by decide) ?_
  refine lv_iconst (v := 1) hx hb dX7_init_44 (by decide) ?_
  refine px_ist hx hb hK hP hS (148) (by omega) f_9_5 (i := 0) (x := 1) (vp_in_iff.mpr (by decide)) dX7_init_45 (fun H locs hP hS => ?_)
  have hP : px_H D b (149) (va_up cf_9 (148) (.inl (c 0, 10, .inl (upd (fun _ => 0) 0 1)))) H := hP
  obtain ⟨cf_10, e_10⟩ : ∃ z, z = va_up cf_9 (148) (.inl (c 0, 10, .inl (upd (fun _ => 0) 0 1))) := ⟨_, rfl⟩
  rw [← e_10] at hP
  have f_10_0 : cf_10 (143) = .inr (7, [.int 0, .int 0, .ref (b + 144), .ref (b + 145), .ref (b + 146), .ref (b + 147), .int 0, .int 0, .null, .null, .null, .null, .null, .null, .int 0, .null, .null, .int 0, .null, .int 0, .int 0, .int 0, .int 0, .int 0, .null, .null, .int 0, .null, .null, .null, .null, .null, .null, .null, .null, .null, .null, .null, .null, .int 0]) := by rw [e_10, va_up_ne _ _ (by omega)]; exact f_9_0
  have f_10_1 : cf_10 (144) = .inl (c 0, 60, .inl fun _ => 0) := by rw [e_10, va_up_ne _ _ (by omega)]; exact f_9_1
  have f_10_2 : cf_10 (145) = .inl (c 0, 240, .inl fun _ => 0) := by rw [e_10, va_up_ne _ _ (by omega)]; exact f_9_2
  have f_10_3 : cf_10 (146) = .inl (c 0, 60, .inl fun _ => 0) := by rw [e_10, va_up_ne _ _ (by omega)]; exact f_9_3
  have f_10_4 : cf_10 (147) = .inl (c 0, 60, .inl fun _ => 0) := by rw [e_10, va_up_ne _ _ (by omega)]; exact f_9_4
  have f_10_5 : cf_10 (148) = .inl (c 0, 10, .inl (upd (fun _ => 0) 0 1)) := by rw [e_10]; exact va_up_self _ _ _
  have g_10 : ∀ j, j < 143 → cf_10 j = cf j := fun j hj => by rw [e_10]; exact (va_up_ne _ _ (by omega)).trans (g_9 j hj)
  refine lv_dup hx hb dX7_init_46 rfl ?_
  refine lv_iconst (v := 1) hx hb dX7_init_47 (by decide) ?_
  refine lv_iconst (v := 2) hx hb dX7_init_48 (by decide) ?_
  refine px_ist hx hb hK hP hS (148) (by omega) f_10_5 (i := 1) (x := 2) (vp_in_iff.mpr (by decide)) dX7_init_49 (fun H locs hP hS => ?_)
  have hP : px_H D b (149) (va_up cf_10 (148) (.inl (c 0, 10, .inl (upd (upd (fun _ => 0) 0 1) 1 2)))) H := hP
  obtain ⟨cf_11, e_11⟩ : ∃ z, z = va_up cf_10 (148) (.inl (c 0, 10, .inl (upd (upd (fun _ => 0) 0 1) 1 2))) := ⟨_, rfl⟩
  rw [← e_11] at hP
  have f_11_0 : cf_11 (143) = .inr (7, [.int 0, .int 0, .ref (b + 144), .ref (b + 145), .ref (b + 146), .ref (b + 147), .int 0, .int 0, .null, .null, .null, .null, .null, .null, .int 0, .null, .null, .int 0, .null, .int 0, .int 0, .int 0, .int 0, .int 0, .null, .null, .int 0, .null, .null, .null, .null, .null, .null, .null, .null, .null, .null, .null, .null, .int 0]) := by rw [e_11, va_up_ne _ _ (by omega)]; exact f_10_0
  have f_11_1 : cf_11 (144) = .inl (c 0, 60, .inl fun _ => 0) := by rw [e_11, va_up_ne _ _ (by omega)]; exact f_10_1
  have f_11_2 : cf_11 (145) = .inl (c 0, 240, .inl fun _ => 0) := by rw [e_11, va_up_ne _ _ (by omega)]; exact f_10_2
  have f_11_3 : cf_11 (146) = .inl (c 0, 60, .inl fun _ => 0) := by rw [e_11, va_up_ne _ _ (by omega)]; exact f_10_3
  have f_11_4 : cf_11 (147) = .inl (c 0, 60, .inl fun _ => 0) := by rw [e_11, va_up_ne _ _ (by omega)]; exact f_10_4
  have f_11_5 : cf_11 (148) = .inl (c 0, 10, .inl (upd (upd (fun _ => 0) 0 1) 1 2)) := by rw [e_11]; exact va_up_self _ _ _
  have g_11 : ∀ j, j < 143 → cf_11 j = cf j := fun j hj => by rw [e_11]; exact (va_up_ne _ _ (by omega)).trans (g_10 j hj)
  refine lv_dup hx hb dX7_init_50 rfl ?_
  refine lv_iconst (v := 2) hx hb dX7_init_51 (by decide) ?_
  refine lv_iconst (v := 4) hx hb dX7_init_52 (by decide) ?_
  refine px_ist hx hb hK hP hS (148) (by omega) f_11_5 (i := 2) (x := 4) (vp_in_iff.mpr (by decide)) dX7_init_53 (fun H locs hP hS => ?_)
  have hP : px_H D b (149) (va_up cf_11 (148) (.inl (c 0, 10, .inl (upd (upd (upd (fun _ => 0) 0 1) 1 2) 2 4)))) H := hP
  obtain ⟨cf_12, e_12⟩ : ∃ z, z = va_up cf_11 (148) (.inl (c 0, 10, .inl (upd (upd (upd (fun _ => 0) 0 1) 1 2) 2 4))) := ⟨_, rfl⟩
  rw [← e_12] at hP
  have f_12_0 : cf_12 (143) = .inr (7, [.int 0, .int 0, .ref (b + 144), .ref (b + 145), .ref (b + 146), .ref (b + 147), .int 0, .int 0, .null, .null, .null, .null, .null, .null, .int 0, .null, .null, .int 0, .null, .int 0, .int 0, .int 0, .int 0, .int 0, .null, .null, .int 0, .null, .null, .null, .null, .null, .null, .null, .null, .null, .null, .null, .null, .int 0]) := by rw [e_12, va_up_ne _ _ (by omega)]; exact f_11_0
  have f_12_1 : cf_12 (144) = .inl (c 0, 60, .inl fun _ => 0) := by rw [e_12, va_up_ne _ _ (by omega)]; exact f_11_1
  have f_12_2 : cf_12 (145) = .inl (c 0, 240, .inl fun _ => 0) := by rw [e_12, va_up_ne _ _ (by omega)]; exact f_11_2
  have f_12_3 : cf_12 (146) = .inl (c 0, 60, .inl fun _ => 0) := by rw [e_12, va_up_ne _ _ (by omega)]; exact f_11_3
  have f_12_4 : cf_12 (147) = .inl (c 0, 60, .inl fun _ => 0) := by rw [e_12, va_up_ne _ _ (by omega)]; exact f_11_4
  have f_12_5 : cf_12 (148) = .inl (c 0, 10, .inl (upd (upd (upd (fun _ => 0) 0 1) 1 2) 2 4)) := by rw [e_12]; exact va_up_self _ _ _
  have g_12 : ∀ j, j < 143 → cf_12 j = cf j := fun j hj => by rw [e_12]; exact (va_up_ne _ _ (by omega)).trans (g_11 j hj)
  refine lv_dup hx hb dX7_init_54 rfl ?_
  refine lv_iconst (v := 3) hx hb dX7_init_55 (by decide) ?_
  refine lv_bipush (v := 8) hx hb dX7_init_56 (by decide) ?_
  refine px_ist hx hb hK hP hS (148) (by omega) f_12_5 (i := 3) (x := 8) (vp_in_iff.mpr (by decide)) dX7_init_58 (fun H locs hP hS => ?_)
  have hP : px_H D b (149) (va_up cf_12 (148) (.inl (c 0, 10, .inl (upd (upd (upd (upd (fun _ => 0) 0 1) 1 2) 2 4) 3 8)))) H := hP
  obtain ⟨cf_13, e_13⟩ : ∃ z, z = va_up cf_12 (148) (.inl (c 0, 10, .inl (upd (upd (upd (upd (fun _ => 0) 0 1) 1 2) 2 4) 3 8))) := ⟨_, rfl⟩
  rw [← e_13] at hP
  have f_13_0 : cf_13 (143) = .inr (7, [.int 0, .int 0, .ref (b + 144), .ref (b + 145), .ref (b + 146), .ref (b + 147), .int 0, .int 0, .null, .null, .null, .null, .null, .null, .int 0, .null, .null, .int 0, .null, .int 0, .int 0, .int 0, .int 0, .int 0, .null, .null, .int 0, .null, .null, .null, .null, .null, .null, .null, .null, .null, .null, .null, .null, .int 0]) := by rw [e_13, va_up_ne _ _ (by omega)]; exact f_12_0
  have f_13_1 : cf_13 (144) = .inl (c 0, 60, .inl fun _ => 0) := by rw [e_13, va_up_ne _ _ (by omega)]; exact f_12_1
  have f_13_2 : cf_13 (145) = .inl (c 0, 240, .inl fun _ => 0) := by rw [e_13, va_up_ne _ _ (by omega)]; exact f_12_2
  have f_13_3 : cf_13 (146) = .inl (c 0, 60, .inl fun _ => 0) := by rw [e_13, va_up_ne _ _ (by omega)]; exact f_12_3
  have f_13_4 : cf_13 (147) = .inl (c 0, 60, .inl fun _ => 0) := by rw [e_13, va_up_ne _ _ (by omega)]; exact f_12_4
  have f_13_5 : cf_13 (148) = .inl (c 0, 10, .inl (upd (upd (upd (upd (fun _ => 0) 0 1) 1 2) 2 4) 3 8)) := by rw [e_13]; exact va_up_self _ _ _
  have g_13 : ∀ j, j < 143 → cf_13 j = cf j := fun j hj => by rw [e_13]; exact (va_up_ne _ _ (by omega)).trans (g_12 j hj)
  refine lv_dup hx hb dX7_init_59 rfl ?_
  refine lv_iconst (v := 4) hx hb dX7_init_60 (by decide) ?_
  refine lv_bipush (v := 16) hx hb dX7_init_61 (by decide) ?_
  refine px_ist hx hb hK hP hS (148) (by omega) f_13_5 (i := 4) (x := 16) (vp_in_iff.mpr (by decide)) dX7_init_63 (fun H locs hP hS => ?_)
  have hP : px_H D b (149) (va_up cf_13 (148) (.inl (c 0, 10, .inl (upd (upd (upd (upd (upd (fun _ => 0) 0 1) 1 2) 2 4) 3 8) 4 16)))) H := hP
  obtain ⟨cf_14, e_14⟩ : ∃ z, z = va_up cf_13 (148) (.inl (c 0, 10, .inl (upd (upd (upd (upd (upd (fun _ => 0) 0 1) 1 2) 2 4) 3 8) 4 16))) := ⟨_, rfl⟩
  rw [← e_14] at hP
  have f_14_0 : cf_14 (143) = .inr (7, [.int 0, .int 0, .ref (b + 144), .ref (b + 145), .ref (b + 146), .ref (b + 147), .int 0, .int 0, .null, .null, .null, .null, .null, .null, .int 0, .null, .null, .int 0, .null, .int 0, .int 0, .int 0, .int 0, .int 0, .null, .null, .int 0, .null, .null, .null, .null, .null, .null, .null, .null, .null, .null, .null, .null, .int 0]) := by rw [e_14, va_up_ne _ _ (by omega)]; exact f_13_0
  have f_14_1 : cf_14 (144) = .inl (c 0, 60, .inl fun _ => 0) := by rw [e_14, va_up_ne _ _ (by omega)]; exact f_13_1
  have f_14_2 : cf_14 (145) = .inl (c 0, 240, .inl fun _ => 0) := by rw [e_14, va_up_ne _ _ (by omega)]; exact f_13_2
  have f_14_3 : cf_14 (146) = .inl (c 0, 60, .inl fun _ => 0) := by rw [e_14, va_up_ne _ _ (by omega)]; exact f_13_3
  have f_14_4 : cf_14 (147) = .inl (c 0, 60, .inl fun _ => 0) := by rw [e_14, va_up_ne _ _ (by omega)]; exact f_13_4
  have f_14_5 : cf_14 (148) = .inl (c 0, 10, .inl (upd (upd (upd (upd (upd (fun _ => 0) 0 1) 1 2) 2 4) 3 8) 4 16)) := by rw [e_14]; exact va_up_self _ _ _
  have g_14 : ∀ j, j < 143 → cf_14 j = cf j := fun j hj => by rw [e_14]; exact (va_up_ne _ _ (by omega)).trans (g_13 j hj)
  refine lv_dup hx hb dX7_init_64 rfl ?_
  refine lv_iconst (v := 5) hx hb dX7_init_65 (by decide) ?_
  refine lv_bipush (v := 32) hx hb dX7_init_66 (by decide) ?_
  refine px_ist hx hb hK hP hS (148) (by omega) f_14_5 (i := 5) (x := 32) (vp_in_iff.mpr (by decide)) dX7_init_68 (fun H locs hP hS => ?_)
  have hP : px_H D b (149) (va_up cf_14 (148) (.inl (c 0, 10, .inl (upd (upd (upd (upd (upd (upd (fun _ => 0) 0 1) 1 2) 2 4) 3 8) 4 16) 5 32)))) H := hP
  obtain ⟨cf_15, e_15⟩ : ∃ z, z = va_up cf_14 (148) (.inl (c 0, 10, .inl (upd (upd (upd (upd (upd (upd (fun _ => 0) 0 1) 1 2) 2 4) 3 8) 4 16) 5 32))) := ⟨_, rfl⟩
  rw [← e_15] at hP
  have f_15_0 : cf_15 (143) = .inr (7, [.int 0, .int 0, .ref (b + 144), .ref (b + 145), .ref (b + 146), .ref (b + 147), .int 0, .int 0, .null, .null, .null, .null, .null, .null, .int 0, .null, .null, .int 0, .null, .int 0, .int 0, .int 0, .int 0, .int 0, .null, .null, .int 0, .null, .null, .null, .null, .null, .null, .null, .null, .null, .null, .null, .null, .int 0]) := by rw [e_15, va_up_ne _ _ (by omega)]; exact f_14_0
  have f_15_1 : cf_15 (144) = .inl (c 0, 60, .inl fun _ => 0) := by rw [e_15, va_up_ne _ _ (by omega)]; exact f_14_1
  have f_15_2 : cf_15 (145) = .inl (c 0, 240, .inl fun _ => 0) := by rw [e_15, va_up_ne _ _ (by omega)]; exact f_14_2
  have f_15_3 : cf_15 (146) = .inl (c 0, 60, .inl fun _ => 0) := by rw [e_15, va_up_ne _ _ (by omega)]; exact f_14_3
  have f_15_4 : cf_15 (147) = .inl (c 0, 60, .inl fun _ => 0) := by rw [e_15, va_up_ne _ _ (by omega)]; exact f_14_4
  have f_15_5 : cf_15 (148) = .inl (c 0, 10, .inl (upd (upd (upd (upd (upd (upd (fun _ => 0) 0 1) 1 2) 2 4) 3 8) 4 16) 5 32)) := by rw [e_15]; exact va_up_self _ _ _
  have g_15 : ∀ j, j < 143 → cf_15 j = cf j := fun j hj => by rw [e_15]; exact (va_up_ne _ _ (by omega)).trans (g_14 j hj)
  refine lv_dup hx hb dX7_init_69 rfl ?_
  refine lv_bipush (v := 6) hx hb dX7_init_70 (by decide) ?_
  refine lv_bipush (v := 64) hx hb dX7_init_72 (by decide) ?_
  refine px_ist hx hb hK hP hS (148) (by omega) f_15_5 (i := 6) (x := 64) (vp_in_iff.mpr (by decide)) dX7_init_74 (fun H locs hP hS => ?_)
  have hP : px_H D b (149) (va_up cf_15 (148) (.inl (c 0, 10, .inl (upd (upd (upd (upd (upd (upd (upd (fun _ => 0) 0 1) 1 2) 2 4) 3 8) 4 16) 5 32) 6 64)))) H := hP
  obtain ⟨cf_16, e_16⟩ : ∃ z, z = va_up cf_15 (148) (.inl (c 0, 10, .inl (upd (upd (upd (upd (upd (upd (upd (fun _ => 0) 0 1) 1 2) 2 4) 3 8) 4 16) 5 32) 6 64))) := ⟨_, rfl⟩
  rw [← e_16] at hP
  have f_16_0 : cf_16 (143) = .inr (7, [.int 0, .int 0, .ref (b + 144), .ref (b + 145), .ref (b + 146), .ref (b + 147), .int 0, .int 0, .null, .null, .null, .null, .null, .null, .int 0, .null, .null, .int 0, .null, .int 0, .int 0, .int 0, .int 0, .int 0, .null, .null, .int 0, .null, .null, .null, .null, .null, .null, .null, .null, .null, .null, .null, .null, .int 0]) := by rw [e_16, va_up_ne _ _ (by omega)]; exact f_15_0
  have f_16_1 : cf_16 (144) = .inl (c 0, 60, .inl fun _ => 0) := by rw [e_16, va_up_ne _ _ (by omega)]; exact f_15_1
  have f_16_2 : cf_16 (145) = .inl (c 0, 240, .inl fun _ => 0) := by rw [e_16, va_up_ne _ _ (by omega)]; exact f_15_2
  have f_16_3 : cf_16 (146) = .inl (c 0, 60, .inl fun _ => 0) := by rw [e_16, va_up_ne _ _ (by omega)]; exact f_15_3
  have f_16_4 : cf_16 (147) = .inl (c 0, 60, .inl fun _ => 0) := by rw [e_16, va_up_ne _ _ (by omega)]; exact f_15_4
  have f_16_5 : cf_16 (148) = .inl (c 0, 10, .inl (upd (upd (upd (upd (upd (upd (upd (fun _ => 0) 0 1) 1 2) 2 4) 3 8) 4 16) 5 32) 6 64)) := by rw [e_16]; exact va_up_self _ _ _
  have g_16 : ∀ j, j < 143 → cf_16 j = cf j := fun j hj => by rw [e_16]; exact (va_up_ne _ _ (by omega)).trans (g_15 j hj)
  refine lv_dup hx hb dX7_init_75 rfl ?_
  refine lv_bipush (v := 7) hx hb dX7_init_76 (by decide) ?_
  refine lv_sipush (v := 128) hx hb dX7_init_78 (by decide) ?_
  refine px_ist hx hb hK hP hS (148) (by omega) f_16_5 (i := 7) (x := 128) (vp_in_iff.mpr (by decide)) dX7_init_81 (fun H locs hP hS => ?_)
  have hP : px_H D b (149) (va_up cf_16 (148) (.inl (c 0, 10, .inl (upd (upd (upd (upd (upd (upd (upd (upd (fun _ => 0) 0 1) 1 2) 2 4) 3 8) 4 16) 5 32) 6 64) 7 128)))) H := hP
  obtain ⟨cf_17, e_17⟩ : ∃ z, z = va_up cf_16 (148) (.inl (c 0, 10, .inl (upd (upd (upd (upd (upd (upd (upd (upd (fun _ => 0) 0 1) 1 2) 2 4) 3 8) 4 16) 5 32) 6 64) 7 128))) := ⟨_, rfl⟩
  rw [← e_17] at hP
  have f_17_0 : cf_17 (143) = .inr (7, [.int 0, .int 0, .ref (b + 144), .ref (b + 145), .ref (b + 146), .ref (b + 147), .int 0, .int 0, .null, .null, .null, .null, .null, .null, .int 0, .null, .null, .int 0, .null, .int 0, .int 0, .int 0, .int 0, .int 0, .null, .null, .int 0, .null, .null, .null, .null, .null, .null, .null, .null, .null, .null, .null, .null, .int 0]) := by rw [e_17, va_up_ne _ _ (by omega)]; exact f_16_0
  have f_17_1 : cf_17 (144) = .inl (c 0, 60, .inl fun _ => 0) := by rw [e_17, va_up_ne _ _ (by omega)]; exact f_16_1
  have f_17_2 : cf_17 (145) = .inl (c 0, 240, .inl fun _ => 0) := by rw [e_17, va_up_ne _ _ (by omega)]; exact f_16_2
  have f_17_3 : cf_17 (146) = .inl (c 0, 60, .inl fun _ => 0) := by rw [e_17, va_up_ne _ _ (by omega)]; exact f_16_3
  have f_17_4 : cf_17 (147) = .inl (c 0, 60, .inl fun _ => 0) := by rw [e_17, va_up_ne _ _ (by omega)]; exact f_16_4
  have f_17_5 : cf_17 (148) = .inl (c 0, 10, .inl (upd (upd (upd (upd (upd (upd (upd (upd (fun _ => 0) 0 1) 1 2) 2 4) 3 8) 4 16) 5 32) 6 64) 7 128)) := by rw [e_17]; exact va_up_self _ _ _
  have g_17 : ∀ j, j < 143 → cf_17 j = cf j := fun j hj => by rw [e_17]; exact (va_up_ne _ _ (by omega)).trans (g_16 j hj)
  refine lv_dup hx hb dX7_init_82 rfl ?_
  refine lv_bipush (v := 8) hx hb dX7_init_83 (by decide) ?_
  refine lv_sipush (v := 256) hx hb dX7_init_85 (by decide) ?_
  refine px_ist hx hb hK hP hS (148) (by omega) f_17_5 (i := 8) (x := 256) (vp_in_iff.mpr (by decide)) dX7_init_88 (fun H locs hP hS => ?_)
  have hP : px_H D b (149) (va_up cf_17 (148) (.inl (c 0, 10, .inl (upd (upd (upd (upd (upd (upd (upd (upd (upd (fun _ => 0) 0 1) 1 2) 2 4) 3 8) 4 16) 5 32) 6 64) 7 128) 8 256)))) H := hP
  obtain ⟨cf_18, e_18⟩ : ∃ z, z = va_up cf_17 (148) (.inl (c 0, 10, .inl (upd (upd (upd (upd (upd (upd (upd (upd (upd (fun _ => 0) 0 1) 1 2) 2 4) 3 8) 4 16) 5 32) 6 64) 7 128) 8 256))) := ⟨_, rfl⟩
  rw [← e_18] at hP
  have f_18_0 : cf_18 (143) = .inr (7, [.int 0, .int 0, .ref (b + 144), .ref (b + 145), .ref (b + 146), .ref (b + 147), .int 0, .int 0, .null, .null, .null, .null, .null, .null, .int 0, .null, .null, .int 0, .null, .int 0, .int 0, .int 0, .int 0, .int 0, .null, .null, .int 0, .null, .null, .null, .null, .null, .null, .null, .null, .null, .null, .null, .null, .int 0]) := by rw [e_18, va_up_ne _ _ (by omega)]; exact f_17_0
  have f_18_1 : cf_18 (144) = .inl (c 0, 60, .inl fun _ => 0) := by rw [e_18, va_up_ne _ _ (by omega)]; exact f_17_1
  have f_18_2 : cf_18 (145) = .inl (c 0, 240, .inl fun _ => 0) := by rw [e_18, va_up_ne _ _ (by omega)]; exact f_17_2
  have f_18_3 : cf_18 (146) = .inl (c 0, 60, .inl fun _ => 0) := by rw [e_18, va_up_ne _ _ (by omega)]; exact f_17_3
  have f_18_4 : cf_18 (147) = .inl (c 0, 60, .inl fun _ => 0) := by rw [e_18, va_up_ne _ _ (by omega)]; exact f_17_4
  have f_18_5 : cf_18 (148) = .inl (c 0, 10, .inl (upd (upd (upd (upd (upd (upd (upd (upd (upd (fun _ => 0) 0 1) 1 2) 2 4) 3 8) 4 16) 5 32) 6 64) 7 128) 8 256)) := by rw [e_18]; exact va_up_self _ _ _
  have g_18 : ∀ j, j < 143 → cf_18 j = cf j := fun j hj => by rw [e_18]; exact (va_up_ne _ _ (by omega)).trans (g_17 j hj)
  refine lv_dup hx hb dX7_init_89 rfl ?_
  refine lv_bipush (v := 9) hx hb dX7_init_90 (by decide) ?_
  refine lv_sipush (v := 512) hx hb dX7_init_92 (by decide) ?_
  refine px_ist hx hb hK hP hS (148) (by omega) f_18_5 (i := 9) (x := 512) (vp_in_iff.mpr (by decide)) dX7_init_95 (fun H locs hP hS => ?_)
  have hP : px_H D b (149) (va_up cf_18 (148) (.inl (c 0, 10, .inl (upd (upd (upd (upd (upd (upd (upd (upd (upd (upd (fun _ => 0) 0 1) 1 2) 2 4) 3 8) 4 16) 5 32) 6 64) 7 128) 8 256) 9 512)))) H := hP
  obtain ⟨cf_19, e_19⟩ : ∃ z, z = va_up cf_18 (148) (.inl (c 0, 10, .inl (upd (upd (upd (upd (upd (upd (upd (upd (upd (upd (fun _ => 0) 0 1) 1 2) 2 4) 3 8) 4 16) 5 32) 6 64) 7 128) 8 256) 9 512))) := ⟨_, rfl⟩
  rw [← e_19] at hP
  have f_19_0 : cf_19 (143) = .inr (7, [.int 0, .int 0, .ref (b + 144), .ref (b + 145), .ref (b + 146), .ref (b + 147), .int 0, .int 0, .null, .null, .null, .null, .null, .null, .int 0, .null, .null, .int 0, .null, .int 0, .int 0, .int 0, .int 0, .int 0, .null, .null, .int 0, .null, .null, .null, .null, .null, .null, .null, .null, .null, .null, .null, .null, .int 0]) := by rw [e_19, va_up_ne _ _ (by omega)]; exact f_18_0
  have f_19_1 : cf_19 (144) = .inl (c 0, 60, .inl fun _ => 0) := by rw [e_19, va_up_ne _ _ (by omega)]; exact f_18_1
  have f_19_2 : cf_19 (145) = .inl (c 0, 240, .inl fun _ => 0) := by rw [e_19, va_up_ne _ _ (by omega)]; exact f_18_2
  have f_19_3 : cf_19 (146) = .inl (c 0, 60, .inl fun _ => 0) := by rw [e_19, va_up_ne _ _ (by omega)]; exact f_18_3
  have f_19_4 : cf_19 (147) = .inl (c 0, 60, .inl fun _ => 0) := by rw [e_19, va_up_ne _ _ (by omega)]; exact f_18_4
  have f_19_5 : cf_19 (148) = .inl (c 0, 10, .inl (upd (upd (upd (upd (upd (upd (upd (upd (upd (upd (fun _ => 0) 0 1) 1 2) 2 4) 3 8) 4 16) 5 32) 6 64) 7 128) 8 256) 9 512)) := by rw [e_19]; exact va_up_self _ _ _
  have g_19 : ∀ j, j < 143 → cf_19 j = cf j := fun j hj => by rw [e_19]; exact (va_up_ne _ _ (by omega)).trans (g_18 j hj)
  refine px_putF (ty := (.array .int)) (v := .ref (b + 148)) hx hb hts (by decide +kernel) tyX7 tyX7_ok nmX7 hown hK hP hS (143) (by omega) f_19_0 rfl 8 (by decide) (hts (.fieldLink RX7 22 "PriceEdictModel" "reads" "[I") (by decide +kernel)) rfl hmn rfl (by decide +kernel) rfl rfl (Nat.le_of_ble_eq_true rfl) dX7_init_96 (fun H locs hP hS => ?_)
  have hP : px_H D b (149) (va_up cf_19 (143) (.inr (7, [.int 0, .int 0, .ref (b + 144), .ref (b + 145), .ref (b + 146), .ref (b + 147), .int 0, .int 0, .ref (b + 148), .null, .null, .null, .null, .null, .int 0, .null, .null, .int 0, .null, .int 0, .int 0, .int 0, .int 0, .int 0, .null, .null, .int 0, .null, .null, .null, .null, .null, .null, .null, .null, .null, .null, .null, .null, .int 0]))) H := hP
  obtain ⟨cf_20, e_20⟩ : ∃ z, z = va_up cf_19 (143) (.inr (7, [.int 0, .int 0, .ref (b + 144), .ref (b + 145), .ref (b + 146), .ref (b + 147), .int 0, .int 0, .ref (b + 148), .null, .null, .null, .null, .null, .int 0, .null, .null, .int 0, .null, .int 0, .int 0, .int 0, .int 0, .int 0, .null, .null, .int 0, .null, .null, .null, .null, .null, .null, .null, .null, .null, .null, .null, .null, .int 0])) := ⟨_, rfl⟩
  rw [← e_20] at hP
  have f_20_0 : cf_20 (143) = .inr (7, [.int 0, .int 0, .ref (b + 144), .ref (b + 145), .ref (b + 146), .ref (b + 147), .int 0, .int 0, .ref (b + 148), .null, .null, .null, .null, .null, .int 0, .null, .null, .int 0, .null, .int 0, .int 0, .int 0, .int 0, .int 0, .null, .null, .int 0, .null, .null, .null, .null, .null, .null, .null, .null, .null, .null, .null, .null, .int 0]) := by rw [e_20]; exact va_up_self _ _ _
  have f_20_1 : cf_20 (144) = .inl (c 0, 60, .inl fun _ => 0) := by rw [e_20, va_up_ne _ _ (by omega)]; exact f_19_1
  have f_20_2 : cf_20 (145) = .inl (c 0, 240, .inl fun _ => 0) := by rw [e_20, va_up_ne _ _ (by omega)]; exact f_19_2
  have f_20_3 : cf_20 (146) = .inl (c 0, 60, .inl fun _ => 0) := by rw [e_20, va_up_ne _ _ (by omega)]; exact f_19_3
  have f_20_4 : cf_20 (147) = .inl (c 0, 60, .inl fun _ => 0) := by rw [e_20, va_up_ne _ _ (by omega)]; exact f_19_4
  have f_20_5 : cf_20 (148) = .inl (c 0, 10, .inl (upd (upd (upd (upd (upd (upd (upd (upd (upd (upd (fun _ => 0) 0 1) 1 2) 2 4) 3 8) 4 16) 5 32) 6 64) 7 128) 8 256) 9 512)) := by rw [e_20, va_up_ne _ _ (by omega)]; exact f_19_5
  have g_20 : ∀ j, j < 143 → cf_20 j = cf j := fun j hj => by rw [e_20]; exact (va_up_ne _ _ (by omega)).trans (g_19 j hj)
  refine lv_aload_n hx hb dX7_init_99 rfl (lv_at hl 0 rfl) ?_
  refine lv_bipush (v := 126) hx hb dX7_init_100 (by decide) ?_
  refine px_newa (atype := .int) (ty := .int) (a0 := (126, .inl fun _ => 0)) (N' := 126) hx hb (hts (.arrayClass .int) (by decide +kernel)) rfl hK hP hS 0 rfl (fun h => h) (fun _ => rfl) (by decide) (by decide) (by show 126 * 4 ≤ 536870912; omega) (Nat.le_of_ble_eq_true rfl) (Nat.le_of_ble_eq_true rfl) dX7_init_102 (fun H hP hS => ?_)
  have hP : px_H D b (150) (va_up cf_20 (149) (.inl (c 0, 126, .inl fun _ => 0))) H := hP
  obtain ⟨cf_21, e_21⟩ : ∃ z, z = va_up cf_20 (149) (.inl (c 0, 126, .inl fun _ => 0)) := ⟨_, rfl⟩
  rw [← e_21] at hP
  have f_21_0 : cf_21 (143) = .inr (7, [.int 0, .int 0, .ref (b + 144), .ref (b + 145), .ref (b + 146), .ref (b + 147), .int 0, .int 0, .ref (b + 148), .null, .null, .null, .null, .null, .int 0, .null, .null, .int 0, .null, .int 0, .int 0, .int 0, .int 0, .int 0, .null, .null, .int 0, .null, .null, .null, .null, .null, .null, .null, .null, .null, .null, .null, .null, .int 0]) := by rw [e_21, va_up_ne _ _ (by omega)]; exact f_20_0
  have f_21_1 : cf_21 (144) = .inl (c 0, 60, .inl fun _ => 0) := by rw [e_21, va_up_ne _ _ (by omega)]; exact f_20_1
  have f_21_2 : cf_21 (145) = .inl (c 0, 240, .inl fun _ => 0) := by rw [e_21, va_up_ne _ _ (by omega)]; exact f_20_2
  have f_21_3 : cf_21 (146) = .inl (c 0, 60, .inl fun _ => 0) := by rw [e_21, va_up_ne _ _ (by omega)]; exact f_20_3
  have f_21_4 : cf_21 (147) = .inl (c 0, 60, .inl fun _ => 0) := by rw [e_21, va_up_ne _ _ (by omega)]; exact f_20_4
  have f_21_5 : cf_21 (148) = .inl (c 0, 10, .inl (upd (upd (upd (upd (upd (upd (upd (upd (upd (upd (fun _ => 0) 0 1) 1 2) 2 4) 3 8) 4 16) 5 32) 6 64) 7 128) 8 256) 9 512)) := by rw [e_21, va_up_ne _ _ (by omega)]; exact f_20_5
  have f_21_6 : cf_21 (149) = .inl (c 0, 126, .inl fun _ => 0) := by rw [e_21]; exact va_up_self _ _ _
  have g_21 : ∀ j, j < 143 → cf_21 j = cf j := fun j hj => by rw [e_21]; exact (va_up_ne _ _ (by omega)).trans (g_20 j hj)
  refine px_putF (ty := (.array .int)) (v := .ref (b + 149)) hx hb hts (by decide +kernel) tyX7 tyX7_ok nmX7 hown hK hP hS (143) (by omega) f_21_0 rfl 9 (by decide) (hts (.fieldLink RX7 25 "PriceEdictModel" "cap" "[I") (by decide +kernel)) rfl hmn rfl (by decide +kernel) rfl rfl (Nat.le_of_ble_eq_true rfl) dX7_init_104 (fun H locs hP hS => ?_)
  have hP : px_H D b (150) (va_up cf_21 (143) (.inr (7, [.int 0, .int 0, .ref (b + 144), .ref (b + 145), .ref (b + 146), .ref (b + 147), .int 0, .int 0, .ref (b + 148), .ref (b + 149), .null, .null, .null, .null, .int 0, .null, .null, .int 0, .null, .int 0, .int 0, .int 0, .int 0, .int 0, .null, .null, .int 0, .null, .null, .null, .null, .null, .null, .null, .null, .null, .null, .null, .null, .int 0]))) H := hP
  obtain ⟨cf_22, e_22⟩ : ∃ z, z = va_up cf_21 (143) (.inr (7, [.int 0, .int 0, .ref (b + 144), .ref (b + 145), .ref (b + 146), .ref (b + 147), .int 0, .int 0, .ref (b + 148), .ref (b + 149), .null, .null, .null, .null, .int 0, .null, .null, .int 0, .null, .int 0, .int 0, .int 0, .int 0, .int 0, .null, .null, .int 0, .null, .null, .null, .null, .null, .null, .null, .null, .null, .null, .null, .null, .int 0])) := ⟨_, rfl⟩
  rw [← e_22] at hP
  have f_22_0 : cf_22 (143) = .inr (7, [.int 0, .int 0, .ref (b + 144), .ref (b + 145), .ref (b + 146), .ref (b + 147), .int 0, .int 0, .ref (b + 148), .ref (b + 149), .null, .null, .null, .null, .int 0, .null, .null, .int 0, .null, .int 0, .int 0, .int 0, .int 0, .int 0, .null, .null, .int 0, .null, .null, .null, .null, .null, .null, .null, .null, .null, .null, .null, .null, .int 0]) := by rw [e_22]; exact va_up_self _ _ _
  have f_22_1 : cf_22 (144) = .inl (c 0, 60, .inl fun _ => 0) := by rw [e_22, va_up_ne _ _ (by omega)]; exact f_21_1
  have f_22_2 : cf_22 (145) = .inl (c 0, 240, .inl fun _ => 0) := by rw [e_22, va_up_ne _ _ (by omega)]; exact f_21_2
  have f_22_3 : cf_22 (146) = .inl (c 0, 60, .inl fun _ => 0) := by rw [e_22, va_up_ne _ _ (by omega)]; exact f_21_3
  have f_22_4 : cf_22 (147) = .inl (c 0, 60, .inl fun _ => 0) := by rw [e_22, va_up_ne _ _ (by omega)]; exact f_21_4
  have f_22_5 : cf_22 (148) = .inl (c 0, 10, .inl (upd (upd (upd (upd (upd (upd (upd (upd (upd (upd (fun _ => 0) 0 1) 1 2) 2 4) 3 8) 4 16) 5 32) 6 64) 7 128) 8 256) 9 512)) := by rw [e_22, va_up_ne _ _ (by omega)]; exact f_21_5
  have f_22_6 : cf_22 (149) = .inl (c 0, 126, .inl fun _ => 0) := by rw [e_22, va_up_ne _ _ (by omega)]; exact f_21_6
  have g_22 : ∀ j, j < 143 → cf_22 j = cf j := fun j hj => by rw [e_22]; exact (va_up_ne _ _ (by omega)).trans (g_21 j hj)
  refine lv_aload_n hx hb dX7_init_107 rfl (lv_at hl 0 rfl) ?_
  refine lv_bipush (v := 126) hx hb dX7_init_108 (by decide) ?_
  refine px_newa (atype := .int) (ty := .int) (a0 := (126, .inl fun _ => 0)) (N' := 126) hx hb (hts (.arrayClass .int) (by decide +kernel)) rfl hK hP hS 0 rfl (fun h => h) (fun _ => rfl) (by decide) (by decide) (by show 126 * 4 ≤ 536870912; omega) (Nat.le_of_ble_eq_true rfl) (Nat.le_of_ble_eq_true rfl) dX7_init_110 (fun H hP hS => ?_)
  have hP : px_H D b (151) (va_up cf_22 (150) (.inl (c 0, 126, .inl fun _ => 0))) H := hP
  obtain ⟨cf_23, e_23⟩ : ∃ z, z = va_up cf_22 (150) (.inl (c 0, 126, .inl fun _ => 0)) := ⟨_, rfl⟩
  rw [← e_23] at hP
  have f_23_0 : cf_23 (143) = .inr (7, [.int 0, .int 0, .ref (b + 144), .ref (b + 145), .ref (b + 146), .ref (b + 147), .int 0, .int 0, .ref (b + 148), .ref (b + 149), .null, .null, .null, .null, .int 0, .null, .null, .int 0, .null, .int 0, .int 0, .int 0, .int 0, .int 0, .null, .null, .int 0, .null, .null, .null, .null, .null, .null, .null, .null, .null, .null, .null, .null, .int 0]) := by rw [e_23, va_up_ne _ _ (by omega)]; exact f_22_0
  have f_23_1 : cf_23 (144) = .inl (c 0, 60, .inl fun _ => 0) := by rw [e_23, va_up_ne _ _ (by omega)]; exact f_22_1
  have f_23_2 : cf_23 (145) = .inl (c 0, 240, .inl fun _ => 0) := by rw [e_23, va_up_ne _ _ (by omega)]; exact f_22_2
  have f_23_3 : cf_23 (146) = .inl (c 0, 60, .inl fun _ => 0) := by rw [e_23, va_up_ne _ _ (by omega)]; exact f_22_3
  have f_23_4 : cf_23 (147) = .inl (c 0, 60, .inl fun _ => 0) := by rw [e_23, va_up_ne _ _ (by omega)]; exact f_22_4
  have f_23_5 : cf_23 (148) = .inl (c 0, 10, .inl (upd (upd (upd (upd (upd (upd (upd (upd (upd (upd (fun _ => 0) 0 1) 1 2) 2 4) 3 8) 4 16) 5 32) 6 64) 7 128) 8 256) 9 512)) := by rw [e_23, va_up_ne _ _ (by omega)]; exact f_22_5
  have f_23_6 : cf_23 (149) = .inl (c 0, 126, .inl fun _ => 0) := by rw [e_23, va_up_ne _ _ (by omega)]; exact f_22_6
  have f_23_7 : cf_23 (150) = .inl (c 0, 126, .inl fun _ => 0) := by rw [e_23]; exact va_up_self _ _ _
  have g_23 : ∀ j, j < 143 → cf_23 j = cf j := fun j hj => by rw [e_23]; exact (va_up_ne _ _ (by omega)).trans (g_22 j hj)
  refine px_putF (ty := (.array .int)) (v := .ref (b + 150)) hx hb hts (by decide +kernel) tyX7 tyX7_ok nmX7 hown hK hP hS (143) (by omega) f_23_0 rfl 10 (by decide) (hts (.fieldLink RX7 28 "PriceEdictModel" "byLine" "[I") (by decide +kernel)) rfl hmn rfl (by decide +kernel) rfl rfl (Nat.le_of_ble_eq_true rfl) dX7_init_112 (fun H locs hP hS => ?_)
  have hP : px_H D b (151) (va_up cf_23 (143) (.inr (7, [.int 0, .int 0, .ref (b + 144), .ref (b + 145), .ref (b + 146), .ref (b + 147), .int 0, .int 0, .ref (b + 148), .ref (b + 149), .ref (b + 150), .null, .null, .null, .int 0, .null, .null, .int 0, .null, .int 0, .int 0, .int 0, .int 0, .int 0, .null, .null, .int 0, .null, .null, .null, .null, .null, .null, .null, .null, .null, .null, .null, .null, .int 0]))) H := hP
  obtain ⟨cf_24, e_24⟩ : ∃ z, z = va_up cf_23 (143) (.inr (7, [.int 0, .int 0, .ref (b + 144), .ref (b + 145), .ref (b + 146), .ref (b + 147), .int 0, .int 0, .ref (b + 148), .ref (b + 149), .ref (b + 150), .null, .null, .null, .int 0, .null, .null, .int 0, .null, .int 0, .int 0, .int 0, .int 0, .int 0, .null, .null, .int 0, .null, .null, .null, .null, .null, .null, .null, .null, .null, .null, .null, .null, .int 0])) := ⟨_, rfl⟩
  rw [← e_24] at hP
  have f_24_0 : cf_24 (143) = .inr (7, [.int 0, .int 0, .ref (b + 144), .ref (b + 145), .ref (b + 146), .ref (b + 147), .int 0, .int 0, .ref (b + 148), .ref (b + 149), .ref (b + 150), .null, .null, .null, .int 0, .null, .null, .int 0, .null, .int 0, .int 0, .int 0, .int 0, .int 0, .null, .null, .int 0, .null, .null, .null, .null, .null, .null, .null, .null, .null, .null, .null, .null, .int 0]) := by rw [e_24]; exact va_up_self _ _ _
  have f_24_1 : cf_24 (144) = .inl (c 0, 60, .inl fun _ => 0) := by rw [e_24, va_up_ne _ _ (by omega)]; exact f_23_1
  have f_24_2 : cf_24 (145) = .inl (c 0, 240, .inl fun _ => 0) := by rw [e_24, va_up_ne _ _ (by omega)]; exact f_23_2
  have f_24_3 : cf_24 (146) = .inl (c 0, 60, .inl fun _ => 0) := by rw [e_24, va_up_ne _ _ (by omega)]; exact f_23_3
  have f_24_4 : cf_24 (147) = .inl (c 0, 60, .inl fun _ => 0) := by rw [e_24, va_up_ne _ _ (by omega)]; exact f_23_4
  have f_24_5 : cf_24 (148) = .inl (c 0, 10, .inl (upd (upd (upd (upd (upd (upd (upd (upd (upd (upd (fun _ => 0) 0 1) 1 2) 2 4) 3 8) 4 16) 5 32) 6 64) 7 128) 8 256) 9 512)) := by rw [e_24, va_up_ne _ _ (by omega)]; exact f_23_5
  have f_24_6 : cf_24 (149) = .inl (c 0, 126, .inl fun _ => 0) := by rw [e_24, va_up_ne _ _ (by omega)]; exact f_23_6
  have f_24_7 : cf_24 (150) = .inl (c 0, 126, .inl fun _ => 0) := by rw [e_24, va_up_ne _ _ (by omega)]; exact f_23_7
  have g_24 : ∀ j, j < 143 → cf_24 j = cf j := fun j hj => by rw [e_24]; exact (va_up_ne _ _ (by omega)).trans (g_23 j hj)
  refine lv_aload_n hx hb dX7_init_115 rfl (lv_at hl 0 rfl) ?_
  refine lv_bipush (v := 21) hx hb dX7_init_116 (by decide) ?_
  refine px_newa (atype := .int) (ty := .int) (a0 := (21, .inl fun _ => 0)) (N' := 21) hx hb (hts (.arrayClass .int) (by decide +kernel)) rfl hK hP hS 0 rfl (fun h => h) (fun _ => rfl) (by decide) (by decide) (by show 21 * 4 ≤ 536870912; omega) (Nat.le_of_ble_eq_true rfl) (Nat.le_of_ble_eq_true rfl) dX7_init_118 (fun H hP hS => ?_)
  have hP : px_H D b (152) (va_up cf_24 (151) (.inl (c 0, 21, .inl fun _ => 0))) H := hP
  obtain ⟨cf_25, e_25⟩ : ∃ z, z = va_up cf_24 (151) (.inl (c 0, 21, .inl fun _ => 0)) := ⟨_, rfl⟩
  rw [← e_25] at hP
  have f_25_0 : cf_25 (143) = .inr (7, [.int 0, .int 0, .ref (b + 144), .ref (b + 145), .ref (b + 146), .ref (b + 147), .int 0, .int 0, .ref (b + 148), .ref (b + 149), .ref (b + 150), .null, .null, .null, .int 0, .null, .null, .int 0, .null, .int 0, .int 0, .int 0, .int 0, .int 0, .null, .null, .int 0, .null, .null, .null, .null, .null, .null, .null, .null, .null, .null, .null, .null, .int 0]) := by rw [e_25, va_up_ne _ _ (by omega)]; exact f_24_0
  have f_25_1 : cf_25 (144) = .inl (c 0, 60, .inl fun _ => 0) := by rw [e_25, va_up_ne _ _ (by omega)]; exact f_24_1
  have f_25_2 : cf_25 (145) = .inl (c 0, 240, .inl fun _ => 0) := by rw [e_25, va_up_ne _ _ (by omega)]; exact f_24_2
  have f_25_3 : cf_25 (146) = .inl (c 0, 60, .inl fun _ => 0) := by rw [e_25, va_up_ne _ _ (by omega)]; exact f_24_3
  have f_25_4 : cf_25 (147) = .inl (c 0, 60, .inl fun _ => 0) := by rw [e_25, va_up_ne _ _ (by omega)]; exact f_24_4
  have f_25_5 : cf_25 (148) = .inl (c 0, 10, .inl (upd (upd (upd (upd (upd (upd (upd (upd (upd (upd (fun _ => 0) 0 1) 1 2) 2 4) 3 8) 4 16) 5 32) 6 64) 7 128) 8 256) 9 512)) := by rw [e_25, va_up_ne _ _ (by omega)]; exact f_24_5
  have f_25_6 : cf_25 (149) = .inl (c 0, 126, .inl fun _ => 0) := by rw [e_25, va_up_ne _ _ (by omega)]; exact f_24_6
  have f_25_7 : cf_25 (150) = .inl (c 0, 126, .inl fun _ => 0) := by rw [e_25, va_up_ne _ _ (by omega)]; exact f_24_7
  have f_25_8 : cf_25 (151) = .inl (c 0, 21, .inl fun _ => 0) := by rw [e_25]; exact va_up_self _ _ _
  have g_25 : ∀ j, j < 143 → cf_25 j = cf j := fun j hj => by rw [e_25]; exact (va_up_ne _ _ (by omega)).trans (g_24 j hj)
  refine px_putF (ty := (.array .int)) (v := .ref (b + 151)) hx hb hts (by decide +kernel) tyX7 tyX7_ok nmX7 hown hK hP hS (143) (by omega) f_25_0 rfl 11 (by decide) (hts (.fieldLink RX7 31 "PriceEdictModel" "carriage" "[I") (by decide +kernel)) rfl hmn rfl (by decide +kernel) rfl rfl (Nat.le_of_ble_eq_true rfl) dX7_init_120 (fun H locs hP hS => ?_)
  have hP : px_H D b (152) (va_up cf_25 (143) (.inr (7, [.int 0, .int 0, .ref (b + 144), .ref (b + 145), .ref (b + 146), .ref (b + 147), .int 0, .int 0, .ref (b + 148), .ref (b + 149), .ref (b + 150), .ref (b + 151), .null, .null, .int 0, .null, .null, .int 0, .null, .int 0, .int 0, .int 0, .int 0, .int 0, .null, .null, .int 0, .null, .null, .null, .null, .null, .null, .null, .null, .null, .null, .null, .null, .int 0]))) H := hP
  obtain ⟨cf_26, e_26⟩ : ∃ z, z = va_up cf_25 (143) (.inr (7, [.int 0, .int 0, .ref (b + 144), .ref (b + 145), .ref (b + 146), .ref (b + 147), .int 0, .int 0, .ref (b + 148), .ref (b + 149), .ref (b + 150), .ref (b + 151), .null, .null, .int 0, .null, .null, .int 0, .null, .int 0, .int 0, .int 0, .int 0, .int 0, .null, .null, .int 0, .null, .null, .null, .null, .null, .null, .null, .null, .null, .null, .null, .null, .int 0])) := ⟨_, rfl⟩
  rw [← e_26] at hP
  have f_26_0 : cf_26 (143) = .inr (7, [.int 0, .int 0, .ref (b + 144), .ref (b + 145), .ref (b + 146), .ref (b + 147), .int 0, .int 0, .ref (b + 148), .ref (b + 149), .ref (b + 150), .ref (b + 151), .null, .null, .int 0, .null, .null, .int 0, .null, .int 0, .int 0, .int 0, .int 0, .int 0, .null, .null, .int 0, .null, .null, .null, .null, .null, .null, .null, .null, .null, .null, .null, .null, .int 0]) := by rw [e_26]; exact va_up_self _ _ _
  have f_26_1 : cf_26 (144) = .inl (c 0, 60, .inl fun _ => 0) := by rw [e_26, va_up_ne _ _ (by omega)]; exact f_25_1
  have f_26_2 : cf_26 (145) = .inl (c 0, 240, .inl fun _ => 0) := by rw [e_26, va_up_ne _ _ (by omega)]; exact f_25_2
  have f_26_3 : cf_26 (146) = .inl (c 0, 60, .inl fun _ => 0) := by rw [e_26, va_up_ne _ _ (by omega)]; exact f_25_3
  have f_26_4 : cf_26 (147) = .inl (c 0, 60, .inl fun _ => 0) := by rw [e_26, va_up_ne _ _ (by omega)]; exact f_25_4
  have f_26_5 : cf_26 (148) = .inl (c 0, 10, .inl (upd (upd (upd (upd (upd (upd (upd (upd (upd (upd (fun _ => 0) 0 1) 1 2) 2 4) 3 8) 4 16) 5 32) 6 64) 7 128) 8 256) 9 512)) := by rw [e_26, va_up_ne _ _ (by omega)]; exact f_25_5
  have f_26_6 : cf_26 (149) = .inl (c 0, 126, .inl fun _ => 0) := by rw [e_26, va_up_ne _ _ (by omega)]; exact f_25_6
  have f_26_7 : cf_26 (150) = .inl (c 0, 126, .inl fun _ => 0) := by rw [e_26, va_up_ne _ _ (by omega)]; exact f_25_7
  have f_26_8 : cf_26 (151) = .inl (c 0, 21, .inl fun _ => 0) := by rw [e_26, va_up_ne _ _ (by omega)]; exact f_25_8
  have g_26 : ∀ j, j < 143 → cf_26 j = cf j := fun j hj => by rw [e_26]; exact (va_up_ne _ _ (by omega)).trans (g_25 j hj)
  refine lv_aload_n hx hb dX7_init_123 rfl (lv_at hl 0 rfl) ?_
  refine lv_bipush (v := 21) hx hb dX7_init_124 (by decide) ?_
  refine px_newa (atype := .int) (ty := .int) (a0 := (21, .inl fun _ => 0)) (N' := 21) hx hb (hts (.arrayClass .int) (by decide +kernel)) rfl hK hP hS 0 rfl (fun h => h) (fun _ => rfl) (by decide) (by decide) (by show 21 * 4 ≤ 536870912; omega) (Nat.le_of_ble_eq_true rfl) (Nat.le_of_ble_eq_true rfl) dX7_init_126 (fun H hP hS => ?_)
  have hP : px_H D b (153) (va_up cf_26 (152) (.inl (c 0, 21, .inl fun _ => 0))) H := hP
  obtain ⟨cf_27, e_27⟩ : ∃ z, z = va_up cf_26 (152) (.inl (c 0, 21, .inl fun _ => 0)) := ⟨_, rfl⟩
  rw [← e_27] at hP
  have f_27_0 : cf_27 (143) = .inr (7, [.int 0, .int 0, .ref (b + 144), .ref (b + 145), .ref (b + 146), .ref (b + 147), .int 0, .int 0, .ref (b + 148), .ref (b + 149), .ref (b + 150), .ref (b + 151), .null, .null, .int 0, .null, .null, .int 0, .null, .int 0, .int 0, .int 0, .int 0, .int 0, .null, .null, .int 0, .null, .null, .null, .null, .null, .null, .null, .null, .null, .null, .null, .null, .int 0]) := by rw [e_27, va_up_ne _ _ (by omega)]; exact f_26_0
  have f_27_1 : cf_27 (144) = .inl (c 0, 60, .inl fun _ => 0) := by rw [e_27, va_up_ne _ _ (by omega)]; exact f_26_1
  have f_27_2 : cf_27 (145) = .inl (c 0, 240, .inl fun _ => 0) := by rw [e_27, va_up_ne _ _ (by omega)]; exact f_26_2
  have f_27_3 : cf_27 (146) = .inl (c 0, 60, .inl fun _ => 0) := by rw [e_27, va_up_ne _ _ (by omega)]; exact f_26_3
  have f_27_4 : cf_27 (147) = .inl (c 0, 60, .inl fun _ => 0) := by rw [e_27, va_up_ne _ _ (by omega)]; exact f_26_4
  have f_27_5 : cf_27 (148) = .inl (c 0, 10, .inl (upd (upd (upd (upd (upd (upd (upd (upd (upd (upd (fun _ => 0) 0 1) 1 2) 2 4) 3 8) 4 16) 5 32) 6 64) 7 128) 8 256) 9 512)) := by rw [e_27, va_up_ne _ _ (by omega)]; exact f_26_5
  have f_27_6 : cf_27 (149) = .inl (c 0, 126, .inl fun _ => 0) := by rw [e_27, va_up_ne _ _ (by omega)]; exact f_26_6
  have f_27_7 : cf_27 (150) = .inl (c 0, 126, .inl fun _ => 0) := by rw [e_27, va_up_ne _ _ (by omega)]; exact f_26_7
  have f_27_8 : cf_27 (151) = .inl (c 0, 21, .inl fun _ => 0) := by rw [e_27, va_up_ne _ _ (by omega)]; exact f_26_8
  have f_27_9 : cf_27 (152) = .inl (c 0, 21, .inl fun _ => 0) := by rw [e_27]; exact va_up_self _ _ _
  have g_27 : ∀ j, j < 143 → cf_27 j = cf j := fun j hj => by rw [e_27]; exact (va_up_ne _ _ (by omega)).trans (g_26 j hj)
  refine px_putF (ty := (.array .int)) (v := .ref (b + 152)) hx hb hts (by decide +kernel) tyX7 tyX7_ok nmX7 hown hK hP hS (143) (by omega) f_27_0 rfl 12 (by decide) (hts (.fieldLink RX7 34 "PriceEdictModel" "credit" "[I") (by decide +kernel)) rfl hmn rfl (by decide +kernel) rfl rfl (Nat.le_of_ble_eq_true rfl) dX7_init_128 (fun H locs hP hS => ?_)
  have hP : px_H D b (153) (va_up cf_27 (143) (.inr (7, [.int 0, .int 0, .ref (b + 144), .ref (b + 145), .ref (b + 146), .ref (b + 147), .int 0, .int 0, .ref (b + 148), .ref (b + 149), .ref (b + 150), .ref (b + 151), .ref (b + 152), .null, .int 0, .null, .null, .int 0, .null, .int 0, .int 0, .int 0, .int 0, .int 0, .null, .null, .int 0, .null, .null, .null, .null, .null, .null, .null, .null, .null, .null, .null, .null, .int 0]))) H := hP
  obtain ⟨cf_28, e_28⟩ : ∃ z, z = va_up cf_27 (143) (.inr (7, [.int 0, .int 0, .ref (b + 144), .ref (b + 145), .ref (b + 146), .ref (b + 147), .int 0, .int 0, .ref (b + 148), .ref (b + 149), .ref (b + 150), .ref (b + 151), .ref (b + 152), .null, .int 0, .null, .null, .int 0, .null, .int 0, .int 0, .int 0, .int 0, .int 0, .null, .null, .int 0, .null, .null, .null, .null, .null, .null, .null, .null, .null, .null, .null, .null, .int 0])) := ⟨_, rfl⟩
  rw [← e_28] at hP
  have f_28_0 : cf_28 (143) = .inr (7, [.int 0, .int 0, .ref (b + 144), .ref (b + 145), .ref (b + 146), .ref (b + 147), .int 0, .int 0, .ref (b + 148), .ref (b + 149), .ref (b + 150), .ref (b + 151), .ref (b + 152), .null, .int 0, .null, .null, .int 0, .null, .int 0, .int 0, .int 0, .int 0, .int 0, .null, .null, .int 0, .null, .null, .null, .null, .null, .null, .null, .null, .null, .null, .null, .null, .int 0]) := by rw [e_28]; exact va_up_self _ _ _
  have f_28_1 : cf_28 (144) = .inl (c 0, 60, .inl fun _ => 0) := by rw [e_28, va_up_ne _ _ (by omega)]; exact f_27_1
  have f_28_2 : cf_28 (145) = .inl (c 0, 240, .inl fun _ => 0) := by rw [e_28, va_up_ne _ _ (by omega)]; exact f_27_2
  have f_28_3 : cf_28 (146) = .inl (c 0, 60, .inl fun _ => 0) := by rw [e_28, va_up_ne _ _ (by omega)]; exact f_27_3
  have f_28_4 : cf_28 (147) = .inl (c 0, 60, .inl fun _ => 0) := by rw [e_28, va_up_ne _ _ (by omega)]; exact f_27_4
  have f_28_5 : cf_28 (148) = .inl (c 0, 10, .inl (upd (upd (upd (upd (upd (upd (upd (upd (upd (upd (fun _ => 0) 0 1) 1 2) 2 4) 3 8) 4 16) 5 32) 6 64) 7 128) 8 256) 9 512)) := by rw [e_28, va_up_ne _ _ (by omega)]; exact f_27_5
  have f_28_6 : cf_28 (149) = .inl (c 0, 126, .inl fun _ => 0) := by rw [e_28, va_up_ne _ _ (by omega)]; exact f_27_6
  have f_28_7 : cf_28 (150) = .inl (c 0, 126, .inl fun _ => 0) := by rw [e_28, va_up_ne _ _ (by omega)]; exact f_27_7
  have f_28_8 : cf_28 (151) = .inl (c 0, 21, .inl fun _ => 0) := by rw [e_28, va_up_ne _ _ (by omega)]; exact f_27_8
  have f_28_9 : cf_28 (152) = .inl (c 0, 21, .inl fun _ => 0) := by rw [e_28, va_up_ne _ _ (by omega)]; exact f_27_9
  have g_28 : ∀ j, j < 143 → cf_28 j = cf j := fun j hj => by rw [e_28]; exact (va_up_ne _ _ (by omega)).trans (g_27 j hj)
  refine lv_aload_n hx hb dX7_init_131 rfl (lv_at hl 0 rfl) ?_
  refine lv_bipush (v := 21) hx hb dX7_init_132 (by decide) ?_
  refine px_newa (atype := .int) (ty := .int) (a0 := (21, .inl fun _ => 0)) (N' := 21) hx hb (hts (.arrayClass .int) (by decide +kernel)) rfl hK hP hS 0 rfl (fun h => h) (fun _ => rfl) (by decide) (by decide) (by show 21 * 4 ≤ 536870912; omega) (Nat.le_of_ble_eq_true rfl) (Nat.le_of_ble_eq_true rfl) dX7_init_134 (fun H hP hS => ?_)
  have hP : px_H D b (154) (va_up cf_28 (153) (.inl (c 0, 21, .inl fun _ => 0))) H := hP
  obtain ⟨cf_29, e_29⟩ : ∃ z, z = va_up cf_28 (153) (.inl (c 0, 21, .inl fun _ => 0)) := ⟨_, rfl⟩
  rw [← e_29] at hP
  have f_29_0 : cf_29 (143) = .inr (7, [.int 0, .int 0, .ref (b + 144), .ref (b + 145), .ref (b + 146), .ref (b + 147), .int 0, .int 0, .ref (b + 148), .ref (b + 149), .ref (b + 150), .ref (b + 151), .ref (b + 152), .null, .int 0, .null, .null, .int 0, .null, .int 0, .int 0, .int 0, .int 0, .int 0, .null, .null, .int 0, .null, .null, .null, .null, .null, .null, .null, .null, .null, .null, .null, .null, .int 0]) := by rw [e_29, va_up_ne _ _ (by omega)]; exact f_28_0
  have f_29_1 : cf_29 (144) = .inl (c 0, 60, .inl fun _ => 0) := by rw [e_29, va_up_ne _ _ (by omega)]; exact f_28_1
  have f_29_2 : cf_29 (145) = .inl (c 0, 240, .inl fun _ => 0) := by rw [e_29, va_up_ne _ _ (by omega)]; exact f_28_2
  have f_29_3 : cf_29 (146) = .inl (c 0, 60, .inl fun _ => 0) := by rw [e_29, va_up_ne _ _ (by omega)]; exact f_28_3
  have f_29_4 : cf_29 (147) = .inl (c 0, 60, .inl fun _ => 0) := by rw [e_29, va_up_ne _ _ (by omega)]; exact f_28_4
  have f_29_5 : cf_29 (148) = .inl (c 0, 10, .inl (upd (upd (upd (upd (upd (upd (upd (upd (upd (upd (fun _ => 0) 0 1) 1 2) 2 4) 3 8) 4 16) 5 32) 6 64) 7 128) 8 256) 9 512)) := by rw [e_29, va_up_ne _ _ (by omega)]; exact f_28_5
  have f_29_6 : cf_29 (149) = .inl (c 0, 126, .inl fun _ => 0) := by rw [e_29, va_up_ne _ _ (by omega)]; exact f_28_6
  have f_29_7 : cf_29 (150) = .inl (c 0, 126, .inl fun _ => 0) := by rw [e_29, va_up_ne _ _ (by omega)]; exact f_28_7
  have f_29_8 : cf_29 (151) = .inl (c 0, 21, .inl fun _ => 0) := by rw [e_29, va_up_ne _ _ (by omega)]; exact f_28_8
  have f_29_9 : cf_29 (152) = .inl (c 0, 21, .inl fun _ => 0) := by rw [e_29, va_up_ne _ _ (by omega)]; exact f_28_9
  have f_29_10 : cf_29 (153) = .inl (c 0, 21, .inl fun _ => 0) := by rw [e_29]; exact va_up_self _ _ _
  have g_29 : ∀ j, j < 143 → cf_29 j = cf j := fun j hj => by rw [e_29]; exact (va_up_ne _ _ (by omega)).trans (g_28 j hj)
  refine px_putF (ty := (.array .int)) (v := .ref (b + 153)) hx hb hts (by decide +kernel) tyX7 tyX7_ok nmX7 hown hK hP hS (143) (by omega) f_29_0 rfl 13 (by decide) (hts (.fieldLink RX7 37 "PriceEdictModel" "free" "[I") (by decide +kernel)) rfl hmn rfl (by decide +kernel) rfl rfl (Nat.le_of_ble_eq_true rfl) dX7_init_136 (fun H locs hP hS => ?_)
  have hP : px_H D b (154) (va_up cf_29 (143) (.inr (7, [.int 0, .int 0, .ref (b + 144), .ref (b + 145), .ref (b + 146), .ref (b + 147), .int 0, .int 0, .ref (b + 148), .ref (b + 149), .ref (b + 150), .ref (b + 151), .ref (b + 152), .ref (b + 153), .int 0, .null, .null, .int 0, .null, .int 0, .int 0, .int 0, .int 0, .int 0, .null, .null, .int 0, .null, .null, .null, .null, .null, .null, .null, .null, .null, .null, .null, .null, .int 0]))) H := hP
  obtain ⟨cf_30, e_30⟩ : ∃ z, z = va_up cf_29 (143) (.inr (7, [.int 0, .int 0, .ref (b + 144), .ref (b + 145), .ref (b + 146), .ref (b + 147), .int 0, .int 0, .ref (b + 148), .ref (b + 149), .ref (b + 150), .ref (b + 151), .ref (b + 152), .ref (b + 153), .int 0, .null, .null, .int 0, .null, .int 0, .int 0, .int 0, .int 0, .int 0, .null, .null, .int 0, .null, .null, .null, .null, .null, .null, .null, .null, .null, .null, .null, .null, .int 0])) := ⟨_, rfl⟩
  rw [← e_30] at hP
  have f_30_0 : cf_30 (143) = .inr (7, [.int 0, .int 0, .ref (b + 144), .ref (b + 145), .ref (b + 146), .ref (b + 147), .int 0, .int 0, .ref (b + 148), .ref (b + 149), .ref (b + 150), .ref (b + 151), .ref (b + 152), .ref (b + 153), .int 0, .null, .null, .int 0, .null, .int 0, .int 0, .int 0, .int 0, .int 0, .null, .null, .int 0, .null, .null, .null, .null, .null, .null, .null, .null, .null, .null, .null, .null, .int 0]) := by rw [e_30]; exact va_up_self _ _ _
  have f_30_1 : cf_30 (144) = .inl (c 0, 60, .inl fun _ => 0) := by rw [e_30, va_up_ne _ _ (by omega)]; exact f_29_1
  have f_30_2 : cf_30 (145) = .inl (c 0, 240, .inl fun _ => 0) := by rw [e_30, va_up_ne _ _ (by omega)]; exact f_29_2
  have f_30_3 : cf_30 (146) = .inl (c 0, 60, .inl fun _ => 0) := by rw [e_30, va_up_ne _ _ (by omega)]; exact f_29_3
  have f_30_4 : cf_30 (147) = .inl (c 0, 60, .inl fun _ => 0) := by rw [e_30, va_up_ne _ _ (by omega)]; exact f_29_4
  have f_30_5 : cf_30 (148) = .inl (c 0, 10, .inl (upd (upd (upd (upd (upd (upd (upd (upd (upd (upd (fun _ => 0) 0 1) 1 2) 2 4) 3 8) 4 16) 5 32) 6 64) 7 128) 8 256) 9 512)) := by rw [e_30, va_up_ne _ _ (by omega)]; exact f_29_5
  have f_30_6 : cf_30 (149) = .inl (c 0, 126, .inl fun _ => 0) := by rw [e_30, va_up_ne _ _ (by omega)]; exact f_29_6
  have f_30_7 : cf_30 (150) = .inl (c 0, 126, .inl fun _ => 0) := by rw [e_30, va_up_ne _ _ (by omega)]; exact f_29_7
  have f_30_8 : cf_30 (151) = .inl (c 0, 21, .inl fun _ => 0) := by rw [e_30, va_up_ne _ _ (by omega)]; exact f_29_8
  have f_30_9 : cf_30 (152) = .inl (c 0, 21, .inl fun _ => 0) := by rw [e_30, va_up_ne _ _ (by omega)]; exact f_29_9
  have f_30_10 : cf_30 (153) = .inl (c 0, 21, .inl fun _ => 0) := by rw [e_30, va_up_ne _ _ (by omega)]; exact f_29_10
  have g_30 : ∀ j, j < 143 → cf_30 j = cf j := fun j hj => by rw [e_30]; exact (va_up_ne _ _ (by omega)).trans (g_29 j hj)
  refine lv_aload_n hx hb dX7_init_139 rfl (lv_at hl 0 rfl) ?_
  refine lv_bipush (v := 40) hx hb dX7_init_140 (by decide) ?_
  refine px_newa (atype := .int) (ty := .int) (a0 := (40, .inl fun _ => 0)) (N' := 40) hx hb (hts (.arrayClass .int) (by decide +kernel)) rfl hK hP hS 0 rfl (fun h => h) (fun _ => rfl) (by decide) (by decide) (by show 40 * 4 ≤ 536870912; omega) (Nat.le_of_ble_eq_true rfl) (Nat.le_of_ble_eq_true rfl) dX7_init_142 (fun H hP hS => ?_)
  have hP : px_H D b (155) (va_up cf_30 (154) (.inl (c 0, 40, .inl fun _ => 0))) H := hP
  obtain ⟨cf_31, e_31⟩ : ∃ z, z = va_up cf_30 (154) (.inl (c 0, 40, .inl fun _ => 0)) := ⟨_, rfl⟩
  rw [← e_31] at hP
  have f_31_0 : cf_31 (143) = .inr (7, [.int 0, .int 0, .ref (b + 144), .ref (b + 145), .ref (b + 146), .ref (b + 147), .int 0, .int 0, .ref (b + 148), .ref (b + 149), .ref (b + 150), .ref (b + 151), .ref (b + 152), .ref (b + 153), .int 0, .null, .null, .int 0, .null, .int 0, .int 0, .int 0, .int 0, .int 0, .null, .null, .int 0, .null, .null, .null, .null, .null, .null, .null, .null, .null, .null, .null, .null, .int 0]) := by rw [e_31, va_up_ne _ _ (by omega)]; exact f_30_0
  have f_31_1 : cf_31 (144) = .inl (c 0, 60, .inl fun _ => 0) := by rw [e_31, va_up_ne _ _ (by omega)]; exact f_30_1
  have f_31_2 : cf_31 (145) = .inl (c 0, 240, .inl fun _ => 0) := by rw [e_31, va_up_ne _ _ (by omega)]; exact f_30_2
  have f_31_3 : cf_31 (146) = .inl (c 0, 60, .inl fun _ => 0) := by rw [e_31, va_up_ne _ _ (by omega)]; exact f_30_3
  have f_31_4 : cf_31 (147) = .inl (c 0, 60, .inl fun _ => 0) := by rw [e_31, va_up_ne _ _ (by omega)]; exact f_30_4
  have f_31_5 : cf_31 (148) = .inl (c 0, 10, .inl (upd (upd (upd (upd (upd (upd (upd (upd (upd (upd (fun _ => 0) 0 1) 1 2) 2 4) 3 8) 4 16) 5 32) 6 64) 7 128) 8 256) 9 512)) := by rw [e_31, va_up_ne _ _ (by omega)]; exact f_30_5
  have f_31_6 : cf_31 (149) = .inl (c 0, 126, .inl fun _ => 0) := by rw [e_31, va_up_ne _ _ (by omega)]; exact f_30_6
  have f_31_7 : cf_31 (150) = .inl (c 0, 126, .inl fun _ => 0) := by rw [e_31, va_up_ne _ _ (by omega)]; exact f_30_7
  have f_31_8 : cf_31 (151) = .inl (c 0, 21, .inl fun _ => 0) := by rw [e_31, va_up_ne _ _ (by omega)]; exact f_30_8
  have f_31_9 : cf_31 (152) = .inl (c 0, 21, .inl fun _ => 0) := by rw [e_31, va_up_ne _ _ (by omega)]; exact f_30_9
  have f_31_10 : cf_31 (153) = .inl (c 0, 21, .inl fun _ => 0) := by rw [e_31, va_up_ne _ _ (by omega)]; exact f_30_10
  have f_31_11 : cf_31 (154) = .inl (c 0, 40, .inl fun _ => 0) := by rw [e_31]; exact va_up_self _ _ _
  have g_31 : ∀ j, j < 143 → cf_31 j = cf j := fun j hj => by rw [e_31]; exact (va_up_ne _ _ (by omega)).trans (g_30 j hj)
  refine px_putF (ty := (.array .int)) (v := .ref (b + 154)) hx hb hts (by decide +kernel) tyX7 tyX7_ok nmX7 hown hK hP hS (143) (by omega) f_31_0 rfl 15 (by decide) (hts (.fieldLink RX7 40 "PriceEdictModel" "told" "[I") (by decide +kernel)) rfl hmn rfl (by decide +kernel) rfl rfl (Nat.le_of_ble_eq_true rfl) dX7_init_144 (fun H locs hP hS => ?_)
  have hP : px_H D b (155) (va_up cf_31 (143) (.inr (7, [.int 0, .int 0, .ref (b + 144), .ref (b + 145), .ref (b + 146), .ref (b + 147), .int 0, .int 0, .ref (b + 148), .ref (b + 149), .ref (b + 150), .ref (b + 151), .ref (b + 152), .ref (b + 153), .int 0, .ref (b + 154), .null, .int 0, .null, .int 0, .int 0, .int 0, .int 0, .int 0, .null, .null, .int 0, .null, .null, .null, .null, .null, .null, .null, .null, .null, .null, .null, .null, .int 0]))) H := hP
  obtain ⟨cf_32, e_32⟩ : ∃ z, z = va_up cf_31 (143) (.inr (7, [.int 0, .int 0, .ref (b + 144), .ref (b + 145), .ref (b + 146), .ref (b + 147), .int 0, .int 0, .ref (b + 148), .ref (b + 149), .ref (b + 150), .ref (b + 151), .ref (b + 152), .ref (b + 153), .int 0, .ref (b + 154), .null, .int 0, .null, .int 0, .int 0, .int 0, .int 0, .int 0, .null, .null, .int 0, .null, .null, .null, .null, .null, .null, .null, .null, .null, .null, .null, .null, .int 0])) := ⟨_, rfl⟩
  rw [← e_32] at hP
  have f_32_0 : cf_32 (143) = .inr (7, [.int 0, .int 0, .ref (b + 144), .ref (b + 145), .ref (b + 146), .ref (b + 147), .int 0, .int 0, .ref (b + 148), .ref (b + 149), .ref (b + 150), .ref (b + 151), .ref (b + 152), .ref (b + 153), .int 0, .ref (b + 154), .null, .int 0, .null, .int 0, .int 0, .int 0, .int 0, .int 0, .null, .null, .int 0, .null, .null, .null, .null, .null, .null, .null, .null, .null, .null, .null, .null, .int 0]) := by rw [e_32]; exact va_up_self _ _ _
  have f_32_1 : cf_32 (144) = .inl (c 0, 60, .inl fun _ => 0) := by rw [e_32, va_up_ne _ _ (by omega)]; exact f_31_1
  have f_32_2 : cf_32 (145) = .inl (c 0, 240, .inl fun _ => 0) := by rw [e_32, va_up_ne _ _ (by omega)]; exact f_31_2
  have f_32_3 : cf_32 (146) = .inl (c 0, 60, .inl fun _ => 0) := by rw [e_32, va_up_ne _ _ (by omega)]; exact f_31_3
  have f_32_4 : cf_32 (147) = .inl (c 0, 60, .inl fun _ => 0) := by rw [e_32, va_up_ne _ _ (by omega)]; exact f_31_4
  have f_32_5 : cf_32 (148) = .inl (c 0, 10, .inl (upd (upd (upd (upd (upd (upd (upd (upd (upd (upd (fun _ => 0) 0 1) 1 2) 2 4) 3 8) 4 16) 5 32) 6 64) 7 128) 8 256) 9 512)) := by rw [e_32, va_up_ne _ _ (by omega)]; exact f_31_5
  have f_32_6 : cf_32 (149) = .inl (c 0, 126, .inl fun _ => 0) := by rw [e_32, va_up_ne _ _ (by omega)]; exact f_31_6
  have f_32_7 : cf_32 (150) = .inl (c 0, 126, .inl fun _ => 0) := by rw [e_32, va_up_ne _ _ (by omega)]; exact f_31_7
  have f_32_8 : cf_32 (151) = .inl (c 0, 21, .inl fun _ => 0) := by rw [e_32, va_up_ne _ _ (by omega)]; exact f_31_8
  have f_32_9 : cf_32 (152) = .inl (c 0, 21, .inl fun _ => 0) := by rw [e_32, va_up_ne _ _ (by omega)]; exact f_31_9
  have f_32_10 : cf_32 (153) = .inl (c 0, 21, .inl fun _ => 0) := by rw [e_32, va_up_ne _ _ (by omega)]; exact f_31_10
  have f_32_11 : cf_32 (154) = .inl (c 0, 40, .inl fun _ => 0) := by rw [e_32, va_up_ne _ _ (by omega)]; exact f_31_11
  have g_32 : ∀ j, j < 143 → cf_32 j = cf j := fun j hj => by rw [e_32]; exact (va_up_ne _ _ (by omega)).trans (g_31 j hj)
  refine lv_aload_n hx hb dX7_init_147 rfl (lv_at hl 0 rfl) ?_
  refine lv_bipush (v := 40) hx hb dX7_init_148 (by decide) ?_
  refine px_newa (atype := .int) (ty := .int) (a0 := (40, .inl fun _ => 0)) (N' := 40) hx hb (hts (.arrayClass .int) (by decide +kernel)) rfl hK hP hS 0 rfl (fun h => h) (fun _ => rfl) (by decide) (by decide) (by show 40 * 4 ≤ 536870912; omega) (Nat.le_of_ble_eq_true rfl) (Nat.le_of_ble_eq_true rfl) dX7_init_150 (fun H hP hS => ?_)
  have hP : px_H D b (156) (va_up cf_32 (155) (.inl (c 0, 40, .inl fun _ => 0))) H := hP
  obtain ⟨cf_33, e_33⟩ : ∃ z, z = va_up cf_32 (155) (.inl (c 0, 40, .inl fun _ => 0)) := ⟨_, rfl⟩
  rw [← e_33] at hP
  have f_33_0 : cf_33 (143) = .inr (7, [.int 0, .int 0, .ref (b + 144), .ref (b + 145), .ref (b + 146), .ref (b + 147), .int 0, .int 0, .ref (b + 148), .ref (b + 149), .ref (b + 150), .ref (b + 151), .ref (b + 152), .ref (b + 153), .int 0, .ref (b + 154), .null, .int 0, .null, .int 0, .int 0, .int 0, .int 0, .int 0, .null, .null, .int 0, .null, .null, .null, .null, .null, .null, .null, .null, .null, .null, .null, .null, .int 0]) := by rw [e_33, va_up_ne _ _ (by omega)]; exact f_32_0
  have f_33_1 : cf_33 (144) = .inl (c 0, 60, .inl fun _ => 0) := by rw [e_33, va_up_ne _ _ (by omega)]; exact f_32_1
  have f_33_2 : cf_33 (145) = .inl (c 0, 240, .inl fun _ => 0) := by rw [e_33, va_up_ne _ _ (by omega)]; exact f_32_2
  have f_33_3 : cf_33 (146) = .inl (c 0, 60, .inl fun _ => 0) := by rw [e_33, va_up_ne _ _ (by omega)]; exact f_32_3
  have f_33_4 : cf_33 (147) = .inl (c 0, 60, .inl fun _ => 0) := by rw [e_33, va_up_ne _ _ (by omega)]; exact f_32_4
  have f_33_5 : cf_33 (148) = .inl (c 0, 10, .inl (upd (upd (upd (upd (upd (upd (upd (upd (upd (upd (fun _ => 0) 0 1) 1 2) 2 4) 3 8) 4 16) 5 32) 6 64) 7 128) 8 256) 9 512)) := by rw [e_33, va_up_ne _ _ (by omega)]; exact f_32_5
  have f_33_6 : cf_33 (149) = .inl (c 0, 126, .inl fun _ => 0) := by rw [e_33, va_up_ne _ _ (by omega)]; exact f_32_6
  have f_33_7 : cf_33 (150) = .inl (c 0, 126, .inl fun _ => 0) := by rw [e_33, va_up_ne _ _ (by omega)]; exact f_32_7
  have f_33_8 : cf_33 (151) = .inl (c 0, 21, .inl fun _ => 0) := by rw [e_33, va_up_ne _ _ (by omega)]; exact f_32_8
  have f_33_9 : cf_33 (152) = .inl (c 0, 21, .inl fun _ => 0) := by rw [e_33, va_up_ne _ _ (by omega)]; exact f_32_9
  have f_33_10 : cf_33 (153) = .inl (c 0, 21, .inl fun _ => 0) := by rw [e_33, va_up_ne _ _ (by omega)]; exact f_32_10
  have f_33_11 : cf_33 (154) = .inl (c 0, 40, .inl fun _ => 0) := by rw [e_33, va_up_ne _ _ (by omega)]; exact f_32_11
  have f_33_12 : cf_33 (155) = .inl (c 0, 40, .inl fun _ => 0) := by rw [e_33]; exact va_up_self _ _ _
  have g_33 : ∀ j, j < 143 → cf_33 j = cf j := fun j hj => by rw [e_33]; exact (va_up_ne _ _ (by omega)).trans (g_32 j hj)
  refine px_putF (ty := (.array .int)) (v := .ref (b + 155)) hx hb hts (by decide +kernel) tyX7 tyX7_ok nmX7 hown hK hP hS (143) (by omega) f_33_0 rfl 16 (by decide) (hts (.fieldLink RX7 43 "PriceEdictModel" "toldOn" "[I") (by decide +kernel)) rfl hmn rfl (by decide +kernel) rfl rfl (Nat.le_of_ble_eq_true rfl) dX7_init_152 (fun H locs hP hS => ?_)
  have hP : px_H D b (156) (va_up cf_33 (143) (.inr (7, [.int 0, .int 0, .ref (b + 144), .ref (b + 145), .ref (b + 146), .ref (b + 147), .int 0, .int 0, .ref (b + 148), .ref (b + 149), .ref (b + 150), .ref (b + 151), .ref (b + 152), .ref (b + 153), .int 0, .ref (b + 154), .ref (b + 155), .int 0, .null, .int 0, .int 0, .int 0, .int 0, .int 0, .null, .null, .int 0, .null, .null, .null, .null, .null, .null, .null, .null, .null, .null, .null, .null, .int 0]))) H := hP
  obtain ⟨cf_34, e_34⟩ : ∃ z, z = va_up cf_33 (143) (.inr (7, [.int 0, .int 0, .ref (b + 144), .ref (b + 145), .ref (b + 146), .ref (b + 147), .int 0, .int 0, .ref (b + 148), .ref (b + 149), .ref (b + 150), .ref (b + 151), .ref (b + 152), .ref (b + 153), .int 0, .ref (b + 154), .ref (b + 155), .int 0, .null, .int 0, .int 0, .int 0, .int 0, .int 0, .null, .null, .int 0, .null, .null, .null, .null, .null, .null, .null, .null, .null, .null, .null, .null, .int 0])) := ⟨_, rfl⟩
  rw [← e_34] at hP
  have f_34_0 : cf_34 (143) = .inr (7, [.int 0, .int 0, .ref (b + 144), .ref (b + 145), .ref (b + 146), .ref (b + 147), .int 0, .int 0, .ref (b + 148), .ref (b + 149), .ref (b + 150), .ref (b + 151), .ref (b + 152), .ref (b + 153), .int 0, .ref (b + 154), .ref (b + 155), .int 0, .null, .int 0, .int 0, .int 0, .int 0, .int 0, .null, .null, .int 0, .null, .null, .null, .null, .null, .null, .null, .null, .null, .null, .null, .null, .int 0]) := by rw [e_34]; exact va_up_self _ _ _
  have f_34_1 : cf_34 (144) = .inl (c 0, 60, .inl fun _ => 0) := by rw [e_34, va_up_ne _ _ (by omega)]; exact f_33_1
  have f_34_2 : cf_34 (145) = .inl (c 0, 240, .inl fun _ => 0) := by rw [e_34, va_up_ne _ _ (by omega)]; exact f_33_2
  have f_34_3 : cf_34 (146) = .inl (c 0, 60, .inl fun _ => 0) := by rw [e_34, va_up_ne _ _ (by omega)]; exact f_33_3
  have f_34_4 : cf_34 (147) = .inl (c 0, 60, .inl fun _ => 0) := by rw [e_34, va_up_ne _ _ (by omega)]; exact f_33_4
  have f_34_5 : cf_34 (148) = .inl (c 0, 10, .inl (upd (upd (upd (upd (upd (upd (upd (upd (upd (upd (fun _ => 0) 0 1) 1 2) 2 4) 3 8) 4 16) 5 32) 6 64) 7 128) 8 256) 9 512)) := by rw [e_34, va_up_ne _ _ (by omega)]; exact f_33_5
  have f_34_6 : cf_34 (149) = .inl (c 0, 126, .inl fun _ => 0) := by rw [e_34, va_up_ne _ _ (by omega)]; exact f_33_6
  have f_34_7 : cf_34 (150) = .inl (c 0, 126, .inl fun _ => 0) := by rw [e_34, va_up_ne _ _ (by omega)]; exact f_33_7
  have f_34_8 : cf_34 (151) = .inl (c 0, 21, .inl fun _ => 0) := by rw [e_34, va_up_ne _ _ (by omega)]; exact f_33_8
  have f_34_9 : cf_34 (152) = .inl (c 0, 21, .inl fun _ => 0) := by rw [e_34, va_up_ne _ _ (by omega)]; exact f_33_9
  have f_34_10 : cf_34 (153) = .inl (c 0, 21, .inl fun _ => 0) := by rw [e_34, va_up_ne _ _ (by omega)]; exact f_33_10
  have f_34_11 : cf_34 (154) = .inl (c 0, 40, .inl fun _ => 0) := by rw [e_34, va_up_ne _ _ (by omega)]; exact f_33_11
  have f_34_12 : cf_34 (155) = .inl (c 0, 40, .inl fun _ => 0) := by rw [e_34, va_up_ne _ _ (by omega)]; exact f_33_12
  have g_34 : ∀ j, j < 143 → cf_34 j = cf j := fun j hj => by rw [e_34]; exact (va_up_ne _ _ (by omega)).trans (g_33 j hj)
  refine lv_aload_n hx hb dX7_init_155 rfl (lv_at hl 0 rfl) ?_
  refine lv_sipush (v := 400) hx hb dX7_init_156 (by decide) ?_
  refine px_newa (atype := .byte) (ty := .byte) (a0 := (400, .inl fun _ => 0)) (N' := 400) hx hb (hts (.arrayClass .byte) (by decide +kernel)) rfl hK hP hS 1 rfl (fun h => h) (fun _ => rfl) (by decide) (by decide) (by show 400 * 1 ≤ 536870912; omega) (Nat.le_of_ble_eq_true rfl) (Nat.le_of_ble_eq_true rfl) dX7_init_159 (fun H hP hS => ?_)
  have hP : px_H D b (157) (va_up cf_34 (156) (.inl (c 1, 400, .inl fun _ => 0))) H := hP
  obtain ⟨cf_35, e_35⟩ : ∃ z, z = va_up cf_34 (156) (.inl (c 1, 400, .inl fun _ => 0)) := ⟨_, rfl⟩
  rw [← e_35] at hP
  have f_35_0 : cf_35 (143) = .inr (7, [.int 0, .int 0, .ref (b + 144), .ref (b + 145), .ref (b + 146), .ref (b + 147), .int 0, .int 0, .ref (b + 148), .ref (b + 149), .ref (b + 150), .ref (b + 151), .ref (b + 152), .ref (b + 153), .int 0, .ref (b + 154), .ref (b + 155), .int 0, .null, .int 0, .int 0, .int 0, .int 0, .int 0, .null, .null, .int 0, .null, .null, .null, .null, .null, .null, .null, .null, .null, .null, .null, .null, .int 0]) := by rw [e_35, va_up_ne _ _ (by omega)]; exact f_34_0
  have f_35_1 : cf_35 (144) = .inl (c 0, 60, .inl fun _ => 0) := by rw [e_35, va_up_ne _ _ (by omega)]; exact f_34_1
  have f_35_2 : cf_35 (145) = .inl (c 0, 240, .inl fun _ => 0) := by rw [e_35, va_up_ne _ _ (by omega)]; exact f_34_2
  have f_35_3 : cf_35 (146) = .inl (c 0, 60, .inl fun _ => 0) := by rw [e_35, va_up_ne _ _ (by omega)]; exact f_34_3
  have f_35_4 : cf_35 (147) = .inl (c 0, 60, .inl fun _ => 0) := by rw [e_35, va_up_ne _ _ (by omega)]; exact f_34_4
  have f_35_5 : cf_35 (148) = .inl (c 0, 10, .inl (upd (upd (upd (upd (upd (upd (upd (upd (upd (upd (fun _ => 0) 0 1) 1 2) 2 4) 3 8) 4 16) 5 32) 6 64) 7 128) 8 256) 9 512)) := by rw [e_35, va_up_ne _ _ (by omega)]; exact f_34_5
  have f_35_6 : cf_35 (149) = .inl (c 0, 126, .inl fun _ => 0) := by rw [e_35, va_up_ne _ _ (by omega)]; exact f_34_6
  have f_35_7 : cf_35 (150) = .inl (c 0, 126, .inl fun _ => 0) := by rw [e_35, va_up_ne _ _ (by omega)]; exact f_34_7
  have f_35_8 : cf_35 (151) = .inl (c 0, 21, .inl fun _ => 0) := by rw [e_35, va_up_ne _ _ (by omega)]; exact f_34_8
  have f_35_9 : cf_35 (152) = .inl (c 0, 21, .inl fun _ => 0) := by rw [e_35, va_up_ne _ _ (by omega)]; exact f_34_9
  have f_35_10 : cf_35 (153) = .inl (c 0, 21, .inl fun _ => 0) := by rw [e_35, va_up_ne _ _ (by omega)]; exact f_34_10
  have f_35_11 : cf_35 (154) = .inl (c 0, 40, .inl fun _ => 0) := by rw [e_35, va_up_ne _ _ (by omega)]; exact f_34_11
  have f_35_12 : cf_35 (155) = .inl (c 0, 40, .inl fun _ => 0) := by rw [e_35, va_up_ne _ _ (by omega)]; exact f_34_12
  have f_35_13 : cf_35 (156) = .inl (c 1, 400, .inl fun _ => 0) := by rw [e_35]; exact va_up_self _ _ _
  have g_35 : ∀ j, j < 143 → cf_35 j = cf j := fun j hj => by rw [e_35]; exact (va_up_ne _ _ (by omega)).trans (g_34 j hj)
  refine px_putF (ty := (.array .byte)) (v := .ref (b + 156)) hx hb hts (by decide +kernel) tyX7 tyX7_ok nmX7 hown hK hP hS (143) (by omega) f_35_0 rfl 18 (by decide) (hts (.fieldLink RX7 46 "PriceEdictModel" "tape" "[B") (by decide +kernel)) rfl hmn rfl (by decide +kernel) rfl rfl (Nat.le_of_ble_eq_true rfl) dX7_init_161 (fun H locs hP hS => ?_)
  have hP : px_H D b (157) (va_up cf_35 (143) (.inr (7, [.int 0, .int 0, .ref (b + 144), .ref (b + 145), .ref (b + 146), .ref (b + 147), .int 0, .int 0, .ref (b + 148), .ref (b + 149), .ref (b + 150), .ref (b + 151), .ref (b + 152), .ref (b + 153), .int 0, .ref (b + 154), .ref (b + 155), .int 0, .ref (b + 156), .int 0, .int 0, .int 0, .int 0, .int 0, .null, .null, .int 0, .null, .null, .null, .null, .null, .null, .null, .null, .null, .null, .null, .null, .int 0]))) H := hP
  obtain ⟨cf_36, e_36⟩ : ∃ z, z = va_up cf_35 (143) (.inr (7, [.int 0, .int 0, .ref (b + 144), .ref (b + 145), .ref (b + 146), .ref (b + 147), .int 0, .int 0, .ref (b + 148), .ref (b + 149), .ref (b + 150), .ref (b + 151), .ref (b + 152), .ref (b + 153), .int 0, .ref (b + 154), .ref (b + 155), .int 0, .ref (b + 156), .int 0, .int 0, .int 0, .int 0, .int 0, .null, .null, .int 0, .null, .null, .null, .null, .null, .null, .null, .null, .null, .null, .null, .null, .int 0])) := ⟨_, rfl⟩
  rw [← e_36] at hP
  have f_36_0 : cf_36 (143) = .inr (7, [.int 0, .int 0, .ref (b + 144), .ref (b + 145), .ref (b + 146), .ref (b + 147), .int 0, .int 0, .ref (b + 148), .ref (b + 149), .ref (b + 150), .ref (b + 151), .ref (b + 152), .ref (b + 153), .int 0, .ref (b + 154), .ref (b + 155), .int 0, .ref (b + 156), .int 0, .int 0, .int 0, .int 0, .int 0, .null, .null, .int 0, .null, .null, .null, .null, .null, .null, .null, .null, .null, .null, .null, .null, .int 0]) := by rw [e_36]; exact va_up_self _ _ _
  have f_36_1 : cf_36 (144) = .inl (c 0, 60, .inl fun _ => 0) := by rw [e_36, va_up_ne _ _ (by omega)]; exact f_35_1
  have f_36_2 : cf_36 (145) = .inl (c 0, 240, .inl fun _ => 0) := by rw [e_36, va_up_ne _ _ (by omega)]; exact f_35_2
  have f_36_3 : cf_36 (146) = .inl (c 0, 60, .inl fun _ => 0) := by rw [e_36, va_up_ne _ _ (by omega)]; exact f_35_3
  have f_36_4 : cf_36 (147) = .inl (c 0, 60, .inl fun _ => 0) := by rw [e_36, va_up_ne _ _ (by omega)]; exact f_35_4
  have f_36_5 : cf_36 (148) = .inl (c 0, 10, .inl (upd (upd (upd (upd (upd (upd (upd (upd (upd (upd (fun _ => 0) 0 1) 1 2) 2 4) 3 8) 4 16) 5 32) 6 64) 7 128) 8 256) 9 512)) := by rw [e_36, va_up_ne _ _ (by omega)]; exact f_35_5
  have f_36_6 : cf_36 (149) = .inl (c 0, 126, .inl fun _ => 0) := by rw [e_36, va_up_ne _ _ (by omega)]; exact f_35_6
  have f_36_7 : cf_36 (150) = .inl (c 0, 126, .inl fun _ => 0) := by rw [e_36, va_up_ne _ _ (by omega)]; exact f_35_7
  have f_36_8 : cf_36 (151) = .inl (c 0, 21, .inl fun _ => 0) := by rw [e_36, va_up_ne _ _ (by omega)]; exact f_35_8
  have f_36_9 : cf_36 (152) = .inl (c 0, 21, .inl fun _ => 0) := by rw [e_36, va_up_ne _ _ (by omega)]; exact f_35_9
  have f_36_10 : cf_36 (153) = .inl (c 0, 21, .inl fun _ => 0) := by rw [e_36, va_up_ne _ _ (by omega)]; exact f_35_10
  have f_36_11 : cf_36 (154) = .inl (c 0, 40, .inl fun _ => 0) := by rw [e_36, va_up_ne _ _ (by omega)]; exact f_35_11
  have f_36_12 : cf_36 (155) = .inl (c 0, 40, .inl fun _ => 0) := by rw [e_36, va_up_ne _ _ (by omega)]; exact f_35_12
  have f_36_13 : cf_36 (156) = .inl (c 1, 400, .inl fun _ => 0) := by rw [e_36, va_up_ne _ _ (by omega)]; exact f_35_13
  have g_36 : ∀ j, j < 143 → cf_36 j = cf j := fun j hj => by rw [e_36]; exact (va_up_ne _ _ (by omega)).trans (g_35 j hj)
  refine lv_aload_n hx hb dX7_init_164 rfl (lv_at hl 0 rfl) ?_
  refine lv_iconst (v := (-1)) hx hb dX7_init_165 (by decide) ?_
  refine px_put (ty := .int) (v := .int (-1)) hx hb hts (by decide +kernel) tyX7 tyX7_ok nmX7 hown hK hP hS (143) (by omega) f_36_0 rfl 23 (by decide) (hts (.fieldLink RX7 50 "PriceEdictModel" "faultAt" "I") (by decide +kernel)) rfl (by decide +kernel) rfl rfl (Nat.le_of_ble_eq_true rfl) dX7_init_166 (fun H locs hP hS => ?_)
  have hP : px_H D b (157) (va_up cf_36 (143) (.inr (7, [.int 0, .int 0, .ref (b + 144), .ref (b + 145), .ref (b + 146), .ref (b + 147), .int 0, .int 0, .ref (b + 148), .ref (b + 149), .ref (b + 150), .ref (b + 151), .ref (b + 152), .ref (b + 153), .int 0, .ref (b + 154), .ref (b + 155), .int 0, .ref (b + 156), .int 0, .int 0, .int 0, .int 0, .int (-1), .null, .null, .int 0, .null, .null, .null, .null, .null, .null, .null, .null, .null, .null, .null, .null, .int 0]))) H := hP
  obtain ⟨cf_37, e_37⟩ : ∃ z, z = va_up cf_36 (143) (.inr (7, [.int 0, .int 0, .ref (b + 144), .ref (b + 145), .ref (b + 146), .ref (b + 147), .int 0, .int 0, .ref (b + 148), .ref (b + 149), .ref (b + 150), .ref (b + 151), .ref (b + 152), .ref (b + 153), .int 0, .ref (b + 154), .ref (b + 155), .int 0, .ref (b + 156), .int 0, .int 0, .int 0, .int 0, .int (-1), .null, .null, .int 0, .null, .null, .null, .null, .null, .null, .null, .null, .null, .null, .null, .null, .int 0])) := ⟨_, rfl⟩
  rw [← e_37] at hP
  have f_37_0 : cf_37 (143) = .inr (7, [.int 0, .int 0, .ref (b + 144), .ref (b + 145), .ref (b + 146), .ref (b + 147), .int 0, .int 0, .ref (b + 148), .ref (b + 149), .ref (b + 150), .ref (b + 151), .ref (b + 152), .ref (b + 153), .int 0, .ref (b + 154), .ref (b + 155), .int 0, .ref (b + 156), .int 0, .int 0, .int 0, .int 0, .int (-1), .null, .null, .int 0, .null, .null, .null, .null, .null, .null, .null, .null, .null, .null, .null, .null, .int 0]) := by rw [e_37]; exact va_up_self _ _ _
  have f_37_1 : cf_37 (144) = .inl (c 0, 60, .inl fun _ => 0) := by rw [e_37, va_up_ne _ _ (by omega)]; exact f_36_1
  have f_37_2 : cf_37 (145) = .inl (c 0, 240, .inl fun _ => 0) := by rw [e_37, va_up_ne _ _ (by omega)]; exact f_36_2
  have f_37_3 : cf_37 (146) = .inl (c 0, 60, .inl fun _ => 0) := by rw [e_37, va_up_ne _ _ (by omega)]; exact f_36_3
  have f_37_4 : cf_37 (147) = .inl (c 0, 60, .inl fun _ => 0) := by rw [e_37, va_up_ne _ _ (by omega)]; exact f_36_4
  have f_37_5 : cf_37 (148) = .inl (c 0, 10, .inl (upd (upd (upd (upd (upd (upd (upd (upd (upd (upd (fun _ => 0) 0 1) 1 2) 2 4) 3 8) 4 16) 5 32) 6 64) 7 128) 8 256) 9 512)) := by rw [e_37, va_up_ne _ _ (by omega)]; exact f_36_5
  have f_37_6 : cf_37 (149) = .inl (c 0, 126, .inl fun _ => 0) := by rw [e_37, va_up_ne _ _ (by omega)]; exact f_36_6
  have f_37_7 : cf_37 (150) = .inl (c 0, 126, .inl fun _ => 0) := by rw [e_37, va_up_ne _ _ (by omega)]; exact f_36_7
  have f_37_8 : cf_37 (151) = .inl (c 0, 21, .inl fun _ => 0) := by rw [e_37, va_up_ne _ _ (by omega)]; exact f_36_8
  have f_37_9 : cf_37 (152) = .inl (c 0, 21, .inl fun _ => 0) := by rw [e_37, va_up_ne _ _ (by omega)]; exact f_36_9
  have f_37_10 : cf_37 (153) = .inl (c 0, 21, .inl fun _ => 0) := by rw [e_37, va_up_ne _ _ (by omega)]; exact f_36_10
  have f_37_11 : cf_37 (154) = .inl (c 0, 40, .inl fun _ => 0) := by rw [e_37, va_up_ne _ _ (by omega)]; exact f_36_11
  have f_37_12 : cf_37 (155) = .inl (c 0, 40, .inl fun _ => 0) := by rw [e_37, va_up_ne _ _ (by omega)]; exact f_36_12
  have f_37_13 : cf_37 (156) = .inl (c 1, 400, .inl fun _ => 0) := by rw [e_37, va_up_ne _ _ (by omega)]; exact f_36_13
  have g_37 : ∀ j, j < 143 → cf_37 j = cf j := fun j hj => by rw [e_37]; exact (va_up_ne _ _ (by omega)).trans (g_36 j hj)
  refine lv_aload_n hx hb dX7_init_169 rfl (lv_at hl 0 rfl) ?_
  refine lv_iconst (v := 5) hx hb dX7_init_170 (by decide) ?_
  refine px_newa (atype := .int) (ty := .int) (a0 := (5, .inl fun _ => 0)) (N' := 5) hx hb (hts (.arrayClass .int) (by decide +kernel)) rfl hK hP hS 0 rfl (fun h => h) (fun _ => rfl) (by decide) (by decide) (by show 5 * 4 ≤ 536870912; omega) (Nat.le_of_ble_eq_true rfl) (Nat.le_of_ble_eq_true rfl) dX7_init_171 (fun H hP hS => ?_)
  have hP : px_H D b (158) (va_up cf_37 (157) (.inl (c 0, 5, .inl fun _ => 0))) H := hP
  obtain ⟨cf_38, e_38⟩ : ∃ z, z = va_up cf_37 (157) (.inl (c 0, 5, .inl fun _ => 0)) := ⟨_, rfl⟩
  rw [← e_38] at hP
  have f_38_0 : cf_38 (143) = .inr (7, [.int 0, .int 0, .ref (b + 144), .ref (b + 145), .ref (b + 146), .ref (b + 147), .int 0, .int 0, .ref (b + 148), .ref (b + 149), .ref (b + 150), .ref (b + 151), .ref (b + 152), .ref (b + 153), .int 0, .ref (b + 154), .ref (b + 155), .int 0, .ref (b + 156), .int 0, .int 0, .int 0, .int 0, .int (-1), .null, .null, .int 0, .null, .null, .null, .null, .null, .null, .null, .null, .null, .null, .null, .null, .int 0]) := by rw [e_38, va_up_ne _ _ (by omega)]; exact f_37_0
  have f_38_1 : cf_38 (144) = .inl (c 0, 60, .inl fun _ => 0) := by rw [e_38, va_up_ne _ _ (by omega)]; exact f_37_1
  have f_38_2 : cf_38 (145) = .inl (c 0, 240, .inl fun _ => 0) := by rw [e_38, va_up_ne _ _ (by omega)]; exact f_37_2
  have f_38_3 : cf_38 (146) = .inl (c 0, 60, .inl fun _ => 0) := by rw [e_38, va_up_ne _ _ (by omega)]; exact f_37_3
  have f_38_4 : cf_38 (147) = .inl (c 0, 60, .inl fun _ => 0) := by rw [e_38, va_up_ne _ _ (by omega)]; exact f_37_4
  have f_38_5 : cf_38 (148) = .inl (c 0, 10, .inl (upd (upd (upd (upd (upd (upd (upd (upd (upd (upd (fun _ => 0) 0 1) 1 2) 2 4) 3 8) 4 16) 5 32) 6 64) 7 128) 8 256) 9 512)) := by rw [e_38, va_up_ne _ _ (by omega)]; exact f_37_5
  have f_38_6 : cf_38 (149) = .inl (c 0, 126, .inl fun _ => 0) := by rw [e_38, va_up_ne _ _ (by omega)]; exact f_37_6
  have f_38_7 : cf_38 (150) = .inl (c 0, 126, .inl fun _ => 0) := by rw [e_38, va_up_ne _ _ (by omega)]; exact f_37_7
  have f_38_8 : cf_38 (151) = .inl (c 0, 21, .inl fun _ => 0) := by rw [e_38, va_up_ne _ _ (by omega)]; exact f_37_8
  have f_38_9 : cf_38 (152) = .inl (c 0, 21, .inl fun _ => 0) := by rw [e_38, va_up_ne _ _ (by omega)]; exact f_37_9
  have f_38_10 : cf_38 (153) = .inl (c 0, 21, .inl fun _ => 0) := by rw [e_38, va_up_ne _ _ (by omega)]; exact f_37_10
  have f_38_11 : cf_38 (154) = .inl (c 0, 40, .inl fun _ => 0) := by rw [e_38, va_up_ne _ _ (by omega)]; exact f_37_11
  have f_38_12 : cf_38 (155) = .inl (c 0, 40, .inl fun _ => 0) := by rw [e_38, va_up_ne _ _ (by omega)]; exact f_37_12
  have f_38_13 : cf_38 (156) = .inl (c 1, 400, .inl fun _ => 0) := by rw [e_38, va_up_ne _ _ (by omega)]; exact f_37_13
  have f_38_14 : cf_38 (157) = .inl (c 0, 5, .inl fun _ => 0) := by rw [e_38]; exact va_up_self _ _ _
  have g_38 : ∀ j, j < 143 → cf_38 j = cf j := fun j hj => by rw [e_38]; exact (va_up_ne _ _ (by omega)).trans (g_37 j hj)
  refine px_putF (ty := (.array .int)) (v := .ref (b + 157)) hx hb hts (by decide +kernel) tyX7 tyX7_ok nmX7 hown hK hP hS (143) (by omega) f_38_0 rfl 24 (by decide) (hts (.fieldLink RX7 54 "PriceEdictModel" "five" "[I") (by decide +kernel)) rfl hmn rfl (by decide +kernel) rfl rfl (Nat.le_of_ble_eq_true rfl) dX7_init_173 (fun H locs hP hS => ?_)
  have hP : px_H D b (158) (va_up cf_38 (143) (.inr (7, [.int 0, .int 0, .ref (b + 144), .ref (b + 145), .ref (b + 146), .ref (b + 147), .int 0, .int 0, .ref (b + 148), .ref (b + 149), .ref (b + 150), .ref (b + 151), .ref (b + 152), .ref (b + 153), .int 0, .ref (b + 154), .ref (b + 155), .int 0, .ref (b + 156), .int 0, .int 0, .int 0, .int 0, .int (-1), .ref (b + 157), .null, .int 0, .null, .null, .null, .null, .null, .null, .null, .null, .null, .null, .null, .null, .int 0]))) H := hP
  obtain ⟨cf_39, e_39⟩ : ∃ z, z = va_up cf_38 (143) (.inr (7, [.int 0, .int 0, .ref (b + 144), .ref (b + 145), .ref (b + 146), .ref (b + 147), .int 0, .int 0, .ref (b + 148), .ref (b + 149), .ref (b + 150), .ref (b + 151), .ref (b + 152), .ref (b + 153), .int 0, .ref (b + 154), .ref (b + 155), .int 0, .ref (b + 156), .int 0, .int 0, .int 0, .int 0, .int (-1), .ref (b + 157), .null, .int 0, .null, .null, .null, .null, .null, .null, .null, .null, .null, .null, .null, .null, .int 0])) := ⟨_, rfl⟩
  rw [← e_39] at hP
  have f_39_0 : cf_39 (143) = .inr (7, [.int 0, .int 0, .ref (b + 144), .ref (b + 145), .ref (b + 146), .ref (b + 147), .int 0, .int 0, .ref (b + 148), .ref (b + 149), .ref (b + 150), .ref (b + 151), .ref (b + 152), .ref (b + 153), .int 0, .ref (b + 154), .ref (b + 155), .int 0, .ref (b + 156), .int 0, .int 0, .int 0, .int 0, .int (-1), .ref (b + 157), .null, .int 0, .null, .null, .null, .null, .null, .null, .null, .null, .null, .null, .null, .null, .int 0]) := by rw [e_39]; exact va_up_self _ _ _
  have f_39_1 : cf_39 (144) = .inl (c 0, 60, .inl fun _ => 0) := by rw [e_39, va_up_ne _ _ (by omega)]; exact f_38_1
  have f_39_2 : cf_39 (145) = .inl (c 0, 240, .inl fun _ => 0) := by rw [e_39, va_up_ne _ _ (by omega)]; exact f_38_2
  have f_39_3 : cf_39 (146) = .inl (c 0, 60, .inl fun _ => 0) := by rw [e_39, va_up_ne _ _ (by omega)]; exact f_38_3
  have f_39_4 : cf_39 (147) = .inl (c 0, 60, .inl fun _ => 0) := by rw [e_39, va_up_ne _ _ (by omega)]; exact f_38_4
  have f_39_5 : cf_39 (148) = .inl (c 0, 10, .inl (upd (upd (upd (upd (upd (upd (upd (upd (upd (upd (fun _ => 0) 0 1) 1 2) 2 4) 3 8) 4 16) 5 32) 6 64) 7 128) 8 256) 9 512)) := by rw [e_39, va_up_ne _ _ (by omega)]; exact f_38_5
  have f_39_6 : cf_39 (149) = .inl (c 0, 126, .inl fun _ => 0) := by rw [e_39, va_up_ne _ _ (by omega)]; exact f_38_6
  have f_39_7 : cf_39 (150) = .inl (c 0, 126, .inl fun _ => 0) := by rw [e_39, va_up_ne _ _ (by omega)]; exact f_38_7
  have f_39_8 : cf_39 (151) = .inl (c 0, 21, .inl fun _ => 0) := by rw [e_39, va_up_ne _ _ (by omega)]; exact f_38_8
  have f_39_9 : cf_39 (152) = .inl (c 0, 21, .inl fun _ => 0) := by rw [e_39, va_up_ne _ _ (by omega)]; exact f_38_9
  have f_39_10 : cf_39 (153) = .inl (c 0, 21, .inl fun _ => 0) := by rw [e_39, va_up_ne _ _ (by omega)]; exact f_38_10
  have f_39_11 : cf_39 (154) = .inl (c 0, 40, .inl fun _ => 0) := by rw [e_39, va_up_ne _ _ (by omega)]; exact f_38_11
  have f_39_12 : cf_39 (155) = .inl (c 0, 40, .inl fun _ => 0) := by rw [e_39, va_up_ne _ _ (by omega)]; exact f_38_12
  have f_39_13 : cf_39 (156) = .inl (c 1, 400, .inl fun _ => 0) := by rw [e_39, va_up_ne _ _ (by omega)]; exact f_38_13
  have f_39_14 : cf_39 (157) = .inl (c 0, 5, .inl fun _ => 0) := by rw [e_39, va_up_ne _ _ (by omega)]; exact f_38_14
  have g_39 : ∀ j, j < 143 → cf_39 j = cf j := fun j hj => by rw [e_39]; exact (va_up_ne _ _ (by omega)).trans (g_38 j hj)
  refine lv_aload_n hx hb dX7_init_176 rfl (lv_at hl 0 rfl) ?_
  refine lv_bipush (v := 8) hx hb dX7_init_177 (by decide) ?_
  refine px_newa (atype := .int) (ty := .int) (a0 := (8, .inl fun _ => 0)) (N' := 8) hx hb (hts (.arrayClass .int) (by decide +kernel)) rfl hK hP hS 0 rfl (fun h => h) (fun _ => rfl) (by decide) (by decide) (by show 8 * 4 ≤ 536870912; omega) (Nat.le_of_ble_eq_true rfl) (Nat.le_of_ble_eq_true rfl) dX7_init_179 (fun H hP hS => ?_)
  have hP : px_H D b (159) (va_up cf_39 (158) (.inl (c 0, 8, .inl fun _ => 0))) H := hP
  obtain ⟨cf_40, e_40⟩ : ∃ z, z = va_up cf_39 (158) (.inl (c 0, 8, .inl fun _ => 0)) := ⟨_, rfl⟩
  rw [← e_40] at hP
  have f_40_0 : cf_40 (143) = .inr (7, [.int 0, .int 0, .ref (b + 144), .ref (b + 145), .ref (b + 146), .ref (b + 147), .int 0, .int 0, .ref (b + 148), .ref (b + 149), .ref (b + 150), .ref (b + 151), .ref (b + 152), .ref (b + 153), .int 0, .ref (b + 154), .ref (b + 155), .int 0, .ref (b + 156), .int 0, .int 0, .int 0, .int 0, .int (-1), .ref (b + 157), .null, .int 0, .null, .null, .null, .null, .null, .null, .null, .null, .null, .null, .null, .null, .int 0]) := by rw [e_40, va_up_ne _ _ (by omega)]; exact f_39_0
  have f_40_1 : cf_40 (144) = .inl (c 0, 60, .inl fun _ => 0) := by rw [e_40, va_up_ne _ _ (by omega)]; exact f_39_1
  have f_40_2 : cf_40 (145) = .inl (c 0, 240, .inl fun _ => 0) := by rw [e_40, va_up_ne _ _ (by omega)]; exact f_39_2
  have f_40_3 : cf_40 (146) = .inl (c 0, 60, .inl fun _ => 0) := by rw [e_40, va_up_ne _ _ (by omega)]; exact f_39_3
  have f_40_4 : cf_40 (147) = .inl (c 0, 60, .inl fun _ => 0) := by rw [e_40, va_up_ne _ _ (by omega)]; exact f_39_4
  have f_40_5 : cf_40 (148) = .inl (c 0, 10, .inl (upd (upd (upd (upd (upd (upd (upd (upd (upd (upd (fun _ => 0) 0 1) 1 2) 2 4) 3 8) 4 16) 5 32) 6 64) 7 128) 8 256) 9 512)) := by rw [e_40, va_up_ne _ _ (by omega)]; exact f_39_5
  have f_40_6 : cf_40 (149) = .inl (c 0, 126, .inl fun _ => 0) := by rw [e_40, va_up_ne _ _ (by omega)]; exact f_39_6
  have f_40_7 : cf_40 (150) = .inl (c 0, 126, .inl fun _ => 0) := by rw [e_40, va_up_ne _ _ (by omega)]; exact f_39_7
  have f_40_8 : cf_40 (151) = .inl (c 0, 21, .inl fun _ => 0) := by rw [e_40, va_up_ne _ _ (by omega)]; exact f_39_8
  have f_40_9 : cf_40 (152) = .inl (c 0, 21, .inl fun _ => 0) := by rw [e_40, va_up_ne _ _ (by omega)]; exact f_39_9
  have f_40_10 : cf_40 (153) = .inl (c 0, 21, .inl fun _ => 0) := by rw [e_40, va_up_ne _ _ (by omega)]; exact f_39_10
  have f_40_11 : cf_40 (154) = .inl (c 0, 40, .inl fun _ => 0) := by rw [e_40, va_up_ne _ _ (by omega)]; exact f_39_11
  have f_40_12 : cf_40 (155) = .inl (c 0, 40, .inl fun _ => 0) := by rw [e_40, va_up_ne _ _ (by omega)]; exact f_39_12
  have f_40_13 : cf_40 (156) = .inl (c 1, 400, .inl fun _ => 0) := by rw [e_40, va_up_ne _ _ (by omega)]; exact f_39_13
  have f_40_14 : cf_40 (157) = .inl (c 0, 5, .inl fun _ => 0) := by rw [e_40, va_up_ne _ _ (by omega)]; exact f_39_14
  have f_40_15 : cf_40 (158) = .inl (c 0, 8, .inl fun _ => 0) := by rw [e_40]; exact va_up_self _ _ _
  have g_40 : ∀ j, j < 143 → cf_40 j = cf j := fun j hj => by rw [e_40]; exact (va_up_ne _ _ (by omega)).trans (g_39 j hj)
  refine px_putF (ty := (.array .int)) (v := .ref (b + 158)) hx hb hts (by decide +kernel) tyX7 tyX7_ok nmX7 hown hK hP hS (143) (by omega) f_40_0 rfl 25 (by decide) (hts (.fieldLink RX7 57 "PriceEdictModel" "miles" "[I") (by decide +kernel)) rfl hmn rfl (by decide +kernel) rfl rfl (Nat.le_of_ble_eq_true rfl) dX7_init_181 (fun H locs hP hS => ?_)
  have hP : px_H D b (159) (va_up cf_40 (143) (.inr (7, [.int 0, .int 0, .ref (b + 144), .ref (b + 145), .ref (b + 146), .ref (b + 147), .int 0, .int 0, .ref (b + 148), .ref (b + 149), .ref (b + 150), .ref (b + 151), .ref (b + 152), .ref (b + 153), .int 0, .ref (b + 154), .ref (b + 155), .int 0, .ref (b + 156), .int 0, .int 0, .int 0, .int 0, .int (-1), .ref (b + 157), .ref (b + 158), .int 0, .null, .null, .null, .null, .null, .null, .null, .null, .null, .null, .null, .null, .int 0]))) H := hP
  obtain ⟨cf_41, e_41⟩ : ∃ z, z = va_up cf_40 (143) (.inr (7, [.int 0, .int 0, .ref (b + 144), .ref (b + 145), .ref (b + 146), .ref (b + 147), .int 0, .int 0, .ref (b + 148), .ref (b + 149), .ref (b + 150), .ref (b + 151), .ref (b + 152), .ref (b + 153), .int 0, .ref (b + 154), .ref (b + 155), .int 0, .ref (b + 156), .int 0, .int 0, .int 0, .int 0, .int (-1), .ref (b + 157), .ref (b + 158), .int 0, .null, .null, .null, .null, .null, .null, .null, .null, .null, .null, .null, .null, .int 0])) := ⟨_, rfl⟩
  rw [← e_41] at hP
  have f_41_0 : cf_41 (143) = .inr (7, [.int 0, .int 0, .ref (b + 144), .ref (b + 145), .ref (b + 146), .ref (b + 147), .int 0, .int 0, .ref (b + 148), .ref (b + 149), .ref (b + 150), .ref (b + 151), .ref (b + 152), .ref (b + 153), .int 0, .ref (b + 154), .ref (b + 155), .int 0, .ref (b + 156), .int 0, .int 0, .int 0, .int 0, .int (-1), .ref (b + 157), .ref (b + 158), .int 0, .null, .null, .null, .null, .null, .null, .null, .null, .null, .null, .null, .null, .int 0]) := by rw [e_41]; exact va_up_self _ _ _
  have f_41_1 : cf_41 (144) = .inl (c 0, 60, .inl fun _ => 0) := by rw [e_41, va_up_ne _ _ (by omega)]; exact f_40_1
  have f_41_2 : cf_41 (145) = .inl (c 0, 240, .inl fun _ => 0) := by rw [e_41, va_up_ne _ _ (by omega)]; exact f_40_2
  have f_41_3 : cf_41 (146) = .inl (c 0, 60, .inl fun _ => 0) := by rw [e_41, va_up_ne _ _ (by omega)]; exact f_40_3
  have f_41_4 : cf_41 (147) = .inl (c 0, 60, .inl fun _ => 0) := by rw [e_41, va_up_ne _ _ (by omega)]; exact f_40_4
  have f_41_5 : cf_41 (148) = .inl (c 0, 10, .inl (upd (upd (upd (upd (upd (upd (upd (upd (upd (upd (fun _ => 0) 0 1) 1 2) 2 4) 3 8) 4 16) 5 32) 6 64) 7 128) 8 256) 9 512)) := by rw [e_41, va_up_ne _ _ (by omega)]; exact f_40_5
  have f_41_6 : cf_41 (149) = .inl (c 0, 126, .inl fun _ => 0) := by rw [e_41, va_up_ne _ _ (by omega)]; exact f_40_6
  have f_41_7 : cf_41 (150) = .inl (c 0, 126, .inl fun _ => 0) := by rw [e_41, va_up_ne _ _ (by omega)]; exact f_40_7
  have f_41_8 : cf_41 (151) = .inl (c 0, 21, .inl fun _ => 0) := by rw [e_41, va_up_ne _ _ (by omega)]; exact f_40_8
  have f_41_9 : cf_41 (152) = .inl (c 0, 21, .inl fun _ => 0) := by rw [e_41, va_up_ne _ _ (by omega)]; exact f_40_9
  have f_41_10 : cf_41 (153) = .inl (c 0, 21, .inl fun _ => 0) := by rw [e_41, va_up_ne _ _ (by omega)]; exact f_40_10
  have f_41_11 : cf_41 (154) = .inl (c 0, 40, .inl fun _ => 0) := by rw [e_41, va_up_ne _ _ (by omega)]; exact f_40_11
  have f_41_12 : cf_41 (155) = .inl (c 0, 40, .inl fun _ => 0) := by rw [e_41, va_up_ne _ _ (by omega)]; exact f_40_12
  have f_41_13 : cf_41 (156) = .inl (c 1, 400, .inl fun _ => 0) := by rw [e_41, va_up_ne _ _ (by omega)]; exact f_40_13
  have f_41_14 : cf_41 (157) = .inl (c 0, 5, .inl fun _ => 0) := by rw [e_41, va_up_ne _ _ (by omega)]; exact f_40_14
  have f_41_15 : cf_41 (158) = .inl (c 0, 8, .inl fun _ => 0) := by rw [e_41, va_up_ne _ _ (by omega)]; exact f_40_15
  have g_41 : ∀ j, j < 143 → cf_41 j = cf j := fun j hj => by rw [e_41]; exact (va_up_ne _ _ (by omega)).trans (g_40 j hj)
  refine lv_aload_n hx hb dX7_init_184 rfl (lv_at hl 0 rfl) ?_
  refine lv_bipush (v := 48) hx hb dX7_init_185 (by decide) ?_
  refine px_newa (atype := .int) (ty := .int) (a0 := (48, .inl fun _ => 0)) (N' := 48) hx hb (hts (.arrayClass .int) (by decide +kernel)) rfl hK hP hS 0 rfl (fun h => h) (fun _ => rfl) (by decide) (by decide) (by show 48 * 4 ≤ 536870912; omega) (Nat.le_of_ble_eq_true rfl) (Nat.le_of_ble_eq_true rfl) dX7_init_187 (fun H hP hS => ?_)
  have hP : px_H D b (160) (va_up cf_41 (159) (.inl (c 0, 48, .inl fun _ => 0))) H := hP
  obtain ⟨cf_42, e_42⟩ : ∃ z, z = va_up cf_41 (159) (.inl (c 0, 48, .inl fun _ => 0)) := ⟨_, rfl⟩
  rw [← e_42] at hP
  have f_42_0 : cf_42 (143) = .inr (7, [.int 0, .int 0, .ref (b + 144), .ref (b + 145), .ref (b + 146), .ref (b + 147), .int 0, .int 0, .ref (b + 148), .ref (b + 149), .ref (b + 150), .ref (b + 151), .ref (b + 152), .ref (b + 153), .int 0, .ref (b + 154), .ref (b + 155), .int 0, .ref (b + 156), .int 0, .int 0, .int 0, .int 0, .int (-1), .ref (b + 157), .ref (b + 158), .int 0, .null, .null, .null, .null, .null, .null, .null, .null, .null, .null, .null, .null, .int 0]) := by rw [e_42, va_up_ne _ _ (by omega)]; exact f_41_0
  have f_42_1 : cf_42 (144) = .inl (c 0, 60, .inl fun _ => 0) := by rw [e_42, va_up_ne _ _ (by omega)]; exact f_41_1
  have f_42_2 : cf_42 (145) = .inl (c 0, 240, .inl fun _ => 0) := by rw [e_42, va_up_ne _ _ (by omega)]; exact f_41_2
  have f_42_3 : cf_42 (146) = .inl (c 0, 60, .inl fun _ => 0) := by rw [e_42, va_up_ne _ _ (by omega)]; exact f_41_3
  have f_42_4 : cf_42 (147) = .inl (c 0, 60, .inl fun _ => 0) := by rw [e_42, va_up_ne _ _ (by omega)]; exact f_41_4
  have f_42_5 : cf_42 (148) = .inl (c 0, 10, .inl (upd (upd (upd (upd (upd (upd (upd (upd (upd (upd (fun _ => 0) 0 1) 1 2) 2 4) 3 8) 4 16) 5 32) 6 64) 7 128) 8 256) 9 512)) := by rw [e_42, va_up_ne _ _ (by omega)]; exact f_41_5
  have f_42_6 : cf_42 (149) = .inl (c 0, 126, .inl fun _ => 0) := by rw [e_42, va_up_ne _ _ (by omega)]; exact f_41_6
  have f_42_7 : cf_42 (150) = .inl (c 0, 126, .inl fun _ => 0) := by rw [e_42, va_up_ne _ _ (by omega)]; exact f_41_7
  have f_42_8 : cf_42 (151) = .inl (c 0, 21, .inl fun _ => 0) := by rw [e_42, va_up_ne _ _ (by omega)]; exact f_41_8
  have f_42_9 : cf_42 (152) = .inl (c 0, 21, .inl fun _ => 0) := by rw [e_42, va_up_ne _ _ (by omega)]; exact f_41_9
  have f_42_10 : cf_42 (153) = .inl (c 0, 21, .inl fun _ => 0) := by rw [e_42, va_up_ne _ _ (by omega)]; exact f_41_10
  have f_42_11 : cf_42 (154) = .inl (c 0, 40, .inl fun _ => 0) := by rw [e_42, va_up_ne _ _ (by omega)]; exact f_41_11
  have f_42_12 : cf_42 (155) = .inl (c 0, 40, .inl fun _ => 0) := by rw [e_42, va_up_ne _ _ (by omega)]; exact f_41_12
  have f_42_13 : cf_42 (156) = .inl (c 1, 400, .inl fun _ => 0) := by rw [e_42, va_up_ne _ _ (by omega)]; exact f_41_13
  have f_42_14 : cf_42 (157) = .inl (c 0, 5, .inl fun _ => 0) := by rw [e_42, va_up_ne _ _ (by omega)]; exact f_41_14
  have f_42_15 : cf_42 (158) = .inl (c 0, 8, .inl fun _ => 0) := by rw [e_42, va_up_ne _ _ (by omega)]; exact f_41_15
  have f_42_16 : cf_42 (159) = .inl (c 0, 48, .inl fun _ => 0) := by rw [e_42]; exact va_up_self _ _ _
  have g_42 : ∀ j, j < 143 → cf_42 j = cf j := fun j hj => by rw [e_42]; exact (va_up_ne _ _ (by omega)).trans (g_41 j hj)
  refine px_putF (ty := (.array .int)) (v := .ref (b + 159)) hx hb hts (by decide +kernel) tyX7 tyX7_ok nmX7 hown hK hP hS (143) (by omega) f_42_0 rfl 27 (by decide) (hts (.fieldLink RX7 60 "PriceEdictModel" "cost" "[I") (by decide +kernel)) rfl hmn rfl (by decide +kernel) rfl rfl (Nat.le_of_ble_eq_true rfl) dX7_init_189 (fun H locs hP hS => ?_)
  have hP : px_H D b (160) (va_up cf_42 (143) (.inr (7, [.int 0, .int 0, .ref (b + 144), .ref (b + 145), .ref (b + 146), .ref (b + 147), .int 0, .int 0, .ref (b + 148), .ref (b + 149), .ref (b + 150), .ref (b + 151), .ref (b + 152), .ref (b + 153), .int 0, .ref (b + 154), .ref (b + 155), .int 0, .ref (b + 156), .int 0, .int 0, .int 0, .int 0, .int (-1), .ref (b + 157), .ref (b + 158), .int 0, .ref (b + 159), .null, .null, .null, .null, .null, .null, .null, .null, .null, .null, .null, .int 0]))) H := hP
  obtain ⟨cf_43, e_43⟩ : ∃ z, z = va_up cf_42 (143) (.inr (7, [.int 0, .int 0, .ref (b + 144), .ref (b + 145), .ref (b + 146), .ref (b + 147), .int 0, .int 0, .ref (b + 148), .ref (b + 149), .ref (b + 150), .ref (b + 151), .ref (b + 152), .ref (b + 153), .int 0, .ref (b + 154), .ref (b + 155), .int 0, .ref (b + 156), .int 0, .int 0, .int 0, .int 0, .int (-1), .ref (b + 157), .ref (b + 158), .int 0, .ref (b + 159), .null, .null, .null, .null, .null, .null, .null, .null, .null, .null, .null, .int 0])) := ⟨_, rfl⟩
  rw [← e_43] at hP
  have f_43_0 : cf_43 (143) = .inr (7, [.int 0, .int 0, .ref (b + 144), .ref (b + 145), .ref (b + 146), .ref (b + 147), .int 0, .int 0, .ref (b + 148), .ref (b + 149), .ref (b + 150), .ref (b + 151), .ref (b + 152), .ref (b + 153), .int 0, .ref (b + 154), .ref (b + 155), .int 0, .ref (b + 156), .int 0, .int 0, .int 0, .int 0, .int (-1), .ref (b + 157), .ref (b + 158), .int 0, .ref (b + 159), .null, .null, .null, .null, .null, .null, .null, .null, .null, .null, .null, .int 0]) := by rw [e_43]; exact va_up_self _ _ _
  have f_43_1 : cf_43 (144) = .inl (c 0, 60, .inl fun _ => 0) := by rw [e_43, va_up_ne _ _ (by omega)]; exact f_42_1
  have f_43_2 : cf_43 (145) = .inl (c 0, 240, .inl fun _ => 0) := by rw [e_43, va_up_ne _ _ (by omega)]; exact f_42_2
  have f_43_3 : cf_43 (146) = .inl (c 0, 60, .inl fun _ => 0) := by rw [e_43, va_up_ne _ _ (by omega)]; exact f_42_3
  have f_43_4 : cf_43 (147) = .inl (c 0, 60, .inl fun _ => 0) := by rw [e_43, va_up_ne _ _ (by omega)]; exact f_42_4
  have f_43_5 : cf_43 (148) = .inl (c 0, 10, .inl (upd (upd (upd (upd (upd (upd (upd (upd (upd (upd (fun _ => 0) 0 1) 1 2) 2 4) 3 8) 4 16) 5 32) 6 64) 7 128) 8 256) 9 512)) := by rw [e_43, va_up_ne _ _ (by omega)]; exact f_42_5
  have f_43_6 : cf_43 (149) = .inl (c 0, 126, .inl fun _ => 0) := by rw [e_43, va_up_ne _ _ (by omega)]; exact f_42_6
  have f_43_7 : cf_43 (150) = .inl (c 0, 126, .inl fun _ => 0) := by rw [e_43, va_up_ne _ _ (by omega)]; exact f_42_7
  have f_43_8 : cf_43 (151) = .inl (c 0, 21, .inl fun _ => 0) := by rw [e_43, va_up_ne _ _ (by omega)]; exact f_42_8
  have f_43_9 : cf_43 (152) = .inl (c 0, 21, .inl fun _ => 0) := by rw [e_43, va_up_ne _ _ (by omega)]; exact f_42_9
  have f_43_10 : cf_43 (153) = .inl (c 0, 21, .inl fun _ => 0) := by rw [e_43, va_up_ne _ _ (by omega)]; exact f_42_10
  have f_43_11 : cf_43 (154) = .inl (c 0, 40, .inl fun _ => 0) := by rw [e_43, va_up_ne _ _ (by omega)]; exact f_42_11
  have f_43_12 : cf_43 (155) = .inl (c 0, 40, .inl fun _ => 0) := by rw [e_43, va_up_ne _ _ (by omega)]; exact f_42_12
  have f_43_13 : cf_43 (156) = .inl (c 1, 400, .inl fun _ => 0) := by rw [e_43, va_up_ne _ _ (by omega)]; exact f_42_13
  have f_43_14 : cf_43 (157) = .inl (c 0, 5, .inl fun _ => 0) := by rw [e_43, va_up_ne _ _ (by omega)]; exact f_42_14
  have f_43_15 : cf_43 (158) = .inl (c 0, 8, .inl fun _ => 0) := by rw [e_43, va_up_ne _ _ (by omega)]; exact f_42_15
  have f_43_16 : cf_43 (159) = .inl (c 0, 48, .inl fun _ => 0) := by rw [e_43, va_up_ne _ _ (by omega)]; exact f_42_16
  have g_43 : ∀ j, j < 143 → cf_43 j = cf j := fun j hj => by rw [e_43]; exact (va_up_ne _ _ (by omega)).trans (g_42 j hj)
  refine lv_aload_n hx hb dX7_init_192 rfl (lv_at hl 0 rfl) ?_
  refine lv_bipush (v := 48) hx hb dX7_init_193 (by decide) ?_
  refine px_newa (atype := .int) (ty := .int) (a0 := (48, .inl fun _ => 0)) (N' := 48) hx hb (hts (.arrayClass .int) (by decide +kernel)) rfl hK hP hS 0 rfl (fun h => h) (fun _ => rfl) (by decide) (by decide) (by show 48 * 4 ≤ 536870912; omega) (Nat.le_of_ble_eq_true rfl) (Nat.le_of_ble_eq_true rfl) dX7_init_195 (fun H hP hS => ?_)
  have hP : px_H D b (161) (va_up cf_43 (160) (.inl (c 0, 48, .inl fun _ => 0))) H := hP
  obtain ⟨cf_44, e_44⟩ : ∃ z, z = va_up cf_43 (160) (.inl (c 0, 48, .inl fun _ => 0)) := ⟨_, rfl⟩
  rw [← e_44] at hP
  have f_44_0 : cf_44 (143) = .inr (7, [.int 0, .int 0, .ref (b + 144), .ref (b + 145), .ref (b + 146), .ref (b + 147), .int 0, .int 0, .ref (b + 148), .ref (b + 149), .ref (b + 150), .ref (b + 151), .ref (b + 152), .ref (b + 153), .int 0, .ref (b + 154), .ref (b + 155), .int 0, .ref (b + 156), .int 0, .int 0, .int 0, .int 0, .int (-1), .ref (b + 157), .ref (b + 158), .int 0, .ref (b + 159), .null, .null, .null, .null, .null, .null, .null, .null, .null, .null, .null, .int 0]) := by rw [e_44, va_up_ne _ _ (by omega)]; exact f_43_0
  have f_44_1 : cf_44 (144) = .inl (c 0, 60, .inl fun _ => 0) := by rw [e_44, va_up_ne _ _ (by omega)]; exact f_43_1
  have f_44_2 : cf_44 (145) = .inl (c 0, 240, .inl fun _ => 0) := by rw [e_44, va_up_ne _ _ (by omega)]; exact f_43_2
  have f_44_3 : cf_44 (146) = .inl (c 0, 60, .inl fun _ => 0) := by rw [e_44, va_up_ne _ _ (by omega)]; exact f_43_3
  have f_44_4 : cf_44 (147) = .inl (c 0, 60, .inl fun _ => 0) := by rw [e_44, va_up_ne _ _ (by omega)]; exact f_43_4
  have f_44_5 : cf_44 (148) = .inl (c 0, 10, .inl (upd (upd (upd (upd (upd (upd (upd (upd (upd (upd (fun _ => 0) 0 1) 1 2) 2 4) 3 8) 4 16) 5 32) 6 64) 7 128) 8 256) 9 512)) := by rw [e_44, va_up_ne _ _ (by omega)]; exact f_43_5
  have f_44_6 : cf_44 (149) = .inl (c 0, 126, .inl fun _ => 0) := by rw [e_44, va_up_ne _ _ (by omega)]; exact f_43_6
  have f_44_7 : cf_44 (150) = .inl (c 0, 126, .inl fun _ => 0) := by rw [e_44, va_up_ne _ _ (by omega)]; exact f_43_7
  have f_44_8 : cf_44 (151) = .inl (c 0, 21, .inl fun _ => 0) := by rw [e_44, va_up_ne _ _ (by omega)]; exact f_43_8
  have f_44_9 : cf_44 (152) = .inl (c 0, 21, .inl fun _ => 0) := by rw [e_44, va_up_ne _ _ (by omega)]; exact f_43_9
  have f_44_10 : cf_44 (153) = .inl (c 0, 21, .inl fun _ => 0) := by rw [e_44, va_up_ne _ _ (by omega)]; exact f_43_10
  have f_44_11 : cf_44 (154) = .inl (c 0, 40, .inl fun _ => 0) := by rw [e_44, va_up_ne _ _ (by omega)]; exact f_43_11
  have f_44_12 : cf_44 (155) = .inl (c 0, 40, .inl fun _ => 0) := by rw [e_44, va_up_ne _ _ (by omega)]; exact f_43_12
  have f_44_13 : cf_44 (156) = .inl (c 1, 400, .inl fun _ => 0) := by rw [e_44, va_up_ne _ _ (by omega)]; exact f_43_13
  have f_44_14 : cf_44 (157) = .inl (c 0, 5, .inl fun _ => 0) := by rw [e_44, va_up_ne _ _ (by omega)]; exact f_43_14
  have f_44_15 : cf_44 (158) = .inl (c 0, 8, .inl fun _ => 0) := by rw [e_44, va_up_ne _ _ (by omega)]; exact f_43_15
  have f_44_16 : cf_44 (159) = .inl (c 0, 48, .inl fun _ => 0) := by rw [e_44, va_up_ne _ _ (by omega)]; exact f_43_16
  have f_44_17 : cf_44 (160) = .inl (c 0, 48, .inl fun _ => 0) := by rw [e_44]; exact va_up_self _ _ _
  have g_44 : ∀ j, j < 143 → cf_44 j = cf j := fun j hj => by rw [e_44]; exact (va_up_ne _ _ (by omega)).trans (g_43 j hj)
  refine px_putF (ty := (.array .int)) (v := .ref (b + 160)) hx hb hts (by decide +kernel) tyX7 tyX7_ok nmX7 hown hK hP hS (143) (by omega) f_44_0 rfl 28 (by decide) (hts (.fieldLink RX7 63 "PriceEdictModel" "bid" "[I") (by decide +kernel)) rfl hmn rfl (by decide +kernel) rfl rfl (Nat.le_of_ble_eq_true rfl) dX7_init_197 (fun H locs hP hS => ?_)
  have hP : px_H D b (161) (va_up cf_44 (143) (.inr (7, [.int 0, .int 0, .ref (b + 144), .ref (b + 145), .ref (b + 146), .ref (b + 147), .int 0, .int 0, .ref (b + 148), .ref (b + 149), .ref (b + 150), .ref (b + 151), .ref (b + 152), .ref (b + 153), .int 0, .ref (b + 154), .ref (b + 155), .int 0, .ref (b + 156), .int 0, .int 0, .int 0, .int 0, .int (-1), .ref (b + 157), .ref (b + 158), .int 0, .ref (b + 159), .ref (b + 160), .null, .null, .null, .null, .null, .null, .null, .null, .null, .null, .int 0]))) H := hP
  obtain ⟨cf_45, e_45⟩ : ∃ z, z = va_up cf_44 (143) (.inr (7, [.int 0, .int 0, .ref (b + 144), .ref (b + 145), .ref (b + 146), .ref (b + 147), .int 0, .int 0, .ref (b + 148), .ref (b + 149), .ref (b + 150), .ref (b + 151), .ref (b + 152), .ref (b + 153), .int 0, .ref (b + 154), .ref (b + 155), .int 0, .ref (b + 156), .int 0, .int 0, .int 0, .int 0, .int (-1), .ref (b + 157), .ref (b + 158), .int 0, .ref (b + 159), .ref (b + 160), .null, .null, .null, .null, .null, .null, .null, .null, .null, .null, .int 0])) := ⟨_, rfl⟩
  rw [← e_45] at hP
  have f_45_0 : cf_45 (143) = .inr (7, [.int 0, .int 0, .ref (b + 144), .ref (b + 145), .ref (b + 146), .ref (b + 147), .int 0, .int 0, .ref (b + 148), .ref (b + 149), .ref (b + 150), .ref (b + 151), .ref (b + 152), .ref (b + 153), .int 0, .ref (b + 154), .ref (b + 155), .int 0, .ref (b + 156), .int 0, .int 0, .int 0, .int 0, .int (-1), .ref (b + 157), .ref (b + 158), .int 0, .ref (b + 159), .ref (b + 160), .null, .null, .null, .null, .null, .null, .null, .null, .null, .null, .int 0]) := by rw [e_45]; exact va_up_self _ _ _
  have f_45_1 : cf_45 (144) = .inl (c 0, 60, .inl fun _ => 0) := by rw [e_45, va_up_ne _ _ (by omega)]; exact f_44_1
  have f_45_2 : cf_45 (145) = .inl (c 0, 240, .inl fun _ => 0) := by rw [e_45, va_up_ne _ _ (by omega)]; exact f_44_2
  have f_45_3 : cf_45 (146) = .inl (c 0, 60, .inl fun _ => 0) := by rw [e_45, va_up_ne _ _ (by omega)]; exact f_44_3
  have f_45_4 : cf_45 (147) = .inl (c 0, 60, .inl fun _ => 0) := by rw [e_45, va_up_ne _ _ (by omega)]; exact f_44_4
  have f_45_5 : cf_45 (148) = .inl (c 0, 10, .inl (upd (upd (upd (upd (upd (upd (upd (upd (upd (upd (fun _ => 0) 0 1) 1 2) 2 4) 3 8) 4 16) 5 32) 6 64) 7 128) 8 256) 9 512)) := by rw [e_45, va_up_ne _ _ (by omega)]; exact f_44_5
  have f_45_6 : cf_45 (149) = .inl (c 0, 126, .inl fun _ => 0) := by rw [e_45, va_up_ne _ _ (by omega)]; exact f_44_6
  have f_45_7 : cf_45 (150) = .inl (c 0, 126, .inl fun _ => 0) := by rw [e_45, va_up_ne _ _ (by omega)]; exact f_44_7
  have f_45_8 : cf_45 (151) = .inl (c 0, 21, .inl fun _ => 0) := by rw [e_45, va_up_ne _ _ (by omega)]; exact f_44_8
  have f_45_9 : cf_45 (152) = .inl (c 0, 21, .inl fun _ => 0) := by rw [e_45, va_up_ne _ _ (by omega)]; exact f_44_9
  have f_45_10 : cf_45 (153) = .inl (c 0, 21, .inl fun _ => 0) := by rw [e_45, va_up_ne _ _ (by omega)]; exact f_44_10
  have f_45_11 : cf_45 (154) = .inl (c 0, 40, .inl fun _ => 0) := by rw [e_45, va_up_ne _ _ (by omega)]; exact f_44_11
  have f_45_12 : cf_45 (155) = .inl (c 0, 40, .inl fun _ => 0) := by rw [e_45, va_up_ne _ _ (by omega)]; exact f_44_12
  have f_45_13 : cf_45 (156) = .inl (c 1, 400, .inl fun _ => 0) := by rw [e_45, va_up_ne _ _ (by omega)]; exact f_44_13
  have f_45_14 : cf_45 (157) = .inl (c 0, 5, .inl fun _ => 0) := by rw [e_45, va_up_ne _ _ (by omega)]; exact f_44_14
  have f_45_15 : cf_45 (158) = .inl (c 0, 8, .inl fun _ => 0) := by rw [e_45, va_up_ne _ _ (by omega)]; exact f_44_15
  have f_45_16 : cf_45 (159) = .inl (c 0, 48, .inl fun _ => 0) := by rw [e_45, va_up_ne _ _ (by omega)]; exact f_44_16
  have f_45_17 : cf_45 (160) = .inl (c 0, 48, .inl fun _ => 0) := by rw [e_45, va_up_ne _ _ (by omega)]; exact f_44_17
  have g_45 : ∀ j, j < 143 → cf_45 j = cf j := fun j hj => by rw [e_45]; exact (va_up_ne _ _ (by omega)).trans (g_44 j hj)
  refine lv_aload_n hx hb dX7_init_200 rfl (lv_at hl 0 rfl) ?_
  refine lv_bipush (v := 48) hx hb dX7_init_201 (by decide) ?_
  refine px_newa (atype := .int) (ty := .int) (a0 := (48, .inl fun _ => 0)) (N' := 48) hx hb (hts (.arrayClass .int) (by decide +kernel)) rfl hK hP hS 0 rfl (fun h => h) (fun _ => rfl) (by decide) (by decide) (by show 48 * 4 ≤ 536870912; omega) (Nat.le_of_ble_eq_true rfl) (Nat.le_of_ble_eq_true rfl) dX7_init_203 (fun H hP hS => ?_)
  have hP : px_H D b (162) (va_up cf_45 (161) (.inl (c 0, 48, .inl fun _ => 0))) H := hP
  obtain ⟨cf_46, e_46⟩ : ∃ z, z = va_up cf_45 (161) (.inl (c 0, 48, .inl fun _ => 0)) := ⟨_, rfl⟩
  rw [← e_46] at hP
  have f_46_0 : cf_46 (143) = .inr (7, [.int 0, .int 0, .ref (b + 144), .ref (b + 145), .ref (b + 146), .ref (b + 147), .int 0, .int 0, .ref (b + 148), .ref (b + 149), .ref (b + 150), .ref (b + 151), .ref (b + 152), .ref (b + 153), .int 0, .ref (b + 154), .ref (b + 155), .int 0, .ref (b + 156), .int 0, .int 0, .int 0, .int 0, .int (-1), .ref (b + 157), .ref (b + 158), .int 0, .ref (b + 159), .ref (b + 160), .null, .null, .null, .null, .null, .null, .null, .null, .null, .null, .int 0]) := by rw [e_46, va_up_ne _ _ (by omega)]; exact f_45_0
  have f_46_1 : cf_46 (144) = .inl (c 0, 60, .inl fun _ => 0) := by rw [e_46, va_up_ne _ _ (by omega)]; exact f_45_1
  have f_46_2 : cf_46 (145) = .inl (c 0, 240, .inl fun _ => 0) := by rw [e_46, va_up_ne _ _ (by omega)]; exact f_45_2
  have f_46_3 : cf_46 (146) = .inl (c 0, 60, .inl fun _ => 0) := by rw [e_46, va_up_ne _ _ (by omega)]; exact f_45_3
  have f_46_4 : cf_46 (147) = .inl (c 0, 60, .inl fun _ => 0) := by rw [e_46, va_up_ne _ _ (by omega)]; exact f_45_4
  have f_46_5 : cf_46 (148) = .inl (c 0, 10, .inl (upd (upd (upd (upd (upd (upd (upd (upd (upd (upd (fun _ => 0) 0 1) 1 2) 2 4) 3 8) 4 16) 5 32) 6 64) 7 128) 8 256) 9 512)) := by rw [e_46, va_up_ne _ _ (by omega)]; exact f_45_5
  have f_46_6 : cf_46 (149) = .inl (c 0, 126, .inl fun _ => 0) := by rw [e_46, va_up_ne _ _ (by omega)]; exact f_45_6
  have f_46_7 : cf_46 (150) = .inl (c 0, 126, .inl fun _ => 0) := by rw [e_46, va_up_ne _ _ (by omega)]; exact f_45_7
  have f_46_8 : cf_46 (151) = .inl (c 0, 21, .inl fun _ => 0) := by rw [e_46, va_up_ne _ _ (by omega)]; exact f_45_8
  have f_46_9 : cf_46 (152) = .inl (c 0, 21, .inl fun _ => 0) := by rw [e_46, va_up_ne _ _ (by omega)]; exact f_45_9
  have f_46_10 : cf_46 (153) = .inl (c 0, 21, .inl fun _ => 0) := by rw [e_46, va_up_ne _ _ (by omega)]; exact f_45_10
  have f_46_11 : cf_46 (154) = .inl (c 0, 40, .inl fun _ => 0) := by rw [e_46, va_up_ne _ _ (by omega)]; exact f_45_11
  have f_46_12 : cf_46 (155) = .inl (c 0, 40, .inl fun _ => 0) := by rw [e_46, va_up_ne _ _ (by omega)]; exact f_45_12
  have f_46_13 : cf_46 (156) = .inl (c 1, 400, .inl fun _ => 0) := by rw [e_46, va_up_ne _ _ (by omega)]; exact f_45_13
  have f_46_14 : cf_46 (157) = .inl (c 0, 5, .inl fun _ => 0) := by rw [e_46, va_up_ne _ _ (by omega)]; exact f_45_14
  have f_46_15 : cf_46 (158) = .inl (c 0, 8, .inl fun _ => 0) := by rw [e_46, va_up_ne _ _ (by omega)]; exact f_45_15
  have f_46_16 : cf_46 (159) = .inl (c 0, 48, .inl fun _ => 0) := by rw [e_46, va_up_ne _ _ (by omega)]; exact f_45_16
  have f_46_17 : cf_46 (160) = .inl (c 0, 48, .inl fun _ => 0) := by rw [e_46, va_up_ne _ _ (by omega)]; exact f_45_17
  have f_46_18 : cf_46 (161) = .inl (c 0, 48, .inl fun _ => 0) := by rw [e_46]; exact va_up_self _ _ _
  have g_46 : ∀ j, j < 143 → cf_46 j = cf j := fun j hj => by rw [e_46]; exact (va_up_ne _ _ (by omega)).trans (g_45 j hj)
  refine px_putF (ty := (.array .int)) (v := .ref (b + 161)) hx hb hts (by decide +kernel) tyX7 tyX7_ok nmX7 hown hK hP hS (143) (by omega) f_46_0 rfl 29 (by decide) (hts (.fieldLink RX7 66 "PriceEdictModel" "supply" "[I") (by decide +kernel)) rfl hmn rfl (by decide +kernel) rfl rfl (Nat.le_of_ble_eq_true rfl) dX7_init_205 (fun H locs hP hS => ?_)
  have hP : px_H D b (162) (va_up cf_46 (143) (.inr (7, [.int 0, .int 0, .ref (b + 144), .ref (b + 145), .ref (b + 146), .ref (b + 147), .int 0, .int 0, .ref (b + 148), .ref (b + 149), .ref (b + 150), .ref (b + 151), .ref (b + 152), .ref (b + 153), .int 0, .ref (b + 154), .ref (b + 155), .int 0, .ref (b + 156), .int 0, .int 0, .int 0, .int 0, .int (-1), .ref (b + 157), .ref (b + 158), .int 0, .ref (b + 159), .ref (b + 160), .ref (b + 161), .null, .null, .null, .null, .null, .null, .null, .null, .null, .int 0]))) H := hP
  obtain ⟨cf_47, e_47⟩ : ∃ z, z = va_up cf_46 (143) (.inr (7, [.int 0, .int 0, .ref (b + 144), .ref (b + 145), .ref (b + 146), .ref (b + 147), .int 0, .int 0, .ref (b + 148), .ref (b + 149), .ref (b + 150), .ref (b + 151), .ref (b + 152), .ref (b + 153), .int 0, .ref (b + 154), .ref (b + 155), .int 0, .ref (b + 156), .int 0, .int 0, .int 0, .int 0, .int (-1), .ref (b + 157), .ref (b + 158), .int 0, .ref (b + 159), .ref (b + 160), .ref (b + 161), .null, .null, .null, .null, .null, .null, .null, .null, .null, .int 0])) := ⟨_, rfl⟩
  rw [← e_47] at hP
  have f_47_0 : cf_47 (143) = .inr (7, [.int 0, .int 0, .ref (b + 144), .ref (b + 145), .ref (b + 146), .ref (b + 147), .int 0, .int 0, .ref (b + 148), .ref (b + 149), .ref (b + 150), .ref (b + 151), .ref (b + 152), .ref (b + 153), .int 0, .ref (b + 154), .ref (b + 155), .int 0, .ref (b + 156), .int 0, .int 0, .int 0, .int 0, .int (-1), .ref (b + 157), .ref (b + 158), .int 0, .ref (b + 159), .ref (b + 160), .ref (b + 161), .null, .null, .null, .null, .null, .null, .null, .null, .null, .int 0]) := by rw [e_47]; exact va_up_self _ _ _
  have f_47_1 : cf_47 (144) = .inl (c 0, 60, .inl fun _ => 0) := by rw [e_47, va_up_ne _ _ (by omega)]; exact f_46_1
  have f_47_2 : cf_47 (145) = .inl (c 0, 240, .inl fun _ => 0) := by rw [e_47, va_up_ne _ _ (by omega)]; exact f_46_2
  have f_47_3 : cf_47 (146) = .inl (c 0, 60, .inl fun _ => 0) := by rw [e_47, va_up_ne _ _ (by omega)]; exact f_46_3
  have f_47_4 : cf_47 (147) = .inl (c 0, 60, .inl fun _ => 0) := by rw [e_47, va_up_ne _ _ (by omega)]; exact f_46_4
  have f_47_5 : cf_47 (148) = .inl (c 0, 10, .inl (upd (upd (upd (upd (upd (upd (upd (upd (upd (upd (fun _ => 0) 0 1) 1 2) 2 4) 3 8) 4 16) 5 32) 6 64) 7 128) 8 256) 9 512)) := by rw [e_47, va_up_ne _ _ (by omega)]; exact f_46_5
  have f_47_6 : cf_47 (149) = .inl (c 0, 126, .inl fun _ => 0) := by rw [e_47, va_up_ne _ _ (by omega)]; exact f_46_6
  have f_47_7 : cf_47 (150) = .inl (c 0, 126, .inl fun _ => 0) := by rw [e_47, va_up_ne _ _ (by omega)]; exact f_46_7
  have f_47_8 : cf_47 (151) = .inl (c 0, 21, .inl fun _ => 0) := by rw [e_47, va_up_ne _ _ (by omega)]; exact f_46_8
  have f_47_9 : cf_47 (152) = .inl (c 0, 21, .inl fun _ => 0) := by rw [e_47, va_up_ne _ _ (by omega)]; exact f_46_9
  have f_47_10 : cf_47 (153) = .inl (c 0, 21, .inl fun _ => 0) := by rw [e_47, va_up_ne _ _ (by omega)]; exact f_46_10
  have f_47_11 : cf_47 (154) = .inl (c 0, 40, .inl fun _ => 0) := by rw [e_47, va_up_ne _ _ (by omega)]; exact f_46_11
  have f_47_12 : cf_47 (155) = .inl (c 0, 40, .inl fun _ => 0) := by rw [e_47, va_up_ne _ _ (by omega)]; exact f_46_12
  have f_47_13 : cf_47 (156) = .inl (c 1, 400, .inl fun _ => 0) := by rw [e_47, va_up_ne _ _ (by omega)]; exact f_46_13
  have f_47_14 : cf_47 (157) = .inl (c 0, 5, .inl fun _ => 0) := by rw [e_47, va_up_ne _ _ (by omega)]; exact f_46_14
  have f_47_15 : cf_47 (158) = .inl (c 0, 8, .inl fun _ => 0) := by rw [e_47, va_up_ne _ _ (by omega)]; exact f_46_15
  have f_47_16 : cf_47 (159) = .inl (c 0, 48, .inl fun _ => 0) := by rw [e_47, va_up_ne _ _ (by omega)]; exact f_46_16
  have f_47_17 : cf_47 (160) = .inl (c 0, 48, .inl fun _ => 0) := by rw [e_47, va_up_ne _ _ (by omega)]; exact f_46_17
  have f_47_18 : cf_47 (161) = .inl (c 0, 48, .inl fun _ => 0) := by rw [e_47, va_up_ne _ _ (by omega)]; exact f_46_18
  have g_47 : ∀ j, j < 143 → cf_47 j = cf j := fun j hj => by rw [e_47]; exact (va_up_ne _ _ (by omega)).trans (g_46 j hj)
  refine lv_aload_n hx hb dX7_init_208 rfl (lv_at hl 0 rfl) ?_
  refine lv_bipush (v := 48) hx hb dX7_init_209 (by decide) ?_
  refine px_newa (atype := .int) (ty := .int) (a0 := (48, .inl fun _ => 0)) (N' := 48) hx hb (hts (.arrayClass .int) (by decide +kernel)) rfl hK hP hS 0 rfl (fun h => h) (fun _ => rfl) (by decide) (by decide) (by show 48 * 4 ≤ 536870912; omega) (Nat.le_of_ble_eq_true rfl) (Nat.le_of_ble_eq_true rfl) dX7_init_211 (fun H hP hS => ?_)
  have hP : px_H D b (163) (va_up cf_47 (162) (.inl (c 0, 48, .inl fun _ => 0))) H := hP
  obtain ⟨cf_48, e_48⟩ : ∃ z, z = va_up cf_47 (162) (.inl (c 0, 48, .inl fun _ => 0)) := ⟨_, rfl⟩
  rw [← e_48] at hP
  have f_48_0 : cf_48 (143) = .inr (7, [.int 0, .int 0, .ref (b + 144), .ref (b + 145), .ref (b + 146), .ref (b + 147), .int 0, .int 0, .ref (b + 148), .ref (b + 149), .ref (b + 150), .ref (b + 151), .ref (b + 152), .ref (b + 153), .int 0, .ref (b + 154), .ref (b + 155), .int 0, .ref (b + 156), .int 0, .int 0, .int 0, .int 0, .int (-1), .ref (b + 157), .ref (b + 158), .int 0, .ref (b + 159), .ref (b + 160), .ref (b + 161), .null, .null, .null, .null, .null, .null, .null, .null, .null, .int 0]) := by rw [e_48, va_up_ne _ _ (by omega)]; exact f_47_0
  have f_48_1 : cf_48 (144) = .inl (c 0, 60, .inl fun _ => 0) := by rw [e_48, va_up_ne _ _ (by omega)]; exact f_47_1
  have f_48_2 : cf_48 (145) = .inl (c 0, 240, .inl fun _ => 0) := by rw [e_48, va_up_ne _ _ (by omega)]; exact f_47_2
  have f_48_3 : cf_48 (146) = .inl (c 0, 60, .inl fun _ => 0) := by rw [e_48, va_up_ne _ _ (by omega)]; exact f_47_3
  have f_48_4 : cf_48 (147) = .inl (c 0, 60, .inl fun _ => 0) := by rw [e_48, va_up_ne _ _ (by omega)]; exact f_47_4
  have f_48_5 : cf_48 (148) = .inl (c 0, 10, .inl (upd (upd (upd (upd (upd (upd (upd (upd (upd (upd (fun _ => 0) 0 1) 1 2) 2 4) 3 8) 4 16) 5 32) 6 64) 7 128) 8 256) 9 512)) := by rw [e_48, va_up_ne _ _ (by omega)]; exact f_47_5
  have f_48_6 : cf_48 (149) = .inl (c 0, 126, .inl fun _ => 0) := by rw [e_48, va_up_ne _ _ (by omega)]; exact f_47_6
  have f_48_7 : cf_48 (150) = .inl (c 0, 126, .inl fun _ => 0) := by rw [e_48, va_up_ne _ _ (by omega)]; exact f_47_7
  have f_48_8 : cf_48 (151) = .inl (c 0, 21, .inl fun _ => 0) := by rw [e_48, va_up_ne _ _ (by omega)]; exact f_47_8
  have f_48_9 : cf_48 (152) = .inl (c 0, 21, .inl fun _ => 0) := by rw [e_48, va_up_ne _ _ (by omega)]; exact f_47_9
  have f_48_10 : cf_48 (153) = .inl (c 0, 21, .inl fun _ => 0) := by rw [e_48, va_up_ne _ _ (by omega)]; exact f_47_10
  have f_48_11 : cf_48 (154) = .inl (c 0, 40, .inl fun _ => 0) := by rw [e_48, va_up_ne _ _ (by omega)]; exact f_47_11
  have f_48_12 : cf_48 (155) = .inl (c 0, 40, .inl fun _ => 0) := by rw [e_48, va_up_ne _ _ (by omega)]; exact f_47_12
  have f_48_13 : cf_48 (156) = .inl (c 1, 400, .inl fun _ => 0) := by rw [e_48, va_up_ne _ _ (by omega)]; exact f_47_13
  have f_48_14 : cf_48 (157) = .inl (c 0, 5, .inl fun _ => 0) := by rw [e_48, va_up_ne _ _ (by omega)]; exact f_47_14
  have f_48_15 : cf_48 (158) = .inl (c 0, 8, .inl fun _ => 0) := by rw [e_48, va_up_ne _ _ (by omega)]; exact f_47_15
  have f_48_16 : cf_48 (159) = .inl (c 0, 48, .inl fun _ => 0) := by rw [e_48, va_up_ne _ _ (by omega)]; exact f_47_16
  have f_48_17 : cf_48 (160) = .inl (c 0, 48, .inl fun _ => 0) := by rw [e_48, va_up_ne _ _ (by omega)]; exact f_47_17
  have f_48_18 : cf_48 (161) = .inl (c 0, 48, .inl fun _ => 0) := by rw [e_48, va_up_ne _ _ (by omega)]; exact f_47_18
  have f_48_19 : cf_48 (162) = .inl (c 0, 48, .inl fun _ => 0) := by rw [e_48]; exact va_up_self _ _ _
  have g_48 : ∀ j, j < 143 → cf_48 j = cf j := fun j hj => by rw [e_48]; exact (va_up_ne _ _ (by omega)).trans (g_47 j hj)
  refine px_putF (ty := (.array .int)) (v := .ref (b + 162)) hx hb hts (by decide +kernel) tyX7 tyX7_ok nmX7 hown hK hP hS (143) (by omega) f_48_0 rfl 30 (by decide) (hts (.fieldLink RX7 69 "PriceEdictModel" "want" "[I") (by decide +kernel)) rfl hmn rfl (by decide +kernel) rfl rfl (Nat.le_of_ble_eq_true rfl) dX7_init_213 (fun H locs hP hS => ?_)
  have hP : px_H D b (163) (va_up cf_48 (143) (.inr (7, [.int 0, .int 0, .ref (b + 144), .ref (b + 145), .ref (b + 146), .ref (b + 147), .int 0, .int 0, .ref (b + 148), .ref (b + 149), .ref (b + 150), .ref (b + 151), .ref (b + 152), .ref (b + 153), .int 0, .ref (b + 154), .ref (b + 155), .int 0, .ref (b + 156), .int 0, .int 0, .int 0, .int 0, .int (-1), .ref (b + 157), .ref (b + 158), .int 0, .ref (b + 159), .ref (b + 160), .ref (b + 161), .ref (b + 162), .null, .null, .null, .null, .null, .null, .null, .null, .int 0]))) H := hP
  obtain ⟨cf_49, e_49⟩ : ∃ z, z = va_up cf_48 (143) (.inr (7, [.int 0, .int 0, .ref (b + 144), .ref (b + 145), .ref (b + 146), .ref (b + 147), .int 0, .int 0, .ref (b + 148), .ref (b + 149), .ref (b + 150), .ref (b + 151), .ref (b + 152), .ref (b + 153), .int 0, .ref (b + 154), .ref (b + 155), .int 0, .ref (b + 156), .int 0, .int 0, .int 0, .int 0, .int (-1), .ref (b + 157), .ref (b + 158), .int 0, .ref (b + 159), .ref (b + 160), .ref (b + 161), .ref (b + 162), .null, .null, .null, .null, .null, .null, .null, .null, .int 0])) := ⟨_, rfl⟩
  rw [← e_49] at hP
  have f_49_0 : cf_49 (143) = .inr (7, [.int 0, .int 0, .ref (b + 144), .ref (b + 145), .ref (b + 146), .ref (b + 147), .int 0, .int 0, .ref (b + 148), .ref (b + 149), .ref (b + 150), .ref (b + 151), .ref (b + 152), .ref (b + 153), .int 0, .ref (b + 154), .ref (b + 155), .int 0, .ref (b + 156), .int 0, .int 0, .int 0, .int 0, .int (-1), .ref (b + 157), .ref (b + 158), .int 0, .ref (b + 159), .ref (b + 160), .ref (b + 161), .ref (b + 162), .null, .null, .null, .null, .null, .null, .null, .null, .int 0]) := by rw [e_49]; exact va_up_self _ _ _
  have f_49_1 : cf_49 (144) = .inl (c 0, 60, .inl fun _ => 0) := by rw [e_49, va_up_ne _ _ (by omega)]; exact f_48_1
  have f_49_2 : cf_49 (145) = .inl (c 0, 240, .inl fun _ => 0) := by rw [e_49, va_up_ne _ _ (by omega)]; exact f_48_2
  have f_49_3 : cf_49 (146) = .inl (c 0, 60, .inl fun _ => 0) := by rw [e_49, va_up_ne _ _ (by omega)]; exact f_48_3
  have f_49_4 : cf_49 (147) = .inl (c 0, 60, .inl fun _ => 0) := by rw [e_49, va_up_ne _ _ (by omega)]; exact f_48_4
  have f_49_5 : cf_49 (148) = .inl (c 0, 10, .inl (upd (upd (upd (upd (upd (upd (upd (upd (upd (upd (fun _ => 0) 0 1) 1 2) 2 4) 3 8) 4 16) 5 32) 6 64) 7 128) 8 256) 9 512)) := by rw [e_49, va_up_ne _ _ (by omega)]; exact f_48_5
  have f_49_6 : cf_49 (149) = .inl (c 0, 126, .inl fun _ => 0) := by rw [e_49, va_up_ne _ _ (by omega)]; exact f_48_6
  have f_49_7 : cf_49 (150) = .inl (c 0, 126, .inl fun _ => 0) := by rw [e_49, va_up_ne _ _ (by omega)]; exact f_48_7
  have f_49_8 : cf_49 (151) = .inl (c 0, 21, .inl fun _ => 0) := by rw [e_49, va_up_ne _ _ (by omega)]; exact f_48_8
  have f_49_9 : cf_49 (152) = .inl (c 0, 21, .inl fun _ => 0) := by rw [e_49, va_up_ne _ _ (by omega)]; exact f_48_9
  have f_49_10 : cf_49 (153) = .inl (c 0, 21, .inl fun _ => 0) := by rw [e_49, va_up_ne _ _ (by omega)]; exact f_48_10
  have f_49_11 : cf_49 (154) = .inl (c 0, 40, .inl fun _ => 0) := by rw [e_49, va_up_ne _ _ (by omega)]; exact f_48_11
  have f_49_12 : cf_49 (155) = .inl (c 0, 40, .inl fun _ => 0) := by rw [e_49, va_up_ne _ _ (by omega)]; exact f_48_12
  have f_49_13 : cf_49 (156) = .inl (c 1, 400, .inl fun _ => 0) := by rw [e_49, va_up_ne _ _ (by omega)]; exact f_48_13
  have f_49_14 : cf_49 (157) = .inl (c 0, 5, .inl fun _ => 0) := by rw [e_49, va_up_ne _ _ (by omega)]; exact f_48_14
  have f_49_15 : cf_49 (158) = .inl (c 0, 8, .inl fun _ => 0) := by rw [e_49, va_up_ne _ _ (by omega)]; exact f_48_15
  have f_49_16 : cf_49 (159) = .inl (c 0, 48, .inl fun _ => 0) := by rw [e_49, va_up_ne _ _ (by omega)]; exact f_48_16
  have f_49_17 : cf_49 (160) = .inl (c 0, 48, .inl fun _ => 0) := by rw [e_49, va_up_ne _ _ (by omega)]; exact f_48_17
  have f_49_18 : cf_49 (161) = .inl (c 0, 48, .inl fun _ => 0) := by rw [e_49, va_up_ne _ _ (by omega)]; exact f_48_18
  have f_49_19 : cf_49 (162) = .inl (c 0, 48, .inl fun _ => 0) := by rw [e_49, va_up_ne _ _ (by omega)]; exact f_48_19
  have g_49 : ∀ j, j < 143 → cf_49 j = cf j := fun j hj => by rw [e_49]; exact (va_up_ne _ _ (by omega)).trans (g_48 j hj)
  refine lv_aload_n hx hb dX7_init_216 rfl (lv_at hl 0 rfl) ?_
  refine lv_bipush (v := 48) hx hb dX7_init_217 (by decide) ?_
  refine px_newa (atype := .int) (ty := .int) (a0 := (48, .inl fun _ => 0)) (N' := 48) hx hb (hts (.arrayClass .int) (by decide +kernel)) rfl hK hP hS 0 rfl (fun h => h) (fun _ => rfl) (by decide) (by decide) (by show 48 * 4 ≤ 536870912; omega) (Nat.le_of_ble_eq_true rfl) (Nat.le_of_ble_eq_true rfl) dX7_init_219 (fun H hP hS => ?_)
  have hP : px_H D b (164) (va_up cf_49 (163) (.inl (c 0, 48, .inl fun _ => 0))) H := hP
  obtain ⟨cf_50, e_50⟩ : ∃ z, z = va_up cf_49 (163) (.inl (c 0, 48, .inl fun _ => 0)) := ⟨_, rfl⟩
  rw [← e_50] at hP
  have f_50_0 : cf_50 (143) = .inr (7, [.int 0, .int 0, .ref (b + 144), .ref (b + 145), .ref (b + 146), .ref (b + 147), .int 0, .int 0, .ref (b + 148), .ref (b + 149), .ref (b + 150), .ref (b + 151), .ref (b + 152), .ref (b + 153), .int 0, .ref (b + 154), .ref (b + 155), .int 0, .ref (b + 156), .int 0, .int 0, .int 0, .int 0, .int (-1), .ref (b + 157), .ref (b + 158), .int 0, .ref (b + 159), .ref (b + 160), .ref (b + 161), .ref (b + 162), .null, .null, .null, .null, .null, .null, .null, .null, .int 0]) := by rw [e_50, va_up_ne _ _ (by omega)]; exact f_49_0
  have f_50_1 : cf_50 (144) = .inl (c 0, 60, .inl fun _ => 0) := by rw [e_50, va_up_ne _ _ (by omega)]; exact f_49_1
  have f_50_2 : cf_50 (145) = .inl (c 0, 240, .inl fun _ => 0) := by rw [e_50, va_up_ne _ _ (by omega)]; exact f_49_2
  have f_50_3 : cf_50 (146) = .inl (c 0, 60, .inl fun _ => 0) := by rw [e_50, va_up_ne _ _ (by omega)]; exact f_49_3
  have f_50_4 : cf_50 (147) = .inl (c 0, 60, .inl fun _ => 0) := by rw [e_50, va_up_ne _ _ (by omega)]; exact f_49_4
  have f_50_5 : cf_50 (148) = .inl (c 0, 10, .inl (upd (upd (upd (upd (upd (upd (upd (upd (upd (upd (fun _ => 0) 0 1) 1 2) 2 4) 3 8) 4 16) 5 32) 6 64) 7 128) 8 256) 9 512)) := by rw [e_50, va_up_ne _ _ (by omega)]; exact f_49_5
  have f_50_6 : cf_50 (149) = .inl (c 0, 126, .inl fun _ => 0) := by rw [e_50, va_up_ne _ _ (by omega)]; exact f_49_6
  have f_50_7 : cf_50 (150) = .inl (c 0, 126, .inl fun _ => 0) := by rw [e_50, va_up_ne _ _ (by omega)]; exact f_49_7
  have f_50_8 : cf_50 (151) = .inl (c 0, 21, .inl fun _ => 0) := by rw [e_50, va_up_ne _ _ (by omega)]; exact f_49_8
  have f_50_9 : cf_50 (152) = .inl (c 0, 21, .inl fun _ => 0) := by rw [e_50, va_up_ne _ _ (by omega)]; exact f_49_9
  have f_50_10 : cf_50 (153) = .inl (c 0, 21, .inl fun _ => 0) := by rw [e_50, va_up_ne _ _ (by omega)]; exact f_49_10
  have f_50_11 : cf_50 (154) = .inl (c 0, 40, .inl fun _ => 0) := by rw [e_50, va_up_ne _ _ (by omega)]; exact f_49_11
  have f_50_12 : cf_50 (155) = .inl (c 0, 40, .inl fun _ => 0) := by rw [e_50, va_up_ne _ _ (by omega)]; exact f_49_12
  have f_50_13 : cf_50 (156) = .inl (c 1, 400, .inl fun _ => 0) := by rw [e_50, va_up_ne _ _ (by omega)]; exact f_49_13
  have f_50_14 : cf_50 (157) = .inl (c 0, 5, .inl fun _ => 0) := by rw [e_50, va_up_ne _ _ (by omega)]; exact f_49_14
  have f_50_15 : cf_50 (158) = .inl (c 0, 8, .inl fun _ => 0) := by rw [e_50, va_up_ne _ _ (by omega)]; exact f_49_15
  have f_50_16 : cf_50 (159) = .inl (c 0, 48, .inl fun _ => 0) := by rw [e_50, va_up_ne _ _ (by omega)]; exact f_49_16
  have f_50_17 : cf_50 (160) = .inl (c 0, 48, .inl fun _ => 0) := by rw [e_50, va_up_ne _ _ (by omega)]; exact f_49_17
  have f_50_18 : cf_50 (161) = .inl (c 0, 48, .inl fun _ => 0) := by rw [e_50, va_up_ne _ _ (by omega)]; exact f_49_18
  have f_50_19 : cf_50 (162) = .inl (c 0, 48, .inl fun _ => 0) := by rw [e_50, va_up_ne _ _ (by omega)]; exact f_49_19
  have f_50_20 : cf_50 (163) = .inl (c 0, 48, .inl fun _ => 0) := by rw [e_50]; exact va_up_self _ _ _
  have g_50 : ∀ j, j < 143 → cf_50 j = cf j := fun j hj => by rw [e_50]; exact (va_up_ne _ _ (by omega)).trans (g_49 j hj)
  refine px_putF (ty := (.array .int)) (v := .ref (b + 163)) hx hb hts (by decide +kernel) tyX7 tyX7_ok nmX7 hown hK hP hS (143) (by omega) f_50_0 rfl 31 (by decide) (hts (.fieldLink RX7 72 "PriceEdictModel" "stock" "[I") (by decide +kernel)) rfl hmn rfl (by decide +kernel) rfl rfl (Nat.le_of_ble_eq_true rfl) dX7_init_221 (fun H locs hP hS => ?_)
  have hP : px_H D b (164) (va_up cf_50 (143) (.inr (7, [.int 0, .int 0, .ref (b + 144), .ref (b + 145), .ref (b + 146), .ref (b + 147), .int 0, .int 0, .ref (b + 148), .ref (b + 149), .ref (b + 150), .ref (b + 151), .ref (b + 152), .ref (b + 153), .int 0, .ref (b + 154), .ref (b + 155), .int 0, .ref (b + 156), .int 0, .int 0, .int 0, .int 0, .int (-1), .ref (b + 157), .ref (b + 158), .int 0, .ref (b + 159), .ref (b + 160), .ref (b + 161), .ref (b + 162), .ref (b + 163), .null, .null, .null, .null, .null, .null, .null, .int 0]))) H := hP
  obtain ⟨cf_51, e_51⟩ : ∃ z, z = va_up cf_50 (143) (.inr (7, [.int 0, .int 0, .ref (b + 144), .ref (b + 145), .ref (b + 146), .ref (b + 147), .int 0, .int 0, .ref (b + 148), .ref (b + 149), .ref (b + 150), .ref (b + 151), .ref (b + 152), .ref (b + 153), .int 0, .ref (b + 154), .ref (b + 155), .int 0, .ref (b + 156), .int 0, .int 0, .int 0, .int 0, .int (-1), .ref (b + 157), .ref (b + 158), .int 0, .ref (b + 159), .ref (b + 160), .ref (b + 161), .ref (b + 162), .ref (b + 163), .null, .null, .null, .null, .null, .null, .null, .int 0])) := ⟨_, rfl⟩
  rw [← e_51] at hP
  have f_51_0 : cf_51 (143) = .inr (7, [.int 0, .int 0, .ref (b + 144), .ref (b + 145), .ref (b + 146), .ref (b + 147), .int 0, .int 0, .ref (b + 148), .ref (b + 149), .ref (b + 150), .ref (b + 151), .ref (b + 152), .ref (b + 153), .int 0, .ref (b + 154), .ref (b + 155), .int 0, .ref (b + 156), .int 0, .int 0, .int 0, .int 0, .int (-1), .ref (b + 157), .ref (b + 158), .int 0, .ref (b + 159), .ref (b + 160), .ref (b + 161), .ref (b + 162), .ref (b + 163), .null, .null, .null, .null, .null, .null, .null, .int 0]) := by rw [e_51]; exact va_up_self _ _ _
  have f_51_1 : cf_51 (144) = .inl (c 0, 60, .inl fun _ => 0) := by rw [e_51, va_up_ne _ _ (by omega)]; exact f_50_1
  have f_51_2 : cf_51 (145) = .inl (c 0, 240, .inl fun _ => 0) := by rw [e_51, va_up_ne _ _ (by omega)]; exact f_50_2
  have f_51_3 : cf_51 (146) = .inl (c 0, 60, .inl fun _ => 0) := by rw [e_51, va_up_ne _ _ (by omega)]; exact f_50_3
  have f_51_4 : cf_51 (147) = .inl (c 0, 60, .inl fun _ => 0) := by rw [e_51, va_up_ne _ _ (by omega)]; exact f_50_4
  have f_51_5 : cf_51 (148) = .inl (c 0, 10, .inl (upd (upd (upd (upd (upd (upd (upd (upd (upd (upd (fun _ => 0) 0 1) 1 2) 2 4) 3 8) 4 16) 5 32) 6 64) 7 128) 8 256) 9 512)) := by rw [e_51, va_up_ne _ _ (by omega)]; exact f_50_5
  have f_51_6 : cf_51 (149) = .inl (c 0, 126, .inl fun _ => 0) := by rw [e_51, va_up_ne _ _ (by omega)]; exact f_50_6
  have f_51_7 : cf_51 (150) = .inl (c 0, 126, .inl fun _ => 0) := by rw [e_51, va_up_ne _ _ (by omega)]; exact f_50_7
  have f_51_8 : cf_51 (151) = .inl (c 0, 21, .inl fun _ => 0) := by rw [e_51, va_up_ne _ _ (by omega)]; exact f_50_8
  have f_51_9 : cf_51 (152) = .inl (c 0, 21, .inl fun _ => 0) := by rw [e_51, va_up_ne _ _ (by omega)]; exact f_50_9
  have f_51_10 : cf_51 (153) = .inl (c 0, 21, .inl fun _ => 0) := by rw [e_51, va_up_ne _ _ (by omega)]; exact f_50_10
  have f_51_11 : cf_51 (154) = .inl (c 0, 40, .inl fun _ => 0) := by rw [e_51, va_up_ne _ _ (by omega)]; exact f_50_11
  have f_51_12 : cf_51 (155) = .inl (c 0, 40, .inl fun _ => 0) := by rw [e_51, va_up_ne _ _ (by omega)]; exact f_50_12
  have f_51_13 : cf_51 (156) = .inl (c 1, 400, .inl fun _ => 0) := by rw [e_51, va_up_ne _ _ (by omega)]; exact f_50_13
  have f_51_14 : cf_51 (157) = .inl (c 0, 5, .inl fun _ => 0) := by rw [e_51, va_up_ne _ _ (by omega)]; exact f_50_14
  have f_51_15 : cf_51 (158) = .inl (c 0, 8, .inl fun _ => 0) := by rw [e_51, va_up_ne _ _ (by omega)]; exact f_50_15
  have f_51_16 : cf_51 (159) = .inl (c 0, 48, .inl fun _ => 0) := by rw [e_51, va_up_ne _ _ (by omega)]; exact f_50_16
  have f_51_17 : cf_51 (160) = .inl (c 0, 48, .inl fun _ => 0) := by rw [e_51, va_up_ne _ _ (by omega)]; exact f_50_17
  have f_51_18 : cf_51 (161) = .inl (c 0, 48, .inl fun _ => 0) := by rw [e_51, va_up_ne _ _ (by omega)]; exact f_50_18
  have f_51_19 : cf_51 (162) = .inl (c 0, 48, .inl fun _ => 0) := by rw [e_51, va_up_ne _ _ (by omega)]; exact f_50_19
  have f_51_20 : cf_51 (163) = .inl (c 0, 48, .inl fun _ => 0) := by rw [e_51, va_up_ne _ _ (by omega)]; exact f_50_20
  have g_51 : ∀ j, j < 143 → cf_51 j = cf j := fun j hj => by rw [e_51]; exact (va_up_ne _ _ (by omega)).trans (g_50 j hj)
  refine lv_aload_n hx hb dX7_init_224 rfl (lv_at hl 0 rfl) ?_
  refine lv_bipush (v := 48) hx hb dX7_init_225 (by decide) ?_
  refine px_newa (atype := .int) (ty := .int) (a0 := (48, .inl fun _ => 0)) (N' := 48) hx hb (hts (.arrayClass .int) (by decide +kernel)) rfl hK hP hS 0 rfl (fun h => h) (fun _ => rfl) (by decide) (by decide) (by show 48 * 4 ≤ 536870912; omega) (Nat.le_of_ble_eq_true rfl) (Nat.le_of_ble_eq_true rfl) dX7_init_227 (fun H hP hS => ?_)
  have hP : px_H D b (165) (va_up cf_51 (164) (.inl (c 0, 48, .inl fun _ => 0))) H := hP
  obtain ⟨cf_52, e_52⟩ : ∃ z, z = va_up cf_51 (164) (.inl (c 0, 48, .inl fun _ => 0)) := ⟨_, rfl⟩
  rw [← e_52] at hP
  have f_52_0 : cf_52 (143) = .inr (7, [.int 0, .int 0, .ref (b + 144), .ref (b + 145), .ref (b + 146), .ref (b + 147), .int 0, .int 0, .ref (b + 148), .ref (b + 149), .ref (b + 150), .ref (b + 151), .ref (b + 152), .ref (b + 153), .int 0, .ref (b + 154), .ref (b + 155), .int 0, .ref (b + 156), .int 0, .int 0, .int 0, .int 0, .int (-1), .ref (b + 157), .ref (b + 158), .int 0, .ref (b + 159), .ref (b + 160), .ref (b + 161), .ref (b + 162), .ref (b + 163), .null, .null, .null, .null, .null, .null, .null, .int 0]) := by rw [e_52, va_up_ne _ _ (by omega)]; exact f_51_0
  have f_52_1 : cf_52 (144) = .inl (c 0, 60, .inl fun _ => 0) := by rw [e_52, va_up_ne _ _ (by omega)]; exact f_51_1
  have f_52_2 : cf_52 (145) = .inl (c 0, 240, .inl fun _ => 0) := by rw [e_52, va_up_ne _ _ (by omega)]; exact f_51_2
  have f_52_3 : cf_52 (146) = .inl (c 0, 60, .inl fun _ => 0) := by rw [e_52, va_up_ne _ _ (by omega)]; exact f_51_3
  have f_52_4 : cf_52 (147) = .inl (c 0, 60, .inl fun _ => 0) := by rw [e_52, va_up_ne _ _ (by omega)]; exact f_51_4
  have f_52_5 : cf_52 (148) = .inl (c 0, 10, .inl (upd (upd (upd (upd (upd (upd (upd (upd (upd (upd (fun _ => 0) 0 1) 1 2) 2 4) 3 8) 4 16) 5 32) 6 64) 7 128) 8 256) 9 512)) := by rw [e_52, va_up_ne _ _ (by omega)]; exact f_51_5
  have f_52_6 : cf_52 (149) = .inl (c 0, 126, .inl fun _ => 0) := by rw [e_52, va_up_ne _ _ (by omega)]; exact f_51_6
  have f_52_7 : cf_52 (150) = .inl (c 0, 126, .inl fun _ => 0) := by rw [e_52, va_up_ne _ _ (by omega)]; exact f_51_7
  have f_52_8 : cf_52 (151) = .inl (c 0, 21, .inl fun _ => 0) := by rw [e_52, va_up_ne _ _ (by omega)]; exact f_51_8
  have f_52_9 : cf_52 (152) = .inl (c 0, 21, .inl fun _ => 0) := by rw [e_52, va_up_ne _ _ (by omega)]; exact f_51_9
  have f_52_10 : cf_52 (153) = .inl (c 0, 21, .inl fun _ => 0) := by rw [e_52, va_up_ne _ _ (by omega)]; exact f_51_10
  have f_52_11 : cf_52 (154) = .inl (c 0, 40, .inl fun _ => 0) := by rw [e_52, va_up_ne _ _ (by omega)]; exact f_51_11
  have f_52_12 : cf_52 (155) = .inl (c 0, 40, .inl fun _ => 0) := by rw [e_52, va_up_ne _ _ (by omega)]; exact f_51_12
  have f_52_13 : cf_52 (156) = .inl (c 1, 400, .inl fun _ => 0) := by rw [e_52, va_up_ne _ _ (by omega)]; exact f_51_13
  have f_52_14 : cf_52 (157) = .inl (c 0, 5, .inl fun _ => 0) := by rw [e_52, va_up_ne _ _ (by omega)]; exact f_51_14
  have f_52_15 : cf_52 (158) = .inl (c 0, 8, .inl fun _ => 0) := by rw [e_52, va_up_ne _ _ (by omega)]; exact f_51_15
  have f_52_16 : cf_52 (159) = .inl (c 0, 48, .inl fun _ => 0) := by rw [e_52, va_up_ne _ _ (by omega)]; exact f_51_16
  have f_52_17 : cf_52 (160) = .inl (c 0, 48, .inl fun _ => 0) := by rw [e_52, va_up_ne _ _ (by omega)]; exact f_51_17
  have f_52_18 : cf_52 (161) = .inl (c 0, 48, .inl fun _ => 0) := by rw [e_52, va_up_ne _ _ (by omega)]; exact f_51_18
  have f_52_19 : cf_52 (162) = .inl (c 0, 48, .inl fun _ => 0) := by rw [e_52, va_up_ne _ _ (by omega)]; exact f_51_19
  have f_52_20 : cf_52 (163) = .inl (c 0, 48, .inl fun _ => 0) := by rw [e_52, va_up_ne _ _ (by omega)]; exact f_51_20
  have f_52_21 : cf_52 (164) = .inl (c 0, 48, .inl fun _ => 0) := by rw [e_52]; exact va_up_self _ _ _
  have g_52 : ∀ j, j < 143 → cf_52 j = cf j := fun j hj => by rw [e_52]; exact (va_up_ne _ _ (by omega)).trans (g_51 j hj)
  refine px_putF (ty := (.array .int)) (v := .ref (b + 164)) hx hb hts (by decide +kernel) tyX7 tyX7_ok nmX7 hown hK hP hS (143) (by omega) f_52_0 rfl 32 (by decide) (hts (.fieldLink RX7 75 "PriceEdictModel" "hidden" "[I") (by decide +kernel)) rfl hmn rfl (by decide +kernel) rfl rfl (Nat.le_of_ble_eq_true rfl) dX7_init_229 (fun H locs hP hS => ?_)
  have hP : px_H D b (165) (va_up cf_52 (143) (.inr (7, [.int 0, .int 0, .ref (b + 144), .ref (b + 145), .ref (b + 146), .ref (b + 147), .int 0, .int 0, .ref (b + 148), .ref (b + 149), .ref (b + 150), .ref (b + 151), .ref (b + 152), .ref (b + 153), .int 0, .ref (b + 154), .ref (b + 155), .int 0, .ref (b + 156), .int 0, .int 0, .int 0, .int 0, .int (-1), .ref (b + 157), .ref (b + 158), .int 0, .ref (b + 159), .ref (b + 160), .ref (b + 161), .ref (b + 162), .ref (b + 163), .ref (b + 164), .null, .null, .null, .null, .null, .null, .int 0]))) H := hP
  obtain ⟨cf_53, e_53⟩ : ∃ z, z = va_up cf_52 (143) (.inr (7, [.int 0, .int 0, .ref (b + 144), .ref (b + 145), .ref (b + 146), .ref (b + 147), .int 0, .int 0, .ref (b + 148), .ref (b + 149), .ref (b + 150), .ref (b + 151), .ref (b + 152), .ref (b + 153), .int 0, .ref (b + 154), .ref (b + 155), .int 0, .ref (b + 156), .int 0, .int 0, .int 0, .int 0, .int (-1), .ref (b + 157), .ref (b + 158), .int 0, .ref (b + 159), .ref (b + 160), .ref (b + 161), .ref (b + 162), .ref (b + 163), .ref (b + 164), .null, .null, .null, .null, .null, .null, .int 0])) := ⟨_, rfl⟩
  rw [← e_53] at hP
  have f_53_0 : cf_53 (143) = .inr (7, [.int 0, .int 0, .ref (b + 144), .ref (b + 145), .ref (b + 146), .ref (b + 147), .int 0, .int 0, .ref (b + 148), .ref (b + 149), .ref (b + 150), .ref (b + 151), .ref (b + 152), .ref (b + 153), .int 0, .ref (b + 154), .ref (b + 155), .int 0, .ref (b + 156), .int 0, .int 0, .int 0, .int 0, .int (-1), .ref (b + 157), .ref (b + 158), .int 0, .ref (b + 159), .ref (b + 160), .ref (b + 161), .ref (b + 162), .ref (b + 163), .ref (b + 164), .null, .null, .null, .null, .null, .null, .int 0]) := by rw [e_53]; exact va_up_self _ _ _
  have f_53_1 : cf_53 (144) = .inl (c 0, 60, .inl fun _ => 0) := by rw [e_53, va_up_ne _ _ (by omega)]; exact f_52_1
  have f_53_2 : cf_53 (145) = .inl (c 0, 240, .inl fun _ => 0) := by rw [e_53, va_up_ne _ _ (by omega)]; exact f_52_2
  have f_53_3 : cf_53 (146) = .inl (c 0, 60, .inl fun _ => 0) := by rw [e_53, va_up_ne _ _ (by omega)]; exact f_52_3
  have f_53_4 : cf_53 (147) = .inl (c 0, 60, .inl fun _ => 0) := by rw [e_53, va_up_ne _ _ (by omega)]; exact f_52_4
  have f_53_5 : cf_53 (148) = .inl (c 0, 10, .inl (upd (upd (upd (upd (upd (upd (upd (upd (upd (upd (fun _ => 0) 0 1) 1 2) 2 4) 3 8) 4 16) 5 32) 6 64) 7 128) 8 256) 9 512)) := by rw [e_53, va_up_ne _ _ (by omega)]; exact f_52_5
  have f_53_6 : cf_53 (149) = .inl (c 0, 126, .inl fun _ => 0) := by rw [e_53, va_up_ne _ _ (by omega)]; exact f_52_6
  have f_53_7 : cf_53 (150) = .inl (c 0, 126, .inl fun _ => 0) := by rw [e_53, va_up_ne _ _ (by omega)]; exact f_52_7
  have f_53_8 : cf_53 (151) = .inl (c 0, 21, .inl fun _ => 0) := by rw [e_53, va_up_ne _ _ (by omega)]; exact f_52_8
  have f_53_9 : cf_53 (152) = .inl (c 0, 21, .inl fun _ => 0) := by rw [e_53, va_up_ne _ _ (by omega)]; exact f_52_9
  have f_53_10 : cf_53 (153) = .inl (c 0, 21, .inl fun _ => 0) := by rw [e_53, va_up_ne _ _ (by omega)]; exact f_52_10
  have f_53_11 : cf_53 (154) = .inl (c 0, 40, .inl fun _ => 0) := by rw [e_53, va_up_ne _ _ (by omega)]; exact f_52_11
  have f_53_12 : cf_53 (155) = .inl (c 0, 40, .inl fun _ => 0) := by rw [e_53, va_up_ne _ _ (by omega)]; exact f_52_12
  have f_53_13 : cf_53 (156) = .inl (c 1, 400, .inl fun _ => 0) := by rw [e_53, va_up_ne _ _ (by omega)]; exact f_52_13
  have f_53_14 : cf_53 (157) = .inl (c 0, 5, .inl fun _ => 0) := by rw [e_53, va_up_ne _ _ (by omega)]; exact f_52_14
  have f_53_15 : cf_53 (158) = .inl (c 0, 8, .inl fun _ => 0) := by rw [e_53, va_up_ne _ _ (by omega)]; exact f_52_15
  have f_53_16 : cf_53 (159) = .inl (c 0, 48, .inl fun _ => 0) := by rw [e_53, va_up_ne _ _ (by omega)]; exact f_52_16
  have f_53_17 : cf_53 (160) = .inl (c 0, 48, .inl fun _ => 0) := by rw [e_53, va_up_ne _ _ (by omega)]; exact f_52_17
  have f_53_18 : cf_53 (161) = .inl (c 0, 48, .inl fun _ => 0) := by rw [e_53, va_up_ne _ _ (by omega)]; exact f_52_18
  have f_53_19 : cf_53 (162) = .inl (c 0, 48, .inl fun _ => 0) := by rw [e_53, va_up_ne _ _ (by omega)]; exact f_52_19
  have f_53_20 : cf_53 (163) = .inl (c 0, 48, .inl fun _ => 0) := by rw [e_53, va_up_ne _ _ (by omega)]; exact f_52_20
  have f_53_21 : cf_53 (164) = .inl (c 0, 48, .inl fun _ => 0) := by rw [e_53, va_up_ne _ _ (by omega)]; exact f_52_21
  have g_53 : ∀ j, j < 143 → cf_53 j = cf j := fun j hj => by rw [e_53]; exact (va_up_ne _ _ (by omega)).trans (g_52 j hj)
  refine lv_aload_n hx hb dX7_init_232 rfl (lv_at hl 0 rfl) ?_
  refine lv_bipush (v := 48) hx hb dX7_init_233 (by decide) ?_
  refine px_newa (atype := .int) (ty := .int) (a0 := (48, .inl fun _ => 0)) (N' := 48) hx hb (hts (.arrayClass .int) (by decide +kernel)) rfl hK hP hS 0 rfl (fun h => h) (fun _ => rfl) (by decide) (by decide) (by show 48 * 4 ≤ 536870912; omega) (Nat.le_of_ble_eq_true rfl) (Nat.le_of_ble_eq_true rfl) dX7_init_235 (fun H hP hS => ?_)
  have hP : px_H D b (166) (va_up cf_53 (165) (.inl (c 0, 48, .inl fun _ => 0))) H := hP
  obtain ⟨cf_54, e_54⟩ : ∃ z, z = va_up cf_53 (165) (.inl (c 0, 48, .inl fun _ => 0)) := ⟨_, rfl⟩
  rw [← e_54] at hP
  have f_54_0 : cf_54 (143) = .inr (7, [.int 0, .int 0, .ref (b + 144), .ref (b + 145), .ref (b + 146), .ref (b + 147), .int 0, .int 0, .ref (b + 148), .ref (b + 149), .ref (b + 150), .ref (b + 151), .ref (b + 152), .ref (b + 153), .int 0, .ref (b + 154), .ref (b + 155), .int 0, .ref (b + 156), .int 0, .int 0, .int 0, .int 0, .int (-1), .ref (b + 157), .ref (b + 158), .int 0, .ref (b + 159), .ref (b + 160), .ref (b + 161), .ref (b + 162), .ref (b + 163), .ref (b + 164), .null, .null, .null, .null, .null, .null, .int 0]) := by rw [e_54, va_up_ne _ _ (by omega)]; exact f_53_0
  have f_54_1 : cf_54 (144) = .inl (c 0, 60, .inl fun _ => 0) := by rw [e_54, va_up_ne _ _ (by omega)]; exact f_53_1
  have f_54_2 : cf_54 (145) = .inl (c 0, 240, .inl fun _ => 0) := by rw [e_54, va_up_ne _ _ (by omega)]; exact f_53_2
  have f_54_3 : cf_54 (146) = .inl (c 0, 60, .inl fun _ => 0) := by rw [e_54, va_up_ne _ _ (by omega)]; exact f_53_3
  have f_54_4 : cf_54 (147) = .inl (c 0, 60, .inl fun _ => 0) := by rw [e_54, va_up_ne _ _ (by omega)]; exact f_53_4
  have f_54_5 : cf_54 (148) = .inl (c 0, 10, .inl (upd (upd (upd (upd (upd (upd (upd (upd (upd (upd (fun _ => 0) 0 1) 1 2) 2 4) 3 8) 4 16) 5 32) 6 64) 7 128) 8 256) 9 512)) := by rw [e_54, va_up_ne _ _ (by omega)]; exact f_53_5
  have f_54_6 : cf_54 (149) = .inl (c 0, 126, .inl fun _ => 0) := by rw [e_54, va_up_ne _ _ (by omega)]; exact f_53_6
  have f_54_7 : cf_54 (150) = .inl (c 0, 126, .inl fun _ => 0) := by rw [e_54, va_up_ne _ _ (by omega)]; exact f_53_7
  have f_54_8 : cf_54 (151) = .inl (c 0, 21, .inl fun _ => 0) := by rw [e_54, va_up_ne _ _ (by omega)]; exact f_53_8
  have f_54_9 : cf_54 (152) = .inl (c 0, 21, .inl fun _ => 0) := by rw [e_54, va_up_ne _ _ (by omega)]; exact f_53_9
  have f_54_10 : cf_54 (153) = .inl (c 0, 21, .inl fun _ => 0) := by rw [e_54, va_up_ne _ _ (by omega)]; exact f_53_10
  have f_54_11 : cf_54 (154) = .inl (c 0, 40, .inl fun _ => 0) := by rw [e_54, va_up_ne _ _ (by omega)]; exact f_53_11
  have f_54_12 : cf_54 (155) = .inl (c 0, 40, .inl fun _ => 0) := by rw [e_54, va_up_ne _ _ (by omega)]; exact f_53_12
  have f_54_13 : cf_54 (156) = .inl (c 1, 400, .inl fun _ => 0) := by rw [e_54, va_up_ne _ _ (by omega)]; exact f_53_13
  have f_54_14 : cf_54 (157) = .inl (c 0, 5, .inl fun _ => 0) := by rw [e_54, va_up_ne _ _ (by omega)]; exact f_53_14
  have f_54_15 : cf_54 (158) = .inl (c 0, 8, .inl fun _ => 0) := by rw [e_54, va_up_ne _ _ (by omega)]; exact f_53_15
  have f_54_16 : cf_54 (159) = .inl (c 0, 48, .inl fun _ => 0) := by rw [e_54, va_up_ne _ _ (by omega)]; exact f_53_16
  have f_54_17 : cf_54 (160) = .inl (c 0, 48, .inl fun _ => 0) := by rw [e_54, va_up_ne _ _ (by omega)]; exact f_53_17
  have f_54_18 : cf_54 (161) = .inl (c 0, 48, .inl fun _ => 0) := by rw [e_54, va_up_ne _ _ (by omega)]; exact f_53_18
  have f_54_19 : cf_54 (162) = .inl (c 0, 48, .inl fun _ => 0) := by rw [e_54, va_up_ne _ _ (by omega)]; exact f_53_19
  have f_54_20 : cf_54 (163) = .inl (c 0, 48, .inl fun _ => 0) := by rw [e_54, va_up_ne _ _ (by omega)]; exact f_53_20
  have f_54_21 : cf_54 (164) = .inl (c 0, 48, .inl fun _ => 0) := by rw [e_54, va_up_ne _ _ (by omega)]; exact f_53_21
  have f_54_22 : cf_54 (165) = .inl (c 0, 48, .inl fun _ => 0) := by rw [e_54]; exact va_up_self _ _ _
  have g_54 : ∀ j, j < 143 → cf_54 j = cf j := fun j hj => by rw [e_54]; exact (va_up_ne _ _ (by omega)).trans (g_53 j hj)
  refine px_putF (ty := (.array .int)) (v := .ref (b + 165)) hx hb hts (by decide +kernel) tyX7 tyX7_ok nmX7 hown hK hP hS (143) (by omega) f_54_0 rfl 33 (by decide) (hts (.fieldLink RX7 78 "PriceEdictModel" "brought" "[I") (by decide +kernel)) rfl hmn rfl (by decide +kernel) rfl rfl (Nat.le_of_ble_eq_true rfl) dX7_init_237 (fun H locs hP hS => ?_)
  have hP : px_H D b (166) (va_up cf_54 (143) (.inr (7, [.int 0, .int 0, .ref (b + 144), .ref (b + 145), .ref (b + 146), .ref (b + 147), .int 0, .int 0, .ref (b + 148), .ref (b + 149), .ref (b + 150), .ref (b + 151), .ref (b + 152), .ref (b + 153), .int 0, .ref (b + 154), .ref (b + 155), .int 0, .ref (b + 156), .int 0, .int 0, .int 0, .int 0, .int (-1), .ref (b + 157), .ref (b + 158), .int 0, .ref (b + 159), .ref (b + 160), .ref (b + 161), .ref (b + 162), .ref (b + 163), .ref (b + 164), .ref (b + 165), .null, .null, .null, .null, .null, .int 0]))) H := hP
  obtain ⟨cf_55, e_55⟩ : ∃ z, z = va_up cf_54 (143) (.inr (7, [.int 0, .int 0, .ref (b + 144), .ref (b + 145), .ref (b + 146), .ref (b + 147), .int 0, .int 0, .ref (b + 148), .ref (b + 149), .ref (b + 150), .ref (b + 151), .ref (b + 152), .ref (b + 153), .int 0, .ref (b + 154), .ref (b + 155), .int 0, .ref (b + 156), .int 0, .int 0, .int 0, .int 0, .int (-1), .ref (b + 157), .ref (b + 158), .int 0, .ref (b + 159), .ref (b + 160), .ref (b + 161), .ref (b + 162), .ref (b + 163), .ref (b + 164), .ref (b + 165), .null, .null, .null, .null, .null, .int 0])) := ⟨_, rfl⟩
  rw [← e_55] at hP
  have f_55_0 : cf_55 (143) = .inr (7, [.int 0, .int 0, .ref (b + 144), .ref (b + 145), .ref (b + 146), .ref (b + 147), .int 0, .int 0, .ref (b + 148), .ref (b + 149), .ref (b + 150), .ref (b + 151), .ref (b + 152), .ref (b + 153), .int 0, .ref (b + 154), .ref (b + 155), .int 0, .ref (b + 156), .int 0, .int 0, .int 0, .int 0, .int (-1), .ref (b + 157), .ref (b + 158), .int 0, .ref (b + 159), .ref (b + 160), .ref (b + 161), .ref (b + 162), .ref (b + 163), .ref (b + 164), .ref (b + 165), .null, .null, .null, .null, .null, .int 0]) := by rw [e_55]; exact va_up_self _ _ _
  have f_55_1 : cf_55 (144) = .inl (c 0, 60, .inl fun _ => 0) := by rw [e_55, va_up_ne _ _ (by omega)]; exact f_54_1
  have f_55_2 : cf_55 (145) = .inl (c 0, 240, .inl fun _ => 0) := by rw [e_55, va_up_ne _ _ (by omega)]; exact f_54_2
  have f_55_3 : cf_55 (146) = .inl (c 0, 60, .inl fun _ => 0) := by rw [e_55, va_up_ne _ _ (by omega)]; exact f_54_3
  have f_55_4 : cf_55 (147) = .inl (c 0, 60, .inl fun _ => 0) := by rw [e_55, va_up_ne _ _ (by omega)]; exact f_54_4
  have f_55_5 : cf_55 (148) = .inl (c 0, 10, .inl (upd (upd (upd (upd (upd (upd (upd (upd (upd (upd (fun _ => 0) 0 1) 1 2) 2 4) 3 8) 4 16) 5 32) 6 64) 7 128) 8 256) 9 512)) := by rw [e_55, va_up_ne _ _ (by omega)]; exact f_54_5
  have f_55_6 : cf_55 (149) = .inl (c 0, 126, .inl fun _ => 0) := by rw [e_55, va_up_ne _ _ (by omega)]; exact f_54_6
  have f_55_7 : cf_55 (150) = .inl (c 0, 126, .inl fun _ => 0) := by rw [e_55, va_up_ne _ _ (by omega)]; exact f_54_7
  have f_55_8 : cf_55 (151) = .inl (c 0, 21, .inl fun _ => 0) := by rw [e_55, va_up_ne _ _ (by omega)]; exact f_54_8
  have f_55_9 : cf_55 (152) = .inl (c 0, 21, .inl fun _ => 0) := by rw [e_55, va_up_ne _ _ (by omega)]; exact f_54_9
  have f_55_10 : cf_55 (153) = .inl (c 0, 21, .inl fun _ => 0) := by rw [e_55, va_up_ne _ _ (by omega)]; exact f_54_10
  have f_55_11 : cf_55 (154) = .inl (c 0, 40, .inl fun _ => 0) := by rw [e_55, va_up_ne _ _ (by omega)]; exact f_54_11
  have f_55_12 : cf_55 (155) = .inl (c 0, 40, .inl fun _ => 0) := by rw [e_55, va_up_ne _ _ (by omega)]; exact f_54_12
  have f_55_13 : cf_55 (156) = .inl (c 1, 400, .inl fun _ => 0) := by rw [e_55, va_up_ne _ _ (by omega)]; exact f_54_13
  have f_55_14 : cf_55 (157) = .inl (c 0, 5, .inl fun _ => 0) := by rw [e_55, va_up_ne _ _ (by omega)]; exact f_54_14
  have f_55_15 : cf_55 (158) = .inl (c 0, 8, .inl fun _ => 0) := by rw [e_55, va_up_ne _ _ (by omega)]; exact f_54_15
  have f_55_16 : cf_55 (159) = .inl (c 0, 48, .inl fun _ => 0) := by rw [e_55, va_up_ne _ _ (by omega)]; exact f_54_16
  have f_55_17 : cf_55 (160) = .inl (c 0, 48, .inl fun _ => 0) := by rw [e_55, va_up_ne _ _ (by omega)]; exact f_54_17
  have f_55_18 : cf_55 (161) = .inl (c 0, 48, .inl fun _ => 0) := by rw [e_55, va_up_ne _ _ (by omega)]; exact f_54_18
  have f_55_19 : cf_55 (162) = .inl (c 0, 48, .inl fun _ => 0) := by rw [e_55, va_up_ne _ _ (by omega)]; exact f_54_19
  have f_55_20 : cf_55 (163) = .inl (c 0, 48, .inl fun _ => 0) := by rw [e_55, va_up_ne _ _ (by omega)]; exact f_54_20
  have f_55_21 : cf_55 (164) = .inl (c 0, 48, .inl fun _ => 0) := by rw [e_55, va_up_ne _ _ (by omega)]; exact f_54_21
  have f_55_22 : cf_55 (165) = .inl (c 0, 48, .inl fun _ => 0) := by rw [e_55, va_up_ne _ _ (by omega)]; exact f_54_22
  have g_55 : ∀ j, j < 143 → cf_55 j = cf j := fun j hj => by rw [e_55]; exact (va_up_ne _ _ (by omega)).trans (g_54 j hj)
  refine lv_aload_n hx hb dX7_init_240 rfl (lv_at hl 0 rfl) ?_
  refine lv_bipush (v := 48) hx hb dX7_init_241 (by decide) ?_
  refine px_newa (atype := .int) (ty := .int) (a0 := (48, .inl fun _ => 0)) (N' := 48) hx hb (hts (.arrayClass .int) (by decide +kernel)) rfl hK hP hS 0 rfl (fun h => h) (fun _ => rfl) (by decide) (by decide) (by show 48 * 4 ≤ 536870912; omega) (Nat.le_of_ble_eq_true rfl) (Nat.le_of_ble_eq_true rfl) dX7_init_243 (fun H hP hS => ?_)
  have hP : px_H D b (167) (va_up cf_55 (166) (.inl (c 0, 48, .inl fun _ => 0))) H := hP
  obtain ⟨cf_56, e_56⟩ : ∃ z, z = va_up cf_55 (166) (.inl (c 0, 48, .inl fun _ => 0)) := ⟨_, rfl⟩
  rw [← e_56] at hP
  have f_56_0 : cf_56 (143) = .inr (7, [.int 0, .int 0, .ref (b + 144), .ref (b + 145), .ref (b + 146), .ref (b + 147), .int 0, .int 0, .ref (b + 148), .ref (b + 149), .ref (b + 150), .ref (b + 151), .ref (b + 152), .ref (b + 153), .int 0, .ref (b + 154), .ref (b + 155), .int 0, .ref (b + 156), .int 0, .int 0, .int 0, .int 0, .int (-1), .ref (b + 157), .ref (b + 158), .int 0, .ref (b + 159), .ref (b + 160), .ref (b + 161), .ref (b + 162), .ref (b + 163), .ref (b + 164), .ref (b + 165), .null, .null, .null, .null, .null, .int 0]) := by rw [e_56, va_up_ne _ _ (by omega)]; exact f_55_0
  have f_56_1 : cf_56 (144) = .inl (c 0, 60, .inl fun _ => 0) := by rw [e_56, va_up_ne _ _ (by omega)]; exact f_55_1
  have f_56_2 : cf_56 (145) = .inl (c 0, 240, .inl fun _ => 0) := by rw [e_56, va_up_ne _ _ (by omega)]; exact f_55_2
  have f_56_3 : cf_56 (146) = .inl (c 0, 60, .inl fun _ => 0) := by rw [e_56, va_up_ne _ _ (by omega)]; exact f_55_3
  have f_56_4 : cf_56 (147) = .inl (c 0, 60, .inl fun _ => 0) := by rw [e_56, va_up_ne _ _ (by omega)]; exact f_55_4
  have f_56_5 : cf_56 (148) = .inl (c 0, 10, .inl (upd (upd (upd (upd (upd (upd (upd (upd (upd (upd (fun _ => 0) 0 1) 1 2) 2 4) 3 8) 4 16) 5 32) 6 64) 7 128) 8 256) 9 512)) := by rw [e_56, va_up_ne _ _ (by omega)]; exact f_55_5
  have f_56_6 : cf_56 (149) = .inl (c 0, 126, .inl fun _ => 0) := by rw [e_56, va_up_ne _ _ (by omega)]; exact f_55_6
  have f_56_7 : cf_56 (150) = .inl (c 0, 126, .inl fun _ => 0) := by rw [e_56, va_up_ne _ _ (by omega)]; exact f_55_7
  have f_56_8 : cf_56 (151) = .inl (c 0, 21, .inl fun _ => 0) := by rw [e_56, va_up_ne _ _ (by omega)]; exact f_55_8
  have f_56_9 : cf_56 (152) = .inl (c 0, 21, .inl fun _ => 0) := by rw [e_56, va_up_ne _ _ (by omega)]; exact f_55_9
  have f_56_10 : cf_56 (153) = .inl (c 0, 21, .inl fun _ => 0) := by rw [e_56, va_up_ne _ _ (by omega)]; exact f_55_10
  have f_56_11 : cf_56 (154) = .inl (c 0, 40, .inl fun _ => 0) := by rw [e_56, va_up_ne _ _ (by omega)]; exact f_55_11
  have f_56_12 : cf_56 (155) = .inl (c 0, 40, .inl fun _ => 0) := by rw [e_56, va_up_ne _ _ (by omega)]; exact f_55_12
  have f_56_13 : cf_56 (156) = .inl (c 1, 400, .inl fun _ => 0) := by rw [e_56, va_up_ne _ _ (by omega)]; exact f_55_13
  have f_56_14 : cf_56 (157) = .inl (c 0, 5, .inl fun _ => 0) := by rw [e_56, va_up_ne _ _ (by omega)]; exact f_55_14
  have f_56_15 : cf_56 (158) = .inl (c 0, 8, .inl fun _ => 0) := by rw [e_56, va_up_ne _ _ (by omega)]; exact f_55_15
  have f_56_16 : cf_56 (159) = .inl (c 0, 48, .inl fun _ => 0) := by rw [e_56, va_up_ne _ _ (by omega)]; exact f_55_16
  have f_56_17 : cf_56 (160) = .inl (c 0, 48, .inl fun _ => 0) := by rw [e_56, va_up_ne _ _ (by omega)]; exact f_55_17
  have f_56_18 : cf_56 (161) = .inl (c 0, 48, .inl fun _ => 0) := by rw [e_56, va_up_ne _ _ (by omega)]; exact f_55_18
  have f_56_19 : cf_56 (162) = .inl (c 0, 48, .inl fun _ => 0) := by rw [e_56, va_up_ne _ _ (by omega)]; exact f_55_19
  have f_56_20 : cf_56 (163) = .inl (c 0, 48, .inl fun _ => 0) := by rw [e_56, va_up_ne _ _ (by omega)]; exact f_55_20
  have f_56_21 : cf_56 (164) = .inl (c 0, 48, .inl fun _ => 0) := by rw [e_56, va_up_ne _ _ (by omega)]; exact f_55_21
  have f_56_22 : cf_56 (165) = .inl (c 0, 48, .inl fun _ => 0) := by rw [e_56, va_up_ne _ _ (by omega)]; exact f_55_22
  have f_56_23 : cf_56 (166) = .inl (c 0, 48, .inl fun _ => 0) := by rw [e_56]; exact va_up_self _ _ _
  have g_56 : ∀ j, j < 143 → cf_56 j = cf j := fun j hj => by rw [e_56]; exact (va_up_ne _ _ (by omega)).trans (g_55 j hj)
  refine px_putF (ty := (.array .int)) (v := .ref (b + 166)) hx hb hts (by decide +kernel) tyX7 tyX7_ok nmX7 hown hK hP hS (143) (by omega) f_56_0 rfl 34 (by decide) (hts (.fieldLink RX7 81 "PriceEdictModel" "sold" "[I") (by decide +kernel)) rfl hmn rfl (by decide +kernel) rfl rfl (Nat.le_of_ble_eq_true rfl) dX7_init_245 (fun H locs hP hS => ?_)
  have hP : px_H D b (167) (va_up cf_56 (143) (.inr (7, [.int 0, .int 0, .ref (b + 144), .ref (b + 145), .ref (b + 146), .ref (b + 147), .int 0, .int 0, .ref (b + 148), .ref (b + 149), .ref (b + 150), .ref (b + 151), .ref (b + 152), .ref (b + 153), .int 0, .ref (b + 154), .ref (b + 155), .int 0, .ref (b + 156), .int 0, .int 0, .int 0, .int 0, .int (-1), .ref (b + 157), .ref (b + 158), .int 0, .ref (b + 159), .ref (b + 160), .ref (b + 161), .ref (b + 162), .ref (b + 163), .ref (b + 164), .ref (b + 165), .ref (b + 166), .null, .null, .null, .null, .int 0]))) H := hP
  obtain ⟨cf_57, e_57⟩ : ∃ z, z = va_up cf_56 (143) (.inr (7, [.int 0, .int 0, .ref (b + 144), .ref (b + 145), .ref (b + 146), .ref (b + 147), .int 0, .int 0, .ref (b + 148), .ref (b + 149), .ref (b + 150), .ref (b + 151), .ref (b + 152), .ref (b + 153), .int 0, .ref (b + 154), .ref (b + 155), .int 0, .ref (b + 156), .int 0, .int 0, .int 0, .int 0, .int (-1), .ref (b + 157), .ref (b + 158), .int 0, .ref (b + 159), .ref (b + 160), .ref (b + 161), .ref (b + 162), .ref (b + 163), .ref (b + 164), .ref (b + 165), .ref (b + 166), .null, .null, .null, .null, .int 0])) := ⟨_, rfl⟩
  rw [← e_57] at hP
  have f_57_0 : cf_57 (143) = .inr (7, [.int 0, .int 0, .ref (b + 144), .ref (b + 145), .ref (b + 146), .ref (b + 147), .int 0, .int 0, .ref (b + 148), .ref (b + 149), .ref (b + 150), .ref (b + 151), .ref (b + 152), .ref (b + 153), .int 0, .ref (b + 154), .ref (b + 155), .int 0, .ref (b + 156), .int 0, .int 0, .int 0, .int 0, .int (-1), .ref (b + 157), .ref (b + 158), .int 0, .ref (b + 159), .ref (b + 160), .ref (b + 161), .ref (b + 162), .ref (b + 163), .ref (b + 164), .ref (b + 165), .ref (b + 166), .null, .null, .null, .null, .int 0]) := by rw [e_57]; exact va_up_self _ _ _
  have f_57_1 : cf_57 (144) = .inl (c 0, 60, .inl fun _ => 0) := by rw [e_57, va_up_ne _ _ (by omega)]; exact f_56_1
  have f_57_2 : cf_57 (145) = .inl (c 0, 240, .inl fun _ => 0) := by rw [e_57, va_up_ne _ _ (by omega)]; exact f_56_2
  have f_57_3 : cf_57 (146) = .inl (c 0, 60, .inl fun _ => 0) := by rw [e_57, va_up_ne _ _ (by omega)]; exact f_56_3
  have f_57_4 : cf_57 (147) = .inl (c 0, 60, .inl fun _ => 0) := by rw [e_57, va_up_ne _ _ (by omega)]; exact f_56_4
  have f_57_5 : cf_57 (148) = .inl (c 0, 10, .inl (upd (upd (upd (upd (upd (upd (upd (upd (upd (upd (fun _ => 0) 0 1) 1 2) 2 4) 3 8) 4 16) 5 32) 6 64) 7 128) 8 256) 9 512)) := by rw [e_57, va_up_ne _ _ (by omega)]; exact f_56_5
  have f_57_6 : cf_57 (149) = .inl (c 0, 126, .inl fun _ => 0) := by rw [e_57, va_up_ne _ _ (by omega)]; exact f_56_6
  have f_57_7 : cf_57 (150) = .inl (c 0, 126, .inl fun _ => 0) := by rw [e_57, va_up_ne _ _ (by omega)]; exact f_56_7
  have f_57_8 : cf_57 (151) = .inl (c 0, 21, .inl fun _ => 0) := by rw [e_57, va_up_ne _ _ (by omega)]; exact f_56_8
  have f_57_9 : cf_57 (152) = .inl (c 0, 21, .inl fun _ => 0) := by rw [e_57, va_up_ne _ _ (by omega)]; exact f_56_9
  have f_57_10 : cf_57 (153) = .inl (c 0, 21, .inl fun _ => 0) := by rw [e_57, va_up_ne _ _ (by omega)]; exact f_56_10
  have f_57_11 : cf_57 (154) = .inl (c 0, 40, .inl fun _ => 0) := by rw [e_57, va_up_ne _ _ (by omega)]; exact f_56_11
  have f_57_12 : cf_57 (155) = .inl (c 0, 40, .inl fun _ => 0) := by rw [e_57, va_up_ne _ _ (by omega)]; exact f_56_12
  have f_57_13 : cf_57 (156) = .inl (c 1, 400, .inl fun _ => 0) := by rw [e_57, va_up_ne _ _ (by omega)]; exact f_56_13
  have f_57_14 : cf_57 (157) = .inl (c 0, 5, .inl fun _ => 0) := by rw [e_57, va_up_ne _ _ (by omega)]; exact f_56_14
  have f_57_15 : cf_57 (158) = .inl (c 0, 8, .inl fun _ => 0) := by rw [e_57, va_up_ne _ _ (by omega)]; exact f_56_15
  have f_57_16 : cf_57 (159) = .inl (c 0, 48, .inl fun _ => 0) := by rw [e_57, va_up_ne _ _ (by omega)]; exact f_56_16
  have f_57_17 : cf_57 (160) = .inl (c 0, 48, .inl fun _ => 0) := by rw [e_57, va_up_ne _ _ (by omega)]; exact f_56_17
  have f_57_18 : cf_57 (161) = .inl (c 0, 48, .inl fun _ => 0) := by rw [e_57, va_up_ne _ _ (by omega)]; exact f_56_18
  have f_57_19 : cf_57 (162) = .inl (c 0, 48, .inl fun _ => 0) := by rw [e_57, va_up_ne _ _ (by omega)]; exact f_56_19
  have f_57_20 : cf_57 (163) = .inl (c 0, 48, .inl fun _ => 0) := by rw [e_57, va_up_ne _ _ (by omega)]; exact f_56_20
  have f_57_21 : cf_57 (164) = .inl (c 0, 48, .inl fun _ => 0) := by rw [e_57, va_up_ne _ _ (by omega)]; exact f_56_21
  have f_57_22 : cf_57 (165) = .inl (c 0, 48, .inl fun _ => 0) := by rw [e_57, va_up_ne _ _ (by omega)]; exact f_56_22
  have f_57_23 : cf_57 (166) = .inl (c 0, 48, .inl fun _ => 0) := by rw [e_57, va_up_ne _ _ (by omega)]; exact f_56_23
  have g_57 : ∀ j, j < 143 → cf_57 j = cf j := fun j hj => by rw [e_57]; exact (va_up_ne _ _ (by omega)).trans (g_56 j hj)
  refine lv_aload_n hx hb dX7_init_248 rfl (lv_at hl 0 rfl) ?_
  refine lv_bipush (v := 48) hx hb dX7_init_249 (by decide) ?_
  refine px_newa (atype := .int) (ty := .int) (a0 := (48, .inl fun _ => 0)) (N' := 48) hx hb (hts (.arrayClass .int) (by decide +kernel)) rfl hK hP hS 0 rfl (fun h => h) (fun _ => rfl) (by decide) (by decide) (by show 48 * 4 ≤ 536870912; omega) (Nat.le_of_ble_eq_true rfl) (Nat.le_of_ble_eq_true rfl) dX7_init_251 (fun H hP hS => ?_)
  have hP : px_H D b (168) (va_up cf_57 (167) (.inl (c 0, 48, .inl fun _ => 0))) H := hP
  obtain ⟨cf_58, e_58⟩ : ∃ z, z = va_up cf_57 (167) (.inl (c 0, 48, .inl fun _ => 0)) := ⟨_, rfl⟩
  rw [← e_58] at hP
  have f_58_0 : cf_58 (143) = .inr (7, [.int 0, .int 0, .ref (b + 144), .ref (b + 145), .ref (b + 146), .ref (b + 147), .int 0, .int 0, .ref (b + 148), .ref (b + 149), .ref (b + 150), .ref (b + 151), .ref (b + 152), .ref (b + 153), .int 0, .ref (b + 154), .ref (b + 155), .int 0, .ref (b + 156), .int 0, .int 0, .int 0, .int 0, .int (-1), .ref (b + 157), .ref (b + 158), .int 0, .ref (b + 159), .ref (b + 160), .ref (b + 161), .ref (b + 162), .ref (b + 163), .ref (b + 164), .ref (b + 165), .ref (b + 166), .null, .null, .null, .null, .int 0]) := by rw [e_58, va_up_ne _ _ (by omega)]; exact f_57_0
  have f_58_1 : cf_58 (144) = .inl (c 0, 60, .inl fun _ => 0) := by rw [e_58, va_up_ne _ _ (by omega)]; exact f_57_1
  have f_58_2 : cf_58 (145) = .inl (c 0, 240, .inl fun _ => 0) := by rw [e_58, va_up_ne _ _ (by omega)]; exact f_57_2
  have f_58_3 : cf_58 (146) = .inl (c 0, 60, .inl fun _ => 0) := by rw [e_58, va_up_ne _ _ (by omega)]; exact f_57_3
  have f_58_4 : cf_58 (147) = .inl (c 0, 60, .inl fun _ => 0) := by rw [e_58, va_up_ne _ _ (by omega)]; exact f_57_4
  have f_58_5 : cf_58 (148) = .inl (c 0, 10, .inl (upd (upd (upd (upd (upd (upd (upd (upd (upd (upd (fun _ => 0) 0 1) 1 2) 2 4) 3 8) 4 16) 5 32) 6 64) 7 128) 8 256) 9 512)) := by rw [e_58, va_up_ne _ _ (by omega)]; exact f_57_5
  have f_58_6 : cf_58 (149) = .inl (c 0, 126, .inl fun _ => 0) := by rw [e_58, va_up_ne _ _ (by omega)]; exact f_57_6
  have f_58_7 : cf_58 (150) = .inl (c 0, 126, .inl fun _ => 0) := by rw [e_58, va_up_ne _ _ (by omega)]; exact f_57_7
  have f_58_8 : cf_58 (151) = .inl (c 0, 21, .inl fun _ => 0) := by rw [e_58, va_up_ne _ _ (by omega)]; exact f_57_8
  have f_58_9 : cf_58 (152) = .inl (c 0, 21, .inl fun _ => 0) := by rw [e_58, va_up_ne _ _ (by omega)]; exact f_57_9
  have f_58_10 : cf_58 (153) = .inl (c 0, 21, .inl fun _ => 0) := by rw [e_58, va_up_ne _ _ (by omega)]; exact f_57_10
  have f_58_11 : cf_58 (154) = .inl (c 0, 40, .inl fun _ => 0) := by rw [e_58, va_up_ne _ _ (by omega)]; exact f_57_11
  have f_58_12 : cf_58 (155) = .inl (c 0, 40, .inl fun _ => 0) := by rw [e_58, va_up_ne _ _ (by omega)]; exact f_57_12
  have f_58_13 : cf_58 (156) = .inl (c 1, 400, .inl fun _ => 0) := by rw [e_58, va_up_ne _ _ (by omega)]; exact f_57_13
  have f_58_14 : cf_58 (157) = .inl (c 0, 5, .inl fun _ => 0) := by rw [e_58, va_up_ne _ _ (by omega)]; exact f_57_14
  have f_58_15 : cf_58 (158) = .inl (c 0, 8, .inl fun _ => 0) := by rw [e_58, va_up_ne _ _ (by omega)]; exact f_57_15
  have f_58_16 : cf_58 (159) = .inl (c 0, 48, .inl fun _ => 0) := by rw [e_58, va_up_ne _ _ (by omega)]; exact f_57_16
  have f_58_17 : cf_58 (160) = .inl (c 0, 48, .inl fun _ => 0) := by rw [e_58, va_up_ne _ _ (by omega)]; exact f_57_17
  have f_58_18 : cf_58 (161) = .inl (c 0, 48, .inl fun _ => 0) := by rw [e_58, va_up_ne _ _ (by omega)]; exact f_57_18
  have f_58_19 : cf_58 (162) = .inl (c 0, 48, .inl fun _ => 0) := by rw [e_58, va_up_ne _ _ (by omega)]; exact f_57_19
  have f_58_20 : cf_58 (163) = .inl (c 0, 48, .inl fun _ => 0) := by rw [e_58, va_up_ne _ _ (by omega)]; exact f_57_20
  have f_58_21 : cf_58 (164) = .inl (c 0, 48, .inl fun _ => 0) := by rw [e_58, va_up_ne _ _ (by omega)]; exact f_57_21
  have f_58_22 : cf_58 (165) = .inl (c 0, 48, .inl fun _ => 0) := by rw [e_58, va_up_ne _ _ (by omega)]; exact f_57_22
  have f_58_23 : cf_58 (166) = .inl (c 0, 48, .inl fun _ => 0) := by rw [e_58, va_up_ne _ _ (by omega)]; exact f_57_23
  have f_58_24 : cf_58 (167) = .inl (c 0, 48, .inl fun _ => 0) := by rw [e_58]; exact va_up_self _ _ _
  have g_58 : ∀ j, j < 143 → cf_58 j = cf j := fun j hj => by rw [e_58]; exact (va_up_ne _ _ (by omega)).trans (g_57 j hj)
  refine px_putF (ty := (.array .int)) (v := .ref (b + 167)) hx hb hts (by decide +kernel) tyX7 tyX7_ok nmX7 hown hK hP hS (143) (by omega) f_58_0 rfl 35 (by decide) (hts (.fieldLink RX7 84 "PriceEdictModel" "spoilt" "[I") (by decide +kernel)) rfl hmn rfl (by decide +kernel) rfl rfl (Nat.le_of_ble_eq_true rfl) dX7_init_253 (fun H locs hP hS => ?_)
  have hP : px_H D b (168) (va_up cf_58 (143) (.inr (7, [.int 0, .int 0, .ref (b + 144), .ref (b + 145), .ref (b + 146), .ref (b + 147), .int 0, .int 0, .ref (b + 148), .ref (b + 149), .ref (b + 150), .ref (b + 151), .ref (b + 152), .ref (b + 153), .int 0, .ref (b + 154), .ref (b + 155), .int 0, .ref (b + 156), .int 0, .int 0, .int 0, .int 0, .int (-1), .ref (b + 157), .ref (b + 158), .int 0, .ref (b + 159), .ref (b + 160), .ref (b + 161), .ref (b + 162), .ref (b + 163), .ref (b + 164), .ref (b + 165), .ref (b + 166), .ref (b + 167), .null, .null, .null, .int 0]))) H := hP
  obtain ⟨cf_59, e_59⟩ : ∃ z, z = va_up cf_58 (143) (.inr (7, [.int 0, .int 0, .ref (b + 144), .ref (b + 145), .ref (b + 146), .ref (b + 147), .int 0, .int 0, .ref (b + 148), .ref (b + 149), .ref (b + 150), .ref (b + 151), .ref (b + 152), .ref (b + 153), .int 0, .ref (b + 154), .ref (b + 155), .int 0, .ref (b + 156), .int 0, .int 0, .int 0, .int 0, .int (-1), .ref (b + 157), .ref (b + 158), .int 0, .ref (b + 159), .ref (b + 160), .ref (b + 161), .ref (b + 162), .ref (b + 163), .ref (b + 164), .ref (b + 165), .ref (b + 166), .ref (b + 167), .null, .null, .null, .int 0])) := ⟨_, rfl⟩
  rw [← e_59] at hP
  have f_59_0 : cf_59 (143) = .inr (7, [.int 0, .int 0, .ref (b + 144), .ref (b + 145), .ref (b + 146), .ref (b + 147), .int 0, .int 0, .ref (b + 148), .ref (b + 149), .ref (b + 150), .ref (b + 151), .ref (b + 152), .ref (b + 153), .int 0, .ref (b + 154), .ref (b + 155), .int 0, .ref (b + 156), .int 0, .int 0, .int 0, .int 0, .int (-1), .ref (b + 157), .ref (b + 158), .int 0, .ref (b + 159), .ref (b + 160), .ref (b + 161), .ref (b + 162), .ref (b + 163), .ref (b + 164), .ref (b + 165), .ref (b + 166), .ref (b + 167), .null, .null, .null, .int 0]) := by rw [e_59]; exact va_up_self _ _ _
  have f_59_1 : cf_59 (144) = .inl (c 0, 60, .inl fun _ => 0) := by rw [e_59, va_up_ne _ _ (by omega)]; exact f_58_1
  have f_59_2 : cf_59 (145) = .inl (c 0, 240, .inl fun _ => 0) := by rw [e_59, va_up_ne _ _ (by omega)]; exact f_58_2
  have f_59_3 : cf_59 (146) = .inl (c 0, 60, .inl fun _ => 0) := by rw [e_59, va_up_ne _ _ (by omega)]; exact f_58_3
  have f_59_4 : cf_59 (147) = .inl (c 0, 60, .inl fun _ => 0) := by rw [e_59, va_up_ne _ _ (by omega)]; exact f_58_4
  have f_59_5 : cf_59 (148) = .inl (c 0, 10, .inl (upd (upd (upd (upd (upd (upd (upd (upd (upd (upd (fun _ => 0) 0 1) 1 2) 2 4) 3 8) 4 16) 5 32) 6 64) 7 128) 8 256) 9 512)) := by rw [e_59, va_up_ne _ _ (by omega)]; exact f_58_5
  have f_59_6 : cf_59 (149) = .inl (c 0, 126, .inl fun _ => 0) := by rw [e_59, va_up_ne _ _ (by omega)]; exact f_58_6
  have f_59_7 : cf_59 (150) = .inl (c 0, 126, .inl fun _ => 0) := by rw [e_59, va_up_ne _ _ (by omega)]; exact f_58_7
  have f_59_8 : cf_59 (151) = .inl (c 0, 21, .inl fun _ => 0) := by rw [e_59, va_up_ne _ _ (by omega)]; exact f_58_8
  have f_59_9 : cf_59 (152) = .inl (c 0, 21, .inl fun _ => 0) := by rw [e_59, va_up_ne _ _ (by omega)]; exact f_58_9
  have f_59_10 : cf_59 (153) = .inl (c 0, 21, .inl fun _ => 0) := by rw [e_59, va_up_ne _ _ (by omega)]; exact f_58_10
  have f_59_11 : cf_59 (154) = .inl (c 0, 40, .inl fun _ => 0) := by rw [e_59, va_up_ne _ _ (by omega)]; exact f_58_11
  have f_59_12 : cf_59 (155) = .inl (c 0, 40, .inl fun _ => 0) := by rw [e_59, va_up_ne _ _ (by omega)]; exact f_58_12
  have f_59_13 : cf_59 (156) = .inl (c 1, 400, .inl fun _ => 0) := by rw [e_59, va_up_ne _ _ (by omega)]; exact f_58_13
  have f_59_14 : cf_59 (157) = .inl (c 0, 5, .inl fun _ => 0) := by rw [e_59, va_up_ne _ _ (by omega)]; exact f_58_14
  have f_59_15 : cf_59 (158) = .inl (c 0, 8, .inl fun _ => 0) := by rw [e_59, va_up_ne _ _ (by omega)]; exact f_58_15
  have f_59_16 : cf_59 (159) = .inl (c 0, 48, .inl fun _ => 0) := by rw [e_59, va_up_ne _ _ (by omega)]; exact f_58_16
  have f_59_17 : cf_59 (160) = .inl (c 0, 48, .inl fun _ => 0) := by rw [e_59, va_up_ne _ _ (by omega)]; exact f_58_17
  have f_59_18 : cf_59 (161) = .inl (c 0, 48, .inl fun _ => 0) := by rw [e_59, va_up_ne _ _ (by omega)]; exact f_58_18
  have f_59_19 : cf_59 (162) = .inl (c 0, 48, .inl fun _ => 0) := by rw [e_59, va_up_ne _ _ (by omega)]; exact f_58_19
  have f_59_20 : cf_59 (163) = .inl (c 0, 48, .inl fun _ => 0) := by rw [e_59, va_up_ne _ _ (by omega)]; exact f_58_20
  have f_59_21 : cf_59 (164) = .inl (c 0, 48, .inl fun _ => 0) := by rw [e_59, va_up_ne _ _ (by omega)]; exact f_58_21
  have f_59_22 : cf_59 (165) = .inl (c 0, 48, .inl fun _ => 0) := by rw [e_59, va_up_ne _ _ (by omega)]; exact f_58_22
  have f_59_23 : cf_59 (166) = .inl (c 0, 48, .inl fun _ => 0) := by rw [e_59, va_up_ne _ _ (by omega)]; exact f_58_23
  have f_59_24 : cf_59 (167) = .inl (c 0, 48, .inl fun _ => 0) := by rw [e_59, va_up_ne _ _ (by omega)]; exact f_58_24
  have g_59 : ∀ j, j < 143 → cf_59 j = cf j := fun j hj => by rw [e_59]; exact (va_up_ne _ _ (by omega)).trans (g_58 j hj)
  refine lv_aload_n hx hb dX7_init_256 rfl (lv_at hl 0 rfl) ?_
  refine lv_bipush (v := 48) hx hb dX7_init_257 (by decide) ?_
  refine px_newa (atype := .int) (ty := .int) (a0 := (48, .inl fun _ => 0)) (N' := 48) hx hb (hts (.arrayClass .int) (by decide +kernel)) rfl hK hP hS 0 rfl (fun h => h) (fun _ => rfl) (by decide) (by decide) (by show 48 * 4 ≤ 536870912; omega) (Nat.le_of_ble_eq_true rfl) (Nat.le_of_ble_eq_true rfl) dX7_init_259 (fun H hP hS => ?_)
  have hP : px_H D b (169) (va_up cf_59 (168) (.inl (c 0, 48, .inl fun _ => 0))) H := hP
  obtain ⟨cf_60, e_60⟩ : ∃ z, z = va_up cf_59 (168) (.inl (c 0, 48, .inl fun _ => 0)) := ⟨_, rfl⟩
  rw [← e_60] at hP
  have f_60_0 : cf_60 (143) = .inr (7, [.int 0, .int 0, .ref (b + 144), .ref (b + 145), .ref (b + 146), .ref (b + 147), .int 0, .int 0, .ref (b + 148), .ref (b + 149), .ref (b + 150), .ref (b + 151), .ref (b + 152), .ref (b + 153), .int 0, .ref (b + 154), .ref (b + 155), .int 0, .ref (b + 156), .int 0, .int 0, .int 0, .int 0, .int (-1), .ref (b + 157), .ref (b + 158), .int 0, .ref (b + 159), .ref (b + 160), .ref (b + 161), .ref (b + 162), .ref (b + 163), .ref (b + 164), .ref (b + 165), .ref (b + 166), .ref (b + 167), .null, .null, .null, .int 0]) := by rw [e_60, va_up_ne _ _ (by omega)]; exact f_59_0
  have f_60_1 : cf_60 (144) = .inl (c 0, 60, .inl fun _ => 0) := by rw [e_60, va_up_ne _ _ (by omega)]; exact f_59_1
  have f_60_2 : cf_60 (145) = .inl (c 0, 240, .inl fun _ => 0) := by rw [e_60, va_up_ne _ _ (by omega)]; exact f_59_2
  have f_60_3 : cf_60 (146) = .inl (c 0, 60, .inl fun _ => 0) := by rw [e_60, va_up_ne _ _ (by omega)]; exact f_59_3
  have f_60_4 : cf_60 (147) = .inl (c 0, 60, .inl fun _ => 0) := by rw [e_60, va_up_ne _ _ (by omega)]; exact f_59_4
  have f_60_5 : cf_60 (148) = .inl (c 0, 10, .inl (upd (upd (upd (upd (upd (upd (upd (upd (upd (upd (fun _ => 0) 0 1) 1 2) 2 4) 3 8) 4 16) 5 32) 6 64) 7 128) 8 256) 9 512)) := by rw [e_60, va_up_ne _ _ (by omega)]; exact f_59_5
  have f_60_6 : cf_60 (149) = .inl (c 0, 126, .inl fun _ => 0) := by rw [e_60, va_up_ne _ _ (by omega)]; exact f_59_6
  have f_60_7 : cf_60 (150) = .inl (c 0, 126, .inl fun _ => 0) := by rw [e_60, va_up_ne _ _ (by omega)]; exact f_59_7
  have f_60_8 : cf_60 (151) = .inl (c 0, 21, .inl fun _ => 0) := by rw [e_60, va_up_ne _ _ (by omega)]; exact f_59_8
  have f_60_9 : cf_60 (152) = .inl (c 0, 21, .inl fun _ => 0) := by rw [e_60, va_up_ne _ _ (by omega)]; exact f_59_9
  have f_60_10 : cf_60 (153) = .inl (c 0, 21, .inl fun _ => 0) := by rw [e_60, va_up_ne _ _ (by omega)]; exact f_59_10
  have f_60_11 : cf_60 (154) = .inl (c 0, 40, .inl fun _ => 0) := by rw [e_60, va_up_ne _ _ (by omega)]; exact f_59_11
  have f_60_12 : cf_60 (155) = .inl (c 0, 40, .inl fun _ => 0) := by rw [e_60, va_up_ne _ _ (by omega)]; exact f_59_12
  have f_60_13 : cf_60 (156) = .inl (c 1, 400, .inl fun _ => 0) := by rw [e_60, va_up_ne _ _ (by omega)]; exact f_59_13
  have f_60_14 : cf_60 (157) = .inl (c 0, 5, .inl fun _ => 0) := by rw [e_60, va_up_ne _ _ (by omega)]; exact f_59_14
  have f_60_15 : cf_60 (158) = .inl (c 0, 8, .inl fun _ => 0) := by rw [e_60, va_up_ne _ _ (by omega)]; exact f_59_15
  have f_60_16 : cf_60 (159) = .inl (c 0, 48, .inl fun _ => 0) := by rw [e_60, va_up_ne _ _ (by omega)]; exact f_59_16
  have f_60_17 : cf_60 (160) = .inl (c 0, 48, .inl fun _ => 0) := by rw [e_60, va_up_ne _ _ (by omega)]; exact f_59_17
  have f_60_18 : cf_60 (161) = .inl (c 0, 48, .inl fun _ => 0) := by rw [e_60, va_up_ne _ _ (by omega)]; exact f_59_18
  have f_60_19 : cf_60 (162) = .inl (c 0, 48, .inl fun _ => 0) := by rw [e_60, va_up_ne _ _ (by omega)]; exact f_59_19
  have f_60_20 : cf_60 (163) = .inl (c 0, 48, .inl fun _ => 0) := by rw [e_60, va_up_ne _ _ (by omega)]; exact f_59_20
  have f_60_21 : cf_60 (164) = .inl (c 0, 48, .inl fun _ => 0) := by rw [e_60, va_up_ne _ _ (by omega)]; exact f_59_21
  have f_60_22 : cf_60 (165) = .inl (c 0, 48, .inl fun _ => 0) := by rw [e_60, va_up_ne _ _ (by omega)]; exact f_59_22
  have f_60_23 : cf_60 (166) = .inl (c 0, 48, .inl fun _ => 0) := by rw [e_60, va_up_ne _ _ (by omega)]; exact f_59_23
  have f_60_24 : cf_60 (167) = .inl (c 0, 48, .inl fun _ => 0) := by rw [e_60, va_up_ne _ _ (by omega)]; exact f_59_24
  have f_60_25 : cf_60 (168) = .inl (c 0, 48, .inl fun _ => 0) := by rw [e_60]; exact va_up_self _ _ _
  have g_60 : ∀ j, j < 143 → cf_60 j = cf j := fun j hj => by rw [e_60]; exact (va_up_ne _ _ (by omega)).trans (g_59 j hj)
  refine px_putF (ty := (.array .int)) (v := .ref (b + 168)) hx hb hts (by decide +kernel) tyX7 tyX7_ok nmX7 hown hK hP hS (143) (by omega) f_60_0 rfl 36 (by decide) (hts (.fieldLink RX7 87 "PriceEdictModel" "paid" "[I") (by decide +kernel)) rfl hmn rfl (by decide +kernel) rfl rfl (Nat.le_of_ble_eq_true rfl) dX7_init_261 (fun H locs hP hS => ?_)
  have hP : px_H D b (169) (va_up cf_60 (143) (.inr (7, [.int 0, .int 0, .ref (b + 144), .ref (b + 145), .ref (b + 146), .ref (b + 147), .int 0, .int 0, .ref (b + 148), .ref (b + 149), .ref (b + 150), .ref (b + 151), .ref (b + 152), .ref (b + 153), .int 0, .ref (b + 154), .ref (b + 155), .int 0, .ref (b + 156), .int 0, .int 0, .int 0, .int 0, .int (-1), .ref (b + 157), .ref (b + 158), .int 0, .ref (b + 159), .ref (b + 160), .ref (b + 161), .ref (b + 162), .ref (b + 163), .ref (b + 164), .ref (b + 165), .ref (b + 166), .ref (b + 167), .ref (b + 168), .null, .null, .int 0]))) H := hP
  obtain ⟨cf_61, e_61⟩ : ∃ z, z = va_up cf_60 (143) (.inr (7, [.int 0, .int 0, .ref (b + 144), .ref (b + 145), .ref (b + 146), .ref (b + 147), .int 0, .int 0, .ref (b + 148), .ref (b + 149), .ref (b + 150), .ref (b + 151), .ref (b + 152), .ref (b + 153), .int 0, .ref (b + 154), .ref (b + 155), .int 0, .ref (b + 156), .int 0, .int 0, .int 0, .int 0, .int (-1), .ref (b + 157), .ref (b + 158), .int 0, .ref (b + 159), .ref (b + 160), .ref (b + 161), .ref (b + 162), .ref (b + 163), .ref (b + 164), .ref (b + 165), .ref (b + 166), .ref (b + 167), .ref (b + 168), .null, .null, .int 0])) := ⟨_, rfl⟩
  rw [← e_61] at hP
  have f_61_0 : cf_61 (143) = .inr (7, [.int 0, .int 0, .ref (b + 144), .ref (b + 145), .ref (b + 146), .ref (b + 147), .int 0, .int 0, .ref (b + 148), .ref (b + 149), .ref (b + 150), .ref (b + 151), .ref (b + 152), .ref (b + 153), .int 0, .ref (b + 154), .ref (b + 155), .int 0, .ref (b + 156), .int 0, .int 0, .int 0, .int 0, .int (-1), .ref (b + 157), .ref (b + 158), .int 0, .ref (b + 159), .ref (b + 160), .ref (b + 161), .ref (b + 162), .ref (b + 163), .ref (b + 164), .ref (b + 165), .ref (b + 166), .ref (b + 167), .ref (b + 168), .null, .null, .int 0]) := by rw [e_61]; exact va_up_self _ _ _
  have f_61_1 : cf_61 (144) = .inl (c 0, 60, .inl fun _ => 0) := by rw [e_61, va_up_ne _ _ (by omega)]; exact f_60_1
  have f_61_2 : cf_61 (145) = .inl (c 0, 240, .inl fun _ => 0) := by rw [e_61, va_up_ne _ _ (by omega)]; exact f_60_2
  have f_61_3 : cf_61 (146) = .inl (c 0, 60, .inl fun _ => 0) := by rw [e_61, va_up_ne _ _ (by omega)]; exact f_60_3
  have f_61_4 : cf_61 (147) = .inl (c 0, 60, .inl fun _ => 0) := by rw [e_61, va_up_ne _ _ (by omega)]; exact f_60_4
  have f_61_5 : cf_61 (148) = .inl (c 0, 10, .inl (upd (upd (upd (upd (upd (upd (upd (upd (upd (upd (fun _ => 0) 0 1) 1 2) 2 4) 3 8) 4 16) 5 32) 6 64) 7 128) 8 256) 9 512)) := by rw [e_61, va_up_ne _ _ (by omega)]; exact f_60_5
  have f_61_6 : cf_61 (149) = .inl (c 0, 126, .inl fun _ => 0) := by rw [e_61, va_up_ne _ _ (by omega)]; exact f_60_6
  have f_61_7 : cf_61 (150) = .inl (c 0, 126, .inl fun _ => 0) := by rw [e_61, va_up_ne _ _ (by omega)]; exact f_60_7
  have f_61_8 : cf_61 (151) = .inl (c 0, 21, .inl fun _ => 0) := by rw [e_61, va_up_ne _ _ (by omega)]; exact f_60_8
  have f_61_9 : cf_61 (152) = .inl (c 0, 21, .inl fun _ => 0) := by rw [e_61, va_up_ne _ _ (by omega)]; exact f_60_9
  have f_61_10 : cf_61 (153) = .inl (c 0, 21, .inl fun _ => 0) := by rw [e_61, va_up_ne _ _ (by omega)]; exact f_60_10
  have f_61_11 : cf_61 (154) = .inl (c 0, 40, .inl fun _ => 0) := by rw [e_61, va_up_ne _ _ (by omega)]; exact f_60_11
  have f_61_12 : cf_61 (155) = .inl (c 0, 40, .inl fun _ => 0) := by rw [e_61, va_up_ne _ _ (by omega)]; exact f_60_12
  have f_61_13 : cf_61 (156) = .inl (c 1, 400, .inl fun _ => 0) := by rw [e_61, va_up_ne _ _ (by omega)]; exact f_60_13
  have f_61_14 : cf_61 (157) = .inl (c 0, 5, .inl fun _ => 0) := by rw [e_61, va_up_ne _ _ (by omega)]; exact f_60_14
  have f_61_15 : cf_61 (158) = .inl (c 0, 8, .inl fun _ => 0) := by rw [e_61, va_up_ne _ _ (by omega)]; exact f_60_15
  have f_61_16 : cf_61 (159) = .inl (c 0, 48, .inl fun _ => 0) := by rw [e_61, va_up_ne _ _ (by omega)]; exact f_60_16
  have f_61_17 : cf_61 (160) = .inl (c 0, 48, .inl fun _ => 0) := by rw [e_61, va_up_ne _ _ (by omega)]; exact f_60_17
  have f_61_18 : cf_61 (161) = .inl (c 0, 48, .inl fun _ => 0) := by rw [e_61, va_up_ne _ _ (by omega)]; exact f_60_18
  have f_61_19 : cf_61 (162) = .inl (c 0, 48, .inl fun _ => 0) := by rw [e_61, va_up_ne _ _ (by omega)]; exact f_60_19
  have f_61_20 : cf_61 (163) = .inl (c 0, 48, .inl fun _ => 0) := by rw [e_61, va_up_ne _ _ (by omega)]; exact f_60_20
  have f_61_21 : cf_61 (164) = .inl (c 0, 48, .inl fun _ => 0) := by rw [e_61, va_up_ne _ _ (by omega)]; exact f_60_21
  have f_61_22 : cf_61 (165) = .inl (c 0, 48, .inl fun _ => 0) := by rw [e_61, va_up_ne _ _ (by omega)]; exact f_60_22
  have f_61_23 : cf_61 (166) = .inl (c 0, 48, .inl fun _ => 0) := by rw [e_61, va_up_ne _ _ (by omega)]; exact f_60_23
  have f_61_24 : cf_61 (167) = .inl (c 0, 48, .inl fun _ => 0) := by rw [e_61, va_up_ne _ _ (by omega)]; exact f_60_24
  have f_61_25 : cf_61 (168) = .inl (c 0, 48, .inl fun _ => 0) := by rw [e_61, va_up_ne _ _ (by omega)]; exact f_60_25
  have g_61 : ∀ j, j < 143 → cf_61 j = cf j := fun j hj => by rw [e_61]; exact (va_up_ne _ _ (by omega)).trans (g_60 j hj)
  refine lv_aload_n hx hb dX7_init_264 rfl (lv_at hl 0 rfl) ?_
  refine lv_bipush (v := 48) hx hb dX7_init_265 (by decide) ?_
  refine px_newa (atype := .int) (ty := .int) (a0 := (48, .inl fun _ => 0)) (N' := 48) hx hb (hts (.arrayClass .int) (by decide +kernel)) rfl hK hP hS 0 rfl (fun h => h) (fun _ => rfl) (by decide) (by decide) (by show 48 * 4 ≤ 536870912; omega) (Nat.le_of_ble_eq_true rfl) (Nat.le_of_ble_eq_true rfl) dX7_init_267 (fun H hP hS => ?_)
  have hP : px_H D b (170) (va_up cf_61 (169) (.inl (c 0, 48, .inl fun _ => 0))) H := hP
  obtain ⟨cf_62, e_62⟩ : ∃ z, z = va_up cf_61 (169) (.inl (c 0, 48, .inl fun _ => 0)) := ⟨_, rfl⟩
  rw [← e_62] at hP
  have f_62_0 : cf_62 (143) = .inr (7, [.int 0, .int 0, .ref (b + 144), .ref (b + 145), .ref (b + 146), .ref (b + 147), .int 0, .int 0, .ref (b + 148), .ref (b + 149), .ref (b + 150), .ref (b + 151), .ref (b + 152), .ref (b + 153), .int 0, .ref (b + 154), .ref (b + 155), .int 0, .ref (b + 156), .int 0, .int 0, .int 0, .int 0, .int (-1), .ref (b + 157), .ref (b + 158), .int 0, .ref (b + 159), .ref (b + 160), .ref (b + 161), .ref (b + 162), .ref (b + 163), .ref (b + 164), .ref (b + 165), .ref (b + 166), .ref (b + 167), .ref (b + 168), .null, .null, .int 0]) := by rw [e_62, va_up_ne _ _ (by omega)]; exact f_61_0
  have f_62_1 : cf_62 (144) = .inl (c 0, 60, .inl fun _ => 0) := by rw [e_62, va_up_ne _ _ (by omega)]; exact f_61_1
  have f_62_2 : cf_62 (145) = .inl (c 0, 240, .inl fun _ => 0) := by rw [e_62, va_up_ne _ _ (by omega)]; exact f_61_2
  have f_62_3 : cf_62 (146) = .inl (c 0, 60, .inl fun _ => 0) := by rw [e_62, va_up_ne _ _ (by omega)]; exact f_61_3
  have f_62_4 : cf_62 (147) = .inl (c 0, 60, .inl fun _ => 0) := by rw [e_62, va_up_ne _ _ (by omega)]; exact f_61_4
  have f_62_5 : cf_62 (148) = .inl (c 0, 10, .inl (upd (upd (upd (upd (upd (upd (upd (upd (upd (upd (fun _ => 0) 0 1) 1 2) 2 4) 3 8) 4 16) 5 32) 6 64) 7 128) 8 256) 9 512)) := by rw [e_62, va_up_ne _ _ (by omega)]; exact f_61_5
  have f_62_6 : cf_62 (149) = .inl (c 0, 126, .inl fun _ => 0) := by rw [e_62, va_up_ne _ _ (by omega)]; exact f_61_6
  have f_62_7 : cf_62 (150) = .inl (c 0, 126, .inl fun _ => 0) := by rw [e_62, va_up_ne _ _ (by omega)]; exact f_61_7
  have f_62_8 : cf_62 (151) = .inl (c 0, 21, .inl fun _ => 0) := by rw [e_62, va_up_ne _ _ (by omega)]; exact f_61_8
  have f_62_9 : cf_62 (152) = .inl (c 0, 21, .inl fun _ => 0) := by rw [e_62, va_up_ne _ _ (by omega)]; exact f_61_9
  have f_62_10 : cf_62 (153) = .inl (c 0, 21, .inl fun _ => 0) := by rw [e_62, va_up_ne _ _ (by omega)]; exact f_61_10
  have f_62_11 : cf_62 (154) = .inl (c 0, 40, .inl fun _ => 0) := by rw [e_62, va_up_ne _ _ (by omega)]; exact f_61_11
  have f_62_12 : cf_62 (155) = .inl (c 0, 40, .inl fun _ => 0) := by rw [e_62, va_up_ne _ _ (by omega)]; exact f_61_12
  have f_62_13 : cf_62 (156) = .inl (c 1, 400, .inl fun _ => 0) := by rw [e_62, va_up_ne _ _ (by omega)]; exact f_61_13
  have f_62_14 : cf_62 (157) = .inl (c 0, 5, .inl fun _ => 0) := by rw [e_62, va_up_ne _ _ (by omega)]; exact f_61_14
  have f_62_15 : cf_62 (158) = .inl (c 0, 8, .inl fun _ => 0) := by rw [e_62, va_up_ne _ _ (by omega)]; exact f_61_15
  have f_62_16 : cf_62 (159) = .inl (c 0, 48, .inl fun _ => 0) := by rw [e_62, va_up_ne _ _ (by omega)]; exact f_61_16
  have f_62_17 : cf_62 (160) = .inl (c 0, 48, .inl fun _ => 0) := by rw [e_62, va_up_ne _ _ (by omega)]; exact f_61_17
  have f_62_18 : cf_62 (161) = .inl (c 0, 48, .inl fun _ => 0) := by rw [e_62, va_up_ne _ _ (by omega)]; exact f_61_18
  have f_62_19 : cf_62 (162) = .inl (c 0, 48, .inl fun _ => 0) := by rw [e_62, va_up_ne _ _ (by omega)]; exact f_61_19
  have f_62_20 : cf_62 (163) = .inl (c 0, 48, .inl fun _ => 0) := by rw [e_62, va_up_ne _ _ (by omega)]; exact f_61_20
  have f_62_21 : cf_62 (164) = .inl (c 0, 48, .inl fun _ => 0) := by rw [e_62, va_up_ne _ _ (by omega)]; exact f_61_21
  have f_62_22 : cf_62 (165) = .inl (c 0, 48, .inl fun _ => 0) := by rw [e_62, va_up_ne _ _ (by omega)]; exact f_61_22
  have f_62_23 : cf_62 (166) = .inl (c 0, 48, .inl fun _ => 0) := by rw [e_62, va_up_ne _ _ (by omega)]; exact f_61_23
  have f_62_24 : cf_62 (167) = .inl (c 0, 48, .inl fun _ => 0) := by rw [e_62, va_up_ne _ _ (by omega)]; exact f_61_24
  have f_62_25 : cf_62 (168) = .inl (c 0, 48, .inl fun _ => 0) := by rw [e_62, va_up_ne _ _ (by omega)]; exact f_61_25
  have f_62_26 : cf_62 (169) = .inl (c 0, 48, .inl fun _ => 0) := by rw [e_62]; exact va_up_self _ _ _
  have g_62 : ∀ j, j < 143 → cf_62 j = cf j := fun j hj => by rw [e_62]; exact (va_up_ne _ _ (by omega)).trans (g_61 j hj)
  refine px_putF (ty := (.array .int)) (v := .ref (b + 169)) hx hb hts (by decide +kernel) tyX7 tyX7_ok nmX7 hown hK hP hS (143) (by omega) f_62_0 rfl 37 (by decide) (hts (.fieldLink RX7 90 "PriceEdictModel" "weight" "[I") (by decide +kernel)) rfl hmn rfl (by decide +kernel) rfl rfl (Nat.le_of_ble_eq_true rfl) dX7_init_269 (fun H locs hP hS => ?_)
  have hP : px_H D b (170) (va_up cf_62 (143) (.inr (7, [.int 0, .int 0, .ref (b + 144), .ref (b + 145), .ref (b + 146), .ref (b + 147), .int 0, .int 0, .ref (b + 148), .ref (b + 149), .ref (b + 150), .ref (b + 151), .ref (b + 152), .ref (b + 153), .int 0, .ref (b + 154), .ref (b + 155), .int 0, .ref (b + 156), .int 0, .int 0, .int 0, .int 0, .int (-1), .ref (b + 157), .ref (b + 158), .int 0, .ref (b + 159), .ref (b + 160), .ref (b + 161), .ref (b + 162), .ref (b + 163), .ref (b + 164), .ref (b + 165), .ref (b + 166), .ref (b + 167), .ref (b + 168), .ref (b + 169), .null, .int 0]))) H := hP
  obtain ⟨cf_63, e_63⟩ : ∃ z, z = va_up cf_62 (143) (.inr (7, [.int 0, .int 0, .ref (b + 144), .ref (b + 145), .ref (b + 146), .ref (b + 147), .int 0, .int 0, .ref (b + 148), .ref (b + 149), .ref (b + 150), .ref (b + 151), .ref (b + 152), .ref (b + 153), .int 0, .ref (b + 154), .ref (b + 155), .int 0, .ref (b + 156), .int 0, .int 0, .int 0, .int 0, .int (-1), .ref (b + 157), .ref (b + 158), .int 0, .ref (b + 159), .ref (b + 160), .ref (b + 161), .ref (b + 162), .ref (b + 163), .ref (b + 164), .ref (b + 165), .ref (b + 166), .ref (b + 167), .ref (b + 168), .ref (b + 169), .null, .int 0])) := ⟨_, rfl⟩
  rw [← e_63] at hP
  have f_63_0 : cf_63 (143) = .inr (7, [.int 0, .int 0, .ref (b + 144), .ref (b + 145), .ref (b + 146), .ref (b + 147), .int 0, .int 0, .ref (b + 148), .ref (b + 149), .ref (b + 150), .ref (b + 151), .ref (b + 152), .ref (b + 153), .int 0, .ref (b + 154), .ref (b + 155), .int 0, .ref (b + 156), .int 0, .int 0, .int 0, .int 0, .int (-1), .ref (b + 157), .ref (b + 158), .int 0, .ref (b + 159), .ref (b + 160), .ref (b + 161), .ref (b + 162), .ref (b + 163), .ref (b + 164), .ref (b + 165), .ref (b + 166), .ref (b + 167), .ref (b + 168), .ref (b + 169), .null, .int 0]) := by rw [e_63]; exact va_up_self _ _ _
  have f_63_1 : cf_63 (144) = .inl (c 0, 60, .inl fun _ => 0) := by rw [e_63, va_up_ne _ _ (by omega)]; exact f_62_1
  have f_63_2 : cf_63 (145) = .inl (c 0, 240, .inl fun _ => 0) := by rw [e_63, va_up_ne _ _ (by omega)]; exact f_62_2
  have f_63_3 : cf_63 (146) = .inl (c 0, 60, .inl fun _ => 0) := by rw [e_63, va_up_ne _ _ (by omega)]; exact f_62_3
  have f_63_4 : cf_63 (147) = .inl (c 0, 60, .inl fun _ => 0) := by rw [e_63, va_up_ne _ _ (by omega)]; exact f_62_4
  have f_63_5 : cf_63 (148) = .inl (c 0, 10, .inl (upd (upd (upd (upd (upd (upd (upd (upd (upd (upd (fun _ => 0) 0 1) 1 2) 2 4) 3 8) 4 16) 5 32) 6 64) 7 128) 8 256) 9 512)) := by rw [e_63, va_up_ne _ _ (by omega)]; exact f_62_5
  have f_63_6 : cf_63 (149) = .inl (c 0, 126, .inl fun _ => 0) := by rw [e_63, va_up_ne _ _ (by omega)]; exact f_62_6
  have f_63_7 : cf_63 (150) = .inl (c 0, 126, .inl fun _ => 0) := by rw [e_63, va_up_ne _ _ (by omega)]; exact f_62_7
  have f_63_8 : cf_63 (151) = .inl (c 0, 21, .inl fun _ => 0) := by rw [e_63, va_up_ne _ _ (by omega)]; exact f_62_8
  have f_63_9 : cf_63 (152) = .inl (c 0, 21, .inl fun _ => 0) := by rw [e_63, va_up_ne _ _ (by omega)]; exact f_62_9
  have f_63_10 : cf_63 (153) = .inl (c 0, 21, .inl fun _ => 0) := by rw [e_63, va_up_ne _ _ (by omega)]; exact f_62_10
  have f_63_11 : cf_63 (154) = .inl (c 0, 40, .inl fun _ => 0) := by rw [e_63, va_up_ne _ _ (by omega)]; exact f_62_11
  have f_63_12 : cf_63 (155) = .inl (c 0, 40, .inl fun _ => 0) := by rw [e_63, va_up_ne _ _ (by omega)]; exact f_62_12
  have f_63_13 : cf_63 (156) = .inl (c 1, 400, .inl fun _ => 0) := by rw [e_63, va_up_ne _ _ (by omega)]; exact f_62_13
  have f_63_14 : cf_63 (157) = .inl (c 0, 5, .inl fun _ => 0) := by rw [e_63, va_up_ne _ _ (by omega)]; exact f_62_14
  have f_63_15 : cf_63 (158) = .inl (c 0, 8, .inl fun _ => 0) := by rw [e_63, va_up_ne _ _ (by omega)]; exact f_62_15
  have f_63_16 : cf_63 (159) = .inl (c 0, 48, .inl fun _ => 0) := by rw [e_63, va_up_ne _ _ (by omega)]; exact f_62_16
  have f_63_17 : cf_63 (160) = .inl (c 0, 48, .inl fun _ => 0) := by rw [e_63, va_up_ne _ _ (by omega)]; exact f_62_17
  have f_63_18 : cf_63 (161) = .inl (c 0, 48, .inl fun _ => 0) := by rw [e_63, va_up_ne _ _ (by omega)]; exact f_62_18
  have f_63_19 : cf_63 (162) = .inl (c 0, 48, .inl fun _ => 0) := by rw [e_63, va_up_ne _ _ (by omega)]; exact f_62_19
  have f_63_20 : cf_63 (163) = .inl (c 0, 48, .inl fun _ => 0) := by rw [e_63, va_up_ne _ _ (by omega)]; exact f_62_20
  have f_63_21 : cf_63 (164) = .inl (c 0, 48, .inl fun _ => 0) := by rw [e_63, va_up_ne _ _ (by omega)]; exact f_62_21
  have f_63_22 : cf_63 (165) = .inl (c 0, 48, .inl fun _ => 0) := by rw [e_63, va_up_ne _ _ (by omega)]; exact f_62_22
  have f_63_23 : cf_63 (166) = .inl (c 0, 48, .inl fun _ => 0) := by rw [e_63, va_up_ne _ _ (by omega)]; exact f_62_23
  have f_63_24 : cf_63 (167) = .inl (c 0, 48, .inl fun _ => 0) := by rw [e_63, va_up_ne _ _ (by omega)]; exact f_62_24
  have f_63_25 : cf_63 (168) = .inl (c 0, 48, .inl fun _ => 0) := by rw [e_63, va_up_ne _ _ (by omega)]; exact f_62_25
  have f_63_26 : cf_63 (169) = .inl (c 0, 48, .inl fun _ => 0) := by rw [e_63, va_up_ne _ _ (by omega)]; exact f_62_26
  have g_63 : ∀ j, j < 143 → cf_63 j = cf j := fun j hj => by rw [e_63]; exact (va_up_ne _ _ (by omega)).trans (g_62 j hj)
  refine lv_aload_n hx hb dX7_init_272 rfl (lv_at hl 0 rfl) ?_
  refine lv_bipush (v := 6) hx hb dX7_init_273 (by decide) ?_
  refine px_newa (atype := .int) (ty := .int) (a0 := (6, .inl fun _ => 0)) (N' := 6) hx hb (hts (.arrayClass .int) (by decide +kernel)) rfl hK hP hS 0 rfl (fun h => h) (fun _ => rfl) (by decide) (by decide) (by show 6 * 4 ≤ 536870912; omega) (Nat.le_of_ble_eq_true rfl) (Nat.le_of_ble_eq_true rfl) dX7_init_275 (fun H hP hS => ?_)
  have hP : px_H D b (171) (va_up cf_63 (170) (.inl (c 0, 6, .inl fun _ => 0))) H := hP
  obtain ⟨cf_64, e_64⟩ : ∃ z, z = va_up cf_63 (170) (.inl (c 0, 6, .inl fun _ => 0)) := ⟨_, rfl⟩
  rw [← e_64] at hP
  have f_64_0 : cf_64 (143) = .inr (7, [.int 0, .int 0, .ref (b + 144), .ref (b + 145), .ref (b + 146), .ref (b + 147), .int 0, .int 0, .ref (b + 148), .ref (b + 149), .ref (b + 150), .ref (b + 151), .ref (b + 152), .ref (b + 153), .int 0, .ref (b + 154), .ref (b + 155), .int 0, .ref (b + 156), .int 0, .int 0, .int 0, .int 0, .int (-1), .ref (b + 157), .ref (b + 158), .int 0, .ref (b + 159), .ref (b + 160), .ref (b + 161), .ref (b + 162), .ref (b + 163), .ref (b + 164), .ref (b + 165), .ref (b + 166), .ref (b + 167), .ref (b + 168), .ref (b + 169), .null, .int 0]) := by rw [e_64, va_up_ne _ _ (by omega)]; exact f_63_0
  have f_64_1 : cf_64 (144) = .inl (c 0, 60, .inl fun _ => 0) := by rw [e_64, va_up_ne _ _ (by omega)]; exact f_63_1
  have f_64_2 : cf_64 (145) = .inl (c 0, 240, .inl fun _ => 0) := by rw [e_64, va_up_ne _ _ (by omega)]; exact f_63_2
  have f_64_3 : cf_64 (146) = .inl (c 0, 60, .inl fun _ => 0) := by rw [e_64, va_up_ne _ _ (by omega)]; exact f_63_3
  have f_64_4 : cf_64 (147) = .inl (c 0, 60, .inl fun _ => 0) := by rw [e_64, va_up_ne _ _ (by omega)]; exact f_63_4
  have f_64_5 : cf_64 (148) = .inl (c 0, 10, .inl (upd (upd (upd (upd (upd (upd (upd (upd (upd (upd (fun _ => 0) 0 1) 1 2) 2 4) 3 8) 4 16) 5 32) 6 64) 7 128) 8 256) 9 512)) := by rw [e_64, va_up_ne _ _ (by omega)]; exact f_63_5
  have f_64_6 : cf_64 (149) = .inl (c 0, 126, .inl fun _ => 0) := by rw [e_64, va_up_ne _ _ (by omega)]; exact f_63_6
  have f_64_7 : cf_64 (150) = .inl (c 0, 126, .inl fun _ => 0) := by rw [e_64, va_up_ne _ _ (by omega)]; exact f_63_7
  have f_64_8 : cf_64 (151) = .inl (c 0, 21, .inl fun _ => 0) := by rw [e_64, va_up_ne _ _ (by omega)]; exact f_63_8
  have f_64_9 : cf_64 (152) = .inl (c 0, 21, .inl fun _ => 0) := by rw [e_64, va_up_ne _ _ (by omega)]; exact f_63_9
  have f_64_10 : cf_64 (153) = .inl (c 0, 21, .inl fun _ => 0) := by rw [e_64, va_up_ne _ _ (by omega)]; exact f_63_10
  have f_64_11 : cf_64 (154) = .inl (c 0, 40, .inl fun _ => 0) := by rw [e_64, va_up_ne _ _ (by omega)]; exact f_63_11
  have f_64_12 : cf_64 (155) = .inl (c 0, 40, .inl fun _ => 0) := by rw [e_64, va_up_ne _ _ (by omega)]; exact f_63_12
  have f_64_13 : cf_64 (156) = .inl (c 1, 400, .inl fun _ => 0) := by rw [e_64, va_up_ne _ _ (by omega)]; exact f_63_13
  have f_64_14 : cf_64 (157) = .inl (c 0, 5, .inl fun _ => 0) := by rw [e_64, va_up_ne _ _ (by omega)]; exact f_63_14
  have f_64_15 : cf_64 (158) = .inl (c 0, 8, .inl fun _ => 0) := by rw [e_64, va_up_ne _ _ (by omega)]; exact f_63_15
  have f_64_16 : cf_64 (159) = .inl (c 0, 48, .inl fun _ => 0) := by rw [e_64, va_up_ne _ _ (by omega)]; exact f_63_16
  have f_64_17 : cf_64 (160) = .inl (c 0, 48, .inl fun _ => 0) := by rw [e_64, va_up_ne _ _ (by omega)]; exact f_63_17
  have f_64_18 : cf_64 (161) = .inl (c 0, 48, .inl fun _ => 0) := by rw [e_64, va_up_ne _ _ (by omega)]; exact f_63_18
  have f_64_19 : cf_64 (162) = .inl (c 0, 48, .inl fun _ => 0) := by rw [e_64, va_up_ne _ _ (by omega)]; exact f_63_19
  have f_64_20 : cf_64 (163) = .inl (c 0, 48, .inl fun _ => 0) := by rw [e_64, va_up_ne _ _ (by omega)]; exact f_63_20
  have f_64_21 : cf_64 (164) = .inl (c 0, 48, .inl fun _ => 0) := by rw [e_64, va_up_ne _ _ (by omega)]; exact f_63_21
  have f_64_22 : cf_64 (165) = .inl (c 0, 48, .inl fun _ => 0) := by rw [e_64, va_up_ne _ _ (by omega)]; exact f_63_22
  have f_64_23 : cf_64 (166) = .inl (c 0, 48, .inl fun _ => 0) := by rw [e_64, va_up_ne _ _ (by omega)]; exact f_63_23
  have f_64_24 : cf_64 (167) = .inl (c 0, 48, .inl fun _ => 0) := by rw [e_64, va_up_ne _ _ (by omega)]; exact f_63_24
  have f_64_25 : cf_64 (168) = .inl (c 0, 48, .inl fun _ => 0) := by rw [e_64, va_up_ne _ _ (by omega)]; exact f_63_25
  have f_64_26 : cf_64 (169) = .inl (c 0, 48, .inl fun _ => 0) := by rw [e_64, va_up_ne _ _ (by omega)]; exact f_63_26
  have f_64_27 : cf_64 (170) = .inl (c 0, 6, .inl fun _ => 0) := by rw [e_64]; exact va_up_self _ _ _
  have g_64 : ∀ j, j < 143 → cf_64 j = cf j := fun j hj => by rw [e_64]; exact (va_up_ne _ _ (by omega)).trans (g_63 j hj)
  refine px_putF (ty := (.array .int)) (v := .ref (b + 170)) hx hb hts (by decide +kernel) tyX7 tyX7_ok nmX7 hown hK hP hS (143) (by omega) f_64_0 rfl 38 (by decide) (hts (.fieldLink RX7 93 "PriceEdictModel" "spoil" "[I") (by decide +kernel)) rfl hmn rfl (by decide +kernel) rfl rfl (Nat.le_of_ble_eq_true rfl) dX7_init_277 (fun H locs hP hS => ?_)
  have hP : px_H D b (171) (va_up cf_64 (143) (.inr (7, [.int 0, .int 0, .ref (b + 144), .ref (b + 145), .ref (b + 146), .ref (b + 147), .int 0, .int 0, .ref (b + 148), .ref (b + 149), .ref (b + 150), .ref (b + 151), .ref (b + 152), .ref (b + 153), .int 0, .ref (b + 154), .ref (b + 155), .int 0, .ref (b + 156), .int 0, .int 0, .int 0, .int 0, .int (-1), .ref (b + 157), .ref (b + 158), .int 0, .ref (b + 159), .ref (b + 160), .ref (b + 161), .ref (b + 162), .ref (b + 163), .ref (b + 164), .ref (b + 165), .ref (b + 166), .ref (b + 167), .ref (b + 168), .ref (b + 169), .ref (b + 170), .int 0]))) H := hP
  obtain ⟨cf_65, e_65⟩ : ∃ z, z = va_up cf_64 (143) (.inr (7, [.int 0, .int 0, .ref (b + 144), .ref (b + 145), .ref (b + 146), .ref (b + 147), .int 0, .int 0, .ref (b + 148), .ref (b + 149), .ref (b + 150), .ref (b + 151), .ref (b + 152), .ref (b + 153), .int 0, .ref (b + 154), .ref (b + 155), .int 0, .ref (b + 156), .int 0, .int 0, .int 0, .int 0, .int (-1), .ref (b + 157), .ref (b + 158), .int 0, .ref (b + 159), .ref (b + 160), .ref (b + 161), .ref (b + 162), .ref (b + 163), .ref (b + 164), .ref (b + 165), .ref (b + 166), .ref (b + 167), .ref (b + 168), .ref (b + 169), .ref (b + 170), .int 0])) := ⟨_, rfl⟩
  rw [← e_65] at hP
  have f_65_0 : cf_65 (143) = .inr (7, [.int 0, .int 0, .ref (b + 144), .ref (b + 145), .ref (b + 146), .ref (b + 147), .int 0, .int 0, .ref (b + 148), .ref (b + 149), .ref (b + 150), .ref (b + 151), .ref (b + 152), .ref (b + 153), .int 0, .ref (b + 154), .ref (b + 155), .int 0, .ref (b + 156), .int 0, .int 0, .int 0, .int 0, .int (-1), .ref (b + 157), .ref (b + 158), .int 0, .ref (b + 159), .ref (b + 160), .ref (b + 161), .ref (b + 162), .ref (b + 163), .ref (b + 164), .ref (b + 165), .ref (b + 166), .ref (b + 167), .ref (b + 168), .ref (b + 169), .ref (b + 170), .int 0]) := by rw [e_65]; exact va_up_self _ _ _
  have f_65_1 : cf_65 (144) = .inl (c 0, 60, .inl fun _ => 0) := by rw [e_65, va_up_ne _ _ (by omega)]; exact f_64_1
  have f_65_2 : cf_65 (145) = .inl (c 0, 240, .inl fun _ => 0) := by rw [e_65, va_up_ne _ _ (by omega)]; exact f_64_2
  have f_65_3 : cf_65 (146) = .inl (c 0, 60, .inl fun _ => 0) := by rw [e_65, va_up_ne _ _ (by omega)]; exact f_64_3
  have f_65_4 : cf_65 (147) = .inl (c 0, 60, .inl fun _ => 0) := by rw [e_65, va_up_ne _ _ (by omega)]; exact f_64_4
  have f_65_5 : cf_65 (148) = .inl (c 0, 10, .inl (upd (upd (upd (upd (upd (upd (upd (upd (upd (upd (fun _ => 0) 0 1) 1 2) 2 4) 3 8) 4 16) 5 32) 6 64) 7 128) 8 256) 9 512)) := by rw [e_65, va_up_ne _ _ (by omega)]; exact f_64_5
  have f_65_6 : cf_65 (149) = .inl (c 0, 126, .inl fun _ => 0) := by rw [e_65, va_up_ne _ _ (by omega)]; exact f_64_6
  have f_65_7 : cf_65 (150) = .inl (c 0, 126, .inl fun _ => 0) := by rw [e_65, va_up_ne _ _ (by omega)]; exact f_64_7
  have f_65_8 : cf_65 (151) = .inl (c 0, 21, .inl fun _ => 0) := by rw [e_65, va_up_ne _ _ (by omega)]; exact f_64_8
  have f_65_9 : cf_65 (152) = .inl (c 0, 21, .inl fun _ => 0) := by rw [e_65, va_up_ne _ _ (by omega)]; exact f_64_9
  have f_65_10 : cf_65 (153) = .inl (c 0, 21, .inl fun _ => 0) := by rw [e_65, va_up_ne _ _ (by omega)]; exact f_64_10
  have f_65_11 : cf_65 (154) = .inl (c 0, 40, .inl fun _ => 0) := by rw [e_65, va_up_ne _ _ (by omega)]; exact f_64_11
  have f_65_12 : cf_65 (155) = .inl (c 0, 40, .inl fun _ => 0) := by rw [e_65, va_up_ne _ _ (by omega)]; exact f_64_12
  have f_65_13 : cf_65 (156) = .inl (c 1, 400, .inl fun _ => 0) := by rw [e_65, va_up_ne _ _ (by omega)]; exact f_64_13
  have f_65_14 : cf_65 (157) = .inl (c 0, 5, .inl fun _ => 0) := by rw [e_65, va_up_ne _ _ (by omega)]; exact f_64_14
  have f_65_15 : cf_65 (158) = .inl (c 0, 8, .inl fun _ => 0) := by rw [e_65, va_up_ne _ _ (by omega)]; exact f_64_15
  have f_65_16 : cf_65 (159) = .inl (c 0, 48, .inl fun _ => 0) := by rw [e_65, va_up_ne _ _ (by omega)]; exact f_64_16
  have f_65_17 : cf_65 (160) = .inl (c 0, 48, .inl fun _ => 0) := by rw [e_65, va_up_ne _ _ (by omega)]; exact f_64_17
  have f_65_18 : cf_65 (161) = .inl (c 0, 48, .inl fun _ => 0) := by rw [e_65, va_up_ne _ _ (by omega)]; exact f_64_18
  have f_65_19 : cf_65 (162) = .inl (c 0, 48, .inl fun _ => 0) := by rw [e_65, va_up_ne _ _ (by omega)]; exact f_64_19
  have f_65_20 : cf_65 (163) = .inl (c 0, 48, .inl fun _ => 0) := by rw [e_65, va_up_ne _ _ (by omega)]; exact f_64_20
  have f_65_21 : cf_65 (164) = .inl (c 0, 48, .inl fun _ => 0) := by rw [e_65, va_up_ne _ _ (by omega)]; exact f_64_21
  have f_65_22 : cf_65 (165) = .inl (c 0, 48, .inl fun _ => 0) := by rw [e_65, va_up_ne _ _ (by omega)]; exact f_64_22
  have f_65_23 : cf_65 (166) = .inl (c 0, 48, .inl fun _ => 0) := by rw [e_65, va_up_ne _ _ (by omega)]; exact f_64_23
  have f_65_24 : cf_65 (167) = .inl (c 0, 48, .inl fun _ => 0) := by rw [e_65, va_up_ne _ _ (by omega)]; exact f_64_24
  have f_65_25 : cf_65 (168) = .inl (c 0, 48, .inl fun _ => 0) := by rw [e_65, va_up_ne _ _ (by omega)]; exact f_64_25
  have f_65_26 : cf_65 (169) = .inl (c 0, 48, .inl fun _ => 0) := by rw [e_65, va_up_ne _ _ (by omega)]; exact f_64_26
  have f_65_27 : cf_65 (170) = .inl (c 0, 6, .inl fun _ => 0) := by rw [e_65, va_up_ne _ _ (by omega)]; exact f_64_27
  have g_65 : ∀ j, j < 143 → cf_65 j = cf j := fun j hj => by rw [e_65]; exact (va_up_ne _ _ (by omega)).trans (g_64 j hj)
  refine lv_aload_n hx hb dX7_init_280 rfl (lv_at hl 0 rfl) ?_
  refine lv_iconst (v := 1) hx hb dX7_init_281 (by decide) ?_
  refine px_put (ty := .int) (v := .int 1) hx hb hts (by decide +kernel) tyX7 tyX7_ok nmX7 hown hK hP hS (143) (by omega) f_65_0 rfl 39 (by decide) (hts (.fieldLink RX7 96 "PriceEdictModel" "carry" "I") (by decide +kernel)) rfl (by decide +kernel) rfl rfl (Nat.le_of_ble_eq_true rfl) dX7_init_282 (fun H locs hP hS => ?_)
  have hP : px_H D b (171) (va_up cf_65 (143) (.inr (7, [.int 0, .int 0, .ref (b + 144), .ref (b + 145), .ref (b + 146), .ref (b + 147), .int 0, .int 0, .ref (b + 148), .ref (b + 149), .ref (b + 150), .ref (b + 151), .ref (b + 152), .ref (b + 153), .int 0, .ref (b + 154), .ref (b + 155), .int 0, .ref (b + 156), .int 0, .int 0, .int 0, .int 0, .int (-1), .ref (b + 157), .ref (b + 158), .int 0, .ref (b + 159), .ref (b + 160), .ref (b + 161), .ref (b + 162), .ref (b + 163), .ref (b + 164), .ref (b + 165), .ref (b + 166), .ref (b + 167), .ref (b + 168), .ref (b + 169), .ref (b + 170), .int 1]))) H := hP
  obtain ⟨cf_66, e_66⟩ : ∃ z, z = va_up cf_65 (143) (.inr (7, [.int 0, .int 0, .ref (b + 144), .ref (b + 145), .ref (b + 146), .ref (b + 147), .int 0, .int 0, .ref (b + 148), .ref (b + 149), .ref (b + 150), .ref (b + 151), .ref (b + 152), .ref (b + 153), .int 0, .ref (b + 154), .ref (b + 155), .int 0, .ref (b + 156), .int 0, .int 0, .int 0, .int 0, .int (-1), .ref (b + 157), .ref (b + 158), .int 0, .ref (b + 159), .ref (b + 160), .ref (b + 161), .ref (b + 162), .ref (b + 163), .ref (b + 164), .ref (b + 165), .ref (b + 166), .ref (b + 167), .ref (b + 168), .ref (b + 169), .ref (b + 170), .int 1])) := ⟨_, rfl⟩
  rw [← e_66] at hP
  have f_66_0 : cf_66 (143) = .inr (7, [.int 0, .int 0, .ref (b + 144), .ref (b + 145), .ref (b + 146), .ref (b + 147), .int 0, .int 0, .ref (b + 148), .ref (b + 149), .ref (b + 150), .ref (b + 151), .ref (b + 152), .ref (b + 153), .int 0, .ref (b + 154), .ref (b + 155), .int 0, .ref (b + 156), .int 0, .int 0, .int 0, .int 0, .int (-1), .ref (b + 157), .ref (b + 158), .int 0, .ref (b + 159), .ref (b + 160), .ref (b + 161), .ref (b + 162), .ref (b + 163), .ref (b + 164), .ref (b + 165), .ref (b + 166), .ref (b + 167), .ref (b + 168), .ref (b + 169), .ref (b + 170), .int 1]) := by rw [e_66]; exact va_up_self _ _ _
  have f_66_1 : cf_66 (144) = .inl (c 0, 60, .inl fun _ => 0) := by rw [e_66, va_up_ne _ _ (by omega)]; exact f_65_1
  have f_66_2 : cf_66 (145) = .inl (c 0, 240, .inl fun _ => 0) := by rw [e_66, va_up_ne _ _ (by omega)]; exact f_65_2
  have f_66_3 : cf_66 (146) = .inl (c 0, 60, .inl fun _ => 0) := by rw [e_66, va_up_ne _ _ (by omega)]; exact f_65_3
  have f_66_4 : cf_66 (147) = .inl (c 0, 60, .inl fun _ => 0) := by rw [e_66, va_up_ne _ _ (by omega)]; exact f_65_4
  have f_66_5 : cf_66 (148) = .inl (c 0, 10, .inl (upd (upd (upd (upd (upd (upd (upd (upd (upd (upd (fun _ => 0) 0 1) 1 2) 2 4) 3 8) 4 16) 5 32) 6 64) 7 128) 8 256) 9 512)) := by rw [e_66, va_up_ne _ _ (by omega)]; exact f_65_5
  have f_66_6 : cf_66 (149) = .inl (c 0, 126, .inl fun _ => 0) := by rw [e_66, va_up_ne _ _ (by omega)]; exact f_65_6
  have f_66_7 : cf_66 (150) = .inl (c 0, 126, .inl fun _ => 0) := by rw [e_66, va_up_ne _ _ (by omega)]; exact f_65_7
  have f_66_8 : cf_66 (151) = .inl (c 0, 21, .inl fun _ => 0) := by rw [e_66, va_up_ne _ _ (by omega)]; exact f_65_8
  have f_66_9 : cf_66 (152) = .inl (c 0, 21, .inl fun _ => 0) := by rw [e_66, va_up_ne _ _ (by omega)]; exact f_65_9
  have f_66_10 : cf_66 (153) = .inl (c 0, 21, .inl fun _ => 0) := by rw [e_66, va_up_ne _ _ (by omega)]; exact f_65_10
  have f_66_11 : cf_66 (154) = .inl (c 0, 40, .inl fun _ => 0) := by rw [e_66, va_up_ne _ _ (by omega)]; exact f_65_11
  have f_66_12 : cf_66 (155) = .inl (c 0, 40, .inl fun _ => 0) := by rw [e_66, va_up_ne _ _ (by omega)]; exact f_65_12
  have f_66_13 : cf_66 (156) = .inl (c 1, 400, .inl fun _ => 0) := by rw [e_66, va_up_ne _ _ (by omega)]; exact f_65_13
  have f_66_14 : cf_66 (157) = .inl (c 0, 5, .inl fun _ => 0) := by rw [e_66, va_up_ne _ _ (by omega)]; exact f_65_14
  have f_66_15 : cf_66 (158) = .inl (c 0, 8, .inl fun _ => 0) := by rw [e_66, va_up_ne _ _ (by omega)]; exact f_65_15
  have f_66_16 : cf_66 (159) = .inl (c 0, 48, .inl fun _ => 0) := by rw [e_66, va_up_ne _ _ (by omega)]; exact f_65_16
  have f_66_17 : cf_66 (160) = .inl (c 0, 48, .inl fun _ => 0) := by rw [e_66, va_up_ne _ _ (by omega)]; exact f_65_17
  have f_66_18 : cf_66 (161) = .inl (c 0, 48, .inl fun _ => 0) := by rw [e_66, va_up_ne _ _ (by omega)]; exact f_65_18
  have f_66_19 : cf_66 (162) = .inl (c 0, 48, .inl fun _ => 0) := by rw [e_66, va_up_ne _ _ (by omega)]; exact f_65_19
  have f_66_20 : cf_66 (163) = .inl (c 0, 48, .inl fun _ => 0) := by rw [e_66, va_up_ne _ _ (by omega)]; exact f_65_20
  have f_66_21 : cf_66 (164) = .inl (c 0, 48, .inl fun _ => 0) := by rw [e_66, va_up_ne _ _ (by omega)]; exact f_65_21
  have f_66_22 : cf_66 (165) = .inl (c 0, 48, .inl fun _ => 0) := by rw [e_66, va_up_ne _ _ (by omega)]; exact f_65_22
  have f_66_23 : cf_66 (166) = .inl (c 0, 48, .inl fun _ => 0) := by rw [e_66, va_up_ne _ _ (by omega)]; exact f_65_23
  have f_66_24 : cf_66 (167) = .inl (c 0, 48, .inl fun _ => 0) := by rw [e_66, va_up_ne _ _ (by omega)]; exact f_65_24
  have f_66_25 : cf_66 (168) = .inl (c 0, 48, .inl fun _ => 0) := by rw [e_66, va_up_ne _ _ (by omega)]; exact f_65_25
  have f_66_26 : cf_66 (169) = .inl (c 0, 48, .inl fun _ => 0) := by rw [e_66, va_up_ne _ _ (by omega)]; exact f_65_26
  have f_66_27 : cf_66 (170) = .inl (c 0, 6, .inl fun _ => 0) := by rw [e_66, va_up_ne _ _ (by omega)]; exact f_65_27
  have g_66 : ∀ j, j < 143 → cf_66 j = cf j := fun j hj => by rw [e_66]; exact (va_up_ne _ _ (by omega)).trans (g_65 j hj)
  exact px_ret (mc := 27) (ms := 1772) (Nat.le_of_ble_eq_true rfl) (Nat.le_of_ble_eq_true rfl) hx hb hret hlk hK hP hS rfl ⟨g_66, f_66_0, f_66_1, f_66_2, f_66_3, f_66_4, f_66_5, f_66_6, f_66_7, f_66_8, f_66_9, f_66_10, f_66_11, f_66_12, f_66_13, f_66_14, f_66_15, f_66_16, f_66_17, f_66_18, f_66_19, f_66_20, f_66_21, f_66_22, f_66_23, f_66_24, f_66_25, f_66_26, f_66_27⟩ dX7_init_285
