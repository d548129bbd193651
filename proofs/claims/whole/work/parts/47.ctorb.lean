/-! CONSTRUCTORS: the class's own, the reference's (written by program) -/
def drf (b i : Nat) : Nat → Option Nat := fun j => if j < i then some (b + (16 + 3 * j)) else none
theorem drf_0 (b : Nat) : drf b 0 = fun _ => none := by funext j; simp [drf]
theorem drf_up (b i : Nat) : va_up (drf b i) i (some (b + (16 + 3 * i))) = drf b (i + 1) := by
  funext j
  unfold va_up drf
  by_cases e : j = i
  · subst e; rw [if_pos rfl, if_pos (by omega)]
  · rw [if_neg e]
    by_cases h : j < i
    · rw [if_pos h, if_pos (by omega)]
    · rw [if_neg h, if_neg (by omega)]
def trf (b i : Nat) : Nat → Option Nat := fun j => if j < i then some (b + (79 + 8 * j)) else none
theorem trf_0 (b : Nat) : trf b 0 = fun _ => none := by funext j; simp [trf]
theorem trf_up (b i : Nat) : va_up (trf b i) i (some (b + (79 + 8 * i))) = trf b (i + 1) := by
  funext j
  unfold va_up trf
  by_cases e : j = i
  · subst e; rw [if_pos rfl, if_pos (by omega)]
  · rw [if_neg e]
    by_cases h : j < i
    · rw [if_pos h, if_pos (by omega)]
    · rw [if_neg h, if_neg (by omega)]
set_option maxHeartbeats 4000000 in
set_option maxRecDepth 100000 in
theorem c_X6_init (l : Launch) (D : va_G) (c : Nat → ClassId) (b : Nat) (cf : Nat → va_E) (f_0_0 : cf (0) = .inr (6, [.null, .null, .null, .null, .null, .null, .int 0, .int 0, .int 0, .int 0, .int 0])) : MCf l D c b yX6_init wsX6_init ({ frames := 3, cells := 142, slots := 1914, locals := 53 }) [.ref (b + 0)] (1) cf (143) (fun u => (u 0 = .inr (6, [.ref (b + 1), .ref (b + 3), .ref (b + 10), .ref (b + 11), .ref (b + 14), .ref (b + 15), .int 0, .int 0, .int 1, .int 0, .int (-1)]) ∧ u 1 = .inr (3, [.ref (b + 2), .int 0, .int 0, .int (-1)]) ∧ u 2 = .inl (c 1, 400, .inl fun _ => 0) ∧ u 3 = .inr (2, [.ref (b + 4), .ref (b + 5), .ref (b + 6), .ref (b + 7), .ref (b + 8), .ref (b + 9), .int 0, .int 0, .int 0]) ∧ u 4 = .inl (c 0, 60, .inl fun _ => 0) ∧ u 5 = .inl (c 0, 240, .inl fun _ => 0) ∧ u 6 = .inl (c 0, 60, .inl fun _ => 0) ∧ u 7 = .inl (c 0, 60, .inl fun _ => 0) ∧ u 8 = .inl (c 0, 10, .inl (rdg 10)) ∧ u 9 = .inl (c 0, 4, .inl fun _ => 0) ∧ u 11 = .inr (1, [.ref (b + 12), .ref (b + 13), .int 0]) ∧ u 12 = .inl (c 0, 40, .inl fun _ => 0) ∧ u 13 = .inl (c 0, 40, .inl fun _ => 0) ∧ u 15 = .inl (c 0, 6, .inl fun _ => 0)) ∧ u 10 = .inl (c 2, 21, .inr (.inr (.inr (.inr (drf b 21))))) ∧ (∀ j, j < 21 → u (16 + 3 * j) = .inr (0, [.ref (b + (16 + 3 * j + 1)), .ref (b + (16 + 3 * j + 2)), .int 0, .int 0, .int 0]) ∧ u (16 + 3 * j + 1) = .inl (c 0, 6, .inl fun _ => 0) ∧ u (16 + 3 * j + 2) = .inl (c 0, 6, .inl fun _ => 0)) ∧ u 14 = .inl (c 3, 8, .inr (.inr (.inr (.inr (trf b 8))))) ∧ ∀ j, j < 8 → u (79 + 8 * j) = .inr (4, [.ref (b + (79 + 8 * j + 1)), .int 0]) ∧ u (79 + 8 * j + 1) = .inl (c 4, 6, .inr (.inr (.inr (.inr (wrf b (79 + 8 * j + 2) 6))))) ∧ ∀ i, i < 6 → u (79 + 8 * j + 2 + i) = .inr (5, [.int 0, .int 0, .int 0, .int 0, .int 0, .int 0, .int 0, .int 0, .int 0, .int 0, .int 0])) EC 142 1914 := by
  refine px_of (cc := cX6_init) (nL := 2) (lvs := [(0, .ref (b + 0))]) (by decide) rfl rfl rfl (Nat.le_of_ble_eq_true rfl) ?_
  intro p e s m below meth c0 ls hx hb hret hml hts hown hlk hmn hK hP hS hl hE
  have g_0 : ∀ j, j < 0 → cf j = cf j := fun _ _ => rfl
  refine lv_aload_n hx hb dX6_init_0 rfl (lv_at hl 0 rfl) ?_
  refine W.objInit hx hb hown (hts (.methodLink RX6 1 objectInit) (by decide +kernel)) (hts (.instanceMethod objectInit) (by decide +kernel)) (hts (.code objectInit ⟨#[0xb1]⟩ 1 none) (by decide +kernel)) rfl (by rw [hml]; exact hl.1) rfl dX6_init_1 (Nat.le_of_ble_eq_true rfl) (Nat.le_of_ble_eq_true rfl) ?_
  refine W.eq (g2 := F0 m 4 ls []) rfl ?_
  refine lv_aload_n hx hb dX6_init_4 rfl (lv_at hl 0 rfl) ?_
  refine px_new (ci := 3) (fs := [.null, .int 0, .int 0, .int 0]) (C := RX3) (T := TX3) (N := 4) hx hb hts (by decide +kernel) tyX3 tyX3_ok hown (hts (.classLink RX6 7 RX3) (by decide +kernel)) (hts (.instantiable RX3 4) (by decide +kernel)) (hts (.initialized RX3) (by decide +kernel)) hK hP hS rfl (fun j hj => by rcases (show j = 0 ∨ j = 1 ∨ j = 2 ∨ j = 3 by omega) with rfl | rfl | rfl | rfl <;> rfl) (Nat.le_of_ble_eq_true rfl) (Nat.le_of_ble_eq_true rfl) dX6_init_5 (fun H hP hS => ?_)
  have hP : px_H D b (2) (va_up cf (1) (.inr (3, [.null, .int 0, .int 0, .int 0]))) H := hP
  obtain ⟨cf_1, e_1⟩ : ∃ z, z = va_up cf (1) (.inr (3, [.null, .int 0, .int 0, .int 0])) := ⟨_, rfl⟩
  rw [← e_1] at hP
  have f_1_0 : cf_1 (0) = .inr (6, [.null, .null, .null, .null, .null, .null, .int 0, .int 0, .int 0, .int 0, .int 0]) := by rw [e_1, va_up_ne _ _ (by omega)]; exact f_0_0
  have f_1_1 : cf_1 (1) = .inr (3, [.null, .int 0, .int 0, .int 0]) := by rw [e_1]; exact va_up_self _ _ _
  have g_1 : ∀ j, j < 0 → cf_1 j = cf j := fun j hj => by rw [e_1]; exact (va_up_ne _ _ (by omega)).trans (g_0 j hj)
  refine lv_dup hx hb dX6_init_8 rfl ?_
  refine px_initN (As := []) (rest := [.ref (b + 1), .ref (b + 0)]) ⟨hx, hb, hml, hown, hts⟩ (1) (c_X3_init l D c b (1) cf_1 f_1_1) tr_bl (fun _ _ => trivial) ⟨va_cnB (host := RX6) 0 hts gX6_init_X3_init_n9 rfl rfl rfl hE.1 (hts (.initialized RX3) (by decide +kernel)) (by decide +kernel) ⟨Nat.le_of_ble_eq_true rfl, Nat.le_of_ble_eq_true rfl⟩, rfl, hts (.instanceMethod yX3_init) (by decide +kernel)⟩ hK hP hS rfl hl.1 rfl (lv_room (Nat.le_of_ble_eq_true rfl)) dX6_init_9 ⟨Nat.le_of_ble_eq_true rfl, Nat.le_of_ble_eq_true rfl⟩ (fun u H locs hp hP hS => ?_)
  obtain ⟨cf_2, e_2⟩ : ∃ z, z = u := ⟨_, rfl⟩
  rw [← e_2] at hp hP
  have f_2_0 : cf_2 0 = .inr (6, [.null, .null, .null, .null, .null, .null, .int 0, .int 0, .int 0, .int 0, .int 0]) := (hp.1 0 (by omega)).trans f_1_0
  have f_2_1 : cf_2 1 = .inr (3, [.ref (b + 2), .int 0, .int 0, .int (-1)]) := hp.2.1
  have f_2_2 : cf_2 2 = .inl (c 1, 400, .inl fun _ => 0) := hp.2.2
  have g_2 : ∀ j, j < 0 → cf_2 j = cf j := fun j hj => absurd hj (by omega)
  clear hp
  refine px_putF (ty := (.object "PriceEdict$Tape")) (v := .ref (b + 1)) hx hb hts (by decide +kernel) tyX6 tyX6_ok nmX6 hown hK hP hS (0) (by omega) f_2_0 rfl 0 (by decide) (hts (.fieldLink RX6 10 "PriceEdict" "tape" "LPriceEdict$Tape;") (by decide +kernel)) rfl hmn rfl (by decide +kernel) rfl rfl (Nat.le_of_ble_eq_true rfl) dX6_init_12 (fun H locs hP hS => ?_)
  have hP : px_H D b (3) (va_up cf_2 (0) (.inr (6, [.ref (b + 1), .null, .null, .null, .null, .null, .int 0, .int 0, .int 0, .int 0, .int 0]))) H := hP
  obtain ⟨cf_3, e_3⟩ : ∃ z, z = va_up cf_2 (0) (.inr (6, [.ref (b + 1), .null, .null, .null, .null, .null, .int 0, .int 0, .int 0, .int 0, .int 0])) := ⟨_, rfl⟩
  rw [← e_3] at hP
  have f_3_0 : cf_3 (0) = .inr (6, [.ref (b + 1), .null, .null, .null, .null, .null, .int 0, .int 0, .int 0, .int 0, .int 0]) := by rw [e_3]; exact va_up_self _ _ _
  have f_3_1 : cf_3 (1) = .inr (3, [.ref (b + 2), .int 0, .int 0, .int (-1)]) := by rw [e_3, va_up_ne _ _ (by omega)]; exact f_2_1
  have f_3_2 : cf_3 (2) = .inl (c 1, 400, .inl fun _ => 0) := by rw [e_3, va_up_ne _ _ (by omega)]; exact f_2_2
  have g_3 : ∀ j, j < 0 → cf_3 j = cf j := fun j hj => by rw [e_3]; exact (va_up_ne _ _ (by omega)).trans (g_2 j hj)
  refine lv_aload_n hx hb dX6_init_15 rfl (lv_at hl 0 rfl) ?_
  refine px_new (ci := 2) (fs := [.null, .null, .null, .null, .null, .null, .int 0, .int 0, .int 0]) (C := RX2) (T := TX2) (N := 9) hx hb hts (by decide +kernel) tyX2 tyX2_ok hown (hts (.classLink RX6 16 RX2) (by decide +kernel)) (hts (.instantiable RX2 9) (by decide +kernel)) (hts (.initialized RX2) (by decide +kernel)) hK hP hS rfl (fun j hj => by rcases (show j = 0 ∨ j = 1 ∨ j = 2 ∨ j = 3 ∨ j = 4 ∨ j = 5 ∨ j = 6 ∨ j = 7 ∨ j = 8 by omega) with rfl | rfl | rfl | rfl | rfl | rfl | rfl | rfl | rfl <;> rfl) (Nat.le_of_ble_eq_true rfl) (Nat.le_of_ble_eq_true rfl) dX6_init_16 (fun H hP hS => ?_)
  have hP : px_H D b (4) (va_up cf_3 (3) (.inr (2, [.null, .null, .null, .null, .null, .null, .int 0, .int 0, .int 0]))) H := hP
  obtain ⟨cf_4, e_4⟩ : ∃ z, z = va_up cf_3 (3) (.inr (2, [.null, .null, .null, .null, .null, .null, .int 0, .int 0, .int 0])) := ⟨_, rfl⟩
  rw [← e_4] at hP
  have f_4_0 : cf_4 (0) = .inr (6, [.ref (b + 1), .null, .null, .null, .null, .null, .int 0, .int 0, .int 0, .int 0, .int 0]) := by rw [e_4, va_up_ne _ _ (by omega)]; exact f_3_0
  have f_4_1 : cf_4 (1) = .inr (3, [.ref (b + 2), .int 0, .int 0, .int (-1)]) := by rw [e_4, va_up_ne _ _ (by omega)]; exact f_3_1
  have f_4_2 : cf_4 (2) = .inl (c 1, 400, .inl fun _ => 0) := by rw [e_4, va_up_ne _ _ (by omega)]; exact f_3_2
  have f_4_3 : cf_4 (3) = .inr (2, [.null, .null, .null, .null, .null, .null, .int 0, .int 0, .int 0]) := by rw [e_4]; exact va_up_self _ _ _
  have g_4 : ∀ j, j < 0 → cf_4 j = cf j := fun j hj => by rw [e_4]; exact (va_up_ne _ _ (by omega)).trans (g_3 j hj)
  refine lv_dup hx hb dX6_init_19 rfl ?_
  refine px_init (As := []) (rest := [.ref (b + 3), .ref (b + 0)]) ⟨hx, hb, hml, hown, hts⟩ (3) (c_X2_init l D c b (3) cf_4 f_4_3) tr_bl (fun _ _ => trivial) (cwI 0 hts gX6_init_X2_init rfl rfl rfl (hts (.initialized RX2) (by decide +kernel)) (hts (.methodLink RX6 18 yX2_init) (by decide +kernel)) (hts (.instanceMethod yX2_init) (by decide +kernel)) rfl (by decide +kernel) ⟨Nat.le_of_ble_eq_true rfl, Nat.le_of_ble_eq_true rfl⟩) hK hP hS rfl hl.1 rfl (lv_room (Nat.le_of_ble_eq_true rfl)) dX6_init_20 ⟨Nat.le_of_ble_eq_true rfl, Nat.le_of_ble_eq_true rfl⟩ (fun u H locs hp hP hS => ?_)
  obtain ⟨cf_5, e_5⟩ : ∃ z, z = u := ⟨_, rfl⟩
  rw [← e_5] at hp hP
  have f_5_0 : cf_5 0 = .inr (6, [.ref (b + 1), .null, .null, .null, .null, .null, .int 0, .int 0, .int 0, .int 0, .int 0]) := (hp.1 0 (by omega)).trans f_4_0
  have f_5_1 : cf_5 1 = .inr (3, [.ref (b + 2), .int 0, .int 0, .int (-1)]) := (hp.1 1 (by omega)).trans f_4_1
  have f_5_2 : cf_5 2 = .inl (c 1, 400, .inl fun _ => 0) := (hp.1 2 (by omega)).trans f_4_2
  have f_5_3 : cf_5 3 = .inr (2, [.ref (b + 4), .ref (b + 5), .ref (b + 6), .ref (b + 7), .ref (b + 8), .ref (b + 9), .int 0, .int 0, .int 0]) := hp.2.1
  have f_5_4 : cf_5 4 = .inl (c 0, 60, .inl fun _ => 0) := hp.2.2.1
  have f_5_5 : cf_5 5 = .inl (c 0, 240, .inl fun _ => 0) := hp.2.2.2.1
  have f_5_6 : cf_5 6 = .inl (c 0, 60, .inl fun _ => 0) := hp.2.2.2.2.1
  have f_5_7 : cf_5 7 = .inl (c 0, 60, .inl fun _ => 0) := hp.2.2.2.2.2.1
  have f_5_8 : cf_5 8 = .inl (c 0, 10, .inl (rdg 10)) := hp.2.2.2.2.2.2.1
  have f_5_9 : cf_5 9 = .inl (c 0, 4, .inl fun _ => 0) := hp.2.2.2.2.2.2.2
  have g_5 : ∀ j, j < 0 → cf_5 j = cf j := fun j hj => absurd hj (by omega)
  clear hp
  refine px_putF (ty := (.object "PriceEdict$Stones")) (v := .ref (b + 3)) hx hb hts (by decide +kernel) tyX6 tyX6_ok nmX6 hown hK hP hS (0) (by omega) f_5_0 rfl 1 (by decide) (hts (.fieldLink RX6 19 "PriceEdict" "stones" "LPriceEdict$Stones;") (by decide +kernel)) rfl hmn rfl (by decide +kernel) rfl rfl (Nat.le_of_ble_eq_true rfl) dX6_init_23 (fun H locs hP hS => ?_)
  have hP : px_H D b (10) (va_up cf_5 (0) (.inr (6, [.ref (b + 1), .ref (b + 3), .null, .null, .null, .null, .int 0, .int 0, .int 0, .int 0, .int 0]))) H := hP
  obtain ⟨cf_6, e_6⟩ : ∃ z, z = va_up cf_5 (0) (.inr (6, [.ref (b + 1), .ref (b + 3), .null, .null, .null, .null, .int 0, .int 0, .int 0, .int 0, .int 0])) := ⟨_, rfl⟩
  rw [← e_6] at hP
  have f_6_0 : cf_6 (0) = .inr (6, [.ref (b + 1), .ref (b + 3), .null, .null, .null, .null, .int 0, .int 0, .int 0, .int 0, .int 0]) := by rw [e_6]; exact va_up_self _ _ _
  have f_6_1 : cf_6 (1) = .inr (3, [.ref (b + 2), .int 0, .int 0, .int (-1)]) := by rw [e_6, va_up_ne _ _ (by omega)]; exact f_5_1
  have f_6_2 : cf_6 (2) = .inl (c 1, 400, .inl fun _ => 0) := by rw [e_6, va_up_ne _ _ (by omega)]; exact f_5_2
  have f_6_3 : cf_6 (3) = .inr (2, [.ref (b + 4), .ref (b + 5), .ref (b + 6), .ref (b + 7), .ref (b + 8), .ref (b + 9), .int 0, .int 0, .int 0]) := by rw [e_6, va_up_ne _ _ (by omega)]; exact f_5_3
  have f_6_4 : cf_6 (4) = .inl (c 0, 60, .inl fun _ => 0) := by rw [e_6, va_up_ne _ _ (by omega)]; exact f_5_4
  have f_6_5 : cf_6 (5) = .inl (c 0, 240, .inl fun _ => 0) := by rw [e_6, va_up_ne _ _ (by omega)]; exact f_5_5
  have f_6_6 : cf_6 (6) = .inl (c 0, 60, .inl fun _ => 0) := by rw [e_6, va_up_ne _ _ (by omega)]; exact f_5_6
  have f_6_7 : cf_6 (7) = .inl (c 0, 60, .inl fun _ => 0) := by rw [e_6, va_up_ne _ _ (by omega)]; exact f_5_7
  have f_6_8 : cf_6 (8) = .inl (c 0, 10, .inl (rdg 10)) := by rw [e_6, va_up_ne _ _ (by omega)]; exact f_5_8
  have f_6_9 : cf_6 (9) = .inl (c 0, 4, .inl fun _ => 0) := by rw [e_6, va_up_ne _ _ (by omega)]; exact f_5_9
  have g_6 : ∀ j, j < 0 → cf_6 j = cf j := fun j hj => by rw [e_6]; exact (va_up_ne _ _ (by omega)).trans (g_5 j hj)
  refine lv_aload_n hx hb dX6_init_26 rfl (lv_at hl 0 rfl) ?_
  refine lv_bipush (v := 21) hx hb dX6_init_27 (by decide) ?_
  refine px_newq (own := RX6) (C := RX0) (index := 23) (N' := 21) hx hb hown (hts (.classLink RX6 23 RX0) (by decide +kernel)) (va_AO.use hE.2.2.2.2.1) hK hP hS 2 rfl (by decide) (by decide) (by omega) (Nat.le_of_ble_eq_true rfl) (Nat.le_of_ble_eq_true rfl) dX6_init_29 (fun H hP hS => ?_)
  have hP : px_H D b (11) (va_up cf_6 (10) (.inl (c 2, 21, .inr (.inr (.inr (.inr (fun _ => none))))))) H := hP
  obtain ⟨cf_7, e_7⟩ : ∃ z, z = va_up cf_6 (10) (.inl (c 2, 21, .inr (.inr (.inr (.inr (fun _ => none)))))) := ⟨_, rfl⟩
  rw [← e_7] at hP
  have f_7_0 : cf_7 (0) = .inr (6, [.ref (b + 1), .ref (b + 3), .null, .null, .null, .null, .int 0, .int 0, .int 0, .int 0, .int 0]) := by rw [e_7, va_up_ne _ _ (by omega)]; exact f_6_0
  have f_7_1 : cf_7 (1) = .inr (3, [.ref (b + 2), .int 0, .int 0, .int (-1)]) := by rw [e_7, va_up_ne _ _ (by omega)]; exact f_6_1
  have f_7_2 : cf_7 (2) = .inl (c 1, 400, .inl fun _ => 0) := by rw [e_7, va_up_ne _ _ (by omega)]; exact f_6_2
  have f_7_3 : cf_7 (3) = .inr (2, [.ref (b + 4), .ref (b + 5), .ref (b + 6), .ref (b + 7), .ref (b + 8), .ref (b + 9), .int 0, .int 0, .int 0]) := by rw [e_7, va_up_ne _ _ (by omega)]; exact f_6_3
  have f_7_4 : cf_7 (4) = .inl (c 0, 60, .inl fun _ => 0) := by rw [e_7, va_up_ne _ _ (by omega)]; exact f_6_4
  have f_7_5 : cf_7 (5) = .inl (c 0, 240, .inl fun _ => 0) := by rw [e_7, va_up_ne _ _ (by omega)]; exact f_6_5
  have f_7_6 : cf_7 (6) = .inl (c 0, 60, .inl fun _ => 0) := by rw [e_7, va_up_ne _ _ (by omega)]; exact f_6_6
  have f_7_7 : cf_7 (7) = .inl (c 0, 60, .inl fun _ => 0) := by rw [e_7, va_up_ne _ _ (by omega)]; exact f_6_7
  have f_7_8 : cf_7 (8) = .inl (c 0, 10, .inl (rdg 10)) := by rw [e_7, va_up_ne _ _ (by omega)]; exact f_6_8
  have f_7_9 : cf_7 (9) = .inl (c 0, 4, .inl fun _ => 0) := by rw [e_7, va_up_ne _ _ (by omega)]; exact f_6_9
  have f_7_10 : cf_7 (10) = .inl (c 2, 21, .inr (.inr (.inr (.inr (fun _ => none))))) := by rw [e_7]; exact va_up_self _ _ _
  have g_7 : ∀ j, j < 0 → cf_7 j = cf j := fun j hj => by rw [e_7]; exact (va_up_ne _ _ (by omega)).trans (g_6 j hj)
  refine px_putF (ty := (.array (.object "PriceEdict$Decree"))) (v := .ref (b + 10)) hx hb hts (by decide +kernel) tyX6 tyX6_ok nmX6 hown hK hP hS (0) (by omega) f_7_0 rfl 2 (by decide) (hts (.fieldLink RX6 25 "PriceEdict" "decrees" "[LPriceEdict$Decree;") (by decide +kernel)) rfl hmn rfl (by decide +kernel) rfl rfl (Nat.le_of_ble_eq_true rfl) dX6_init_32 (fun H locs hP hS => ?_)
  have hP : px_H D b (11) (va_up cf_7 (0) (.inr (6, [.ref (b + 1), .ref (b + 3), .ref (b + 10), .null, .null, .null, .int 0, .int 0, .int 0, .int 0, .int 0]))) H := hP
  obtain ⟨cf_8, e_8⟩ : ∃ z, z = va_up cf_7 (0) (.inr (6, [.ref (b + 1), .ref (b + 3), .ref (b + 10), .null, .null, .null, .int 0, .int 0, .int 0, .int 0, .int 0])) := ⟨_, rfl⟩
  rw [← e_8] at hP
  have f_8_0 : cf_8 (0) = .inr (6, [.ref (b + 1), .ref (b + 3), .ref (b + 10), .null, .null, .null, .int 0, .int 0, .int 0, .int 0, .int 0]) := by rw [e_8]; exact va_up_self _ _ _
  have f_8_1 : cf_8 (1) = .inr (3, [.ref (b + 2), .int 0, .int 0, .int (-1)]) := by rw [e_8, va_up_ne _ _ (by omega)]; exact f_7_1
  have f_8_2 : cf_8 (2) = .inl (c 1, 400, .inl fun _ => 0) := by rw [e_8, va_up_ne _ _ (by omega)]; exact f_7_2
  have f_8_3 : cf_8 (3) = .inr (2, [.ref (b + 4), .ref (b + 5), .ref (b + 6), .ref (b + 7), .ref (b + 8), .ref (b + 9), .int 0, .int 0, .int 0]) := by rw [e_8, va_up_ne _ _ (by omega)]; exact f_7_3
  have f_8_4 : cf_8 (4) = .inl (c 0, 60, .inl fun _ => 0) := by rw [e_8, va_up_ne _ _ (by omega)]; exact f_7_4
  have f_8_5 : cf_8 (5) = .inl (c 0, 240, .inl fun _ => 0) := by rw [e_8, va_up_ne _ _ (by omega)]; exact f_7_5
  have f_8_6 : cf_8 (6) = .inl (c 0, 60, .inl fun _ => 0) := by rw [e_8, va_up_ne _ _ (by omega)]; exact f_7_6
  have f_8_7 : cf_8 (7) = .inl (c 0, 60, .inl fun _ => 0) := by rw [e_8, va_up_ne _ _ (by omega)]; exact f_7_7
  have f_8_8 : cf_8 (8) = .inl (c 0, 10, .inl (rdg 10)) := by rw [e_8, va_up_ne _ _ (by omega)]; exact f_7_8
  have f_8_9 : cf_8 (9) = .inl (c 0, 4, .inl fun _ => 0) := by rw [e_8, va_up_ne _ _ (by omega)]; exact f_7_9
  have f_8_10 : cf_8 (10) = .inl (c 2, 21, .inr (.inr (.inr (.inr (fun _ => none))))) := by rw [e_8, va_up_ne _ _ (by omega)]; exact f_7_10
  have g_8 : ∀ j, j < 0 → cf_8 j = cf j := fun j hj => by rw [e_8]; exact (va_up_ne _ _ (by omega)).trans (g_7 j hj)
  refine lv_aload_n hx hb dX6_init_35 rfl (lv_at hl 0 rfl) ?_
  refine px_new (ci := 1) (fs := [.null, .null, .int 0]) (C := RX1) (T := TX1) (N := 3) hx hb hts (by decide +kernel) tyX1 tyX1_ok hown (hts (.classLink RX6 29 RX1) (by decide +kernel)) (hts (.instantiable RX1 3) (by decide +kernel)) (hts (.initialized RX1) (by decide +kernel)) hK hP hS rfl (fun j hj => by rcases (show j = 0 ∨ j = 1 ∨ j = 2 by omega) with rfl | rfl | rfl <;> rfl) (Nat.le_of_ble_eq_true rfl) (Nat.le_of_ble_eq_true rfl) dX6_init_36 (fun H hP hS => ?_)
  have hP : px_H D b (12) (va_up cf_8 (11) (.inr (1, [.null, .null, .int 0]))) H := hP
  obtain ⟨cf_9, e_9⟩ : ∃ z, z = va_up cf_8 (11) (.inr (1, [.null, .null, .int 0])) := ⟨_, rfl⟩
  rw [← e_9] at hP
  have f_9_0 : cf_9 (0) = .inr (6, [.ref (b + 1), .ref (b + 3), .ref (b + 10), .null, .null, .null, .int 0, .int 0, .int 0, .int 0, .int 0]) := by rw [e_9, va_up_ne _ _ (by omega)]; exact f_8_0
  have f_9_1 : cf_9 (1) = .inr (3, [.ref (b + 2), .int 0, .int 0, .int (-1)]) := by rw [e_9, va_up_ne _ _ (by omega)]; exact f_8_1
  have f_9_2 : cf_9 (2) = .inl (c 1, 400, .inl fun _ => 0) := by rw [e_9, va_up_ne _ _ (by omega)]; exact f_8_2
  have f_9_3 : cf_9 (3) = .inr (2, [.ref (b + 4), .ref (b + 5), .ref (b + 6), .ref (b + 7), .ref (b + 8), .ref (b + 9), .int 0, .int 0, .int 0]) := by rw [e_9, va_up_ne _ _ (by omega)]; exact f_8_3
  have f_9_4 : cf_9 (4) = .inl (c 0, 60, .inl fun _ => 0) := by rw [e_9, va_up_ne _ _ (by omega)]; exact f_8_4
  have f_9_5 : cf_9 (5) = .inl (c 0, 240, .inl fun _ => 0) := by rw [e_9, va_up_ne _ _ (by omega)]; exact f_8_5
  have f_9_6 : cf_9 (6) = .inl (c 0, 60, .inl fun _ => 0) := by rw [e_9, va_up_ne _ _ (by omega)]; exact f_8_6
  have f_9_7 : cf_9 (7) = .inl (c 0, 60, .inl fun _ => 0) := by rw [e_9, va_up_ne _ _ (by omega)]; exact f_8_7
  have f_9_8 : cf_9 (8) = .inl (c 0, 10, .inl (rdg 10)) := by rw [e_9, va_up_ne _ _ (by omega)]; exact f_8_8
  have f_9_9 : cf_9 (9) = .inl (c 0, 4, .inl fun _ => 0) := by rw [e_9, va_up_ne _ _ (by omega)]; exact f_8_9
  have f_9_10 : cf_9 (10) = .inl (c 2, 21, .inr (.inr (.inr (.inr (fun _ => none))))) := by rw [e_9, va_up_ne _ _ (by omega)]; exact f_8_10
  have f_9_11 : cf_9 (11) = .inr (1, [.null, .null, .int 0]) := by rw [e_9]; exact va_up_self _ _ _
  have g_9 : ∀ j, j < 0 → cf_9 j = cf j := fun j hj => by rw [e_9]; exact (va_up_ne _ _ (by omega)).trans (g_8 j hj)
  refine lv_dup hx hb dX6_init_39 rfl ?_
  refine px_initN (As := []) (rest := [.ref (b + 11), .ref (b + 0)]) ⟨hx, hb, hml, hown, hts⟩ (11) (c_X1_init l D c b (11) cf_9 f_9_11) tr_bl (fun _ _ => trivial) ⟨va_cnB (host := RX6) 0 hts gX6_init_X1_init_n31 rfl rfl rfl hE.2.1 (hts (.initialized RX1) (by decide +kernel)) (by decide +kernel) ⟨Nat.le_of_ble_eq_true rfl, Nat.le_of_ble_eq_true rfl⟩, rfl, hts (.instanceMethod yX1_init) (by decide +kernel)⟩ hK hP hS rfl hl.1 rfl (lv_room (Nat.le_of_ble_eq_true rfl)) dX6_init_40 ⟨Nat.le_of_ble_eq_true rfl, Nat.le_of_ble_eq_true rfl⟩ (fun u H locs hp hP hS => ?_)
  obtain ⟨cf_10, e_10⟩ : ∃ z, z = u := ⟨_, rfl⟩
  rw [← e_10] at hp hP
  have f_10_0 : cf_10 0 = .inr (6, [.ref (b + 1), .ref (b + 3), .ref (b + 10), .null, .null, .null, .int 0, .int 0, .int 0, .int 0, .int 0]) := (hp.1 0 (by omega)).trans f_9_0
  have f_10_1 : cf_10 1 = .inr (3, [.ref (b + 2), .int 0, .int 0, .int (-1)]) := (hp.1 1 (by omega)).trans f_9_1
  have f_10_2 : cf_10 2 = .inl (c 1, 400, .inl fun _ => 0) := (hp.1 2 (by omega)).trans f_9_2
  have f_10_3 : cf_10 3 = .inr (2, [.ref (b + 4), .ref (b + 5), .ref (b + 6), .ref (b + 7), .ref (b + 8), .ref (b + 9), .int 0, .int 0, .int 0]) := (hp.1 3 (by omega)).trans f_9_3
  have f_10_4 : cf_10 4 = .inl (c 0, 60, .inl fun _ => 0) := (hp.1 4 (by omega)).trans f_9_4
  have f_10_5 : cf_10 5 = .inl (c 0, 240, .inl fun _ => 0) := (hp.1 5 (by omega)).trans f_9_5
  have f_10_6 : cf_10 6 = .inl (c 0, 60, .inl fun _ => 0) := (hp.1 6 (by omega)).trans f_9_6
  have f_10_7 : cf_10 7 = .inl (c 0, 60, .inl fun _ => 0) := (hp.1 7 (by omega)).trans f_9_7
  have f_10_8 : cf_10 8 = .inl (c 0, 10, .inl (rdg 10)) := (hp.1 8 (by omega)).trans f_9_8
  have f_10_9 : cf_10 9 = .inl (c 0, 4, .inl fun _ => 0) := (hp.1 9 (by omega)).trans f_9_9
  have f_10_10 : cf_10 10 = .inl (c 2, 21, .inr (.inr (.inr (.inr (fun _ => none))))) := (hp.1 10 (by omega)).trans f_9_10
  have f_10_11 : cf_10 11 = .inr (1, [.ref (b + 12), .ref (b + 13), .int 0]) := hp.2.1
  have f_10_12 : cf_10 12 = .inl (c 0, 40, .inl fun _ => 0) := hp.2.2.1
  have f_10_13 : cf_10 13 = .inl (c 0, 40, .inl fun _ => 0) := hp.2.2.2
  have g_10 : ∀ j, j < 0 → cf_10 j = cf j := fun j hj => absurd hj (by omega)
  clear hp
  refine px_putF (ty := (.object "PriceEdict$News")) (v := .ref (b + 11)) hx hb hts (by decide +kernel) tyX6 tyX6_ok nmX6 hown hK hP hS (0) (by omega) f_10_0 rfl 3 (by decide) (hts (.fieldLink RX6 32 "PriceEdict" "news" "LPriceEdict$News;") (by decide +kernel)) rfl hmn rfl (by decide +kernel) rfl rfl (Nat.le_of_ble_eq_true rfl) dX6_init_43 (fun H locs hP hS => ?_)
  have hP : px_H D b (14) (va_up cf_10 (0) (.inr (6, [.ref (b + 1), .ref (b + 3), .ref (b + 10), .ref (b + 11), .null, .null, .int 0, .int 0, .int 0, .int 0, .int 0]))) H := hP
  obtain ⟨cf_11, e_11⟩ : ∃ z, z = va_up cf_10 (0) (.inr (6, [.ref (b + 1), .ref (b + 3), .ref (b + 10), .ref (b + 11), .null, .null, .int 0, .int 0, .int 0, .int 0, .int 0])) := ⟨_, rfl⟩
  rw [← e_11] at hP
  have f_11_0 : cf_11 (0) = .inr (6, [.ref (b + 1), .ref (b + 3), .ref (b + 10), .ref (b + 11), .null, .null, .int 0, .int 0, .int 0, .int 0, .int 0]) := by rw [e_11]; exact va_up_self _ _ _
  have f_11_1 : cf_11 (1) = .inr (3, [.ref (b + 2), .int 0, .int 0, .int (-1)]) := by rw [e_11, va_up_ne _ _ (by omega)]; exact f_10_1
  have f_11_2 : cf_11 (2) = .inl (c 1, 400, .inl fun _ => 0) := by rw [e_11, va_up_ne _ _ (by omega)]; exact f_10_2
  have f_11_3 : cf_11 (3) = .inr (2, [.ref (b + 4), .ref (b + 5), .ref (b + 6), .ref (b + 7), .ref (b + 8), .ref (b + 9), .int 0, .int 0, .int 0]) := by rw [e_11, va_up_ne _ _ (by omega)]; exact f_10_3
  have f_11_4 : cf_11 (4) = .inl (c 0, 60, .inl fun _ => 0) := by rw [e_11, va_up_ne _ _ (by omega)]; exact f_10_4
  have f_11_5 : cf_11 (5) = .inl (c 0, 240, .inl fun _ => 0) := by rw [e_11, va_up_ne _ _ (by omega)]; exact f_10_5
  have f_11_6 : cf_11 (6) = .inl (c 0, 60, .inl fun _ => 0) := by rw [e_11, va_up_ne _ _ (by omega)]; exact f_10_6
  have f_11_7 : cf_11 (7) = .inl (c 0, 60, .inl fun _ => 0) := by rw [e_11, va_up_ne _ _ (by omega)]; exact f_10_7
  have f_11_8 : cf_11 (8) = .inl (c 0, 10, .inl (rdg 10)) := by rw [e_11, va_up_ne _ _ (by omega)]; exact f_10_8
  have f_11_9 : cf_11 (9) = .inl (c 0, 4, .inl fun _ => 0) := by rw [e_11, va_up_ne _ _ (by omega)]; exact f_10_9
  have f_11_10 : cf_11 (10) = .inl (c 2, 21, .inr (.inr (.inr (.inr (fun _ => none))))) := by rw [e_11, va_up_ne _ _ (by omega)]; exact f_10_10
  have f_11_11 : cf_11 (11) = .inr (1, [.ref (b + 12), .ref (b + 13), .int 0]) := by rw [e_11, va_up_ne _ _ (by omega)]; exact f_10_11
  have f_11_12 : cf_11 (12) = .inl (c 0, 40, .inl fun _ => 0) := by rw [e_11, va_up_ne _ _ (by omega)]; exact f_10_12
  have f_11_13 : cf_11 (13) = .inl (c 0, 40, .inl fun _ => 0) := by rw [e_11, va_up_ne _ _ (by omega)]; exact f_10_13
  have g_11 : ∀ j, j < 0 → cf_11 j = cf j := fun j hj => by rw [e_11]; exact (va_up_ne _ _ (by omega)).trans (g_10 j hj)
  refine lv_aload_n hx hb dX6_init_46 rfl (lv_at hl 0 rfl) ?_
  refine lv_bipush (v := 8) hx hb dX6_init_47 (by decide) ?_
  refine px_newq (own := RX6) (C := RX4) (index := 36) (N' := 8) hx hb hown (hts (.classLink RX6 36 RX4) (by decide +kernel)) (va_AO.use hE.2.2.2.2.2.1) hK hP hS 3 rfl (by decide) (by decide) (by omega) (Nat.le_of_ble_eq_true rfl) (Nat.le_of_ble_eq_true rfl) dX6_init_49 (fun H hP hS => ?_)
  have hP : px_H D b (15) (va_up cf_11 (14) (.inl (c 3, 8, .inr (.inr (.inr (.inr (fun _ => none))))))) H := hP
  obtain ⟨cf_12, e_12⟩ : ∃ z, z = va_up cf_11 (14) (.inl (c 3, 8, .inr (.inr (.inr (.inr (fun _ => none)))))) := ⟨_, rfl⟩
  rw [← e_12] at hP
  have f_12_0 : cf_12 (0) = .inr (6, [.ref (b + 1), .ref (b + 3), .ref (b + 10), .ref (b + 11), .null, .null, .int 0, .int 0, .int 0, .int 0, .int 0]) := by rw [e_12, va_up_ne _ _ (by omega)]; exact f_11_0
  have f_12_1 : cf_12 (1) = .inr (3, [.ref (b + 2), .int 0, .int 0, .int (-1)]) := by rw [e_12, va_up_ne _ _ (by omega)]; exact f_11_1
  have f_12_2 : cf_12 (2) = .inl (c 1, 400, .inl fun _ => 0) := by rw [e_12, va_up_ne _ _ (by omega)]; exact f_11_2
  have f_12_3 : cf_12 (3) = .inr (2, [.ref (b + 4), .ref (b + 5), .ref (b + 6), .ref (b + 7), .ref (b + 8), .ref (b + 9), .int 0, .int 0, .int 0]) := by rw [e_12, va_up_ne _ _ (by omega)]; exact f_11_3
  have f_12_4 : cf_12 (4) = .inl (c 0, 60, .inl fun _ => 0) := by rw [e_12, va_up_ne _ _ (by omega)]; exact f_11_4
  have f_12_5 : cf_12 (5) = .inl (c 0, 240, .inl fun _ => 0) := by rw [e_12, va_up_ne _ _ (by omega)]; exact f_11_5
  have f_12_6 : cf_12 (6) = .inl (c 0, 60, .inl fun _ => 0) := by rw [e_12, va_up_ne _ _ (by omega)]; exact f_11_6
  have f_12_7 : cf_12 (7) = .inl (c 0, 60, .inl fun _ => 0) := by rw [e_12, va_up_ne _ _ (by omega)]; exact f_11_7
  have f_12_8 : cf_12 (8) = .inl (c 0, 10, .inl (rdg 10)) := by rw [e_12, va_up_ne _ _ (by omega)]; exact f_11_8
  have f_12_9 : cf_12 (9) = .inl (c 0, 4, .inl fun _ => 0) := by rw [e_12, va_up_ne _ _ (by omega)]; exact f_11_9
  have f_12_10 : cf_12 (10) = .inl (c 2, 21, .inr (.inr (.inr (.inr (fun _ => none))))) := by rw [e_12, va_up_ne _ _ (by omega)]; exact f_11_10
  have f_12_11 : cf_12 (11) = .inr (1, [.ref (b + 12), .ref (b + 13), .int 0]) := by rw [e_12, va_up_ne _ _ (by omega)]; exact f_11_11
  have f_12_12 : cf_12 (12) = .inl (c 0, 40, .inl fun _ => 0) := by rw [e_12, va_up_ne _ _ (by omega)]; exact f_11_12
  have f_12_13 : cf_12 (13) = .inl (c 0, 40, .inl fun _ => 0) := by rw [e_12, va_up_ne _ _ (by omega)]; exact f_11_13
  have f_12_14 : cf_12 (14) = .inl (c 3, 8, .inr (.inr (.inr (.inr (fun _ => none))))) := by rw [e_12]; exact va_up_self _ _ _
  have g_12 : ∀ j, j < 0 → cf_12 j = cf j := fun j hj => by rw [e_12]; exact (va_up_ne _ _ (by omega)).trans (g_11 j hj)
  refine px_putF (ty := (.array (.object "PriceEdict$Town"))) (v := .ref (b + 14)) hx hb hts (by decide +kernel) tyX6 tyX6_ok nmX6 hown hK hP hS (0) (by omega) f_12_0 rfl 4 (by decide) (hts (.fieldLink RX6 38 "PriceEdict" "towns" "[LPriceEdict$Town;") (by decide +kernel)) rfl hmn rfl (by decide +kernel) rfl rfl (Nat.le_of_ble_eq_true rfl) dX6_init_52 (fun H locs hP hS => ?_)
  have hP : px_H D b (15) (va_up cf_12 (0) (.inr (6, [.ref (b + 1), .ref (b + 3), .ref (b + 10), .ref (b + 11), .ref (b + 14), .null, .int 0, .int 0, .int 0, .int 0, .int 0]))) H := hP
  obtain ⟨cf_13, e_13⟩ : ∃ z, z = va_up cf_12 (0) (.inr (6, [.ref (b + 1), .ref (b + 3), .ref (b + 10), .ref (b + 11), .ref (b + 14), .null, .int 0, .int 0, .int 0, .int 0, .int 0])) := ⟨_, rfl⟩
  rw [← e_13] at hP
  have f_13_0 : cf_13 (0) = .inr (6, [.ref (b + 1), .ref (b + 3), .ref (b + 10), .ref (b + 11), .ref (b + 14), .null, .int 0, .int 0, .int 0, .int 0, .int 0]) := by rw [e_13]; exact va_up_self _ _ _
  have f_13_1 : cf_13 (1) = .inr (3, [.ref (b + 2), .int 0, .int 0, .int (-1)]) := by rw [e_13, va_up_ne _ _ (by omega)]; exact f_12_1
  have f_13_2 : cf_13 (2) = .inl (c 1, 400, .inl fun _ => 0) := by rw [e_13, va_up_ne _ _ (by omega)]; exact f_12_2
  have f_13_3 : cf_13 (3) = .inr (2, [.ref (b + 4), .ref (b + 5), .ref (b + 6), .ref (b + 7), .ref (b + 8), .ref (b + 9), .int 0, .int 0, .int 0]) := by rw [e_13, va_up_ne _ _ (by omega)]; exact f_12_3
  have f_13_4 : cf_13 (4) = .inl (c 0, 60, .inl fun _ => 0) := by rw [e_13, va_up_ne _ _ (by omega)]; exact f_12_4
  have f_13_5 : cf_13 (5) = .inl (c 0, 240, .inl fun _ => 0) := by rw [e_13, va_up_ne _ _ (by omega)]; exact f_12_5
  have f_13_6 : cf_13 (6) = .inl (c 0, 60, .inl fun _ => 0) := by rw [e_13, va_up_ne _ _ (by omega)]; exact f_12_6
  have f_13_7 : cf_13 (7) = .inl (c 0, 60, .inl fun _ => 0) := by rw [e_13, va_up_ne _ _ (by omega)]; exact f_12_7
  have f_13_8 : cf_13 (8) = .inl (c 0, 10, .inl (rdg 10)) := by rw [e_13, va_up_ne _ _ (by omega)]; exact f_12_8
  have f_13_9 : cf_13 (9) = .inl (c 0, 4, .inl fun _ => 0) := by rw [e_13, va_up_ne _ _ (by omega)]; exact f_12_9
  have f_13_10 : cf_13 (10) = .inl (c 2, 21, .inr (.inr (.inr (.inr (fun _ => none))))) := by rw [e_13, va_up_ne _ _ (by omega)]; exact f_12_10
  have f_13_11 : cf_13 (11) = .inr (1, [.ref (b + 12), .ref (b + 13), .int 0]) := by rw [e_13, va_up_ne _ _ (by omega)]; exact f_12_11
  have f_13_12 : cf_13 (12) = .inl (c 0, 40, .inl fun _ => 0) := by rw [e_13, va_up_ne _ _ (by omega)]; exact f_12_12
  have f_13_13 : cf_13 (13) = .inl (c 0, 40, .inl fun _ => 0) := by rw [e_13, va_up_ne _ _ (by omega)]; exact f_12_13
  have f_13_14 : cf_13 (14) = .inl (c 3, 8, .inr (.inr (.inr (.inr (fun _ => none))))) := by rw [e_13, va_up_ne _ _ (by omega)]; exact f_12_14
  have g_13 : ∀ j, j < 0 → cf_13 j = cf j := fun j hj => by rw [e_13]; exact (va_up_ne _ _ (by omega)).trans (g_12 j hj)
  refine lv_aload_n hx hb dX6_init_55 rfl (lv_at hl 0 rfl) ?_
  refine lv_bipush (v := 6) hx hb dX6_init_56 (by decide) ?_
  refine px_newa (atype := .int) (ty := .int) (a0 := (6, .inl fun _ => 0)) (N' := 6) hx hb (hts (.arrayClass .int) (by decide +kernel)) rfl hK hP hS 0 rfl (fun h => h) (fun _ => rfl) (by decide) (by decide) (by show 6 * 4 ≤ 536870912; omega) (Nat.le_of_ble_eq_true rfl) (Nat.le_of_ble_eq_true rfl) dX6_init_58 (fun H hP hS => ?_)
  have hP : px_H D b (16) (va_up cf_13 (15) (.inl (c 0, 6, .inl fun _ => 0))) H := hP
  obtain ⟨cf_14, e_14⟩ : ∃ z, z = va_up cf_13 (15) (.inl (c 0, 6, .inl fun _ => 0)) := ⟨_, rfl⟩
  rw [← e_14] at hP
  have f_14_0 : cf_14 (0) = .inr (6, [.ref (b + 1), .ref (b + 3), .ref (b + 10), .ref (b + 11), .ref (b + 14), .null, .int 0, .int 0, .int 0, .int 0, .int 0]) := by rw [e_14, va_up_ne _ _ (by omega)]; exact f_13_0
  have f_14_1 : cf_14 (1) = .inr (3, [.ref (b + 2), .int 0, .int 0, .int (-1)]) := by rw [e_14, va_up_ne _ _ (by omega)]; exact f_13_1
  have f_14_2 : cf_14 (2) = .inl (c 1, 400, .inl fun _ => 0) := by rw [e_14, va_up_ne _ _ (by omega)]; exact f_13_2
  have f_14_3 : cf_14 (3) = .inr (2, [.ref (b + 4), .ref (b + 5), .ref (b + 6), .ref (b + 7), .ref (b + 8), .ref (b + 9), .int 0, .int 0, .int 0]) := by rw [e_14, va_up_ne _ _ (by omega)]; exact f_13_3
  have f_14_4 : cf_14 (4) = .inl (c 0, 60, .inl fun _ => 0) := by rw [e_14, va_up_ne _ _ (by omega)]; exact f_13_4
  have f_14_5 : cf_14 (5) = .inl (c 0, 240, .inl fun _ => 0) := by rw [e_14, va_up_ne _ _ (by omega)]; exact f_13_5
  have f_14_6 : cf_14 (6) = .inl (c 0, 60, .inl fun _ => 0) := by rw [e_14, va_up_ne _ _ (by omega)]; exact f_13_6
  have f_14_7 : cf_14 (7) = .inl (c 0, 60, .inl fun _ => 0) := by rw [e_14, va_up_ne _ _ (by omega)]; exact f_13_7
  have f_14_8 : cf_14 (8) = .inl (c 0, 10, .inl (rdg 10)) := by rw [e_14, va_up_ne _ _ (by omega)]; exact f_13_8
  have f_14_9 : cf_14 (9) = .inl (c 0, 4, .inl fun _ => 0) := by rw [e_14, va_up_ne _ _ (by omega)]; exact f_13_9
  have f_14_10 : cf_14 (10) = .inl (c 2, 21, .inr (.inr (.inr (.inr (fun _ => none))))) := by rw [e_14, va_up_ne _ _ (by omega)]; exact f_13_10
  have f_14_11 : cf_14 (11) = .inr (1, [.ref (b + 12), .ref (b + 13), .int 0]) := by rw [e_14, va_up_ne _ _ (by omega)]; exact f_13_11
  have f_14_12 : cf_14 (12) = .inl (c 0, 40, .inl fun _ => 0) := by rw [e_14, va_up_ne _ _ (by omega)]; exact f_13_12
  have f_14_13 : cf_14 (13) = .inl (c 0, 40, .inl fun _ => 0) := by rw [e_14, va_up_ne _ _ (by omega)]; exact f_13_13
  have f_14_14 : cf_14 (14) = .inl (c 3, 8, .inr (.inr (.inr (.inr (fun _ => none))))) := by rw [e_14, va_up_ne _ _ (by omega)]; exact f_13_14
  have f_14_15 : cf_14 (15) = .inl (c 0, 6, .inl fun _ => 0) := by rw [e_14]; exact va_up_self _ _ _
  have g_14 : ∀ j, j < 0 → cf_14 j = cf j := fun j hj => by rw [e_14]; exact (va_up_ne _ _ (by omega)).trans (g_13 j hj)
  refine px_putF (ty := (.array .int)) (v := .ref (b + 15)) hx hb hts (by decide +kernel) tyX6 tyX6_ok nmX6 hown hK hP hS (0) (by omega) f_14_0 rfl 5 (by decide) (hts (.fieldLink RX6 42 "PriceEdict" "spoilRates" "[I") (by decide +kernel)) rfl hmn rfl (by decide +kernel) rfl rfl (Nat.le_of_ble_eq_true rfl) dX6_init_60 (fun H locs hP hS => ?_)
  have hP : px_H D b (16) (va_up cf_14 (0) (.inr (6, [.ref (b + 1), .ref (b + 3), .ref (b + 10), .ref (b + 11), .ref (b + 14), .ref (b + 15), .int 0, .int 0, .int 0, .int 0, .int 0]))) H := hP
  obtain ⟨cf_15, e_15⟩ : ∃ z, z = va_up cf_14 (0) (.inr (6, [.ref (b + 1), .ref (b + 3), .ref (b + 10), .ref (b + 11), .ref (b + 14), .ref (b + 15), .int 0, .int 0, .int 0, .int 0, .int 0])) := ⟨_, rfl⟩
  rw [← e_15] at hP
  have f_15_0 : cf_15 (0) = .inr (6, [.ref (b + 1), .ref (b + 3), .ref (b + 10), .ref (b + 11), .ref (b + 14), .ref (b + 15), .int 0, .int 0, .int 0, .int 0, .int 0]) := by rw [e_15]; exact va_up_self _ _ _
  have f_15_1 : cf_15 (1) = .inr (3, [.ref (b + 2), .int 0, .int 0, .int (-1)]) := by rw [e_15, va_up_ne _ _ (by omega)]; exact f_14_1
  have f_15_2 : cf_15 (2) = .inl (c 1, 400, .inl fun _ => 0) := by rw [e_15, va_up_ne _ _ (by omega)]; exact f_14_2
  have f_15_3 : cf_15 (3) = .inr (2, [.ref (b + 4), .ref (b + 5), .ref (b + 6), .ref (b + 7), .ref (b + 8), .ref (b + 9), .int 0, .int 0, .int 0]) := by rw [e_15, va_up_ne _ _ (by omega)]; exact f_14_3
  have f_15_4 : cf_15 (4) = .inl (c 0, 60, .inl fun _ => 0) := by rw [e_15, va_up_ne _ _ (by omega)]; exact f_14_4
  have f_15_5 : cf_15 (5) = .inl (c 0, 240, .inl fun _ => 0) := by rw [e_15, va_up_ne _ _ (by omega)]; exact f_14_5
  have f_15_6 : cf_15 (6) = .inl (c 0, 60, .inl fun _ => 0) := by rw [e_15, va_up_ne _ _ (by omega)]; exact f_14_6
  have f_15_7 : cf_15 (7) = .inl (c 0, 60, .inl fun _ => 0) := by rw [e_15, va_up_ne _ _ (by omega)]; exact f_14_7
  have f_15_8 : cf_15 (8) = .inl (c 0, 10, .inl (rdg 10)) := by rw [e_15, va_up_ne _ _ (by omega)]; exact f_14_8
  have f_15_9 : cf_15 (9) = .inl (c 0, 4, .inl fun _ => 0) := by rw [e_15, va_up_ne _ _ (by omega)]; exact f_14_9
  have f_15_10 : cf_15 (10) = .inl (c 2, 21, .inr (.inr (.inr (.inr (fun _ => none))))) := by rw [e_15, va_up_ne _ _ (by omega)]; exact f_14_10
  have f_15_11 : cf_15 (11) = .inr (1, [.ref (b + 12), .ref (b + 13), .int 0]) := by rw [e_15, va_up_ne _ _ (by omega)]; exact f_14_11
  have f_15_12 : cf_15 (12) = .inl (c 0, 40, .inl fun _ => 0) := by rw [e_15, va_up_ne _ _ (by omega)]; exact f_14_12
  have f_15_13 : cf_15 (13) = .inl (c 0, 40, .inl fun _ => 0) := by rw [e_15, va_up_ne _ _ (by omega)]; exact f_14_13
  have f_15_14 : cf_15 (14) = .inl (c 3, 8, .inr (.inr (.inr (.inr (fun _ => none))))) := by rw [e_15, va_up_ne _ _ (by omega)]; exact f_14_14
  have f_15_15 : cf_15 (15) = .inl (c 0, 6, .inl fun _ => 0) := by rw [e_15, va_up_ne _ _ (by omega)]; exact f_14_15
  have g_15 : ∀ j, j < 0 → cf_15 j = cf j := fun j hj => by rw [e_15]; exact (va_up_ne _ _ (by omega)).trans (g_14 j hj)
  refine lv_aload_n hx hb dX6_init_63 rfl (lv_at hl 0 rfl) ?_
  refine lv_iconst (v := 0) hx hb dX6_init_64 (by decide) ?_
  refine px_put (ty := .int) (v := .int 0) hx hb hts (by decide +kernel) tyX6 tyX6_ok nmX6 hown hK hP hS (0) (by omega) f_15_0 rfl 6 (by decide) (hts (.fieldLink RX6 46 "PriceEdict" "decreeCount" "I") (by decide +kernel)) rfl (by decide +kernel) rfl rfl (Nat.le_of_ble_eq_true rfl) dX6_init_65 (fun H locs hP hS => ?_)
  have hP : px_H D b (16) (va_up cf_15 (0) (.inr (6, [.ref (b + 1), .ref (b + 3), .ref (b + 10), .ref (b + 11), .ref (b + 14), .ref (b + 15), .int 0, .int 0, .int 0, .int 0, .int 0]))) H := hP
  obtain ⟨cf_16, e_16⟩ : ∃ z, z = va_up cf_15 (0) (.inr (6, [.ref (b + 1), .ref (b + 3), .ref (b + 10), .ref (b + 11), .ref (b + 14), .ref (b + 15), .int 0, .int 0, .int 0, .int 0, .int 0])) := ⟨_, rfl⟩
  rw [← e_16] at hP
  have f_16_0 : cf_16 (0) = .inr (6, [.ref (b + 1), .ref (b + 3), .ref (b + 10), .ref (b + 11), .ref (b + 14), .ref (b + 15), .int 0, .int 0, .int 0, .int 0, .int 0]) := by rw [e_16]; exact va_up_self _ _ _
  have f_16_1 : cf_16 (1) = .inr (3, [.ref (b + 2), .int 0, .int 0, .int (-1)]) := by rw [e_16, va_up_ne _ _ (by omega)]; exact f_15_1
  have f_16_2 : cf_16 (2) = .inl (c 1, 400, .inl fun _ => 0) := by rw [e_16, va_up_ne _ _ (by omega)]; exact f_15_2
  have f_16_3 : cf_16 (3) = .inr (2, [.ref (b + 4), .ref (b + 5), .ref (b + 6), .ref (b + 7), .ref (b + 8), .ref (b + 9), .int 0, .int 0, .int 0]) := by rw [e_16, va_up_ne _ _ (by omega)]; exact f_15_3
  have f_16_4 : cf_16 (4) = .inl (c 0, 60, .inl fun _ => 0) := by rw [e_16, va_up_ne _ _ (by omega)]; exact f_15_4
  have f_16_5 : cf_16 (5) = .inl (c 0, 240, .inl fun _ => 0) := by rw [e_16, va_up_ne _ _ (by omega)]; exact f_15_5
  have f_16_6 : cf_16 (6) = .inl (c 0, 60, .inl fun _ => 0) := by rw [e_16, va_up_ne _ _ (by omega)]; exact f_15_6
  have f_16_7 : cf_16 (7) = .inl (c 0, 60, .inl fun _ => 0) := by rw [e_16, va_up_ne _ _ (by omega)]; exact f_15_7
  have f_16_8 : cf_16 (8) = .inl (c 0, 10, .inl (rdg 10)) := by rw [e_16, va_up_ne _ _ (by omega)]; exact f_15_8
  have f_16_9 : cf_16 (9) = .inl (c 0, 4, .inl fun _ => 0) := by rw [e_16, va_up_ne _ _ (by omega)]; exact f_15_9
  have f_16_10 : cf_16 (10) = .inl (c 2, 21, .inr (.inr (.inr (.inr (fun _ => none))))) := by rw [e_16, va_up_ne _ _ (by omega)]; exact f_15_10
  have f_16_11 : cf_16 (11) = .inr (1, [.ref (b + 12), .ref (b + 13), .int 0]) := by rw [e_16, va_up_ne _ _ (by omega)]; exact f_15_11
  have f_16_12 : cf_16 (12) = .inl (c 0, 40, .inl fun _ => 0) := by rw [e_16, va_up_ne _ _ (by omega)]; exact f_15_12
  have f_16_13 : cf_16 (13) = .inl (c 0, 40, .inl fun _ => 0) := by rw [e_16, va_up_ne _ _ (by omega)]; exact f_15_13
  have f_16_14 : cf_16 (14) = .inl (c 3, 8, .inr (.inr (.inr (.inr (fun _ => none))))) := by rw [e_16, va_up_ne _ _ (by omega)]; exact f_15_14
  have f_16_15 : cf_16 (15) = .inl (c 0, 6, .inl fun _ => 0) := by rw [e_16, va_up_ne _ _ (by omega)]; exact f_15_15
  have g_16 : ∀ j, j < 0 → cf_16 j = cf j := fun j hj => by rw [e_16]; exact (va_up_ne _ _ (by omega)).trans (g_15 j hj)
  refine lv_aload_n hx hb dX6_init_68 rfl (lv_at hl 0 rfl) ?_
  refine lv_iconst (v := 0) hx hb dX6_init_69 (by decide) ?_
  refine px_put (ty := .int) (v := .int 0) hx hb hts (by decide +kernel) tyX6 tyX6_ok nmX6 hown hK hP hS (0) (by omega) f_16_0 rfl 7 (by decide) (hts (.fieldLink RX6 50 "PriceEdict" "townCount" "I") (by decide +kernel)) rfl (by decide +kernel) rfl rfl (Nat.le_of_ble_eq_true rfl) dX6_init_70 (fun H locs hP hS => ?_)
  have hP : px_H D b (16) (va_up cf_16 (0) (.inr (6, [.ref (b + 1), .ref (b + 3), .ref (b + 10), .ref (b + 11), .ref (b + 14), .ref (b + 15), .int 0, .int 0, .int 0, .int 0, .int 0]))) H := hP
  obtain ⟨cf_17, e_17⟩ : ∃ z, z = va_up cf_16 (0) (.inr (6, [.ref (b + 1), .ref (b + 3), .ref (b + 10), .ref (b + 11), .ref (b + 14), .ref (b + 15), .int 0, .int 0, .int 0, .int 0, .int 0])) := ⟨_, rfl⟩
  rw [← e_17] at hP
  have f_17_0 : cf_17 (0) = .inr (6, [.ref (b + 1), .ref (b + 3), .ref (b + 10), .ref (b + 11), .ref (b + 14), .ref (b + 15), .int 0, .int 0, .int 0, .int 0, .int 0]) := by rw [e_17]; exact va_up_self _ _ _
  have f_17_1 : cf_17 (1) = .inr (3, [.ref (b + 2), .int 0, .int 0, .int (-1)]) := by rw [e_17, va_up_ne _ _ (by omega)]; exact f_16_1
  have f_17_2 : cf_17 (2) = .inl (c 1, 400, .inl fun _ => 0) := by rw [e_17, va_up_ne _ _ (by omega)]; exact f_16_2
  have f_17_3 : cf_17 (3) = .inr (2, [.ref (b + 4), .ref (b + 5), .ref (b + 6), .ref (b + 7), .ref (b + 8), .ref (b + 9), .int 0, .int 0, .int 0]) := by rw [e_17, va_up_ne _ _ (by omega)]; exact f_16_3
  have f_17_4 : cf_17 (4) = .inl (c 0, 60, .inl fun _ => 0) := by rw [e_17, va_up_ne _ _ (by omega)]; exact f_16_4
  have f_17_5 : cf_17 (5) = .inl (c 0, 240, .inl fun _ => 0) := by rw [e_17, va_up_ne _ _ (by omega)]; exact f_16_5
  have f_17_6 : cf_17 (6) = .inl (c 0, 60, .inl fun _ => 0) := by rw [e_17, va_up_ne _ _ (by omega)]; exact f_16_6
  have f_17_7 : cf_17 (7) = .inl (c 0, 60, .inl fun _ => 0) := by rw [e_17, va_up_ne _ _ (by omega)]; exact f_16_7
  have f_17_8 : cf_17 (8) = .inl (c 0, 10, .inl (rdg 10)) := by rw [e_17, va_up_ne _ _ (by omega)]; exact f_16_8
  have f_17_9 : cf_17 (9) = .inl (c 0, 4, .inl fun _ => 0) := by rw [e_17, va_up_ne _ _ (by omega)]; exact f_16_9
  have f_17_10 : cf_17 (10) = .inl (c 2, 21, .inr (.inr (.inr (.inr (fun _ => none))))) := by rw [e_17, va_up_ne _ _ (by omega)]; exact f_16_10
  have f_17_11 : cf_17 (11) = .inr (1, [.ref (b + 12), .ref (b + 13), .int 0]) := by rw [e_17, va_up_ne _ _ (by omega)]; exact f_16_11
  have f_17_12 : cf_17 (12) = .inl (c 0, 40, .inl fun _ => 0) := by rw [e_17, va_up_ne _ _ (by omega)]; exact f_16_12
  have f_17_13 : cf_17 (13) = .inl (c 0, 40, .inl fun _ => 0) := by rw [e_17, va_up_ne _ _ (by omega)]; exact f_16_13
  have f_17_14 : cf_17 (14) = .inl (c 3, 8, .inr (.inr (.inr (.inr (fun _ => none))))) := by rw [e_17, va_up_ne _ _ (by omega)]; exact f_16_14
  have f_17_15 : cf_17 (15) = .inl (c 0, 6, .inl fun _ => 0) := by rw [e_17, va_up_ne _ _ (by omega)]; exact f_16_15
  have g_17 : ∀ j, j < 0 → cf_17 j = cf j := fun j hj => by rw [e_17]; exact (va_up_ne _ _ (by omega)).trans (g_16 j hj)
  refine lv_aload_n hx hb dX6_init_73 rfl (lv_at hl 0 rfl) ?_
  refine lv_iconst (v := 1) hx hb dX6_init_74 (by decide) ?_
  refine px_put (ty := .int) (v := .int 1) hx hb hts (by decide +kernel) tyX6 tyX6_ok nmX6 hown hK hP hS (0) (by omega) f_17_0 rfl 8 (by decide) (hts (.fieldLink RX6 53 "PriceEdict" "carryRate" "I") (by decide +kernel)) rfl (by decide +kernel) rfl rfl (Nat.le_of_ble_eq_true rfl) dX6_init_75 (fun H locs hP hS => ?_)
  have hP : px_H D b (16) (va_up cf_17 (0) (.inr (6, [.ref (b + 1), .ref (b + 3), .ref (b + 10), .ref (b + 11), .ref (b + 14), .ref (b + 15), .int 0, .int 0, .int 1, .int 0, .int 0]))) H := hP
  obtain ⟨cf_18, e_18⟩ : ∃ z, z = va_up cf_17 (0) (.inr (6, [.ref (b + 1), .ref (b + 3), .ref (b + 10), .ref (b + 11), .ref (b + 14), .ref (b + 15), .int 0, .int 0, .int 1, .int 0, .int 0])) := ⟨_, rfl⟩
  rw [← e_18] at hP
  have f_18_0 : cf_18 (0) = .inr (6, [.ref (b + 1), .ref (b + 3), .ref (b + 10), .ref (b + 11), .ref (b + 14), .ref (b + 15), .int 0, .int 0, .int 1, .int 0, .int 0]) := by rw [e_18]; exact va_up_self _ _ _
  have f_18_1 : cf_18 (1) = .inr (3, [.ref (b + 2), .int 0, .int 0, .int (-1)]) := by rw [e_18, va_up_ne _ _ (by omega)]; exact f_17_1
  have f_18_2 : cf_18 (2) = .inl (c 1, 400, .inl fun _ => 0) := by rw [e_18, va_up_ne _ _ (by omega)]; exact f_17_2
  have f_18_3 : cf_18 (3) = .inr (2, [.ref (b + 4), .ref (b + 5), .ref (b + 6), .ref (b + 7), .ref (b + 8), .ref (b + 9), .int 0, .int 0, .int 0]) := by rw [e_18, va_up_ne _ _ (by omega)]; exact f_17_3
  have f_18_4 : cf_18 (4) = .inl (c 0, 60, .inl fun _ => 0) := by rw [e_18, va_up_ne _ _ (by omega)]; exact f_17_4
  have f_18_5 : cf_18 (5) = .inl (c 0, 240, .inl fun _ => 0) := by rw [e_18, va_up_ne _ _ (by omega)]; exact f_17_5
  have f_18_6 : cf_18 (6) = .inl (c 0, 60, .inl fun _ => 0) := by rw [e_18, va_up_ne _ _ (by omega)]; exact f_17_6
  have f_18_7 : cf_18 (7) = .inl (c 0, 60, .inl fun _ => 0) := by rw [e_18, va_up_ne _ _ (by omega)]; exact f_17_7
  have f_18_8 : cf_18 (8) = .inl (c 0, 10, .inl (rdg 10)) := by rw [e_18, va_up_ne _ _ (by omega)]; exact f_17_8
  have f_18_9 : cf_18 (9) = .inl (c 0, 4, .inl fun _ => 0) := by rw [e_18, va_up_ne _ _ (by omega)]; exact f_17_9
  have f_18_10 : cf_18 (10) = .inl (c 2, 21, .inr (.inr (.inr (.inr (fun _ => none))))) := by rw [e_18, va_up_ne _ _ (by omega)]; exact f_17_10
  have f_18_11 : cf_18 (11) = .inr (1, [.ref (b + 12), .ref (b + 13), .int 0]) := by rw [e_18, va_up_ne _ _ (by omega)]; exact f_17_11
  have f_18_12 : cf_18 (12) = .inl (c 0, 40, .inl fun _ => 0) := by rw [e_18, va_up_ne _ _ (by omega)]; exact f_17_12
  have f_18_13 : cf_18 (13) = .inl (c 0, 40, .inl fun _ => 0) := by rw [e_18, va_up_ne _ _ (by omega)]; exact f_17_13
  have f_18_14 : cf_18 (14) = .inl (c 3, 8, .inr (.inr (.inr (.inr (fun _ => none))))) := by rw [e_18, va_up_ne _ _ (by omega)]; exact f_17_14
  have f_18_15 : cf_18 (15) = .inl (c 0, 6, .inl fun _ => 0) := by rw [e_18, va_up_ne _ _ (by omega)]; exact f_17_15
  have g_18 : ∀ j, j < 0 → cf_18 j = cf j := fun j hj => by rw [e_18]; exact (va_up_ne _ _ (by omega)).trans (g_17 j hj)
  refine lv_aload_n hx hb dX6_init_78 rfl (lv_at hl 0 rfl) ?_
  refine lv_iconst (v := 0) hx hb dX6_init_79 (by decide) ?_
  refine px_put (ty := .int) (v := .int 0) hx hb hts (by decide +kernel) tyX6 tyX6_ok nmX6 hown hK hP hS (0) (by omega) f_18_0 rfl 9 (by decide) (hts (.fieldLink RX6 56 "PriceEdict" "today" "I") (by decide +kernel)) rfl (by decide +kernel) rfl rfl (Nat.le_of_ble_eq_true rfl) dX6_init_80 (fun H locs hP hS => ?_)
  have hP : px_H D b (16) (va_up cf_18 (0) (.inr (6, [.ref (b + 1), .ref (b + 3), .ref (b + 10), .ref (b + 11), .ref (b + 14), .ref (b + 15), .int 0, .int 0, .int 1, .int 0, .int 0]))) H := hP
  obtain ⟨cf_19, e_19⟩ : ∃ z, z = va_up cf_18 (0) (.inr (6, [.ref (b + 1), .ref (b + 3), .ref (b + 10), .ref (b + 11), .ref (b + 14), .ref (b + 15), .int 0, .int 0, .int 1, .int 0, .int 0])) := ⟨_, rfl⟩
  rw [← e_19] at hP
  have f_19_0 : cf_19 (0) = .inr (6, [.ref (b + 1), .ref (b + 3), .ref (b + 10), .ref (b + 11), .ref (b + 14), .ref (b + 15), .int 0, .int 0, .int 1, .int 0, .int 0]) := by rw [e_19]; exact va_up_self _ _ _
  have f_19_1 : cf_19 (1) = .inr (3, [.ref (b + 2), .int 0, .int 0, .int (-1)]) := by rw [e_19, va_up_ne _ _ (by omega)]; exact f_18_1
  have f_19_2 : cf_19 (2) = .inl (c 1, 400, .inl fun _ => 0) := by rw [e_19, va_up_ne _ _ (by omega)]; exact f_18_2
  have f_19_3 : cf_19 (3) = .inr (2, [.ref (b + 4), .ref (b + 5), .ref (b + 6), .ref (b + 7), .ref (b + 8), .ref (b + 9), .int 0, .int 0, .int 0]) := by rw [e_19, va_up_ne _ _ (by omega)]; exact f_18_3
  have f_19_4 : cf_19 (4) = .inl (c 0, 60, .inl fun _ => 0) := by rw [e_19, va_up_ne _ _ (by omega)]; exact f_18_4
  have f_19_5 : cf_19 (5) = .inl (c 0, 240, .inl fun _ => 0) := by rw [e_19, va_up_ne _ _ (by omega)]; exact f_18_5
  have f_19_6 : cf_19 (6) = .inl (c 0, 60, .inl fun _ => 0) := by rw [e_19, va_up_ne _ _ (by omega)]; exact f_18_6
  have f_19_7 : cf_19 (7) = .inl (c 0, 60, .inl fun _ => 0) := by rw [e_19, va_up_ne _ _ (by omega)]; exact f_18_7
  have f_19_8 : cf_19 (8) = .inl (c 0, 10, .inl (rdg 10)) := by rw [e_19, va_up_ne _ _ (by omega)]; exact f_18_8
  have f_19_9 : cf_19 (9) = .inl (c 0, 4, .inl fun _ => 0) := by rw [e_19, va_up_ne _ _ (by omega)]; exact f_18_9
  have f_19_10 : cf_19 (10) = .inl (c 2, 21, .inr (.inr (.inr (.inr (fun _ => none))))) := by rw [e_19, va_up_ne _ _ (by omega)]; exact f_18_10
  have f_19_11 : cf_19 (11) = .inr (1, [.ref (b + 12), .ref (b + 13), .int 0]) := by rw [e_19, va_up_ne _ _ (by omega)]; exact f_18_11
  have f_19_12 : cf_19 (12) = .inl (c 0, 40, .inl fun _ => 0) := by rw [e_19, va_up_ne _ _ (by omega)]; exact f_18_12
  have f_19_13 : cf_19 (13) = .inl (c 0, 40, .inl fun _ => 0) := by rw [e_19, va_up_ne _ _ (by omega)]; exact f_18_13
  have f_19_14 : cf_19 (14) = .inl (c 3, 8, .inr (.inr (.inr (.inr (fun _ => none))))) := by rw [e_19, va_up_ne _ _ (by omega)]; exact f_18_14
  have f_19_15 : cf_19 (15) = .inl (c 0, 6, .inl fun _ => 0) := by rw [e_19, va_up_ne _ _ (by omega)]; exact f_18_15
  have g_19 : ∀ j, j < 0 → cf_19 j = cf j := fun j hj => by rw [e_19]; exact (va_up_ne _ _ (by omega)).trans (g_18 j hj)
  refine lv_aload_n hx hb dX6_init_83 rfl (lv_at hl 0 rfl) ?_
  refine lv_iconst (v := (-1)) hx hb dX6_init_84 (by decide) ?_
  refine px_put (ty := .int) (v := .int (-1)) hx hb hts (by decide +kernel) tyX6 tyX6_ok nmX6 hown hK hP hS (0) (by omega) f_19_0 rfl 10 (by decide) (hts (.fieldLink RX6 59 "PriceEdict" "wrongByte" "I") (by decide +kernel)) rfl (by decide +kernel) rfl rfl (Nat.le_of_ble_eq_true rfl) dX6_init_85 (fun H locs hP hS => ?_)
  have hP : px_H D b (16) (va_up cf_19 (0) (.inr (6, [.ref (b + 1), .ref (b + 3), .ref (b + 10), .ref (b + 11), .ref (b + 14), .ref (b + 15), .int 0, .int 0, .int 1, .int 0, .int (-1)]))) H := hP
  obtain ⟨cf_20, e_20⟩ : ∃ z, z = va_up cf_19 (0) (.inr (6, [.ref (b + 1), .ref (b + 3), .ref (b + 10), .ref (b + 11), .ref (b + 14), .ref (b + 15), .int 0, .int 0, .int 1, .int 0, .int (-1)])) := ⟨_, rfl⟩
  rw [← e_20] at hP
  have f_20_0 : cf_20 (0) = .inr (6, [.ref (b + 1), .ref (b + 3), .ref (b + 10), .ref (b + 11), .ref (b + 14), .ref (b + 15), .int 0, .int 0, .int 1, .int 0, .int (-1)]) := by rw [e_20]; exact va_up_self _ _ _
  have f_20_1 : cf_20 (1) = .inr (3, [.ref (b + 2), .int 0, .int 0, .int (-1)]) := by rw [e_20, va_up_ne _ _ (by omega)]; exact f_19_1
  have f_20_2 : cf_20 (2) = .inl (c 1, 400, .inl fun _ => 0) := by rw [e_20, va_up_ne _ _ (by omega)]; exact f_19_2
  have f_20_3 : cf_20 (3) = .inr (2, [.ref (b + 4), .ref (b + 5), .ref (b + 6), .ref (b + 7), .ref (b + 8), .ref (b + 9), .int 0, .int 0, .int 0]) := by rw [e_20, va_up_ne _ _ (by omega)]; exact f_19_3
  have f_20_4 : cf_20 (4) = .inl (c 0, 60, .inl fun _ => 0) := by rw [e_20, va_up_ne _ _ (by omega)]; exact f_19_4
  have f_20_5 : cf_20 (5) = .inl (c 0, 240, .inl fun _ => 0) := by rw [e_20, va_up_ne _ _ (by omega)]; exact f_19_5
  have f_20_6 : cf_20 (6) = .inl (c 0, 60, .inl fun _ => 0) := by rw [e_20, va_up_ne _ _ (by omega)]; exact f_19_6
  have f_20_7 : cf_20 (7) = .inl (c 0, 60, .inl fun _ => 0) := by rw [e_20, va_up_ne _ _ (by omega)]; exact f_19_7
  have f_20_8 : cf_20 (8) = .inl (c 0, 10, .inl (rdg 10)) := by rw [e_20, va_up_ne _ _ (by omega)]; exact f_19_8
  have f_20_9 : cf_20 (9) = .inl (c 0, 4, .inl fun _ => 0) := by rw [e_20, va_up_ne _ _ (by omega)]; exact f_19_9
  have f_20_10 : cf_20 (10) = .inl (c 2, 21, .inr (.inr (.inr (.inr (fun _ => none))))) := by rw [e_20, va_up_ne _ _ (by omega)]; exact f_19_10
  have f_20_11 : cf_20 (11) = .inr (1, [.ref (b + 12), .ref (b + 13), .int 0]) := by rw [e_20, va_up_ne _ _ (by omega)]; exact f_19_11
  have f_20_12 : cf_20 (12) = .inl (c 0, 40, .inl fun _ => 0) := by rw [e_20, va_up_ne _ _ (by omega)]; exact f_19_12
  have f_20_13 : cf_20 (13) = .inl (c 0, 40, .inl fun _ => 0) := by rw [e_20, va_up_ne _ _ (by omega)]; exact f_19_13
  have f_20_14 : cf_20 (14) = .inl (c 3, 8, .inr (.inr (.inr (.inr (fun _ => none))))) := by rw [e_20, va_up_ne _ _ (by omega)]; exact f_19_14
  have f_20_15 : cf_20 (15) = .inl (c 0, 6, .inl fun _ => 0) := by rw [e_20, va_up_ne _ _ (by omega)]; exact f_19_15
  have g_20 : ∀ j, j < 0 → cf_20 j = cf j := fun j hj => by rw [e_20]; exact (va_up_ne _ _ (by omega)).trans (g_19 j hj)
  have L2 : ∀ (n i : Nat) (z : Int32) (cfx : Nat → va_E) (H : Heap) (locs : List Loc) (ls : Array Slot) (cl sl : Nat), i + n = 9 → i ≤ 8 → cl = 78 + 8 * i → sl = 1322 + 74 * i → z = nI i → (cfx 0 = .inr (6, [.ref (b + 1), .ref (b + 3), .ref (b + 10), .ref (b + 11), .ref (b + 14), .ref (b + 15), .int 0, .int 0, .int 1, .int 0, .int (-1)]) ∧ cfx 1 = .inr (3, [.ref (b + 2), .int 0, .int 0, .int (-1)]) ∧ cfx 2 = .inl (c 1, 400, .inl fun _ => 0) ∧ cfx 3 = .inr (2, [.ref (b + 4), .ref (b + 5), .ref (b + 6), .ref (b + 7), .ref (b + 8), .ref (b + 9), .int 0, .int 0, .int 0]) ∧ cfx 4 = .inl (c 0, 60, .inl fun _ => 0) ∧ cfx 5 = .inl (c 0, 240, .inl fun _ => 0) ∧ cfx 6 = .inl (c 0, 60, .inl fun _ => 0) ∧ cfx 7 = .inl (c 0, 60, .inl fun _ => 0) ∧ cfx 8 = .inl (c 0, 10, .inl (rdg 10)) ∧ cfx 9 = .inl (c 0, 4, .inl fun _ => 0) ∧ cfx 11 = .inr (1, [.ref (b + 12), .ref (b + 13), .int 0]) ∧ cfx 12 = .inl (c 0, 40, .inl fun _ => 0) ∧ cfx 13 = .inl (c 0, 40, .inl fun _ => 0) ∧ cfx 15 = .inl (c 0, 6, .inl fun _ => 0)) → cfx 10 = .inl (c 2, 21, .inr (.inr (.inr (.inr (drf b 21))))) → (∀ j, j < 21 → cfx (16 + 3 * j) = .inr (0, [.ref (b + (16 + 3 * j + 1)), .ref (b + (16 + 3 * j + 2)), .int 0, .int 0, .int 0]) ∧ cfx (16 + 3 * j + 1) = .inl (c 0, 6, .inl fun _ => 0) ∧ cfx (16 + 3 * j + 2) = .inl (c 0, 6, .inl fun _ => 0)) → cfx 14 = .inl (c 3, 8, .inr (.inr (.inr (.inr (trf b i))))) → (∀ j, j < i → cfx (79 + 8 * j) = .inr (4, [.ref (b + (79 + 8 * j + 1)), .int 0]) ∧ cfx (79 + 8 * j + 1) = .inl (c 4, 6, .inr (.inr (.inr (.inr (wrf b (79 + 8 * j + 2) 6))))) ∧ ∀ i, i < 6 → cfx (79 + 8 * j + 2 + i) = .inr (5, [.int 0, .int 0, .int 0, .int 0, .int 0, .int 0, .int 0, .int 0, .int 0, .int 0, .int 0])) → px_H D b (79 + 8 * i) cfx H → va_S (px_A b) s.heap H locs → lv_has ls 2 [(1, .int z), (0, .ref (b + 0))] → W p l e ({ frames := 3, cells := 142, slots := 1914, locals := 53 }) s m [.ref (b + 0)].toArray below meth c0 H locs cl sl (MQ below (va_Qv (fun u => (u 0 = .inr (6, [.ref (b + 1), .ref (b + 3), .ref (b + 10), .ref (b + 11), .ref (b + 14), .ref (b + 15), .int 0, .int 0, .int 1, .int 0, .int (-1)]) ∧ u 1 = .inr (3, [.ref (b + 2), .int 0, .int 0, .int (-1)]) ∧ u 2 = .inl (c 1, 400, .inl fun _ => 0) ∧ u 3 = .inr (2, [.ref (b + 4), .ref (b + 5), .ref (b + 6), .ref (b + 7), .ref (b + 8), .ref (b + 9), .int 0, .int 0, .int 0]) ∧ u 4 = .inl (c 0, 60, .inl fun _ => 0) ∧ u 5 = .inl (c 0, 240, .inl fun _ => 0) ∧ u 6 = .inl (c 0, 60, .inl fun _ => 0) ∧ u 7 = .inl (c 0, 60, .inl fun _ => 0) ∧ u 8 = .inl (c 0, 10, .inl (rdg 10)) ∧ u 9 = .inl (c 0, 4, .inl fun _ => 0) ∧ u 11 = .inr (1, [.ref (b + 12), .ref (b + 13), .int 0]) ∧ u 12 = .inl (c 0, 40, .inl fun _ => 0) ∧ u 13 = .inl (c 0, 40, .inl fun _ => 0) ∧ u 15 = .inl (c 0, 6, .inl fun _ => 0)) ∧ u 10 = .inl (c 2, 21, .inr (.inr (.inr (.inr (drf b 21))))) ∧ (∀ j, j < 21 → u (16 + 3 * j) = .inr (0, [.ref (b + (16 + 3 * j + 1)), .ref (b + (16 + 3 * j + 2)), .int 0, .int 0, .int 0]) ∧ u (16 + 3 * j + 1) = .inl (c 0, 6, .inl fun _ => 0) ∧ u (16 + 3 * j + 2) = .inl (c 0, 6, .inl fun _ => 0)) ∧ u 14 = .inl (c 3, 8, .inr (.inr (.inr (.inr (trf b 8))))) ∧ ∀ j, j < 8 → u (79 + 8 * j) = .inr (4, [.ref (b + (79 + 8 * j + 1)), .int 0]) ∧ u (79 + 8 * j + 1) = .inl (c 4, 6, .inr (.inr (.inr (.inr (wrf b (79 + 8 * j + 2) 6))))) ∧ ∀ i, i < 6 → u (79 + 8 * j + 2 + i) = .inr (5, [.int 0, .int 0, .int 0, .int 0, .int 0, .int 0, .int 0, .int 0, .int 0, .int 0, .int 0])) (fun u U => px_H D b (143) u U.heap ∧ qw_K D c U) (px_A b)) [.ref (b + 0)].toArray s 142 1914 (px_A b)) (F0 m 120 ls []) := by
    intro n
    induction n with
    | zero => intro i z cfx H locs ls cl sl h1 h2; omega
    | succ n ih =>
      intro i z cfx H locs ls cl sl h1 h2 hcl hsl hz hf q10 qd q14 qt hP hS hl
      refine lv_iload_n hx hb dX6_init_120 rfl (lv_at hl 0 rfl) ?_
      refine lv_aload_n hx hb dX6_init_121 rfl (lv_at hl 1 rfl) ?_
      refine px_get hx hb hts (by decide +kernel) hown hK hP 0 (by omega) hf.1 rfl 4 (by decide) (hts (.fieldLink RX6 38 "PriceEdict" "towns" "[LPriceEdict$Town;") (by decide +kernel)) rfl dX6_init_122 ?_
      refine px_len hx hb hK hP 3 rfl 14 (by omega) q14 (v := 8) rfl dX6_init_125 ?_
      refine lv_icmp_ge (tgt := 148) hx hb dX6_init_126 (by decide) (fun c_1 => ?_) (fun c_1 => ?_)
      · have hi : i = 8 := by have := qi_ge hz (by omega) (m := 8) rfl c_1; omega
        subst hi
        exact px_ret (mc := 142) (ms := 1914) (by omega) (by omega) hx hb hret hlk hK hP hS rfl ⟨hf, q10, qd, q14, qt⟩ dX6_init_148
      · have hi : i < 8 := qi_lt hz (by omega) (m := 8) rfl c_1
        refine lv_aload_n hx hb dX6_init_129 rfl (lv_at hl 1 rfl) ?_
        refine px_get hx hb hts (by decide +kernel) hown hK hP 0 (by omega) hf.1 rfl 4 (by decide) (hts (.fieldLink RX6 38 "PriceEdict" "towns" "[LPriceEdict$Town;") (by decide +kernel)) rfl dX6_init_130 ?_
        refine lv_iload_n hx hb dX6_init_133 rfl (lv_at hl 0 rfl) ?_
        refine px_new (ci := 4) (fs := [.null, .int 0]) (C := RX4) (T := TX4) (N := 2) hx hb hts (by decide +kernel) tyX4 tyX4_ok hown (hts (.classLink RX6 36 RX4) (by decide +kernel)) (hts (.instantiable RX4 2) (by decide +kernel)) (hts (.initialized RX4) (by decide +kernel)) hK hP hS rfl (fun j hj => by rcases (show j = 0 ∨ j = 1 by omega) with rfl | rfl <;> rfl) (by show cl + 1 ≤ 142; omega) (by show sl + 2 ≤ 1914; omega) dX6_init_134 (fun H hP hS => ?_)
        refine lv_dup hx hb dX6_init_137 rfl ?_
        refine px_init (As := []) (rest := [.ref (b + (79 + 8 * i)), .int z, .ref (b + 14)]) ⟨hx, hb, hml, hown, hts⟩ (79 + 8 * i) (c_X4_init l D c b (79 + 8 * i) _ (va_up_self _ _ _)) ec_bl (fun U hW => hE.warm hW) (cwI 0 hts gX6_init_X4_init rfl rfl rfl (hts (.initialized RX4) (by decide +kernel)) (hts (.methodLink RX6 63 yX4_init) (by decide +kernel)) (hts (.instanceMethod yX4_init) (by decide +kernel)) rfl (by decide +kernel) ⟨Nat.le_of_ble_eq_true rfl, Nat.le_of_ble_eq_true rfl⟩) hK hP hS rfl hl.1 rfl (lv_room (Nat.le_of_ble_eq_true rfl)) dX6_init_138 ⟨by show cl + 1 + 7 ≤ 142; omega, by show sl + 2 + 72 ≤ 1914; omega⟩ (fun u H locs hp hP hS => ?_)
        obtain ⟨hp1, hp2, hp3, hp4⟩ := hp
        have ul : ∀ o, o < 79 + 8 * i → u o = cfx o := fun o ho => (hp1 o ho).trans (va_up_ne _ _ (by omega))
        refine px_ast hx hb hK hP hS 14 3 (79 + 8 * i) 4 (by omega) (by omega) (r := (RX4, TX4, 2)) ((ul 14 (by omega)).trans q14) rfl hp2 rfl (qi_in hz hi (by decide)) dX6_init_141 (fun H locs hP hS => ?_)
        have eu : va_up (trf b i) z.toNatClampNeg (some (b + (79 + 8 * i))) = trf b (i + 1) := by rw [hz, nI_clamp (by omega)]; exact trf_up b i
        rw [eu, show 79 + 8 * i + 8 = 79 + 8 * (i + 1) by omega] at hP
        obtain ⟨x, ex⟩ : ∃ y : Int32, y = z + 1 := ⟨_, rfl⟩
        refine lv_iinc (v := x) (lv' := [(1, .int x), (0, .ref (b + 0))]) hx hb dX6_init_142 hl (k := 0) rfl (by rw [ex]; rfl) (by decide) rfl (fun ls hl => ?_)
        refine lv_goto (tgt := 120) hx hb dX6_init_145 (by decide) ?_
        exact ih (i + 1) x _ _ _ _ _ _ (by omega) (by omega) (by omega) (by omega) (by rw [ex]; exact qi_add hz) ⟨(va_up_ne _ _ (by omega)).trans ((ul 0 (by omega)).trans hf.1), (va_up_ne _ _ (by omega)).trans ((ul 1 (by omega)).trans hf.2.1), (va_up_ne _ _ (by omega)).trans ((ul 2 (by omega)).trans hf.2.2.1), (va_up_ne _ _ (by omega)).trans ((ul 3 (by omega)).trans hf.2.2.2.1), (va_up_ne _ _ (by omega)).trans ((ul 4 (by omega)).trans hf.2.2.2.2.1), (va_up_ne _ _ (by omega)).trans ((ul 5 (by omega)).trans hf.2.2.2.2.2.1), (va_up_ne _ _ (by omega)).trans ((ul 6 (by omega)).trans hf.2.2.2.2.2.2.1), (va_up_ne _ _ (by omega)).trans ((ul 7 (by omega)).trans hf.2.2.2.2.2.2.2.1), (va_up_ne _ _ (by omega)).trans ((ul 8 (by omega)).trans hf.2.2.2.2.2.2.2.2.1), (va_up_ne _ _ (by omega)).trans ((ul 9 (by omega)).trans hf.2.2.2.2.2.2.2.2.2.1), (va_up_ne _ _ (by omega)).trans ((ul 11 (by omega)).trans hf.2.2.2.2.2.2.2.2.2.2.1), (va_up_ne _ _ (by omega)).trans ((ul 12 (by omega)).trans hf.2.2.2.2.2.2.2.2.2.2.2.1), (va_up_ne _ _ (by omega)).trans ((ul 13 (by omega)).trans hf.2.2.2.2.2.2.2.2.2.2.2.2.1), (va_up_ne _ _ (by omega)).trans ((ul 15 (by omega)).trans hf.2.2.2.2.2.2.2.2.2.2.2.2.2)⟩ ((va_up_ne _ _ (by omega)).trans ((ul 10 (by omega)).trans q10)) (fun j hj => by
          rw [va_up_ne _ _ (by omega), va_up_ne _ _ (by omega), va_up_ne _ _ (by omega), ul _ (by omega), ul _ (by omega), ul _ (by omega)]; exact qd j hj) (va_up_self _ _ _) (fun j hj => by
          by_cases ej : j = i
          · subst ej
            rw [va_up_ne _ _ (by omega), va_up_ne _ _ (by omega)]
            exact ⟨hp2, hp3, fun w hw => (va_up_ne _ _ (by omega)).trans (hp4 w hw)⟩
          · obtain ⟨w1, w2, w3⟩ := qt j (by omega)
            rw [va_up_ne _ _ (by omega), va_up_ne _ _ (by omega), ul _ (by omega), ul _ (by omega)]
            exact ⟨w1, w2, fun w hw => (va_up_ne _ _ (by omega)).trans ((ul _ (by omega)).trans (w3 w hw))⟩) hP hS hl
  have L1 : ∀ (n i : Nat) (z : Int32) (cfx : Nat → va_E) (H : Heap) (locs : List Loc) (ls : Array Slot) (cl sl : Nat), i + n = 22 → i ≤ 21 → cl = 15 + 3 * i → sl = 965 + 17 * i → z = nI i → (cfx 0 = .inr (6, [.ref (b + 1), .ref (b + 3), .ref (b + 10), .ref (b + 11), .ref (b + 14), .ref (b + 15), .int 0, .int 0, .int 1, .int 0, .int (-1)]) ∧ cfx 1 = .inr (3, [.ref (b + 2), .int 0, .int 0, .int (-1)]) ∧ cfx 2 = .inl (c 1, 400, .inl fun _ => 0) ∧ cfx 3 = .inr (2, [.ref (b + 4), .ref (b + 5), .ref (b + 6), .ref (b + 7), .ref (b + 8), .ref (b + 9), .int 0, .int 0, .int 0]) ∧ cfx 4 = .inl (c 0, 60, .inl fun _ => 0) ∧ cfx 5 = .inl (c 0, 240, .inl fun _ => 0) ∧ cfx 6 = .inl (c 0, 60, .inl fun _ => 0) ∧ cfx 7 = .inl (c 0, 60, .inl fun _ => 0) ∧ cfx 8 = .inl (c 0, 10, .inl (rdg 10)) ∧ cfx 9 = .inl (c 0, 4, .inl fun _ => 0) ∧ cfx 11 = .inr (1, [.ref (b + 12), .ref (b + 13), .int 0]) ∧ cfx 12 = .inl (c 0, 40, .inl fun _ => 0) ∧ cfx 13 = .inl (c 0, 40, .inl fun _ => 0) ∧ cfx 15 = .inl (c 0, 6, .inl fun _ => 0)) → cfx 10 = .inl (c 2, 21, .inr (.inr (.inr (.inr (drf b i))))) → (∀ j, j < i → cfx (16 + 3 * j) = .inr (0, [.ref (b + (16 + 3 * j + 1)), .ref (b + (16 + 3 * j + 2)), .int 0, .int 0, .int 0]) ∧ cfx (16 + 3 * j + 1) = .inl (c 0, 6, .inl fun _ => 0) ∧ cfx (16 + 3 * j + 2) = .inl (c 0, 6, .inl fun _ => 0)) → cfx 14 = .inl (c 3, 8, .inr (.inr (.inr (.inr (trf b 0))))) → px_H D b (16 + 3 * i) cfx H → va_S (px_A b) s.heap H locs → lv_has ls 2 [(1, .int z), (0, .ref (b + 0))] → W p l e ({ frames := 3, cells := 142, slots := 1914, locals := 53 }) s m [.ref (b + 0)].toArray below meth c0 H locs cl sl (MQ below (va_Qv (fun u => (u 0 = .inr (6, [.ref (b + 1), .ref (b + 3), .ref (b + 10), .ref (b + 11), .ref (b + 14), .ref (b + 15), .int 0, .int 0, .int 1, .int 0, .int (-1)]) ∧ u 1 = .inr (3, [.ref (b + 2), .int 0, .int 0, .int (-1)]) ∧ u 2 = .inl (c 1, 400, .inl fun _ => 0) ∧ u 3 = .inr (2, [.ref (b + 4), .ref (b + 5), .ref (b + 6), .ref (b + 7), .ref (b + 8), .ref (b + 9), .int 0, .int 0, .int 0]) ∧ u 4 = .inl (c 0, 60, .inl fun _ => 0) ∧ u 5 = .inl (c 0, 240, .inl fun _ => 0) ∧ u 6 = .inl (c 0, 60, .inl fun _ => 0) ∧ u 7 = .inl (c 0, 60, .inl fun _ => 0) ∧ u 8 = .inl (c 0, 10, .inl (rdg 10)) ∧ u 9 = .inl (c 0, 4, .inl fun _ => 0) ∧ u 11 = .inr (1, [.ref (b + 12), .ref (b + 13), .int 0]) ∧ u 12 = .inl (c 0, 40, .inl fun _ => 0) ∧ u 13 = .inl (c 0, 40, .inl fun _ => 0) ∧ u 15 = .inl (c 0, 6, .inl fun _ => 0)) ∧ u 10 = .inl (c 2, 21, .inr (.inr (.inr (.inr (drf b 21))))) ∧ (∀ j, j < 21 → u (16 + 3 * j) = .inr (0, [.ref (b + (16 + 3 * j + 1)), .ref (b + (16 + 3 * j + 2)), .int 0, .int 0, .int 0]) ∧ u (16 + 3 * j + 1) = .inl (c 0, 6, .inl fun _ => 0) ∧ u (16 + 3 * j + 2) = .inl (c 0, 6, .inl fun _ => 0)) ∧ u 14 = .inl (c 3, 8, .inr (.inr (.inr (.inr (trf b 8))))) ∧ ∀ j, j < 8 → u (79 + 8 * j) = .inr (4, [.ref (b + (79 + 8 * j + 1)), .int 0]) ∧ u (79 + 8 * j + 1) = .inl (c 4, 6, .inr (.inr (.inr (.inr (wrf b (79 + 8 * j + 2) 6))))) ∧ ∀ i, i < 6 → u (79 + 8 * j + 2 + i) = .inr (5, [.int 0, .int 0, .int 0, .int 0, .int 0, .int 0, .int 0, .int 0, .int 0, .int 0, .int 0])) (fun u U => px_H D b (143) u U.heap ∧ qw_K D c U) (px_A b)) [.ref (b + 0)].toArray s 142 1914 (px_A b)) (F0 m 90 ls []) := by
    intro n
    induction n with
    | zero => intro i z cfx H locs ls cl sl h1 h2; omega
    | succ n ih =>
      intro i z cfx H locs ls cl sl h1 h2 hcl hsl hz hf q10 qd q14 hP hS hl
      refine lv_iload_n hx hb dX6_init_90 rfl (lv_at hl 0 rfl) ?_
      refine lv_aload_n hx hb dX6_init_91 rfl (lv_at hl 1 rfl) ?_
      refine px_get hx hb hts (by decide +kernel) hown hK hP 0 (by omega) hf.1 rfl 2 (by decide) (hts (.fieldLink RX6 25 "PriceEdict" "decrees" "[LPriceEdict$Decree;") (by decide +kernel)) rfl dX6_init_92 ?_
      refine px_len hx hb hK hP 2 rfl 10 (by omega) q10 (v := 21) rfl dX6_init_95 ?_
      refine lv_icmp_ge (tgt := 118) hx hb dX6_init_96 (by decide) (fun c_1 => ?_) (fun c_1 => ?_)
      · have hi : i = 21 := by have := qi_ge hz (by omega) (m := 21) rfl c_1; omega
        subst hi
        refine lv_iconst (v := 0) hx hb dX6_init_118 (by decide) ?_
        refine lv_istore_n (lv' := [(1, .int 0), (0, .ref (b + 0))]) hx hb dX6_init_119 rfl hl (by decide) rfl (fun ls hl => ?_)
        exact L2 9 0 0 cfx H locs ls cl sl rfl (by omega) (by omega) (by omega) rfl hf q10 qd q14 (fun j hj => absurd hj (by omega)) hP hS hl
      · have hi : i < 21 := qi_lt hz (by omega) (m := 21) rfl c_1
        refine lv_aload_n hx hb dX6_init_99 rfl (lv_at hl 1 rfl) ?_
        refine px_get hx hb hts (by decide +kernel) hown hK hP 0 (by omega) hf.1 rfl 2 (by decide) (hts (.fieldLink RX6 25 "PriceEdict" "decrees" "[LPriceEdict$Decree;") (by decide +kernel)) rfl dX6_init_100 ?_
        refine lv_iload_n hx hb dX6_init_103 rfl (lv_at hl 0 rfl) ?_
        refine px_new (ci := 0) (fs := [.null, .null, .int 0, .int 0, .int 0]) (C := RX0) (T := TX0) (N := 5) hx hb hts (by decide +kernel) tyX0 tyX0_ok hown (hts (.classLink RX6 23 RX0) (by decide +kernel)) (hts (.instantiable RX0 5) (by decide +kernel)) (hts (.initialized RX0) (by decide +kernel)) hK hP hS rfl (fun j hj => by rcases (show j = 0 ∨ j = 1 ∨ j = 2 ∨ j = 3 ∨ j = 4 by omega) with rfl | rfl | rfl | rfl | rfl <;> rfl) (by show cl + 1 ≤ 142; omega) (by show sl + 5 ≤ 1914; omega) dX6_init_104 (fun H hP hS => ?_)
        refine lv_dup hx hb dX6_init_107 rfl ?_
        refine px_initN (As := []) (rest := [.ref (b + (16 + 3 * i)), .int z, .ref (b + 10)]) ⟨hx, hb, hml, hown, hts⟩ (16 + 3 * i) (c_X0_init l D c b (16 + 3 * i) _ (va_up_self _ _ _)) tr_bl (fun _ _ => trivial) ⟨va_cnB (host := RX6) 0 hts gX6_init_X0_init_n62 rfl rfl rfl hE.2.2.1 (hts (.initialized RX0) (by decide +kernel)) (by decide +kernel) ⟨Nat.le_of_ble_eq_true rfl, Nat.le_of_ble_eq_true rfl⟩, rfl, hts (.instanceMethod yX0_init) (by decide +kernel)⟩ hK hP hS rfl hl.1 rfl (lv_room (Nat.le_of_ble_eq_true rfl)) dX6_init_108 ⟨by show cl + 1 + 2 ≤ 142; omega, by show sl + 5 + 12 ≤ 1914; omega⟩ (fun u H locs hp hP hS => ?_)
        obtain ⟨hp1, hp2, hp3, hp4⟩ := hp
        have ul : ∀ o, o < 16 + 3 * i → u o = cfx o := fun o ho => (hp1 o ho).trans (va_up_ne _ _ (by omega))
        refine px_ast hx hb hK hP hS 10 2 (16 + 3 * i) 0 (by omega) (by omega) (r := (RX0, TX0, 5)) ((ul 10 (by omega)).trans q10) rfl hp2 rfl (qi_in hz hi (by decide)) dX6_init_111 (fun H locs hP hS => ?_)
        have eu : va_up (drf b i) z.toNatClampNeg (some (b + (16 + 3 * i))) = drf b (i + 1) := by rw [hz, nI_clamp (by omega)]; exact drf_up b i
        rw [eu, show 16 + 3 * i + 3 = 16 + 3 * (i + 1) by omega] at hP
        obtain ⟨x, ex⟩ : ∃ y : Int32, y = z + 1 := ⟨_, rfl⟩
        refine lv_iinc (v := x) (lv' := [(1, .int x), (0, .ref (b + 0))]) hx hb dX6_init_112 hl (k := 0) rfl (by rw [ex]; rfl) (by decide) rfl (fun ls hl => ?_)
        refine lv_goto (tgt := 90) hx hb dX6_init_115 (by decide) ?_
        exact ih (i + 1) x _ _ _ _ _ _ (by omega) (by omega) (by omega) (by omega) (by rw [ex]; exact qi_add hz) ⟨(va_up_ne _ _ (by omega)).trans ((ul 0 (by omega)).trans hf.1), (va_up_ne _ _ (by omega)).trans ((ul 1 (by omega)).trans hf.2.1), (va_up_ne _ _ (by omega)).trans ((ul 2 (by omega)).trans hf.2.2.1), (va_up_ne _ _ (by omega)).trans ((ul 3 (by omega)).trans hf.2.2.2.1), (va_up_ne _ _ (by omega)).trans ((ul 4 (by omega)).trans hf.2.2.2.2.1), (va_up_ne _ _ (by omega)).trans ((ul 5 (by omega)).trans hf.2.2.2.2.2.1), (va_up_ne _ _ (by omega)).trans ((ul 6 (by omega)).trans hf.2.2.2.2.2.2.1), (va_up_ne _ _ (by omega)).trans ((ul 7 (by omega)).trans hf.2.2.2.2.2.2.2.1), (va_up_ne _ _ (by omega)).trans ((ul 8 (by omega)).trans hf.2.2.2.2.2.2.2.2.1), (va_up_ne _ _ (by omega)).trans ((ul 9 (by omega)).trans hf.2.2.2.2.2.2.2.2.2.1), (va_up_ne _ _ (by omega)).trans ((ul 11 (by omega)).trans hf.2.2.2.2.2.2.2.2.2.2.1), (va_up_ne _ _ (by omega)).trans ((ul 12 (by omega)).trans hf.2.2.2.2.2.2.2.2.2.2.2.1), (va_up_ne _ _ (by omega)).trans ((ul 13 (by omega)).trans hf.2.2.2.2.2.2.2.2.2.2.2.2.1), (va_up_ne _ _ (by omega)).trans ((ul 15 (by omega)).trans hf.2.2.2.2.2.2.2.2.2.2.2.2.2)⟩ (va_up_self _ _ _) (fun j hj => by
          rw [va_up_ne _ _ (by omega), va_up_ne _ _ (by omega), va_up_ne _ _ (by omega)]
          by_cases ej : j = i
          · subst ej; exact ⟨hp2, hp3, hp4⟩
          · rw [ul _ (by omega), ul _ (by omega), ul _ (by omega)]; exact qd j (by omega)) ((va_up_ne _ _ (by omega)).trans ((ul 14 (by omega)).trans q14)) hP hS hl
  refine lv_iconst (v := 0) hx hb dX6_init_88 (by decide) ?_
  refine lv_istore_n (lv' := [(1, .int 0), (0, .ref (b + 0))]) hx hb dX6_init_89 rfl hl (by decide) rfl (fun ls hl => ?_)
  exact L1 22 0 0 _ _ _ _ _ _ rfl (by omega) rfl rfl rfl ⟨f_20_0, f_20_1, f_20_2, f_20_3, f_20_4, f_20_5, f_20_6, f_20_7, f_20_8, f_20_9, f_20_11, f_20_12, f_20_13, f_20_15⟩ (f_20_10.trans (by rw [drf_0])) (fun j hj => absurd hj (by omega)) (f_20_14.trans (by rw [trf_0])) hP hS hl
