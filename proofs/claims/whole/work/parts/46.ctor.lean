/-! CONSTRUCTORS (written by program) -/
def rdg (i : Nat) : Nat → Int32 := fun j => if j < i then (1 : Int32) <<< (nI j &&& 31) else 0
theorem rdg_0 : rdg 0 = fun _ => 0 := by funext j; simp [rdg]
theorem rdg_up (i : Nat) : upd (rdg i) i ((1 : Int32) <<< (nI i &&& 31)) = rdg (i + 1) := by
  funext j
  unfold upd rdg
  by_cases e : j = i
  · subst e; rw [if_pos rfl, if_pos (by omega)]
  · rw [if_neg e]
    by_cases h : j < i
    · rw [if_pos h, if_pos (by omega)]
    · rw [if_neg h, if_neg (by omega)]
/-- a row of references, filled up to i: one object behind the other -/
def wrf (b k i : Nat) : Nat → Option Nat := fun j => if j < i then some (b + (k + j)) else none
theorem wrf_0 (b k : Nat) : wrf b k 0 = fun _ => none := by funext j; simp [wrf]
theorem wrf_up (b k i : Nat) : va_up (wrf b k i) i (some (b + (k + i))) = wrf b k (i + 1) := by
  funext j
  unfold va_up wrf
  by_cases e : j = i
  · subst e; rw [if_pos rfl, if_pos (by omega)]
  · rw [if_neg e]
    by_cases h : j < i
    · rw [if_pos h, if_pos (by omega)]
    · rw [if_neg h, if_neg (by omega)]
/-- what the constructors ask of the tables: nest mates, rows of objects -/
def EC (U : State) : Prop := va_Nw (.methodLinkNest RX6 9 yX3_init RX6) U ∧ va_Nw (.methodLinkNest RX6 31 yX1_init RX6) U ∧ va_Nw (.methodLinkNest RX6 62 yX0_init RX6) U ∧ va_Nw (.methodLinkNest RX4 21 yX5_init RX6) U ∧ va_AO RX0 U ∧ va_AO RX4 U ∧ va_AO RX5 U
theorem EC.warm {s U : State} (h : EC s) (hW : s.WarmedH U.vm) : EC U := ⟨h.1.warmM hW, h.2.1.warmM hW, h.2.2.1.warmM hW, h.2.2.2.1.warmM hW, h.2.2.2.2.1.moved hW.alike, h.2.2.2.2.2.1.moved hW.alike, h.2.2.2.2.2.2.moved hW.alike⟩
theorem ec_bl : qw_bl EC := fun U gg mk a h => h.warm (U := U.calling gg mk a) (State.WarmedH.refl U)
set_option maxHeartbeats 4000000 in
set_option maxRecDepth 100000 in
theorem c_X0_init (l : Launch) (D : va_G) (c : Nat → ClassId) (b : Nat) (k : Nat) (cf : Nat → va_E) (f_0_0 : cf (k) = .inr (0, [.null, .null, .int 0, .int 0, .int 0])) : MCf l D c b yX0_init wsX0_init ({ frames := 1, cells := 2, slots := 12, locals := 12 }) [.ref (b + (k))] (k + 1) cf (k + 3) (fun u => (∀ j, j < k → u j = cf j) ∧ u (k) = .inr (0, [.ref (b + (k + 1)), .ref (b + (k + 2)), .int 0, .int 0, .int 0]) ∧ u (k + 1) = .inl (c 0, 6, .inl fun _ => 0) ∧ u (k + 2) = .inl (c 0, 6, .inl fun _ => 0)) (fun _ => True) 2 12 := by
  refine px_of (cc := cX0_init) (nL := 1) (lvs := [(0, .ref (b + (k)))]) (by decide) rfl rfl rfl (Nat.le_of_ble_eq_true rfl) ?_
  intro p e s m below meth c0 ls hx hb hret hml hts hown hlk hmn hK hP hS hl hE
  have g_0 : ∀ j, j < k → cf j = cf j := fun _ _ => rfl
  refine lv_aload_n hx hb dX0_init_0 rfl (lv_at hl 0 rfl) ?_
  refine W.objInit hx hb hown (hts (.methodLink RX0 3 objectInit) (by decide +kernel)) (hts (.instanceMethod objectInit) (by decide +kernel)) (hts (.code objectInit ⟨#[0xb1]⟩ 1 none) (by decide +kernel)) rfl (by rw [hml]; exact hl.1) rfl dX0_init_1 (Nat.le_of_ble_eq_true rfl) (Nat.le_of_ble_eq_true rfl) ?_
  refine W.eq (g2 := F0 m 4 ls []) rfl ?_
  refine lv_aload_n hx hb dX0_init_4 rfl (lv_at hl 0 rfl) ?_
  refine lv_bipush (v := 6) hx hb dX0_init_5 (by decide) ?_
  refine px_newa (atype := .int) (ty := .int) (a0 := (6, .inl fun _ => 0)) (N' := 6) hx hb (hts (.arrayClass .int) (by decide +kernel)) rfl hK hP hS 0 rfl (fun h => h) (fun _ => rfl) (by decide) (by decide) (by show 6 * 4 ≤ 536870912; omega) (Nat.le_of_ble_eq_true rfl) (Nat.le_of_ble_eq_true rfl) dX0_init_7 (fun H hP hS => ?_)
  have hP : px_H D b (k + 2) (va_up cf (k + 1) (.inl (c 0, 6, .inl fun _ => 0))) H := hP
  obtain ⟨cf_1, e_1⟩ : ∃ z, z = va_up cf (k + 1) (.inl (c 0, 6, .inl fun _ => 0)) := ⟨_, rfl⟩
  rw [← e_1] at hP
  have f_1_0 : cf_1 (k) = .inr (0, [.null, .null, .int 0, .int 0, .int 0]) := by rw [e_1, va_up_ne _ _ (by omega)]; exact f_0_0
  have f_1_1 : cf_1 (k + 1) = .inl (c 0, 6, .inl fun _ => 0) := by rw [e_1]; exact va_up_self _ _ _
  have g_1 : ∀ j, j < k → cf_1 j = cf j := fun j hj => by rw [e_1]; exact (va_up_ne _ _ (by omega)).trans (g_0 j hj)
  refine px_putF (ty := (.array .int)) (v := .ref (b + (k + 1))) hx hb hts (by decide +kernel) tyX0 tyX0_ok nmX0 hown hK hP hS (k) (by omega) f_1_0 rfl 0 (by decide) (hts (.fieldLink RX0 9 "PriceEdict$Decree" "caps" "[I") (by decide +kernel)) rfl hmn rfl (by decide +kernel) rfl rfl (Nat.le_of_ble_eq_true rfl) dX0_init_9 (fun H locs hP hS => ?_)
  have hP : px_H D b (k + 2) (va_up cf_1 (k) (.inr (0, [.ref (b + (k + 1)), .null, .int 0, .int 0, .int 0]))) H := hP
  obtain ⟨cf_2, e_2⟩ : ∃ z, z = va_up cf_1 (k) (.inr (0, [.ref (b + (k + 1)), .null, .int 0, .int 0, .int 0])) := ⟨_, rfl⟩
  rw [← e_2] at hP
  have f_2_0 : cf_2 (k) = .inr (0, [.ref (b + (k + 1)), .null, .int 0, .int 0, .int 0]) := by rw [e_2]; exact va_up_self _ _ _
  have f_2_1 : cf_2 (k + 1) = .inl (c 0, 6, .inl fun _ => 0) := by rw [e_2, va_up_ne _ _ (by omega)]; exact f_1_1
  have g_2 : ∀ j, j < k → cf_2 j = cf j := fun j hj => by rw [e_2]; exact (va_up_ne _ _ (by omega)).trans (g_1 j hj)
  refine lv_aload_n hx hb dX0_init_12 rfl (lv_at hl 0 rfl) ?_
  refine lv_bipush (v := 6) hx hb dX0_init_13 (by decide) ?_
  refine px_newa (atype := .int) (ty := .int) (a0 := (6, .inl fun _ => 0)) (N' := 6) hx hb (hts (.arrayClass .int) (by decide +kernel)) rfl hK hP hS 0 rfl (fun h => h) (fun _ => rfl) (by decide) (by decide) (by show 6 * 4 ≤ 536870912; omega) (Nat.le_of_ble_eq_true rfl) (Nat.le_of_ble_eq_true rfl) dX0_init_15 (fun H hP hS => ?_)
  have hP : px_H D b (k + 3) (va_up cf_2 (k + 2) (.inl (c 0, 6, .inl fun _ => 0))) H := hP
  obtain ⟨cf_3, e_3⟩ : ∃ z, z = va_up cf_2 (k + 2) (.inl (c 0, 6, .inl fun _ => 0)) := ⟨_, rfl⟩
  rw [← e_3] at hP
  have f_3_0 : cf_3 (k) = .inr (0, [.ref (b + (k + 1)), .null, .int 0, .int 0, .int 0]) := by rw [e_3, va_up_ne _ _ (by omega)]; exact f_2_0
  have f_3_1 : cf_3 (k + 1) = .inl (c 0, 6, .inl fun _ => 0) := by rw [e_3, va_up_ne _ _ (by omega)]; exact f_2_1
  have f_3_2 : cf_3 (k + 2) = .inl (c 0, 6, .inl fun _ => 0) := by rw [e_3]; exact va_up_self _ _ _
  have g_3 : ∀ j, j < k → cf_3 j = cf j := fun j hj => by rw [e_3]; exact (va_up_ne _ _ (by omega)).trans (g_2 j hj)
  refine px_putF (ty := (.array .int)) (v := .ref (b + (k + 2))) hx hb hts (by decide +kernel) tyX0 tyX0_ok nmX0 hown hK hP hS (k) (by omega) f_3_0 rfl 1 (by decide) (hts (.fieldLink RX0 15 "PriceEdict$Decree" "lines" "[I") (by decide +kernel)) rfl hmn rfl (by decide +kernel) rfl rfl (Nat.le_of_ble_eq_true rfl) dX0_init_17 (fun H locs hP hS => ?_)
  have hP : px_H D b (k + 3) (va_up cf_3 (k) (.inr (0, [.ref (b + (k + 1)), .ref (b + (k + 2)), .int 0, .int 0, .int 0]))) H := hP
  obtain ⟨cf_4, e_4⟩ : ∃ z, z = va_up cf_3 (k) (.inr (0, [.ref (b + (k + 1)), .ref (b + (k + 2)), .int 0, .int 0, .int 0])) := ⟨_, rfl⟩
  rw [← e_4] at hP
  have f_4_0 : cf_4 (k) = .inr (0, [.ref (b + (k + 1)), .ref (b + (k + 2)), .int 0, .int 0, .int 0]) := by rw [e_4]; exact va_up_self _ _ _
  have f_4_1 : cf_4 (k + 1) = .inl (c 0, 6, .inl fun _ => 0) := by rw [e_4, va_up_ne _ _ (by omega)]; exact f_3_1
  have f_4_2 : cf_4 (k + 2) = .inl (c 0, 6, .inl fun _ => 0) := by rw [e_4, va_up_ne _ _ (by omega)]; exact f_3_2
  have g_4 : ∀ j, j < k → cf_4 j = cf j := fun j hj => by rw [e_4]; exact (va_up_ne _ _ (by omega)).trans (g_3 j hj)
  refine lv_aload_n hx hb dX0_init_20 rfl (lv_at hl 0 rfl) ?_
  refine lv_iconst (v := 0) hx hb dX0_init_21 (by decide) ?_
  refine px_put (ty := .int) (v := .int 0) hx hb hts (by decide +kernel) tyX0 tyX0_ok nmX0 hown hK hP hS (k) (by omega) f_4_0 rfl 2 (by decide) (hts (.fieldLink RX0 18 "PriceEdict$Decree" "carriage" "I") (by decide +kernel)) rfl (by decide +kernel) rfl rfl (Nat.le_of_ble_eq_true rfl) dX0_init_22 (fun H locs hP hS => ?_)
  have hP : px_H D b (k + 3) (va_up cf_4 (k) (.inr (0, [.ref (b + (k + 1)), .ref (b + (k + 2)), .int 0, .int 0, .int 0]))) H := hP
  obtain ⟨cf_5, e_5⟩ : ∃ z, z = va_up cf_4 (k) (.inr (0, [.ref (b + (k + 1)), .ref (b + (k + 2)), .int 0, .int 0, .int 0])) := ⟨_, rfl⟩
  rw [← e_5] at hP
  have f_5_0 : cf_5 (k) = .inr (0, [.ref (b + (k + 1)), .ref (b + (k + 2)), .int 0, .int 0, .int 0]) := by rw [e_5]; exact va_up_self _ _ _
  have f_5_1 : cf_5 (k + 1) = .inl (c 0, 6, .inl fun _ => 0) := by rw [e_5, va_up_ne _ _ (by omega)]; exact f_4_1
  have f_5_2 : cf_5 (k + 2) = .inl (c 0, 6, .inl fun _ => 0) := by rw [e_5, va_up_ne _ _ (by omega)]; exact f_4_2
  have g_5 : ∀ j, j < k → cf_5 j = cf j := fun j hj => by rw [e_5]; exact (va_up_ne _ _ (by omega)).trans (g_4 j hj)
  refine lv_aload_n hx hb dX0_init_25 rfl (lv_at hl 0 rfl) ?_
  refine lv_iconst (v := 0) hx hb dX0_init_26 (by decide) ?_
  refine px_put (ty := .int) (v := .int 0) hx hb hts (by decide +kernel) tyX0 tyX0_ok nmX0 hown hK hP hS (k) (by omega) f_5_0 rfl 3 (by decide) (hts (.fieldLink RX0 22 "PriceEdict$Decree" "credit" "I") (by decide +kernel)) rfl (by decide +kernel) rfl rfl (Nat.le_of_ble_eq_true rfl) dX0_init_27 (fun H locs hP hS => ?_)
  have hP : px_H D b (k + 3) (va_up cf_5 (k) (.inr (0, [.ref (b + (k + 1)), .ref (b + (k + 2)), .int 0, .int 0, .int 0]))) H := hP
  obtain ⟨cf_6, e_6⟩ : ∃ z, z = va_up cf_5 (k) (.inr (0, [.ref (b + (k + 1)), .ref (b + (k + 2)), .int 0, .int 0, .int 0])) := ⟨_, rfl⟩
  rw [← e_6] at hP
  have f_6_0 : cf_6 (k) = .inr (0, [.ref (b + (k + 1)), .ref (b + (k + 2)), .int 0, .int 0, .int 0]) := by rw [e_6]; exact va_up_self _ _ _
  have f_6_1 : cf_6 (k + 1) = .inl (c 0, 6, .inl fun _ => 0) := by rw [e_6, va_up_ne _ _ (by omega)]; exact f_5_1
  have f_6_2 : cf_6 (k + 2) = .inl (c 0, 6, .inl fun _ => 0) := by rw [e_6, va_up_ne _ _ (by omega)]; exact f_5_2
  have g_6 : ∀ j, j < k → cf_6 j = cf j := fun j hj => by rw [e_6]; exact (va_up_ne _ _ (by omega)).trans (g_5 j hj)
  refine lv_aload_n hx hb dX0_init_30 rfl (lv_at hl 0 rfl) ?_
  refine lv_iconst (v := 0) hx hb dX0_init_31 (by decide) ?_
  refine px_put (ty := .int) (v := .int 0) hx hb hts (by decide +kernel) tyX0 tyX0_ok nmX0 hown hK hP hS (k) (by omega) f_6_0 rfl 4 (by decide) (hts (.fieldLink RX0 25 "PriceEdict$Decree" "freeTowns" "I") (by decide +kernel)) rfl (by decide +kernel) rfl rfl (Nat.le_of_ble_eq_true rfl) dX0_init_32 (fun H locs hP hS => ?_)
  have hP : px_H D b (k + 3) (va_up cf_6 (k) (.inr (0, [.ref (b + (k + 1)), .ref (b + (k + 2)), .int 0, .int 0, .int 0]))) H := hP
  obtain ⟨cf_7, e_7⟩ : ∃ z, z = va_up cf_6 (k) (.inr (0, [.ref (b + (k + 1)), .ref (b + (k + 2)), .int 0, .int 0, .int 0])) := ⟨_, rfl⟩
  rw [← e_7] at hP
  have f_7_0 : cf_7 (k) = .inr (0, [.ref (b + (k + 1)), .ref (b + (k + 2)), .int 0, .int 0, .int 0]) := by rw [e_7]; exact va_up_self _ _ _
  have f_7_1 : cf_7 (k + 1) = .inl (c 0, 6, .inl fun _ => 0) := by rw [e_7, va_up_ne _ _ (by omega)]; exact f_6_1
  have f_7_2 : cf_7 (k + 2) = .inl (c 0, 6, .inl fun _ => 0) := by rw [e_7, va_up_ne _ _ (by omega)]; exact f_6_2
  have g_7 : ∀ j, j < k → cf_7 j = cf j := fun j hj => by rw [e_7]; exact (va_up_ne _ _ (by omega)).trans (g_6 j hj)
  exact px_ret (mc := 2) (ms := 12) (Nat.le_of_ble_eq_true rfl) (Nat.le_of_ble_eq_true rfl) hx hb hret hlk hK hP hS rfl ⟨g_7, f_7_0, f_7_1, f_7_2⟩ dX0_init_35
set_option maxHeartbeats 4000000 in
set_option maxRecDepth 100000 in
theorem c_X1_init (l : Launch) (D : va_G) (c : Nat → ClassId) (b : Nat) (k : Nat) (cf : Nat → va_E) (f_0_0 : cf (k) = .inr (1, [.null, .null, .int 0])) : MCf l D c b yX1_init wsX1_init ({ frames := 1, cells := 2, slots := 80, locals := 12 }) [.ref (b + (k))] (k + 1) cf (k + 3) (fun u => (∀ j, j < k → u j = cf j) ∧ u (k) = .inr (1, [.ref (b + (k + 1)), .ref (b + (k + 2)), .int 0]) ∧ u (k + 1) = .inl (c 0, 40, .inl fun _ => 0) ∧ u (k + 2) = .inl (c 0, 40, .inl fun _ => 0)) (fun _ => True) 2 80 := by
  refine px_of (cc := cX1_init) (nL := 1) (lvs := [(0, .ref (b + (k)))]) (by decide) rfl rfl rfl (Nat.le_of_ble_eq_true rfl) ?_
  intro p e s m below meth c0 ls hx hb hret hml hts hown hlk hmn hK hP hS hl hE
  have g_0 : ∀ j, j < k → cf j = cf j := fun _ _ => rfl
  refine lv_aload_n hx hb dX1_init_0 rfl (lv_at hl 0 rfl) ?_
  refine W.objInit hx hb hown (hts (.methodLink RX1 3 objectInit) (by decide +kernel)) (hts (.instanceMethod objectInit) (by decide +kernel)) (hts (.code objectInit ⟨#[0xb1]⟩ 1 none) (by decide +kernel)) rfl (by rw [hml]; exact hl.1) rfl dX1_init_1 (Nat.le_of_ble_eq_true rfl) (Nat.le_of_ble_eq_true rfl) ?_
  refine W.eq (g2 := F0 m 4 ls []) rfl ?_
  refine lv_aload_n hx hb dX1_init_4 rfl (lv_at hl 0 rfl) ?_
  refine lv_bipush (v := 40) hx hb dX1_init_5 (by decide) ?_
  refine px_newa (atype := .int) (ty := .int) (a0 := (40, .inl fun _ => 0)) (N' := 40) hx hb (hts (.arrayClass .int) (by decide +kernel)) rfl hK hP hS 0 rfl (fun h => h) (fun _ => rfl) (by decide) (by decide) (by show 40 * 4 ≤ 536870912; omega) (Nat.le_of_ble_eq_true rfl) (Nat.le_of_ble_eq_true rfl) dX1_init_7 (fun H hP hS => ?_)
  have hP : px_H D b (k + 2) (va_up cf (k + 1) (.inl (c 0, 40, .inl fun _ => 0))) H := hP
  obtain ⟨cf_1, e_1⟩ : ∃ z, z = va_up cf (k + 1) (.inl (c 0, 40, .inl fun _ => 0)) := ⟨_, rfl⟩
  rw [← e_1] at hP
  have f_1_0 : cf_1 (k) = .inr (1, [.null, .null, .int 0]) := by rw [e_1, va_up_ne _ _ (by omega)]; exact f_0_0
  have f_1_1 : cf_1 (k + 1) = .inl (c 0, 40, .inl fun _ => 0) := by rw [e_1]; exact va_up_self _ _ _
  have g_1 : ∀ j, j < k → cf_1 j = cf j := fun j hj => by rw [e_1]; exact (va_up_ne _ _ (by omega)).trans (g_0 j hj)
  refine px_putF (ty := (.array .int)) (v := .ref (b + (k + 1))) hx hb hts (by decide +kernel) tyX1 tyX1_ok nmX1 hown hK hP hS (k) (by omega) f_1_0 rfl 0 (by decide) (hts (.fieldLink RX1 9 "PriceEdict$News" "toldOn" "[I") (by decide +kernel)) rfl hmn rfl (by decide +kernel) rfl rfl (Nat.le_of_ble_eq_true rfl) dX1_init_9 (fun H locs hP hS => ?_)
  have hP : px_H D b (k + 2) (va_up cf_1 (k) (.inr (1, [.ref (b + (k + 1)), .null, .int 0]))) H := hP
  obtain ⟨cf_2, e_2⟩ : ∃ z, z = va_up cf_1 (k) (.inr (1, [.ref (b + (k + 1)), .null, .int 0])) := ⟨_, rfl⟩
  rw [← e_2] at hP
  have f_2_0 : cf_2 (k) = .inr (1, [.ref (b + (k + 1)), .null, .int 0]) := by rw [e_2]; exact va_up_self _ _ _
  have f_2_1 : cf_2 (k + 1) = .inl (c 0, 40, .inl fun _ => 0) := by rw [e_2, va_up_ne _ _ (by omega)]; exact f_1_1
  have g_2 : ∀ j, j < k → cf_2 j = cf j := fun j hj => by rw [e_2]; exact (va_up_ne _ _ (by omega)).trans (g_1 j hj)
  refine lv_aload_n hx hb dX1_init_12 rfl (lv_at hl 0 rfl) ?_
  refine lv_bipush (v := 40) hx hb dX1_init_13 (by decide) ?_
  refine px_newa (atype := .int) (ty := .int) (a0 := (40, .inl fun _ => 0)) (N' := 40) hx hb (hts (.arrayClass .int) (by decide +kernel)) rfl hK hP hS 0 rfl (fun h => h) (fun _ => rfl) (by decide) (by decide) (by show 40 * 4 ≤ 536870912; omega) (Nat.le_of_ble_eq_true rfl) (Nat.le_of_ble_eq_true rfl) dX1_init_15 (fun H hP hS => ?_)
  have hP : px_H D b (k + 3) (va_up cf_2 (k + 2) (.inl (c 0, 40, .inl fun _ => 0))) H := hP
  obtain ⟨cf_3, e_3⟩ : ∃ z, z = va_up cf_2 (k + 2) (.inl (c 0, 40, .inl fun _ => 0)) := ⟨_, rfl⟩
  rw [← e_3] at hP
  have f_3_0 : cf_3 (k) = .inr (1, [.ref (b + (k + 1)), .null, .int 0]) := by rw [e_3, va_up_ne _ _ (by omega)]; exact f_2_0
  have f_3_1 : cf_3 (k + 1) = .inl (c 0, 40, .inl fun _ => 0) := by rw [e_3, va_up_ne _ _ (by omega)]; exact f_2_1
  have f_3_2 : cf_3 (k + 2) = .inl (c 0, 40, .inl fun _ => 0) := by rw [e_3]; exact va_up_self _ _ _
  have g_3 : ∀ j, j < k → cf_3 j = cf j := fun j hj => by rw [e_3]; exact (va_up_ne _ _ (by omega)).trans (g_2 j hj)
  refine px_putF (ty := (.array .int)) (v := .ref (b + (k + 2))) hx hb hts (by decide +kernel) tyX1 tyX1_ok nmX1 hown hK hP hS (k) (by omega) f_3_0 rfl 1 (by decide) (hts (.fieldLink RX1 15 "PriceEdict$News" "told" "[I") (by decide +kernel)) rfl hmn rfl (by decide +kernel) rfl rfl (Nat.le_of_ble_eq_true rfl) dX1_init_17 (fun H locs hP hS => ?_)
  have hP : px_H D b (k + 3) (va_up cf_3 (k) (.inr (1, [.ref (b + (k + 1)), .ref (b + (k + 2)), .int 0]))) H := hP
  obtain ⟨cf_4, e_4⟩ : ∃ z, z = va_up cf_3 (k) (.inr (1, [.ref (b + (k + 1)), .ref (b + (k + 2)), .int 0])) := ⟨_, rfl⟩
  rw [← e_4] at hP
  have f_4_0 : cf_4 (k) = .inr (1, [.ref (b + (k + 1)), .ref (b + (k + 2)), .int 0]) := by rw [e_4]; exact va_up_self _ _ _
  have f_4_1 : cf_4 (k + 1) = .inl (c 0, 40, .inl fun _ => 0) := by rw [e_4, va_up_ne _ _ (by omega)]; exact f_3_1
  have f_4_2 : cf_4 (k + 2) = .inl (c 0, 40, .inl fun _ => 0) := by rw [e_4, va_up_ne _ _ (by omega)]; exact f_3_2
  have g_4 : ∀ j, j < k → cf_4 j = cf j := fun j hj => by rw [e_4]; exact (va_up_ne _ _ (by omega)).trans (g_3 j hj)
  refine lv_aload_n hx hb dX1_init_20 rfl (lv_at hl 0 rfl) ?_
  refine lv_iconst (v := 0) hx hb dX1_init_21 (by decide) ?_
  refine px_put (ty := .int) (v := .int 0) hx hb hts (by decide +kernel) tyX1 tyX1_ok nmX1 hown hK hP hS (k) (by omega) f_4_0 rfl 2 (by decide) (hts (.fieldLink RX1 18 "PriceEdict$News" "size" "I") (by decide +kernel)) rfl (by decide +kernel) rfl rfl (Nat.le_of_ble_eq_true rfl) dX1_init_22 (fun H locs hP hS => ?_)
  have hP : px_H D b (k + 3) (va_up cf_4 (k) (.inr (1, [.ref (b + (k + 1)), .ref (b + (k + 2)), .int 0]))) H := hP
  obtain ⟨cf_5, e_5⟩ : ∃ z, z = va_up cf_4 (k) (.inr (1, [.ref (b + (k + 1)), .ref (b + (k + 2)), .int 0])) := ⟨_, rfl⟩
  rw [← e_5] at hP
  have f_5_0 : cf_5 (k) = .inr (1, [.ref (b + (k + 1)), .ref (b + (k + 2)), .int 0]) := by rw [e_5]; exact va_up_self _ _ _
  have f_5_1 : cf_5 (k + 1) = .inl (c 0, 40, .inl fun _ => 0) := by rw [e_5, va_up_ne _ _ (by omega)]; exact f_4_1
  have f_5_2 : cf_5 (k + 2) = .inl (c 0, 40, .inl fun _ => 0) := by rw [e_5, va_up_ne _ _ (by omega)]; exact f_4_2
  have g_5 : ∀ j, j < k → cf_5 j = cf j := fun j hj => by rw [e_5]; exact (va_up_ne _ _ (by omega)).trans (g_4 j hj)
  exact px_ret (mc := 2) (ms := 80) (Nat.le_of_ble_eq_true rfl) (Nat.le_of_ble_eq_true rfl) hx hb hret hlk hK hP hS rfl ⟨g_5, f_5_0, f_5_1, f_5_2⟩ dX1_init_25
set_option maxHeartbeats 4000000 in
set_option maxRecDepth 100000 in
theorem c_X3_init (l : Launch) (D : va_G) (c : Nat → ClassId) (b : Nat) (k : Nat) (cf : Nat → va_E) (f_0_0 : cf (k) = .inr (3, [.null, .int 0, .int 0, .int 0])) : MCf l D c b yX3_init wsX3_init ({ frames := 1, cells := 1, slots := 400, locals := 12 }) [.ref (b + (k))] (k + 1) cf (k + 2) (fun u => (∀ j, j < k → u j = cf j) ∧ u (k) = .inr (3, [.ref (b + (k + 1)), .int 0, .int 0, .int (-1)]) ∧ u (k + 1) = .inl (c 1, 400, .inl fun _ => 0)) (fun _ => True) 1 400 := by
  refine px_of (cc := cX3_init) (nL := 1) (lvs := [(0, .ref (b + (k)))]) (by decide) rfl rfl rfl (Nat.le_of_ble_eq_true rfl) ?_
  intro p e s m below meth c0 ls hx hb hret hml hts hown hlk hmn hK hP hS hl hE
  have g_0 : ∀ j, j < k → cf j = cf j := fun _ _ => rfl
  refine lv_aload_n hx hb dX3_init_0 rfl (lv_at hl 0 rfl) ?_
  refine W.objInit hx hb hown (hts (.methodLink RX3 3 objectInit) (by decide +kernel)) (hts (.instanceMethod objectInit) (by decide +kernel)) (hts (.code objectInit ⟨#[0xb1]⟩ 1 none) (by decide +kernel)) rfl (by rw [hml]; exact hl.1) rfl dX3_init_1 (Nat.le_of_ble_eq_true rfl) (Nat.le_of_ble_eq_true rfl) ?_
  refine W.eq (g2 := F0 m 4 ls []) rfl ?_
  refine lv_aload_n hx hb dX3_init_4 rfl (lv_at hl 0 rfl) ?_
  refine lv_sipush (v := 400) hx hb dX3_init_5 (by decide) ?_
  refine px_newa (atype := .byte) (ty := .byte) (a0 := (400, .inl fun _ => 0)) (N' := 400) hx hb (hts (.arrayClass .byte) (by decide +kernel)) rfl hK hP hS 1 rfl (fun h => h) (fun _ => rfl) (by decide) (by decide) (by show 400 * 1 ≤ 536870912; omega) (Nat.le_of_ble_eq_true rfl) (Nat.le_of_ble_eq_true rfl) dX3_init_8 (fun H hP hS => ?_)
  have hP : px_H D b (k + 2) (va_up cf (k + 1) (.inl (c 1, 400, .inl fun _ => 0))) H := hP
  obtain ⟨cf_1, e_1⟩ : ∃ z, z = va_up cf (k + 1) (.inl (c 1, 400, .inl fun _ => 0)) := ⟨_, rfl⟩
  rw [← e_1] at hP
  have f_1_0 : cf_1 (k) = .inr (3, [.null, .int 0, .int 0, .int 0]) := by rw [e_1, va_up_ne _ _ (by omega)]; exact f_0_0
  have f_1_1 : cf_1 (k + 1) = .inl (c 1, 400, .inl fun _ => 0) := by rw [e_1]; exact va_up_self _ _ _
  have g_1 : ∀ j, j < k → cf_1 j = cf j := fun j hj => by rw [e_1]; exact (va_up_ne _ _ (by omega)).trans (g_0 j hj)
  refine px_putF (ty := (.array .byte)) (v := .ref (b + (k + 1))) hx hb hts (by decide +kernel) tyX3 tyX3_ok nmX3 hown hK hP hS (k) (by omega) f_1_0 rfl 0 (by decide) (hts (.fieldLink RX3 9 "PriceEdict$Tape" "bytes" "[B") (by decide +kernel)) rfl hmn rfl (by decide +kernel) rfl rfl (Nat.le_of_ble_eq_true rfl) dX3_init_10 (fun H locs hP hS => ?_)
  have hP : px_H D b (k + 2) (va_up cf_1 (k) (.inr (3, [.ref (b + (k + 1)), .int 0, .int 0, .int 0]))) H := hP
  obtain ⟨cf_2, e_2⟩ : ∃ z, z = va_up cf_1 (k) (.inr (3, [.ref (b + (k + 1)), .int 0, .int 0, .int 0])) := ⟨_, rfl⟩
  rw [← e_2] at hP
  have f_2_0 : cf_2 (k) = .inr (3, [.ref (b + (k + 1)), .int 0, .int 0, .int 0]) := by rw [e_2]; exact va_up_self _ _ _
  have f_2_1 : cf_2 (k + 1) = .inl (c 1, 400, .inl fun _ => 0) := by rw [e_2, va_up_ne _ _ (by omega)]; exact f_1_1
  have g_2 : ∀ j, j < k → cf_2 j = cf j := fun j hj => by rw [e_2]; exact (va_up_ne _ _ (by omega)).trans (g_1 j hj)
  refine lv_aload_n hx hb dX3_init_13 rfl (lv_at hl 0 rfl) ?_
  refine lv_iconst (v := 0) hx hb dX3_init_14 (by decide) ?_
  refine px_put (ty := .int) (v := .int 0) hx hb hts (by decide +kernel) tyX3 tyX3_ok nmX3 hown hK hP hS (k) (by omega) f_2_0 rfl 1 (by decide) (hts (.fieldLink RX3 15 "PriceEdict$Tape" "length" "I") (by decide +kernel)) rfl (by decide +kernel) rfl rfl (Nat.le_of_ble_eq_true rfl) dX3_init_15 (fun H locs hP hS => ?_)
  have hP : px_H D b (k + 2) (va_up cf_2 (k) (.inr (3, [.ref (b + (k + 1)), .int 0, .int 0, .int 0]))) H := hP
  obtain ⟨cf_3, e_3⟩ : ∃ z, z = va_up cf_2 (k) (.inr (3, [.ref (b + (k + 1)), .int 0, .int 0, .int 0])) := ⟨_, rfl⟩
  rw [← e_3] at hP
  have f_3_0 : cf_3 (k) = .inr (3, [.ref (b + (k + 1)), .int 0, .int 0, .int 0]) := by rw [e_3]; exact va_up_self _ _ _
  have f_3_1 : cf_3 (k + 1) = .inl (c 1, 400, .inl fun _ => 0) := by rw [e_3, va_up_ne _ _ (by omega)]; exact f_2_1
  have g_3 : ∀ j, j < k → cf_3 j = cf j := fun j hj => by rw [e_3]; exact (va_up_ne _ _ (by omega)).trans (g_2 j hj)
  refine lv_aload_n hx hb dX3_init_18 rfl (lv_at hl 0 rfl) ?_
  refine lv_iconst (v := 0) hx hb dX3_init_19 (by decide) ?_
  refine px_put (ty := .int) (v := .int 0) hx hb hts (by decide +kernel) tyX3 tyX3_ok nmX3 hown hK hP hS (k) (by omega) f_3_0 rfl 2 (by decide) (hts (.fieldLink RX3 19 "PriceEdict$Tape" "at" "I") (by decide +kernel)) rfl (by decide +kernel) rfl rfl (Nat.le_of_ble_eq_true rfl) dX3_init_20 (fun H locs hP hS => ?_)
  have hP : px_H D b (k + 2) (va_up cf_3 (k) (.inr (3, [.ref (b + (k + 1)), .int 0, .int 0, .int 0]))) H := hP
  obtain ⟨cf_4, e_4⟩ : ∃ z, z = va_up cf_3 (k) (.inr (3, [.ref (b + (k + 1)), .int 0, .int 0, .int 0])) := ⟨_, rfl⟩
  rw [← e_4] at hP
  have f_4_0 : cf_4 (k) = .inr (3, [.ref (b + (k + 1)), .int 0, .int 0, .int 0]) := by rw [e_4]; exact va_up_self _ _ _
  have f_4_1 : cf_4 (k + 1) = .inl (c 1, 400, .inl fun _ => 0) := by rw [e_4, va_up_ne _ _ (by omega)]; exact f_3_1
  have g_4 : ∀ j, j < k → cf_4 j = cf j := fun j hj => by rw [e_4]; exact (va_up_ne _ _ (by omega)).trans (g_3 j hj)
  refine lv_aload_n hx hb dX3_init_23 rfl (lv_at hl 0 rfl) ?_
  refine lv_iconst (v := (-1)) hx hb dX3_init_24 (by decide) ?_
  refine px_put (ty := .int) (v := .int (-1)) hx hb hts (by decide +kernel) tyX3 tyX3_ok nmX3 hown hK hP hS (k) (by omega) f_4_0 rfl 3 (by decide) (hts (.fieldLink RX3 22 "PriceEdict$Tape" "wrong" "I") (by decide +kernel)) rfl (by decide +kernel) rfl rfl (Nat.le_of_ble_eq_true rfl) dX3_init_25 (fun H locs hP hS => ?_)
  have hP : px_H D b (k + 2) (va_up cf_4 (k) (.inr (3, [.ref (b + (k + 1)), .int 0, .int 0, .int (-1)]))) H := hP
  obtain ⟨cf_5, e_5⟩ : ∃ z, z = va_up cf_4 (k) (.inr (3, [.ref (b + (k + 1)), .int 0, .int 0, .int (-1)])) := ⟨_, rfl⟩
  rw [← e_5] at hP
  have f_5_0 : cf_5 (k) = .inr (3, [.ref (b + (k + 1)), .int 0, .int 0, .int (-1)]) := by rw [e_5]; exact va_up_self _ _ _
  have f_5_1 : cf_5 (k + 1) = .inl (c 1, 400, .inl fun _ => 0) := by rw [e_5, va_up_ne _ _ (by omega)]; exact f_4_1
  have g_5 : ∀ j, j < k → cf_5 j = cf j := fun j hj => by rw [e_5]; exact (va_up_ne _ _ (by omega)).trans (g_4 j hj)
  exact px_ret (mc := 1) (ms := 400) (Nat.le_of_ble_eq_true rfl) (Nat.le_of_ble_eq_true rfl) hx hb hret hlk hK hP hS rfl ⟨g_5, f_5_0, f_5_1⟩ dX3_init_28
set_option maxHeartbeats 4000000 in
set_option maxRecDepth 100000 in
theorem c_X5_init (l : Launch) (D : va_G) (c : Nat → ClassId) (b : Nat) (k : Nat) (cf : Nat → va_E) (f_0_0 : cf (k) = .inr (5, [.int 0, .int 0, .int 0, .int 0, .int 0, .int 0, .int 0, .int 0, .int 0, .int 0, .int 0])) : MCf l D c b yX5_init wsX5_init ({ frames := 1, cells := 0, slots := 0, locals := 12 }) [.ref (b + (k))] (k + 1) cf (k + 1) (fun u => (∀ j, j < k → u j = cf j) ∧ u (k) = .inr (5, [.int 0, .int 0, .int 0, .int 0, .int 0, .int 0, .int 0, .int 0, .int 0, .int 0, .int 0])) (fun _ => True) 0 0 := by
  refine px_of (cc := cX5_init) (nL := 1) (lvs := [(0, .ref (b + (k)))]) (by decide) rfl rfl rfl (Nat.le_of_ble_eq_true rfl) ?_
  intro p e s m below meth c0 ls hx hb hret hml hts hown hlk hmn hK hP hS hl hE
  have g_0 : ∀ j, j < k → cf j = cf j := fun _ _ => rfl
  refine lv_aload_n hx hb dX5_init_0 rfl (lv_at hl 0 rfl) ?_
  refine W.objInit hx hb hown (hts (.methodLink RX5 1 objectInit) (by decide +kernel)) (hts (.instanceMethod objectInit) (by decide +kernel)) (hts (.code objectInit ⟨#[0xb1]⟩ 1 none) (by decide +kernel)) rfl (by rw [hml]; exact hl.1) rfl dX5_init_1 (Nat.le_of_ble_eq_true rfl) (Nat.le_of_ble_eq_true rfl) ?_
  refine W.eq (g2 := F0 m 4 ls []) rfl ?_
  refine lv_aload_n hx hb dX5_init_4 rfl (lv_at hl 0 rfl) ?_
  refine lv_iconst (v := 0) hx hb dX5_init_5 (by decide) ?_
  refine px_put (ty := .int) (v := .int 0) hx hb hts (by decide +kernel) tyX5 tyX5_ok nmX5 hown hK hP hS (k) (by omega) f_0_0 rfl 0 (by decide) (hts (.fieldLink RX5 7 "PriceEdict$Wares" "cost" "I") (by decide +kernel)) rfl (by decide +kernel) rfl rfl (Nat.le_of_ble_eq_true rfl) dX5_init_6 (fun H locs hP hS => ?_)
  have hP : px_H D b (k + 1) (va_up cf (k) (.inr (5, [.int 0, .int 0, .int 0, .int 0, .int 0, .int 0, .int 0, .int 0, .int 0, .int 0, .int 0]))) H := hP
  obtain ⟨cf_1, e_1⟩ : ∃ z, z = va_up cf (k) (.inr (5, [.int 0, .int 0, .int 0, .int 0, .int 0, .int 0, .int 0, .int 0, .int 0, .int 0, .int 0])) := ⟨_, rfl⟩
  rw [← e_1] at hP
  have f_1_0 : cf_1 (k) = .inr (5, [.int 0, .int 0, .int 0, .int 0, .int 0, .int 0, .int 0, .int 0, .int 0, .int 0, .int 0]) := by rw [e_1]; exact va_up_self _ _ _
  have g_1 : ∀ j, j < k → cf_1 j = cf j := fun j hj => by rw [e_1]; exact (va_up_ne _ _ (by omega)).trans (g_0 j hj)
  refine lv_aload_n hx hb dX5_init_9 rfl (lv_at hl 0 rfl) ?_
  refine lv_iconst (v := 0) hx hb dX5_init_10 (by decide) ?_
  refine px_put (ty := .int) (v := .int 0) hx hb hts (by decide +kernel) tyX5 tyX5_ok nmX5 hown hK hP hS (k) (by omega) f_1_0 rfl 1 (by decide) (hts (.fieldLink RX5 13 "PriceEdict$Wares" "bid" "I") (by decide +kernel)) rfl (by decide +kernel) rfl rfl (Nat.le_of_ble_eq_true rfl) dX5_init_11 (fun H locs hP hS => ?_)
  have hP : px_H D b (k + 1) (va_up cf_1 (k) (.inr (5, [.int 0, .int 0, .int 0, .int 0, .int 0, .int 0, .int 0, .int 0, .int 0, .int 0, .int 0]))) H := hP
  obtain ⟨cf_2, e_2⟩ : ∃ z, z = va_up cf_1 (k) (.inr (5, [.int 0, .int 0, .int 0, .int 0, .int 0, .int 0, .int 0, .int 0, .int 0, .int 0, .int 0])) := ⟨_, rfl⟩
  rw [← e_2] at hP
  have f_2_0 : cf_2 (k) = .inr (5, [.int 0, .int 0, .int 0, .int 0, .int 0, .int 0, .int 0, .int 0, .int 0, .int 0, .int 0]) := by rw [e_2]; exact va_up_self _ _ _
  have g_2 : ∀ j, j < k → cf_2 j = cf j := fun j hj => by rw [e_2]; exact (va_up_ne _ _ (by omega)).trans (g_1 j hj)
  refine lv_aload_n hx hb dX5_init_14 rfl (lv_at hl 0 rfl) ?_
  refine lv_iconst (v := 0) hx hb dX5_init_15 (by decide) ?_
  refine px_put (ty := .int) (v := .int 0) hx hb hts (by decide +kernel) tyX5 tyX5_ok nmX5 hown hK hP hS (k) (by omega) f_2_0 rfl 2 (by decide) (hts (.fieldLink RX5 16 "PriceEdict$Wares" "supply" "I") (by decide +kernel)) rfl (by decide +kernel) rfl rfl (Nat.le_of_ble_eq_true rfl) dX5_init_16 (fun H locs hP hS => ?_)
  have hP : px_H D b (k + 1) (va_up cf_2 (k) (.inr (5, [.int 0, .int 0, .int 0, .int 0, .int 0, .int 0, .int 0, .int 0, .int 0, .int 0, .int 0]))) H := hP
  obtain ⟨cf_3, e_3⟩ : ∃ z, z = va_up cf_2 (k) (.inr (5, [.int 0, .int 0, .int 0, .int 0, .int 0, .int 0, .int 0, .int 0, .int 0, .int 0, .int 0])) := ⟨_, rfl⟩
  rw [← e_3] at hP
  have f_3_0 : cf_3 (k) = .inr (5, [.int 0, .int 0, .int 0, .int 0, .int 0, .int 0, .int 0, .int 0, .int 0, .int 0, .int 0]) := by rw [e_3]; exact va_up_self _ _ _
  have g_3 : ∀ j, j < k → cf_3 j = cf j := fun j hj => by rw [e_3]; exact (va_up_ne _ _ (by omega)).trans (g_2 j hj)
  refine lv_aload_n hx hb dX5_init_19 rfl (lv_at hl 0 rfl) ?_
  refine lv_iconst (v := 0) hx hb dX5_init_20 (by decide) ?_
  refine px_put (ty := .int) (v := .int 0) hx hb hts (by decide +kernel) tyX5 tyX5_ok nmX5 hown hK hP hS (k) (by omega) f_3_0 rfl 3 (by decide) (hts (.fieldLink RX5 19 "PriceEdict$Wares" "want" "I") (by decide +kernel)) rfl (by decide +kernel) rfl rfl (Nat.le_of_ble_eq_true rfl) dX5_init_21 (fun H locs hP hS => ?_)
  have hP : px_H D b (k + 1) (va_up cf_3 (k) (.inr (5, [.int 0, .int 0, .int 0, .int 0, .int 0, .int 0, .int 0, .int 0, .int 0, .int 0, .int 0]))) H := hP
  obtain ⟨cf_4, e_4⟩ : ∃ z, z = va_up cf_3 (k) (.inr (5, [.int 0, .int 0, .int 0, .int 0, .int 0, .int 0, .int 0, .int 0, .int 0, .int 0, .int 0])) := ⟨_, rfl⟩
  rw [← e_4] at hP
  have f_4_0 : cf_4 (k) = .inr (5, [.int 0, .int 0, .int 0, .int 0, .int 0, .int 0, .int 0, .int 0, .int 0, .int 0, .int 0]) := by rw [e_4]; exact va_up_self _ _ _
  have g_4 : ∀ j, j < k → cf_4 j = cf j := fun j hj => by rw [e_4]; exact (va_up_ne _ _ (by omega)).trans (g_3 j hj)
  refine lv_aload_n hx hb dX5_init_24 rfl (lv_at hl 0 rfl) ?_
  refine lv_iconst (v := 0) hx hb dX5_init_25 (by decide) ?_
  refine px_put (ty := .int) (v := .int 0) hx hb hts (by decide +kernel) tyX5 tyX5_ok nmX5 hown hK hP hS (k) (by omega) f_4_0 rfl 4 (by decide) (hts (.fieldLink RX5 22 "PriceEdict$Wares" "stock" "I") (by decide +kernel)) rfl (by decide +kernel) rfl rfl (Nat.le_of_ble_eq_true rfl) dX5_init_26 (fun H locs hP hS => ?_)
  have hP : px_H D b (k + 1) (va_up cf_4 (k) (.inr (5, [.int 0, .int 0, .int 0, .int 0, .int 0, .int 0, .int 0, .int 0, .int 0, .int 0, .int 0]))) H := hP
  obtain ⟨cf_5, e_5⟩ : ∃ z, z = va_up cf_4 (k) (.inr (5, [.int 0, .int 0, .int 0, .int 0, .int 0, .int 0, .int 0, .int 0, .int 0, .int 0, .int 0])) := ⟨_, rfl⟩
  rw [← e_5] at hP
  have f_5_0 : cf_5 (k) = .inr (5, [.int 0, .int 0, .int 0, .int 0, .int 0, .int 0, .int 0, .int 0, .int 0, .int 0, .int 0]) := by rw [e_5]; exact va_up_self _ _ _
  have g_5 : ∀ j, j < k → cf_5 j = cf j := fun j hj => by rw [e_5]; exact (va_up_ne _ _ (by omega)).trans (g_4 j hj)
  refine lv_aload_n hx hb dX5_init_29 rfl (lv_at hl 0 rfl) ?_
  refine lv_iconst (v := 0) hx hb dX5_init_30 (by decide) ?_
  refine px_put (ty := .int) (v := .int 0) hx hb hts (by decide +kernel) tyX5 tyX5_ok nmX5 hown hK hP hS (k) (by omega) f_5_0 rfl 5 (by decide) (hts (.fieldLink RX5 25 "PriceEdict$Wares" "hidden" "I") (by decide +kernel)) rfl (by decide +kernel) rfl rfl (Nat.le_of_ble_eq_true rfl) dX5_init_31 (fun H locs hP hS => ?_)
  have hP : px_H D b (k + 1) (va_up cf_5 (k) (.inr (5, [.int 0, .int 0, .int 0, .int 0, .int 0, .int 0, .int 0, .int 0, .int 0, .int 0, .int 0]))) H := hP
  obtain ⟨cf_6, e_6⟩ : ∃ z, z = va_up cf_5 (k) (.inr (5, [.int 0, .int 0, .int 0, .int 0, .int 0, .int 0, .int 0, .int 0, .int 0, .int 0, .int 0])) := ⟨_, rfl⟩
  rw [← e_6] at hP
  have f_6_0 : cf_6 (k) = .inr (5, [.int 0, .int 0, .int 0, .int 0, .int 0, .int 0, .int 0, .int 0, .int 0, .int 0, .int 0]) := by rw [e_6]; exact va_up_self _ _ _
  have g_6 : ∀ j, j < k → cf_6 j = cf j := fun j hj => by rw [e_6]; exact (va_up_ne _ _ (by omega)).trans (g_5 j hj)
  refine lv_aload_n hx hb dX5_init_34 rfl (lv_at hl 0 rfl) ?_
  refine lv_iconst (v := 0) hx hb dX5_init_35 (by decide) ?_
  refine px_put (ty := .int) (v := .int 0) hx hb hts (by decide +kernel) tyX5 tyX5_ok nmX5 hown hK hP hS (k) (by omega) f_6_0 rfl 6 (by decide) (hts (.fieldLink RX5 28 "PriceEdict$Wares" "brought" "I") (by decide +kernel)) rfl (by decide +kernel) rfl rfl (Nat.le_of_ble_eq_true rfl) dX5_init_36 (fun H locs hP hS => ?_)
  have hP : px_H D b (k + 1) (va_up cf_6 (k) (.inr (5, [.int 0, .int 0, .int 0, .int 0, .int 0, .int 0, .int 0, .int 0, .int 0, .int 0, .int 0]))) H := hP
  obtain ⟨cf_7, e_7⟩ : ∃ z, z = va_up cf_6 (k) (.inr (5, [.int 0, .int 0, .int 0, .int 0, .int 0, .int 0, .int 0, .int 0, .int 0, .int 0, .int 0])) := ⟨_, rfl⟩
  rw [← e_7] at hP
  have f_7_0 : cf_7 (k) = .inr (5, [.int 0, .int 0, .int 0, .int 0, .int 0, .int 0, .int 0, .int 0, .int 0, .int 0, .int 0]) := by rw [e_7]; exact va_up_self _ _ _
  have g_7 : ∀ j, j < k → cf_7 j = cf j := fun j hj => by rw [e_7]; exact (va_up_ne _ _ (by omega)).trans (g_6 j hj)
  refine lv_aload_n hx hb dX5_init_39 rfl (lv_at hl 0 rfl) ?_
  refine lv_iconst (v := 0) hx hb dX5_init_40 (by decide) ?_
  refine px_put (ty := .int) (v := .int 0) hx hb hts (by decide +kernel) tyX5 tyX5_ok nmX5 hown hK hP hS (k) (by omega) f_7_0 rfl 7 (by decide) (hts (.fieldLink RX5 31 "PriceEdict$Wares" "sold" "I") (by decide +kernel)) rfl (by decide +kernel) rfl rfl (Nat.le_of_ble_eq_true rfl) dX5_init_41 (fun H locs hP hS => ?_)
  have hP : px_H D b (k + 1) (va_up cf_7 (k) (.inr (5, [.int 0, .int 0, .int 0, .int 0, .int 0, .int 0, .int 0, .int 0, .int 0, .int 0, .int 0]))) H := hP
  obtain ⟨cf_8, e_8⟩ : ∃ z, z = va_up cf_7 (k) (.inr (5, [.int 0, .int 0, .int 0, .int 0, .int 0, .int 0, .int 0, .int 0, .int 0, .int 0, .int 0])) := ⟨_, rfl⟩
  rw [← e_8] at hP
  have f_8_0 : cf_8 (k) = .inr (5, [.int 0, .int 0, .int 0, .int 0, .int 0, .int 0, .int 0, .int 0, .int 0, .int 0, .int 0]) := by rw [e_8]; exact va_up_self _ _ _
  have g_8 : ∀ j, j < k → cf_8 j = cf j := fun j hj => by rw [e_8]; exact (va_up_ne _ _ (by omega)).trans (g_7 j hj)
  refine lv_aload_n hx hb dX5_init_44 rfl (lv_at hl 0 rfl) ?_
  refine lv_iconst (v := 0) hx hb dX5_init_45 (by decide) ?_
  refine px_put (ty := .int) (v := .int 0) hx hb hts (by decide +kernel) tyX5 tyX5_ok nmX5 hown hK hP hS (k) (by omega) f_8_0 rfl 8 (by decide) (hts (.fieldLink RX5 34 "PriceEdict$Wares" "spoilt" "I") (by decide +kernel)) rfl (by decide +kernel) rfl rfl (Nat.le_of_ble_eq_true rfl) dX5_init_46 (fun H locs hP hS => ?_)
  have hP : px_H D b (k + 1) (va_up cf_8 (k) (.inr (5, [.int 0, .int 0, .int 0, .int 0, .int 0, .int 0, .int 0, .int 0, .int 0, .int 0, .int 0]))) H := hP
  obtain ⟨cf_9, e_9⟩ : ∃ z, z = va_up cf_8 (k) (.inr (5, [.int 0, .int 0, .int 0, .int 0, .int 0, .int 0, .int 0, .int 0, .int 0, .int 0, .int 0])) := ⟨_, rfl⟩
  rw [← e_9] at hP
  have f_9_0 : cf_9 (k) = .inr (5, [.int 0, .int 0, .int 0, .int 0, .int 0, .int 0, .int 0, .int 0, .int 0, .int 0, .int 0]) := by rw [e_9]; exact va_up_self _ _ _
  have g_9 : ∀ j, j < k → cf_9 j = cf j := fun j hj => by rw [e_9]; exact (va_up_ne _ _ (by omega)).trans (g_8 j hj)
  refine lv_aload_n hx hb dX5_init_49 rfl (lv_at hl 0 rfl) ?_
  refine lv_iconst (v := 0) hx hb dX5_init_50 (by decide) ?_
  refine px_put (ty := .int) (v := .int 0) hx hb hts (by decide +kernel) tyX5 tyX5_ok nmX5 hown hK hP hS (k) (by omega) f_9_0 rfl 9 (by decide) (hts (.fieldLink RX5 37 "PriceEdict$Wares" "paid" "I") (by decide +kernel)) rfl (by decide +kernel) rfl rfl (Nat.le_of_ble_eq_true rfl) dX5_init_51 (fun H locs hP hS => ?_)
  have hP : px_H D b (k + 1) (va_up cf_9 (k) (.inr (5, [.int 0, .int 0, .int 0, .int 0, .int 0, .int 0, .int 0, .int 0, .int 0, .int 0, .int 0]))) H := hP
  obtain ⟨cf_10, e_10⟩ : ∃ z, z = va_up cf_9 (k) (.inr (5, [.int 0, .int 0, .int 0, .int 0, .int 0, .int 0, .int 0, .int 0, .int 0, .int 0, .int 0])) := ⟨_, rfl⟩
  rw [← e_10] at hP
  have f_10_0 : cf_10 (k) = .inr (5, [.int 0, .int 0, .int 0, .int 0, .int 0, .int 0, .int 0, .int 0, .int 0, .int 0, .int 0]) := by rw [e_10]; exact va_up_self _ _ _
  have g_10 : ∀ j, j < k → cf_10 j = cf j := fun j hj => by rw [e_10]; exact (va_up_ne _ _ (by omega)).trans (g_9 j hj)
  refine lv_aload_n hx hb dX5_init_54 rfl (lv_at hl 0 rfl) ?_
  refine lv_iconst (v := 0) hx hb dX5_init_55 (by decide) ?_
  refine px_put (ty := .int) (v := .int 0) hx hb hts (by decide +kernel) tyX5 tyX5_ok nmX5 hown hK hP hS (k) (by omega) f_10_0 rfl 10 (by decide) (hts (.fieldLink RX5 40 "PriceEdict$Wares" "weight" "I") (by decide +kernel)) rfl (by decide +kernel) rfl rfl (Nat.le_of_ble_eq_true rfl) dX5_init_56 (fun H locs hP hS => ?_)
  have hP : px_H D b (k + 1) (va_up cf_10 (k) (.inr (5, [.int 0, .int 0, .int 0, .int 0, .int 0, .int 0, .int 0, .int 0, .int 0, .int 0, .int 0]))) H := hP
  obtain ⟨cf_11, e_11⟩ : ∃ z, z = va_up cf_10 (k) (.inr (5, [.int 0, .int 0, .int 0, .int 0, .int 0, .int 0, .int 0, .int 0, .int 0, .int 0, .int 0])) := ⟨_, rfl⟩
  rw [← e_11] at hP
  have f_11_0 : cf_11 (k) = .inr (5, [.int 0, .int 0, .int 0, .int 0, .int 0, .int 0, .int 0, .int 0, .int 0, .int 0, .int 0]) := by rw [e_11]; exact va_up_self _ _ _
  have g_11 : ∀ j, j < k → cf_11 j = cf j := fun j hj => by rw [e_11]; exact (va_up_ne _ _ (by omega)).trans (g_10 j hj)
  exact px_ret (mc := 0) (ms := 0) (Nat.le_of_ble_eq_true rfl) (Nat.le_of_ble_eq_true rfl) hx hb hret hlk hK hP hS rfl ⟨g_11, f_11_0⟩ dX5_init_59
set_option maxHeartbeats 4000000 in
set_option maxRecDepth 100000 in
theorem c_X2_init (l : Launch) (D : va_G) (c : Nat → ClassId) (b : Nat) (k : Nat) (cf : Nat → va_E) (f_0_0 : cf (k) = .inr (2, [.null, .null, .null, .null, .null, .null, .int 0, .int 0, .int 0])) : MCf l D c b yX2_init wsX2_init ({ frames := 1, cells := 6, slots := 434, locals := 12 }) [.ref (b + (k))] (k + 1) cf (k + 7) (fun u => (∀ j, j < k → u j = cf j) ∧ u (k) = .inr (2, [.ref (b + (k + 1)), .ref (b + (k + 2)), .ref (b + (k + 3)), .ref (b + (k + 4)), .ref (b + (k + 5)), .ref (b + (k + 6)), .int 0, .int 0, .int 0]) ∧ u (k + 1) = .inl (c 0, 60, .inl fun _ => 0) ∧ u (k + 2) = .inl (c 0, 240, .inl fun _ => 0) ∧ u (k + 3) = .inl (c 0, 60, .inl fun _ => 0) ∧ u (k + 4) = .inl (c 0, 60, .inl fun _ => 0) ∧ u (k + 5) = .inl (c 0, 10, .inl (rdg 10)) ∧ u (k + 6) = .inl (c 0, 4, .inl fun _ => 0)) (fun _ => True) 6 434 := by
  refine px_of (cc := cX2_init) (nL := 2) (lvs := [(0, .ref (b + (k)))]) (by decide) rfl rfl rfl (Nat.le_of_ble_eq_true rfl) ?_
  intro p e s m below meth c0 ls hx hb hret hml hts hown hlk hmn hK hP hS hl hE
  have g_0 : ∀ j, j < k → cf j = cf j := fun _ _ => rfl
  refine lv_aload_n hx hb dX2_init_0 rfl (lv_at hl 0 rfl) ?_
  refine W.objInit hx hb hown (hts (.methodLink RX2 3 objectInit) (by decide +kernel)) (hts (.instanceMethod objectInit) (by decide +kernel)) (hts (.code objectInit ⟨#[0xb1]⟩ 1 none) (by decide +kernel)) rfl (by rw [hml]; exact hl.1) rfl dX2_init_1 (Nat.le_of_ble_eq_true rfl) (Nat.le_of_ble_eq_true rfl) ?_
  refine W.eq (g2 := F0 m 4 ls []) rfl ?_
  refine lv_aload_n hx hb dX2_init_4 rfl (lv_at hl 0 rfl) ?_
  refine lv_bipush (v := 60) hx hb dX2_init_5 (by decide) ?_
  refine px_newa (atype := .int) (ty := .int) (a0 := (60, .inl fun _ => 0)) (N' := 60) hx hb (hts (.arrayClass .int) (by decide +kernel)) rfl hK hP hS 0 rfl (fun h => h) (fun _ => rfl) (by decide) (by decide) (by show 60 * 4 ≤ 536870912; omega) (Nat.le_of_ble_eq_true rfl) (Nat.le_of_ble_eq_true rfl) dX2_init_7 (fun H hP hS => ?_)
  have hP : px_H D b (k + 2) (va_up cf (k + 1) (.inl (c 0, 60, .inl fun _ => 0))) H := hP
  obtain ⟨cf_1, e_1⟩ : ∃ z, z = va_up cf (k + 1) (.inl (c 0, 60, .inl fun _ => 0)) := ⟨_, rfl⟩
  rw [← e_1] at hP
  have f_1_0 : cf_1 (k) = .inr (2, [.null, .null, .null, .null, .null, .null, .int 0, .int 0, .int 0]) := by rw [e_1, va_up_ne _ _ (by omega)]; exact f_0_0
  have f_1_1 : cf_1 (k + 1) = .inl (c 0, 60, .inl fun _ => 0) := by rw [e_1]; exact va_up_self _ _ _
  have g_1 : ∀ j, j < k → cf_1 j = cf j := fun j hj => by rw [e_1]; exact (va_up_ne _ _ (by omega)).trans (g_0 j hj)
  refine px_putF (ty := (.array .int)) (v := .ref (b + (k + 1))) hx hb hts (by decide +kernel) tyX2 tyX2_ok nmX2 hown hK hP hS (k) (by omega) f_1_0 rfl 0 (by decide) (hts (.fieldLink RX2 9 "PriceEdict$Stones" "lines" "[I") (by decide +kernel)) rfl hmn rfl (by decide +kernel) rfl rfl (Nat.le_of_ble_eq_true rfl) dX2_init_9 (fun H locs hP hS => ?_)
  have hP : px_H D b (k + 2) (va_up cf_1 (k) (.inr (2, [.ref (b + (k + 1)), .null, .null, .null, .null, .null, .int 0, .int 0, .int 0]))) H := hP
  obtain ⟨cf_2, e_2⟩ : ∃ z, z = va_up cf_1 (k) (.inr (2, [.ref (b + (k + 1)), .null, .null, .null, .null, .null, .int 0, .int 0, .int 0])) := ⟨_, rfl⟩
  rw [← e_2] at hP
  have f_2_0 : cf_2 (k) = .inr (2, [.ref (b + (k + 1)), .null, .null, .null, .null, .null, .int 0, .int 0, .int 0]) := by rw [e_2]; exact va_up_self _ _ _
  have f_2_1 : cf_2 (k + 1) = .inl (c 0, 60, .inl fun _ => 0) := by rw [e_2, va_up_ne _ _ (by omega)]; exact f_1_1
  have g_2 : ∀ j, j < k → cf_2 j = cf j := fun j hj => by rw [e_2]; exact (va_up_ne _ _ (by omega)).trans (g_1 j hj)
  refine lv_aload_n hx hb dX2_init_12 rfl (lv_at hl 0 rfl) ?_
  refine lv_sipush (v := 240) hx hb dX2_init_13 (by decide) ?_
  refine px_newa (atype := .int) (ty := .int) (a0 := (240, .inl fun _ => 0)) (N' := 240) hx hb (hts (.arrayClass .int) (by decide +kernel)) rfl hK hP hS 0 rfl (fun h => h) (fun _ => rfl) (by decide) (by decide) (by show 240 * 4 ≤ 536870912; omega) (Nat.le_of_ble_eq_true rfl) (Nat.le_of_ble_eq_true rfl) dX2_init_16 (fun H hP hS => ?_)
  have hP : px_H D b (k + 3) (va_up cf_2 (k + 2) (.inl (c 0, 240, .inl fun _ => 0))) H := hP
  obtain ⟨cf_3, e_3⟩ : ∃ z, z = va_up cf_2 (k + 2) (.inl (c 0, 240, .inl fun _ => 0)) := ⟨_, rfl⟩
  rw [← e_3] at hP
  have f_3_0 : cf_3 (k) = .inr (2, [.ref (b + (k + 1)), .null, .null, .null, .null, .null, .int 0, .int 0, .int 0]) := by rw [e_3, va_up_ne _ _ (by omega)]; exact f_2_0
  have f_3_1 : cf_3 (k + 1) = .inl (c 0, 60, .inl fun _ => 0) := by rw [e_3, va_up_ne _ _ (by omega)]; exact f_2_1
  have f_3_2 : cf_3 (k + 2) = .inl (c 0, 240, .inl fun _ => 0) := by rw [e_3]; exact va_up_self _ _ _
  have g_3 : ∀ j, j < k → cf_3 j = cf j := fun j hj => by rw [e_3]; exact (va_up_ne _ _ (by omega)).trans (g_2 j hj)
  refine px_putF (ty := (.array .int)) (v := .ref (b + (k + 2))) hx hb hts (by decide +kernel) tyX2 tyX2_ok nmX2 hown hK hP hS (k) (by omega) f_3_0 rfl 1 (by decide) (hts (.fieldLink RX2 15 "PriceEdict$Stones" "figures" "[I") (by decide +kernel)) rfl hmn rfl (by decide +kernel) rfl rfl (Nat.le_of_ble_eq_true rfl) dX2_init_18 (fun H locs hP hS => ?_)
  have hP : px_H D b (k + 3) (va_up cf_3 (k) (.inr (2, [.ref (b + (k + 1)), .ref (b + (k + 2)), .null, .null, .null, .null, .int 0, .int 0, .int 0]))) H := hP
  obtain ⟨cf_4, e_4⟩ : ∃ z, z = va_up cf_3 (k) (.inr (2, [.ref (b + (k + 1)), .ref (b + (k + 2)), .null, .null, .null, .null, .int 0, .int 0, .int 0])) := ⟨_, rfl⟩
  rw [← e_4] at hP
  have f_4_0 : cf_4 (k) = .inr (2, [.ref (b + (k + 1)), .ref (b + (k + 2)), .null, .null, .null, .null, .int 0, .int 0, .int 0]) := by rw [e_4]; exact va_up_self _ _ _
  have f_4_1 : cf_4 (k + 1) = .inl (c 0, 60, .inl fun _ => 0) := by rw [e_4, va_up_ne _ _ (by omega)]; exact f_3_1
  have f_4_2 : cf_4 (k + 2) = .inl (c 0, 240, .inl fun _ => 0) := by rw [e_4, va_up_ne _ _ (by omega)]; exact f_3_2
  have g_4 : ∀ j, j < k → cf_4 j = cf j := fun j hj => by rw [e_4]; exact (va_up_ne _ _ (by omega)).trans (g_3 j hj)
  refine lv_aload_n hx hb dX2_init_21 rfl (lv_at hl 0 rfl) ?_
  refine lv_bipush (v := 60) hx hb dX2_init_22 (by decide) ?_
  refine px_newa (atype := .int) (ty := .int) (a0 := (60, .inl fun _ => 0)) (N' := 60) hx hb (hts (.arrayClass .int) (by decide +kernel)) rfl hK hP hS 0 rfl (fun h => h) (fun _ => rfl) (by decide) (by decide) (by show 60 * 4 ≤ 536870912; omega) (Nat.le_of_ble_eq_true rfl) (Nat.le_of_ble_eq_true rfl) dX2_init_24 (fun H hP hS => ?_)
  have hP : px_H D b (k + 4) (va_up cf_4 (k + 3) (.inl (c 0, 60, .inl fun _ => 0))) H := hP
  obtain ⟨cf_5, e_5⟩ : ∃ z, z = va_up cf_4 (k + 3) (.inl (c 0, 60, .inl fun _ => 0)) := ⟨_, rfl⟩
  rw [← e_5] at hP
  have f_5_0 : cf_5 (k) = .inr (2, [.ref (b + (k + 1)), .ref (b + (k + 2)), .null, .null, .null, .null, .int 0, .int 0, .int 0]) := by rw [e_5, va_up_ne _ _ (by omega)]; exact f_4_0
  have f_5_1 : cf_5 (k + 1) = .inl (c 0, 60, .inl fun _ => 0) := by rw [e_5, va_up_ne _ _ (by omega)]; exact f_4_1
  have f_5_2 : cf_5 (k + 2) = .inl (c 0, 240, .inl fun _ => 0) := by rw [e_5, va_up_ne _ _ (by omega)]; exact f_4_2
  have f_5_3 : cf_5 (k + 3) = .inl (c 0, 60, .inl fun _ => 0) := by rw [e_5]; exact va_up_self _ _ _
  have g_5 : ∀ j, j < k → cf_5 j = cf j := fun j hj => by rw [e_5]; exact (va_up_ne _ _ (by omega)).trans (g_4 j hj)
  refine px_putF (ty := (.array .int)) (v := .ref (b + (k + 3))) hx hb hts (by decide +kernel) tyX2 tyX2_ok nmX2 hown hK hP hS (k) (by omega) f_5_0 rfl 2 (by decide) (hts (.fieldLink RX2 18 "PriceEdict$Stones" "found" "[I") (by decide +kernel)) rfl hmn rfl (by decide +kernel) rfl rfl (Nat.le_of_ble_eq_true rfl) dX2_init_26 (fun H locs hP hS => ?_)
  have hP : px_H D b (k + 4) (va_up cf_5 (k) (.inr (2, [.ref (b + (k + 1)), .ref (b + (k + 2)), .ref (b + (k + 3)), .null, .null, .null, .int 0, .int 0, .int 0]))) H := hP
  obtain ⟨cf_6, e_6⟩ : ∃ z, z = va_up cf_5 (k) (.inr (2, [.ref (b + (k + 1)), .ref (b + (k + 2)), .ref (b + (k + 3)), .null, .null, .null, .int 0, .int 0, .int 0])) := ⟨_, rfl⟩
  rw [← e_6] at hP
  have f_6_0 : cf_6 (k) = .inr (2, [.ref (b + (k + 1)), .ref (b + (k + 2)), .ref (b + (k + 3)), .null, .null, .null, .int 0, .int 0, .int 0]) := by rw [e_6]; exact va_up_self _ _ _
  have f_6_1 : cf_6 (k + 1) = .inl (c 0, 60, .inl fun _ => 0) := by rw [e_6, va_up_ne _ _ (by omega)]; exact f_5_1
  have f_6_2 : cf_6 (k + 2) = .inl (c 0, 240, .inl fun _ => 0) := by rw [e_6, va_up_ne _ _ (by omega)]; exact f_5_2
  have f_6_3 : cf_6 (k + 3) = .inl (c 0, 60, .inl fun _ => 0) := by rw [e_6, va_up_ne _ _ (by omega)]; exact f_5_3
  have g_6 : ∀ j, j < k → cf_6 j = cf j := fun j hj => by rw [e_6]; exact (va_up_ne _ _ (by omega)).trans (g_5 j hj)
  refine lv_aload_n hx hb dX2_init_29 rfl (lv_at hl 0 rfl) ?_
  refine lv_bipush (v := 60) hx hb dX2_init_30 (by decide) ?_
  refine px_newa (atype := .int) (ty := .int) (a0 := (60, .inl fun _ => 0)) (N' := 60) hx hb (hts (.arrayClass .int) (by decide +kernel)) rfl hK hP hS 0 rfl (fun h => h) (fun _ => rfl) (by decide) (by decide) (by show 60 * 4 ≤ 536870912; omega) (Nat.le_of_ble_eq_true rfl) (Nat.le_of_ble_eq_true rfl) dX2_init_32 (fun H hP hS => ?_)
  have hP : px_H D b (k + 5) (va_up cf_6 (k + 4) (.inl (c 0, 60, .inl fun _ => 0))) H := hP
  obtain ⟨cf_7, e_7⟩ : ∃ z, z = va_up cf_6 (k + 4) (.inl (c 0, 60, .inl fun _ => 0)) := ⟨_, rfl⟩
  rw [← e_7] at hP
  have f_7_0 : cf_7 (k) = .inr (2, [.ref (b + (k + 1)), .ref (b + (k + 2)), .ref (b + (k + 3)), .null, .null, .null, .int 0, .int 0, .int 0]) := by rw [e_7, va_up_ne _ _ (by omega)]; exact f_6_0
  have f_7_1 : cf_7 (k + 1) = .inl (c 0, 60, .inl fun _ => 0) := by rw [e_7, va_up_ne _ _ (by omega)]; exact f_6_1
  have f_7_2 : cf_7 (k + 2) = .inl (c 0, 240, .inl fun _ => 0) := by rw [e_7, va_up_ne _ _ (by omega)]; exact f_6_2
  have f_7_3 : cf_7 (k + 3) = .inl (c 0, 60, .inl fun _ => 0) := by rw [e_7, va_up_ne _ _ (by omega)]; exact f_6_3
  have f_7_4 : cf_7 (k + 4) = .inl (c 0, 60, .inl fun _ => 0) := by rw [e_7]; exact va_up_self _ _ _
  have g_7 : ∀ j, j < k → cf_7 j = cf j := fun j hj => by rw [e_7]; exact (va_up_ne _ _ (by omega)).trans (g_6 j hj)
  refine px_putF (ty := (.array .int)) (v := .ref (b + (k + 4))) hx hb hts (by decide +kernel) tyX2 tyX2_ok nmX2 hown hK hP hS (k) (by omega) f_7_0 rfl 3 (by decide) (hts (.fieldLink RX2 21 "PriceEdict$Stones" "struck" "[I") (by decide +kernel)) rfl hmn rfl (by decide +kernel) rfl rfl (Nat.le_of_ble_eq_true rfl) dX2_init_34 (fun H locs hP hS => ?_)
  have hP : px_H D b (k + 5) (va_up cf_7 (k) (.inr (2, [.ref (b + (k + 1)), .ref (b + (k + 2)), .ref (b + (k + 3)), .ref (b + (k + 4)), .null, .null, .int 0, .int 0, .int 0]))) H := hP
  obtain ⟨cf_8, e_8⟩ : ∃ z, z = va_up cf_7 (k) (.inr (2, [.ref (b + (k + 1)), .ref (b + (k + 2)), .ref (b + (k + 3)), .ref (b + (k + 4)), .null, .null, .int 0, .int 0, .int 0])) := ⟨_, rfl⟩
  rw [← e_8] at hP
  have f_8_0 : cf_8 (k) = .inr (2, [.ref (b + (k + 1)), .ref (b + (k + 2)), .ref (b + (k + 3)), .ref (b + (k + 4)), .null, .null, .int 0, .int 0, .int 0]) := by rw [e_8]; exact va_up_self _ _ _
  have f_8_1 : cf_8 (k + 1) = .inl (c 0, 60, .inl fun _ => 0) := by rw [e_8, va_up_ne _ _ (by omega)]; exact f_7_1
  have f_8_2 : cf_8 (k + 2) = .inl (c 0, 240, .inl fun _ => 0) := by rw [e_8, va_up_ne _ _ (by omega)]; exact f_7_2
  have f_8_3 : cf_8 (k + 3) = .inl (c 0, 60, .inl fun _ => 0) := by rw [e_8, va_up_ne _ _ (by omega)]; exact f_7_3
  have f_8_4 : cf_8 (k + 4) = .inl (c 0, 60, .inl fun _ => 0) := by rw [e_8, va_up_ne _ _ (by omega)]; exact f_7_4
  have g_8 : ∀ j, j < k → cf_8 j = cf j := fun j hj => by rw [e_8]; exact (va_up_ne _ _ (by omega)).trans (g_7 j hj)
  refine lv_aload_n hx hb dX2_init_37 rfl (lv_at hl 0 rfl) ?_
  refine lv_bipush (v := 10) hx hb dX2_init_38 (by decide) ?_
  refine px_newa (atype := .int) (ty := .int) (a0 := (10, .inl fun _ => 0)) (N' := 10) hx hb (hts (.arrayClass .int) (by decide +kernel)) rfl hK hP hS 0 rfl (fun h => h) (fun _ => rfl) (by decide) (by decide) (by show 10 * 4 ≤ 536870912; omega) (Nat.le_of_ble_eq_true rfl) (Nat.le_of_ble_eq_true rfl) dX2_init_40 (fun H hP hS => ?_)
  have hP : px_H D b (k + 6) (va_up cf_8 (k + 5) (.inl (c 0, 10, .inl fun _ => 0))) H := hP
  obtain ⟨cf_9, e_9⟩ : ∃ z, z = va_up cf_8 (k + 5) (.inl (c 0, 10, .inl fun _ => 0)) := ⟨_, rfl⟩
  rw [← e_9] at hP
  have f_9_0 : cf_9 (k) = .inr (2, [.ref (b + (k + 1)), .ref (b + (k + 2)), .ref (b + (k + 3)), .ref (b + (k + 4)), .null, .null, .int 0, .int 0, .int 0]) := by rw [e_9, va_up_ne _ _ (by omega)]; exact f_8_0
  have f_9_1 : cf_9 (k + 1) = .inl (c 0, 60, .inl fun _ => 0) := by rw [e_9, va_up_ne _ _ (by omega)]; exact f_8_1
  have f_9_2 : cf_9 (k + 2) = .inl (c 0, 240, .inl fun _ => 0) := by rw [e_9, va_up_ne _ _ (by omega)]; exact f_8_2
  have f_9_3 : cf_9 (k + 3) = .inl (c 0, 60, .inl fun _ => 0) := by rw [e_9, va_up_ne _ _ (by omega)]; exact f_8_3
  have f_9_4 : cf_9 (k + 4) = .inl (c 0, 60, .inl fun _ => 0) := by rw [e_9, va_up_ne _ _ (by omega)]; exact f_8_4
  have f_9_5 : cf_9 (k + 5) = .inl (c 0, 10, .inl fun _ => 0) := by rw [e_9]; exact va_up_self _ _ _
  have g_9 : ∀ j, j < k → cf_9 j = cf j := fun j hj => by rw [e_9]; exact (va_up_ne _ _ (by omega)).trans (g_8 j hj)
  refine px_putF (ty := (.array .int)) (v := .ref (b + (k + 5))) hx hb hts (by decide +kernel) tyX2 tyX2_ok nmX2 hown hK hP hS (k) (by omega) f_9_0 rfl 4 (by decide) (hts (.fieldLink RX2 24 "PriceEdict$Stones" "readings" "[I") (by decide +kernel)) rfl hmn rfl (by decide +kernel) rfl rfl (Nat.le_of_ble_eq_true rfl) dX2_init_42 (fun H locs hP hS => ?_)
  have hP : px_H D b (k + 6) (va_up cf_9 (k) (.inr (2, [.ref (b + (k + 1)), .ref (b + (k + 2)), .ref (b + (k + 3)), .ref (b + (k + 4)), .ref (b + (k + 5)), .null, .int 0, .int 0, .int 0]))) H := hP
  obtain ⟨cf_10, e_10⟩ : ∃ z, z = va_up cf_9 (k) (.inr (2, [.ref (b + (k + 1)), .ref (b + (k + 2)), .ref (b + (k + 3)), .ref (b + (k + 4)), .ref (b + (k + 5)), .null, .int 0, .int 0, .int 0])) := ⟨_, rfl⟩
  rw [← e_10] at hP
  have f_10_0 : cf_10 (k) = .inr (2, [.ref (b + (k + 1)), .ref (b + (k + 2)), .ref (b + (k + 3)), .ref (b + (k + 4)), .ref (b + (k + 5)), .null, .int 0, .int 0, .int 0]) := by rw [e_10]; exact va_up_self _ _ _
  have f_10_1 : cf_10 (k + 1) = .inl (c 0, 60, .inl fun _ => 0) := by rw [e_10, va_up_ne _ _ (by omega)]; exact f_9_1
  have f_10_2 : cf_10 (k + 2) = .inl (c 0, 240, .inl fun _ => 0) := by rw [e_10, va_up_ne _ _ (by omega)]; exact f_9_2
  have f_10_3 : cf_10 (k + 3) = .inl (c 0, 60, .inl fun _ => 0) := by rw [e_10, va_up_ne _ _ (by omega)]; exact f_9_3
  have f_10_4 : cf_10 (k + 4) = .inl (c 0, 60, .inl fun _ => 0) := by rw [e_10, va_up_ne _ _ (by omega)]; exact f_9_4
  have f_10_5 : cf_10 (k + 5) = .inl (c 0, 10, .inl fun _ => 0) := by rw [e_10, va_up_ne _ _ (by omega)]; exact f_9_5
  have g_10 : ∀ j, j < k → cf_10 j = cf j := fun j hj => by rw [e_10]; exact (va_up_ne _ _ (by omega)).trans (g_9 j hj)
  refine lv_aload_n hx hb dX2_init_45 rfl (lv_at hl 0 rfl) ?_
  refine lv_iconst (v := 4) hx hb dX2_init_46 (by decide) ?_
  refine px_newa (atype := .int) (ty := .int) (a0 := (4, .inl fun _ => 0)) (N' := 4) hx hb (hts (.arrayClass .int) (by decide +kernel)) rfl hK hP hS 0 rfl (fun h => h) (fun _ => rfl) (by decide) (by decide) (by show 4 * 4 ≤ 536870912; omega) (Nat.le_of_ble_eq_true rfl) (Nat.le_of_ble_eq_true rfl) dX2_init_47 (fun H hP hS => ?_)
  have hP : px_H D b (k + 7) (va_up cf_10 (k + 6) (.inl (c 0, 4, .inl fun _ => 0))) H := hP
  obtain ⟨cf_11, e_11⟩ : ∃ z, z = va_up cf_10 (k + 6) (.inl (c 0, 4, .inl fun _ => 0)) := ⟨_, rfl⟩
  rw [← e_11] at hP
  have f_11_0 : cf_11 (k) = .inr (2, [.ref (b + (k + 1)), .ref (b + (k + 2)), .ref (b + (k + 3)), .ref (b + (k + 4)), .ref (b + (k + 5)), .null, .int 0, .int 0, .int 0]) := by rw [e_11, va_up_ne _ _ (by omega)]; exact f_10_0
  have f_11_1 : cf_11 (k + 1) = .inl (c 0, 60, .inl fun _ => 0) := by rw [e_11, va_up_ne _ _ (by omega)]; exact f_10_1
  have f_11_2 : cf_11 (k + 2) = .inl (c 0, 240, .inl fun _ => 0) := by rw [e_11, va_up_ne _ _ (by omega)]; exact f_10_2
  have f_11_3 : cf_11 (k + 3) = .inl (c 0, 60, .inl fun _ => 0) := by rw [e_11, va_up_ne _ _ (by omega)]; exact f_10_3
  have f_11_4 : cf_11 (k + 4) = .inl (c 0, 60, .inl fun _ => 0) := by rw [e_11, va_up_ne _ _ (by omega)]; exact f_10_4
  have f_11_5 : cf_11 (k + 5) = .inl (c 0, 10, .inl fun _ => 0) := by rw [e_11, va_up_ne _ _ (by omega)]; exact f_10_5
  have f_11_6 : cf_11 (k + 6) = .inl (c 0, 4, .inl fun _ => 0) := by rw [e_11]; exact va_up_self _ _ _
  have g_11 : ∀ j, j < k → cf_11 j = cf j := fun j hj => by rw [e_11]; exact (va_up_ne _ _ (by omega)).trans (g_10 j hj)
  refine px_putF (ty := (.array .int)) (v := .ref (b + (k + 6))) hx hb hts (by decide +kernel) tyX2 tyX2_ok nmX2 hown hK hP hS (k) (by omega) f_11_0 rfl 5 (by decide) (hts (.fieldLink RX2 27 "PriceEdict$Stones" "left" "[I") (by decide +kernel)) rfl hmn rfl (by decide +kernel) rfl rfl (Nat.le_of_ble_eq_true rfl) dX2_init_49 (fun H locs hP hS => ?_)
  have hP : px_H D b (k + 7) (va_up cf_11 (k) (.inr (2, [.ref (b + (k + 1)), .ref (b + (k + 2)), .ref (b + (k + 3)), .ref (b + (k + 4)), .ref (b + (k + 5)), .ref (b + (k + 6)), .int 0, .int 0, .int 0]))) H := hP
  obtain ⟨cf_12, e_12⟩ : ∃ z, z = va_up cf_11 (k) (.inr (2, [.ref (b + (k + 1)), .ref (b + (k + 2)), .ref (b + (k + 3)), .ref (b + (k + 4)), .ref (b + (k + 5)), .ref (b + (k + 6)), .int 0, .int 0, .int 0])) := ⟨_, rfl⟩
  rw [← e_12] at hP
  have f_12_0 : cf_12 (k) = .inr (2, [.ref (b + (k + 1)), .ref (b + (k + 2)), .ref (b + (k + 3)), .ref (b + (k + 4)), .ref (b + (k + 5)), .ref (b + (k + 6)), .int 0, .int 0, .int 0]) := by rw [e_12]; exact va_up_self _ _ _
  have f_12_1 : cf_12 (k + 1) = .inl (c 0, 60, .inl fun _ => 0) := by rw [e_12, va_up_ne _ _ (by omega)]; exact f_11_1
  have f_12_2 : cf_12 (k + 2) = .inl (c 0, 240, .inl fun _ => 0) := by rw [e_12, va_up_ne _ _ (by omega)]; exact f_11_2
  have f_12_3 : cf_12 (k + 3) = .inl (c 0, 60, .inl fun _ => 0) := by rw [e_12, va_up_ne _ _ (by omega)]; exact f_11_3
  have f_12_4 : cf_12 (k + 4) = .inl (c 0, 60, .inl fun _ => 0) := by rw [e_12, va_up_ne _ _ (by omega)]; exact f_11_4
  have f_12_5 : cf_12 (k + 5) = .inl (c 0, 10, .inl fun _ => 0) := by rw [e_12, va_up_ne _ _ (by omega)]; exact f_11_5
  have f_12_6 : cf_12 (k + 6) = .inl (c 0, 4, .inl fun _ => 0) := by rw [e_12, va_up_ne _ _ (by omega)]; exact f_11_6
  have g_12 : ∀ j, j < k → cf_12 j = cf j := fun j hj => by rw [e_12]; exact (va_up_ne _ _ (by omega)).trans (g_11 j hj)
  refine lv_aload_n hx hb dX2_init_52 rfl (lv_at hl 0 rfl) ?_
  refine lv_iconst (v := 0) hx hb dX2_init_53 (by decide) ?_
  refine px_put (ty := .int) (v := .int 0) hx hb hts (by decide +kernel) tyX2 tyX2_ok nmX2 hown hK hP hS (k) (by omega) f_12_0 rfl 6 (by decide) (hts (.fieldLink RX2 30 "PriceEdict$Stones" "size" "I") (by decide +kernel)) rfl (by decide +kernel) rfl rfl (Nat.le_of_ble_eq_true rfl) dX2_init_54 (fun H locs hP hS => ?_)
  have hP : px_H D b (k + 7) (va_up cf_12 (k) (.inr (2, [.ref (b + (k + 1)), .ref (b + (k + 2)), .ref (b + (k + 3)), .ref (b + (k + 4)), .ref (b + (k + 5)), .ref (b + (k + 6)), .int 0, .int 0, .int 0]))) H := hP
  obtain ⟨cf_13, e_13⟩ : ∃ z, z = va_up cf_12 (k) (.inr (2, [.ref (b + (k + 1)), .ref (b + (k + 2)), .ref (b + (k + 3)), .ref (b + (k + 4)), .ref (b + (k + 5)), .ref (b + (k + 6)), .int 0, .int 0, .int 0])) := ⟨_, rfl⟩
  rw [← e_13] at hP
  have f_13_0 : cf_13 (k) = .inr (2, [.ref (b + (k + 1)), .ref (b + (k + 2)), .ref (b + (k + 3)), .ref (b + (k + 4)), .ref (b + (k + 5)), .ref (b + (k + 6)), .int 0, .int 0, .int 0]) := by rw [e_13]; exact va_up_self _ _ _
  have f_13_1 : cf_13 (k + 1) = .inl (c 0, 60, .inl fun _ => 0) := by rw [e_13, va_up_ne _ _ (by omega)]; exact f_12_1
  have f_13_2 : cf_13 (k + 2) = .inl (c 0, 240, .inl fun _ => 0) := by rw [e_13, va_up_ne _ _ (by omega)]; exact f_12_2
  have f_13_3 : cf_13 (k + 3) = .inl (c 0, 60, .inl fun _ => 0) := by rw [e_13, va_up_ne _ _ (by omega)]; exact f_12_3
  have f_13_4 : cf_13 (k + 4) = .inl (c 0, 60, .inl fun _ => 0) := by rw [e_13, va_up_ne _ _ (by omega)]; exact f_12_4
  have f_13_5 : cf_13 (k + 5) = .inl (c 0, 10, .inl fun _ => 0) := by rw [e_13, va_up_ne _ _ (by omega)]; exact f_12_5
  have f_13_6 : cf_13 (k + 6) = .inl (c 0, 4, .inl fun _ => 0) := by rw [e_13, va_up_ne _ _ (by omega)]; exact f_12_6
  have g_13 : ∀ j, j < k → cf_13 j = cf j := fun j hj => by rw [e_13]; exact (va_up_ne _ _ (by omega)).trans (g_12 j hj)
  refine lv_aload_n hx hb dX2_init_57 rfl (lv_at hl 0 rfl) ?_
  refine lv_iconst (v := 0) hx hb dX2_init_58 (by decide) ?_
  refine px_put (ty := .int) (v := .int 0) hx hb hts (by decide +kernel) tyX2 tyX2_ok nmX2 hown hK hP hS (k) (by omega) f_13_0 rfl 7 (by decide) (hts (.fieldLink RX2 34 "PriceEdict$Stones" "struckOut" "I") (by decide +kernel)) rfl (by decide +kernel) rfl rfl (Nat.le_of_ble_eq_true rfl) dX2_init_59 (fun H locs hP hS => ?_)
  have hP : px_H D b (k + 7) (va_up cf_13 (k) (.inr (2, [.ref (b + (k + 1)), .ref (b + (k + 2)), .ref (b + (k + 3)), .ref (b + (k + 4)), .ref (b + (k + 5)), .ref (b + (k + 6)), .int 0, .int 0, .int 0]))) H := hP
  obtain ⟨cf_14, e_14⟩ : ∃ z, z = va_up cf_13 (k) (.inr (2, [.ref (b + (k + 1)), .ref (b + (k + 2)), .ref (b + (k + 3)), .ref (b + (k + 4)), .ref (b + (k + 5)), .ref (b + (k + 6)), .int 0, .int 0, .int 0])) := ⟨_, rfl⟩
  rw [← e_14] at hP
  have f_14_0 : cf_14 (k) = .inr (2, [.ref (b + (k + 1)), .ref (b + (k + 2)), .ref (b + (k + 3)), .ref (b + (k + 4)), .ref (b + (k + 5)), .ref (b + (k + 6)), .int 0, .int 0, .int 0]) := by rw [e_14]; exact va_up_self _ _ _
  have f_14_1 : cf_14 (k + 1) = .inl (c 0, 60, .inl fun _ => 0) := by rw [e_14, va_up_ne _ _ (by omega)]; exact f_13_1
  have f_14_2 : cf_14 (k + 2) = .inl (c 0, 240, .inl fun _ => 0) := by rw [e_14, va_up_ne _ _ (by omega)]; exact f_13_2
  have f_14_3 : cf_14 (k + 3) = .inl (c 0, 60, .inl fun _ => 0) := by rw [e_14, va_up_ne _ _ (by omega)]; exact f_13_3
  have f_14_4 : cf_14 (k + 4) = .inl (c 0, 60, .inl fun _ => 0) := by rw [e_14, va_up_ne _ _ (by omega)]; exact f_13_4
  have f_14_5 : cf_14 (k + 5) = .inl (c 0, 10, .inl fun _ => 0) := by rw [e_14, va_up_ne _ _ (by omega)]; exact f_13_5
  have f_14_6 : cf_14 (k + 6) = .inl (c 0, 4, .inl fun _ => 0) := by rw [e_14, va_up_ne _ _ (by omega)]; exact f_13_6
  have g_14 : ∀ j, j < k → cf_14 j = cf j := fun j hj => by rw [e_14]; exact (va_up_ne _ _ (by omega)).trans (g_13 j hj)
  refine lv_aload_n hx hb dX2_init_62 rfl (lv_at hl 0 rfl) ?_
  refine lv_iconst (v := 0) hx hb dX2_init_63 (by decide) ?_
  refine px_put (ty := .int) (v := .int 0) hx hb hts (by decide +kernel) tyX2 tyX2_ok nmX2 hown hK hP hS (k) (by omega) f_14_0 rfl 8 (by decide) (hts (.fieldLink RX2 37 "PriceEdict$Stones" "habits" "I") (by decide +kernel)) rfl (by decide +kernel) rfl rfl (Nat.le_of_ble_eq_true rfl) dX2_init_64 (fun H locs hP hS => ?_)
  have hP : px_H D b (k + 7) (va_up cf_14 (k) (.inr (2, [.ref (b + (k + 1)), .ref (b + (k + 2)), .ref (b + (k + 3)), .ref (b + (k + 4)), .ref (b + (k + 5)), .ref (b + (k + 6)), .int 0, .int 0, .int 0]))) H := hP
  obtain ⟨cf_15, e_15⟩ : ∃ z, z = va_up cf_14 (k) (.inr (2, [.ref (b + (k + 1)), .ref (b + (k + 2)), .ref (b + (k + 3)), .ref (b + (k + 4)), .ref (b + (k + 5)), .ref (b + (k + 6)), .int 0, .int 0, .int 0])) := ⟨_, rfl⟩
  rw [← e_15] at hP
  have f_15_0 : cf_15 (k) = .inr (2, [.ref (b + (k + 1)), .ref (b + (k + 2)), .ref (b + (k + 3)), .ref (b + (k + 4)), .ref (b + (k + 5)), .ref (b + (k + 6)), .int 0, .int 0, .int 0]) := by rw [e_15]; exact va_up_self _ _ _
  have f_15_1 : cf_15 (k + 1) = .inl (c 0, 60, .inl fun _ => 0) := by rw [e_15, va_up_ne _ _ (by omega)]; exact f_14_1
  have f_15_2 : cf_15 (k + 2) = .inl (c 0, 240, .inl fun _ => 0) := by rw [e_15, va_up_ne _ _ (by omega)]; exact f_14_2
  have f_15_3 : cf_15 (k + 3) = .inl (c 0, 60, .inl fun _ => 0) := by rw [e_15, va_up_ne _ _ (by omega)]; exact f_14_3
  have f_15_4 : cf_15 (k + 4) = .inl (c 0, 60, .inl fun _ => 0) := by rw [e_15, va_up_ne _ _ (by omega)]; exact f_14_4
  have f_15_5 : cf_15 (k + 5) = .inl (c 0, 10, .inl fun _ => 0) := by rw [e_15, va_up_ne _ _ (by omega)]; exact f_14_5
  have f_15_6 : cf_15 (k + 6) = .inl (c 0, 4, .inl fun _ => 0) := by rw [e_15, va_up_ne _ _ (by omega)]; exact f_14_6
  have g_15 : ∀ j, j < k → cf_15 j = cf j := fun j hj => by rw [e_15]; exact (va_up_ne _ _ (by omega)).trans (g_14 j hj)
  refine lv_iconst (v := 0) hx hb dX2_init_67 (by decide) ?_
  refine lv_istore_n (lv' := [(1, .int 0), (0, .ref (b + (k)))]) hx hb dX2_init_68 rfl hl (by decide) rfl (fun ls hl => ?_)
  have L : ∀ (n i : Nat) (z : Int32) (cfx : Nat → va_E) (H : Heap) (locs : List Loc) (ls : Array Slot), i + n = 11 → i ≤ 10 → z = nI i → (∀ j, j < k → cfx j = cf j) → (cfx (k) = .inr (2, [.ref (b + (k + 1)), .ref (b + (k + 2)), .ref (b + (k + 3)), .ref (b + (k + 4)), .ref (b + (k + 5)), .ref (b + (k + 6)), .int 0, .int 0, .int 0])) → (cfx (k + 1) = .inl (c 0, 60, .inl fun _ => 0)) → (cfx (k + 2) = .inl (c 0, 240, .inl fun _ => 0)) → (cfx (k + 3) = .inl (c 0, 60, .inl fun _ => 0)) → (cfx (k + 4) = .inl (c 0, 60, .inl fun _ => 0)) → (cfx (k + 5) = .inl (c 0, 10, .inl (rdg i))) → (cfx (k + 6) = .inl (c 0, 4, .inl fun _ => 0)) → px_H D b (k + 7) cfx H → va_S (px_A b) s.heap H locs → lv_has ls 2 [(1, .int z), (0, .ref (b + (k)))] → W p l e ({ frames := 1, cells := 6, slots := 434, locals := 12 }) s m [.ref (b + (k))].toArray below meth c0 H locs 6 434 (MQ below (va_Qv (fun u => (∀ j, j < k → u j = cf j) ∧ u (k) = .inr (2, [.ref (b + (k + 1)), .ref (b + (k + 2)), .ref (b + (k + 3)), .ref (b + (k + 4)), .ref (b + (k + 5)), .ref (b + (k + 6)), .int 0, .int 0, .int 0]) ∧ u (k + 1) = .inl (c 0, 60, .inl fun _ => 0) ∧ u (k + 2) = .inl (c 0, 240, .inl fun _ => 0) ∧ u (k + 3) = .inl (c 0, 60, .inl fun _ => 0) ∧ u (k + 4) = .inl (c 0, 60, .inl fun _ => 0) ∧ u (k + 5) = .inl (c 0, 10, .inl (rdg 10)) ∧ u (k + 6) = .inl (c 0, 4, .inl fun _ => 0)) (fun u U => px_H D b (k + 7) u U.heap ∧ qw_K D c U) (px_A b)) [.ref (b + (k))].toArray s 6 434 (px_A b)) (F0 m 69 ls []) := by
    intro n
    induction n with
    | zero => intro i z cfx H locs ls h1 h2; omega
    | succ n ih =>
      intro i z cfx H locs ls h1 h2 hz hg q0 q1 q2 q3 q4 q5 q6 hP hS hl
      refine lv_iload_n hx hb dX2_init_69 rfl (lv_at hl 0 rfl) ?_
      refine lv_bipush (v := 10) hx hb dX2_init_70 (by decide) ?_
      refine lv_icmp_ge (tgt := 90) hx hb dX2_init_72 (by decide) (fun c_72 => ?_) (fun c_72 => ?_)
      · have hi : i = 10 := by have := qi_ge hz (by omega) (m := 10) rfl c_72; omega
        subst hi
        exact px_ret (mc := 6) (ms := 434) (Nat.le_of_ble_eq_true rfl) (Nat.le_of_ble_eq_true rfl) hx hb hret hlk hK hP hS rfl ⟨hg, q0, q1, q2, q3, q4, q5, q6⟩ dX2_init_90
      · have hi : i < 10 := qi_lt hz (by omega) (m := 10) rfl c_72
        refine lv_aload_n hx hb dX2_init_75 rfl (lv_at hl 1 rfl) ?_
        refine px_get hx hb hts (by decide +kernel) hown hK hP (k) (by omega) q0 rfl 4 (by decide) (hts (.fieldLink RX2 24 "PriceEdict$Stones" "readings" "[I") (by decide +kernel)) rfl dX2_init_76 ?_
        refine lv_iload_n hx hb dX2_init_79 rfl (lv_at hl 0 rfl) ?_
        refine lv_iconst (v := 1) hx hb dX2_init_80 (by decide) ?_
        refine lv_iload_n hx hb dX2_init_81 rfl (lv_at hl 0 rfl) ?_
        refine lv_ishl hx hb dX2_init_82 ?_
        refine px_ist hx hb hK hP hS (k + 5) (by omega) q5 (qi_in hz hi (by decide)) dX2_init_83 (fun H locs hP hS => ?_)
        have eu : upd (rdg i) z.toNatClampNeg ((1 : Int32) <<< (z &&& 31)) = rdg (i + 1) := by rw [hz, nI_clamp (by omega)]; exact rdg_up i
        rw [eu] at hP
        obtain ⟨x, ex⟩ : ∃ y : Int32, y = z + 1 := ⟨_, rfl⟩
        refine lv_iinc (v := x) (lv' := [(1, .int x), (0, .ref (b + (k)))]) hx hb dX2_init_84 hl (k := 0) rfl (by rw [ex]; rfl) (by decide) rfl (fun ls hl => ?_)
        refine lv_goto (tgt := 69) hx hb dX2_init_87 (by decide) ?_
        exact ih (i + 1) x _ _ _ _ (by omega) (by omega) (by rw [ex]; exact qi_add hz) (fun j hj => (va_up_ne _ _ (by omega)).trans (hg j hj)) ((va_up_ne _ _ (by omega)).trans q0) ((va_up_ne _ _ (by omega)).trans q1) ((va_up_ne _ _ (by omega)).trans q2) ((va_up_ne _ _ (by omega)).trans q3) ((va_up_ne _ _ (by omega)).trans q4) (va_up_self _ _ _) ((va_up_ne _ _ (by omega)).trans q6) hP hS hl
  exact L 11 0 0 _ _ _ _ rfl (by omega) rfl g_15 f_15_0 f_15_1 f_15_2 f_15_3 f_15_4 (f_15_5.trans (by rw [rdg_0])) f_15_6 hP hS hl
set_option maxHeartbeats 4000000 in
set_option maxRecDepth 100000 in
theorem c_X4_init (l : Launch) (D : va_G) (c : Nat → ClassId) (b : Nat) (k : Nat) (cf : Nat → va_E) (f_0_0 : cf (k) = .inr (4, [.null, .int 0])) : MCf l D c b yX4_init wsX4_init ({ frames := 2, cells := 7, slots := 72, locals := 32 }) [.ref (b + (k))] (k + 1) cf (k + 8) (fun u => (∀ j, j < k → u j = cf j) ∧ u k = .inr (4, [.ref (b + (k + 1)), .int 0]) ∧ u (k + 1) = .inl (c 4, 6, .inr (.inr (.inr (.inr (wrf b (k + 2) 6))))) ∧ ∀ j, j < 6 → u (k + 2 + j) = .inr (5, [.int 0, .int 0, .int 0, .int 0, .int 0, .int 0, .int 0, .int 0, .int 0, .int 0, .int 0])) EC 7 72 := by
  refine px_of (cc := cX4_init) (nL := 2) (lvs := [(0, .ref (b + (k)))]) (by decide) rfl rfl rfl (Nat.le_of_ble_eq_true rfl) ?_
  intro p e s m below meth c0 ls hx hb hret hml hts hown hlk hmn hK hP hS hl hE
  have g_0 : ∀ j, j < k → cf j = cf j := fun _ _ => rfl
  refine lv_aload_n hx hb dX4_init_0 rfl (lv_at hl 0 rfl) ?_
  refine W.objInit hx hb hown (hts (.methodLink RX4 3 objectInit) (by decide +kernel)) (hts (.instanceMethod objectInit) (by decide +kernel)) (hts (.code objectInit ⟨#[0xb1]⟩ 1 none) (by decide +kernel)) rfl (by rw [hml]; exact hl.1) rfl dX4_init_1 (Nat.le_of_ble_eq_true rfl) (Nat.le_of_ble_eq_true rfl) ?_
  refine W.eq (g2 := F0 m 4 ls []) rfl ?_
  refine lv_aload_n hx hb dX4_init_4 rfl (lv_at hl 0 rfl) ?_
  refine lv_bipush (v := 6) hx hb dX4_init_5 (by decide) ?_
  refine px_newq (own := RX4) (C := RX5) (index := 9) (N' := 6) hx hb hown (hts (.classLink RX4 9 RX5) (by decide +kernel)) (va_AO.use hE.2.2.2.2.2.2) hK hP hS 4 rfl (by decide) (by decide) (by omega) (Nat.le_of_ble_eq_true rfl) (Nat.le_of_ble_eq_true rfl) dX4_init_7 (fun H hP hS => ?_)
  have hP : px_H D b (k + 2) (va_up cf (k + 1) (.inl (c 4, 6, .inr (.inr (.inr (.inr (fun _ => none))))))) H := hP
  obtain ⟨cf_1, e_1⟩ : ∃ z, z = va_up cf (k + 1) (.inl (c 4, 6, .inr (.inr (.inr (.inr (fun _ => none)))))) := ⟨_, rfl⟩
  rw [← e_1] at hP
  have f_1_0 : cf_1 (k) = .inr (4, [.null, .int 0]) := by rw [e_1, va_up_ne _ _ (by omega)]; exact f_0_0
  have f_1_1 : cf_1 (k + 1) = .inl (c 4, 6, .inr (.inr (.inr (.inr (fun _ => none))))) := by rw [e_1]; exact va_up_self _ _ _
  have g_1 : ∀ j, j < k → cf_1 j = cf j := fun j hj => by rw [e_1]; exact (va_up_ne _ _ (by omega)).trans (g_0 j hj)
  refine px_putF (ty := (.array (.object "PriceEdict$Wares"))) (v := .ref (b + (k + 1))) hx hb hts (by decide +kernel) tyX4 tyX4_ok nmX4 hown hK hP hS (k) (by omega) f_1_0 rfl 0 (by decide) (hts (.fieldLink RX4 11 "PriceEdict$Town" "wares" "[LPriceEdict$Wares;") (by decide +kernel)) rfl hmn rfl (by decide +kernel) rfl rfl (Nat.le_of_ble_eq_true rfl) dX4_init_10 (fun H locs hP hS => ?_)
  have hP : px_H D b (k + 2) (va_up cf_1 (k) (.inr (4, [.ref (b + (k + 1)), .int 0]))) H := hP
  obtain ⟨cf_2, e_2⟩ : ∃ z, z = va_up cf_1 (k) (.inr (4, [.ref (b + (k + 1)), .int 0])) := ⟨_, rfl⟩
  rw [← e_2] at hP
  have f_2_0 : cf_2 (k) = .inr (4, [.ref (b + (k + 1)), .int 0]) := by rw [e_2]; exact va_up_self _ _ _
  have f_2_1 : cf_2 (k + 1) = .inl (c 4, 6, .inr (.inr (.inr (.inr (fun _ => none))))) := by rw [e_2, va_up_ne _ _ (by omega)]; exact f_1_1
  have g_2 : ∀ j, j < k → cf_2 j = cf j := fun j hj => by rw [e_2]; exact (va_up_ne _ _ (by omega)).trans (g_1 j hj)
  refine lv_aload_n hx hb dX4_init_13 rfl (lv_at hl 0 rfl) ?_
  refine lv_iconst (v := 0) hx hb dX4_init_14 (by decide) ?_
  refine px_put (ty := .int) (v := .int 0) hx hb hts (by decide +kernel) tyX4 tyX4_ok nmX4 hown hK hP hS (k) (by omega) f_2_0 rfl 1 (by decide) (hts (.fieldLink RX4 17 "PriceEdict$Town" "miles" "I") (by decide +kernel)) rfl (by decide +kernel) rfl rfl (Nat.le_of_ble_eq_true rfl) dX4_init_15 (fun H locs hP hS => ?_)
  have hP : px_H D b (k + 2) (va_up cf_2 (k) (.inr (4, [.ref (b + (k + 1)), .int 0]))) H := hP
  obtain ⟨cf_3, e_3⟩ : ∃ z, z = va_up cf_2 (k) (.inr (4, [.ref (b + (k + 1)), .int 0])) := ⟨_, rfl⟩
  rw [← e_3] at hP
  have f_3_0 : cf_3 (k) = .inr (4, [.ref (b + (k + 1)), .int 0]) := by rw [e_3]; exact va_up_self _ _ _
  have f_3_1 : cf_3 (k + 1) = .inl (c 4, 6, .inr (.inr (.inr (.inr (fun _ => none))))) := by rw [e_3, va_up_ne _ _ (by omega)]; exact f_2_1
  have g_3 : ∀ j, j < k → cf_3 j = cf j := fun j hj => by rw [e_3]; exact (va_up_ne _ _ (by omega)).trans (g_2 j hj)
  refine lv_iconst (v := 0) hx hb dX4_init_18 (by decide) ?_
  refine lv_istore_n (lv' := [(1, .int 0), (0, .ref (b + (k)))]) hx hb dX4_init_19 rfl hl (by decide) rfl (fun ls hl => ?_)
  have L : ∀ (n i : Nat) (z : Int32) (cfx : Nat → va_E) (H : Heap) (locs : List Loc) (ls : Array Slot) (cl sl : Nat), i + n = 7 → i ≤ 6 → cl = 1 + i → sl = 6 + 11 * i → z = nI i → (∀ j, j < k → cfx j = cf j) → cfx k = .inr (4, [.ref (b + (k + 1)), .int 0]) → cfx (k + 1) = .inl (c 4, 6, .inr (.inr (.inr (.inr (wrf b (k + 2) i))))) → (∀ j, j < i → cfx (k + 2 + j) = .inr (5, [.int 0, .int 0, .int 0, .int 0, .int 0, .int 0, .int 0, .int 0, .int 0, .int 0, .int 0])) → px_H D b (k + 2 + i) cfx H → va_S (px_A b) s.heap H locs → lv_has ls 2 [(1, .int z), (0, .ref (b + (k)))] → W p l e ({ frames := 2, cells := 7, slots := 72, locals := 32 }) s m [.ref (b + (k))].toArray below meth c0 H locs cl sl (MQ below (va_Qv (fun u => (∀ j, j < k → u j = cf j) ∧ u k = .inr (4, [.ref (b + (k + 1)), .int 0]) ∧ u (k + 1) = .inl (c 4, 6, .inr (.inr (.inr (.inr (wrf b (k + 2) 6))))) ∧ ∀ j, j < 6 → u (k + 2 + j) = .inr (5, [.int 0, .int 0, .int 0, .int 0, .int 0, .int 0, .int 0, .int 0, .int 0, .int 0, .int 0])) (fun u U => px_H D b (k + 8) u U.heap ∧ qw_K D c U) (px_A b)) [.ref (b + (k))].toArray s 7 72 (px_A b)) (F0 m 20 ls []) := by
    intro n
    induction n with
    | zero => intro i z cfx H locs ls cl sl h1 h2; omega
    | succ n ih =>
      intro i z cfx H locs ls cl sl h1 h2 hcl hsl hz hg q0 q1 qw hP hS hl
      refine lv_iload_n hx hb dX4_init_20 rfl (lv_at hl 0 rfl) ?_
      refine lv_bipush (v := 6) hx hb dX4_init_21 (by decide) ?_
      refine lv_icmp_ge (tgt := 45) hx hb dX4_init_23 (by decide) (fun c_23 => ?_) (fun c_23 => ?_)
      · have hi : i = 6 := by have := qi_ge hz (by omega) (m := 6) rfl c_23; omega
        subst hi
        exact px_ret (mc := 7) (ms := 72) (by omega) (by omega) hx hb hret hlk hK hP hS rfl ⟨hg, q0, q1, qw⟩ dX4_init_45
      · have hi : i < 6 := qi_lt hz (by omega) (m := 6) rfl c_23
        refine lv_aload_n hx hb dX4_init_26 rfl (lv_at hl 1 rfl) ?_
        refine px_get hx hb hts (by decide +kernel) hown hK hP (k) (by omega) q0 rfl 0 (by decide) (hts (.fieldLink RX4 11 "PriceEdict$Town" "wares" "[LPriceEdict$Wares;") (by decide +kernel)) rfl dX4_init_27 ?_
        refine lv_iload_n hx hb dX4_init_30 rfl (lv_at hl 0 rfl) ?_
        refine px_new (ci := 5) (fs := [.int 0, .int 0, .int 0, .int 0, .int 0, .int 0, .int 0, .int 0, .int 0, .int 0, .int 0]) (C := RX5) (T := TX5) (N := 11) hx hb hts (by decide +kernel) tyX5 tyX5_ok hown (hts (.classLink RX4 9 RX5) (by decide +kernel)) (hts (.instantiable RX5 11) (by decide +kernel)) (hts (.initialized RX5) (by decide +kernel)) hK hP hS rfl (fun j hj => by rcases (show j = 0 ∨ j = 1 ∨ j = 2 ∨ j = 3 ∨ j = 4 ∨ j = 5 ∨ j = 6 ∨ j = 7 ∨ j = 8 ∨ j = 9 ∨ j = 10 by omega) with rfl | rfl | rfl | rfl | rfl | rfl | rfl | rfl | rfl | rfl | rfl <;> rfl) (by show cl + 1 ≤ 7; omega) (by show sl + 11 ≤ 72; omega) dX4_init_31 (fun H hP hS => ?_)
        refine lv_dup hx hb dX4_init_34 rfl ?_
        refine px_initN (As := []) (rest := [.ref (b + (k + 2 + i)), .int z, .ref (b + (k + 1))]) ⟨hx, hb, hml, hown, hts⟩ (k + 2 + i) (c_X5_init l D c b (k + 2 + i) _ (va_up_self _ _ _)) tr_bl (fun _ _ => trivial) ⟨va_cnB (host := RX6) 0 hts gX4_init_X5_init_n21 rfl rfl rfl hE.2.2.2.1 (hts (.initialized RX5) (by decide +kernel)) (by decide +kernel) ⟨Nat.le_of_ble_eq_true rfl, Nat.le_of_ble_eq_true rfl⟩, rfl, hts (.instanceMethod yX5_init) (by decide +kernel)⟩ hK hP hS rfl hl.1 rfl (lv_room (Nat.le_of_ble_eq_true rfl)) dX4_init_35 ⟨by show cl + 1 + 0 ≤ 7; omega, by show sl + 11 + 0 ≤ 72; omega⟩ (fun u H locs hp hP hS => ?_)
        obtain ⟨hp1, hp2⟩ := hp
        have u0 : u k = .inr (4, [.ref (b + (k + 1)), .int 0]) := (hp1 k (by omega)).trans ((va_up_ne _ _ (by omega)).trans q0)
        have u1 : u (k + 1) = .inl (c 4, 6, .inr (.inr (.inr (.inr (wrf b (k + 2) i))))) := (hp1 (k + 1) (by omega)).trans ((va_up_ne _ _ (by omega)).trans q1)
        refine px_ast hx hb hK hP hS (k + 1) 4 (k + 2 + i) 5 (by omega) (by omega) (r := (RX5, TX5, 11)) u1 rfl hp2 rfl (qi_in hz hi (by decide)) dX4_init_38 (fun H locs hP hS => ?_)
        have eu : va_up (wrf b (k + 2) i) z.toNatClampNeg (some (b + (k + 2 + i))) = wrf b (k + 2) (i + 1) := by rw [hz, nI_clamp (by omega)]; exact wrf_up b (k + 2) i
        rw [eu] at hP
        obtain ⟨x, ex⟩ : ∃ y : Int32, y = z + 1 := ⟨_, rfl⟩
        refine lv_iinc (v := x) (lv' := [(1, .int x), (0, .ref (b + (k)))]) hx hb dX4_init_39 hl (k := 0) rfl (by rw [ex]; rfl) (by decide) rfl (fun ls hl => ?_)
        refine lv_goto (tgt := 20) hx hb dX4_init_42 (by decide) ?_
        exact ih (i + 1) x _ _ _ _ _ _ (by omega) (by omega) (by omega) (by omega) (by rw [ex]; exact qi_add hz) (fun j hj => (va_up_ne _ _ (by omega)).trans ((hp1 j (by omega)).trans ((va_up_ne _ _ (by omega)).trans (hg j hj)))) ((va_up_ne _ _ (by omega)).trans u0) (va_up_self _ _ _) (fun j hj => by
          rw [va_up_ne _ _ (by omega)]
          by_cases ej : j = i
          · subst ej; exact hp2
          · rw [hp1 _ (by omega), va_up_ne _ _ (by omega)]; exact qw j (by omega)) hP hS hl
  exact L 7 0 0 _ _ _ _ _ _ rfl (by omega) rfl rfl rfl g_3 f_3_0 (f_3_1.trans (by rw [wrf_0])) (fun j hj => absurd hj (by omega)) hP hS hl
