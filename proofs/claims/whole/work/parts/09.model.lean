/-- what the reference's reading methods lean on -/
def InvM (S : qw_St) : Prop := qz (S 143 6) 60 ∧ (∀ j, j < 240 → S 145 j < 0 ∨ vp_in (S 145 j) 10) ∧ qz (S 143 17) 40 ∧ (∀ k, k < 40 → S 154 k < 0 ∨ vp_in (S 154 k) 21) ∧ qz (S 143 26) 8 ∧ (∀ j, j < 48 → ¬ S 160 j < 0)
theorem InvM.cong {S S' : qw_St} (h : InvM S) (h6 : S' 143 6 = S 143 6) (h145 : ∀ j, S' 145 j = S 145 j) (h17 : S' 143 17 = S 143 17) (h154 : ∀ j, S' 154 j = S 154 j) (h26 : S' 143 26 = S 143 26) (h160 : ∀ j, S' 160 j = S 160 j) : InvM S' := by
  refine ⟨?_, ?_, ?_, ?_, ?_, ?_⟩
  · rw [h6]; exact h.1
  · intro j hj; rw [h145]; exact h.2.1 j hj
  · rw [h17]; exact h.2.2.1
  · intro k hk; rw [h154]; exact h.2.2.2.1 k hk
  · rw [h26]; exact h.2.2.2.2.1
  · intro k hk; rw [h160]; exact h.2.2.2.2.2 k hk
def f_X7_thrown (S : qw_St) : Int32 := (S 143 0)
set_option maxHeartbeats 4000000 in
set_option maxRecDepth 100000 in
theorem c_X7_thrown (l : Launch) (D : va_G) {r : Nat → Nat} (c : Nat → ClassId) (g : Nat → Int64) (hr : qw_inj r) (S : qw_St) : MI l D r c g yX7_thrown wsX7_thrown ({ frames := 0, cells := 0, slots := 0, locals := 0 }) [.ref (r 143)] S (f_X7_thrown S) S := by
  have hiX7 : ∀ w ∈ wsX70, w ∈ wsX7_thrown := by decide +kernel
  refine wx_of (cc := cX7_thrown) (nL := 1) (ret := (some .int)) (lvs := [(0, .ref (r 143))]) (by decide) rfl rfl (Nat.le_of_ble_eq_true rfl) ?_
  intro p e s m below meth c0 ls hx hb hret hml hts hown hlk hK hP hS hl
  have hP : qw_P D r c g S s.heap := hP
  refine lv_aload_n hx hb dX7_thrown_0 rfl (lv_at hl 0 rfl) ?_
  refine wx_get hx hb hts hiX7 hown hK hP 143 (by decide) qc_143 rfl 0 (by decide) (hts (.fieldLink RX7 99 "PriceEdictModel" "thrown" "I") (by decide +kernel)) rfl dX7_thrown_1 ?_
  exact wx_iret hx hb hret hlk hK hP hS (by unfold f_X7_thrown; exact rfl) rfl dX7_thrown_4
def g_X7_throwsIf (S : qw_St) (a1 : Int32) (a2 : Int32) : qw_St := (if a1 = 0 then S else (up2 S 143 0 a2))
def f_X7_throwsIf (a1 : Int32) (a2 : Int32) : Int32 := a1
set_option maxHeartbeats 4000000 in
set_option maxRecDepth 100000 in
theorem c_X7_throwsIf (l : Launch) (D : va_G) {r : Nat → Nat} (c : Nat → ClassId) (g : Nat → Int64) (hr : qw_inj r) (S : qw_St) (a1 : Int32) (a2 : Int32) (hz : a1 = 0 ∨ a1 = 1) : MI l D r c g yX7_throwsIf wsX7_throwsIf ({ frames := 0, cells := 0, slots := 0, locals := 0 }) [.ref (r 143), .int a1, .int a2] S (f_X7_throwsIf a1 a2) (g_X7_throwsIf S a1 a2) := by
  have hiX7 : ∀ w ∈ wsX70, w ∈ wsX7_throwsIf := by decide +kernel
  refine wx_of (cc := cX7_throwsIf) (nL := 3) (ret := (some .boolean)) (lvs := [(0, .ref (r 143)), (1, .int a1), (2, .int a2)]) (by decide) rfl rfl (Nat.le_of_ble_eq_true rfl) ?_
  intro p e s m below meth c0 ls hx hb hret hml hts hown hlk hK hP hS hl
  have hP : qw_P D r c g S s.heap := hP
  have J_9 : ∀ (S_1 : qw_St) (H : Heap) (locs : List Loc) (ls : Array Slot) (eS_1 : S_1 = (if a1 = 0 then S else (up2 S 143 0 a2))), qw_P D r c g S_1 H → va_S (qw_A r) s.heap H locs → lv_has ls 3 [(0, .ref (r 143)), (1, .int a1), (2, .int a2)] → W p l e ({ frames := 0, cells := 0, slots := 0, locals := 0 }) s m [.ref (r 143), .int a1, .int a2].toArray below meth c0 H locs 0 0 (MQ below (qw_Qi D r c g (f_X7_throwsIf a1 a2) (g_X7_throwsIf S a1 a2)) [.ref (r 143), .int a1, .int a2].toArray s 0 0 (qw_A r)) (F0 m 9 ls []) := by
    intro S_1 H locs ls eS_1 hP hS hl
    refine lv_iload_n hx hb dX7_throwsIf_9 rfl (lv_at hl 1 rfl) ?_
    exact wx_zret hx hb hret hlk hK hP hS (qn_bool hz) (by subst eS_1; unfold f_X7_throwsIf; exact rfl) (by subst eS_1; unfold g_X7_throwsIf; exact rfl) dX7_throwsIf_10
  refine lv_iload_n hx hb dX7_throwsIf_0 rfl (lv_at hl 1 rfl) ?_
  refine lv_if_eq (tgt := 9) hx hb dX7_throwsIf_1 (by decide) (fun c_1 => ?_) (fun c_1 => ?_)
  · exact J_9 _ _ _ _ (by rw [if_pos c_1]) hP hS (lv_sub hl [0, 1, 2] rfl)
  · refine lv_aload_n hx hb dX7_throwsIf_4 rfl (lv_at hl 0 rfl) ?_
    refine lv_iload_n hx hb dX7_throwsIf_5 rfl (lv_at hl 2 rfl) ?_
    refine wx_put hr hx hb hts hiX7 tyX7 tyX7_ok nmX7 hown hK hP hS 143 (by decide) qc_143 rfl 0 (by decide) (hts (.fieldLink RX7 99 "PriceEdictModel" "thrown" "I") (by decide +kernel)) rfl (by decide +kernel) (fun _ => rfl) (Nat.le_of_ble_eq_true rfl) dX7_throwsIf_6 (fun H locs hP hS => ?_)
    exact J_9 _ _ _ _ (by rw [if_neg c_1]) hP hS (lv_sub hl [0, 1, 2] rfl)
theorem fr_X7_throwsIf (S : qw_St) (a1 a2 : Int32) {k : Nat} (j : Nat) (h : k ≠ 143 ∨ j ≠ 0) : g_X7_throwsIf S a1 a2 k j = S k j := by
  unfold g_X7_throwsIf
  repeat' (first | rfl | rw [up2_ne _ _ h] | split)
theorem tg_0 {S : qw_St} {a1 a2 : Int32} (h : a1 = 0) : g_X7_throwsIf S a1 a2 = S := by unfold g_X7_throwsIf; rw [if_pos h]
theorem tg_1 {S : qw_St} {a1 a2 : Int32} (h : ¬ a1 = 0) : g_X7_throwsIf S a1 a2 = up2 S 143 0 a2 := by unfold g_X7_throwsIf; rw [if_neg h]
def f_X7_in (a0 : Int32) (a1 : Int32) (a2 : Int32) : Int32 := (if a0 < a1 then (0 : Int32) else (if a2 < a0 then (0 : Int32) else (1 : Int32)))
set_option maxHeartbeats 4000000 in
set_option maxRecDepth 100000 in
theorem c_X7_in (l : Launch) (D : va_G) {r : Nat → Nat} (c : Nat → ClassId) (g : Nat → Int64) (hr : qw_inj r) (S : qw_St) (a0 : Int32) (a1 : Int32) (a2 : Int32) : MI l D r c g yX7_in wsX7_in ({ frames := 0, cells := 0, slots := 0, locals := 0 }) [.int a0, .int a1, .int a2] S (f_X7_in a0 a1 a2) S := by
  refine wx_of (cc := cX7_in) (nL := 3) (ret := (some .boolean)) (lvs := [(0, .int a0), (1, .int a1), (2, .int a2)]) (by decide) rfl rfl (Nat.le_of_ble_eq_true rfl) ?_
  intro p e s m below meth c0 ls hx hb hret hml hts hown hlk hK hP hS hl
  have hP : qw_P D r c g S s.heap := hP
  refine lv_iload_n hx hb dX7_in_0 rfl (lv_at hl 0 rfl) ?_
  refine lv_iload_n hx hb dX7_in_1 rfl (lv_at hl 1 rfl) ?_
  refine lv_icmp_lt (tgt := 14) hx hb dX7_in_2 (by decide) (fun c_2 => ?_) (fun c_2 => ?_)
  · refine lv_iconst (v := 0) hx hb dX7_in_14 (by decide) ?_
    exact wx_zret hx hb hret hlk hK hP hS rfl (by unfold f_X7_in; rw [if_pos c_2]) rfl dX7_in_15
  · refine lv_iload_n hx hb dX7_in_5 rfl (lv_at hl 0 rfl) ?_
    refine lv_iload_n hx hb dX7_in_6 rfl (lv_at hl 2 rfl) ?_
    refine lv_icmp_gt (tgt := 14) hx hb dX7_in_7 (by decide) (fun c_7 => ?_) (fun c_7 => ?_)
    · refine lv_iconst (v := 0) hx hb dX7_in_14 (by decide) ?_
      exact wx_zret hx hb hret hlk hK hP hS rfl (by unfold f_X7_in; rw [if_neg c_2, if_pos c_7]) rfl dX7_in_15
    · refine lv_iconst (v := 1) hx hb dX7_in_10 (by decide) ?_
      refine lv_goto (tgt := 15) hx hb dX7_in_11 (by decide) ?_
      exact wx_zret hx hb hret hlk hK hP hS rfl (by unfold f_X7_in; rw [if_neg c_2, if_neg c_7]) rfl dX7_in_15
theorem in_b (a0 a1 a2 : Int32) : f_X7_in a0 a1 a2 = 0 ∨ f_X7_in a0 a1 a2 = 1 := by unfold f_X7_in; split; exact Or.inl rfl; split; exact Or.inl rfl; exact Or.inr rfl
theorem in_t {a0 a1 a2 : Int32} (h : ¬ f_X7_in a0 a1 a2 = 0) : ¬ a0 < a1 ∧ ¬ a2 < a0 := by
  unfold f_X7_in at h
  split at h
  · exact absurd rfl h
  · split at h
    · exact absurd rfl h
    · constructor <;> assumption
theorem in_f {a0 a1 a2 : Int32} (h : f_X7_in a0 a1 a2 = 0) : a0 < a1 ∨ a2 < a0 := by
  unfold f_X7_in at h
  split at h
  · exact Or.inl (by assumption)
  · split at h
    · exact Or.inr (by assumption)
    · exact absurd h (by decide)
def f_X7_noLine (a0 : Int32) : Int32 := (if (f_X7_in a0 (0 : Int32) (29 : Int32)) = 0 then (1 : Int32) else (0 : Int32))
set_option maxHeartbeats 4000000 in
set_option maxRecDepth 100000 in
theorem c_X7_noLine (l : Launch) (D : va_G) {r : Nat → Nat} (c : Nat → ClassId) (g : Nat → Int64) (hr : qw_inj r) (S : qw_St) (a0 : Int32) : MI l D r c g yX7_noLine wsX7_noLine ({ frames := 1, cells := 0, slots := 0, locals := 22 }) [.int a0] S (f_X7_noLine a0) S := by
  refine wx_of (cc := cX7_noLine) (nL := 1) (ret := (some .boolean)) (lvs := [(0, .int a0)]) (by decide) rfl rfl (Nat.le_of_ble_eq_true rfl) ?_
  intro p e s m below meth c0 ls hx hb hret hml hts hown hlk hK hP hS hl
  have hP : qw_P D r c g S s.heap := hP
  refine lv_iload_n hx hb dX7_noLine_0 rfl (lv_at hl 0 rfl) ?_
  refine lv_iconst (v := 0) hx hb dX7_noLine_1 (by decide) ?_
  refine lv_bipush (v := 29) hx hb dX7_noLine_2 (by decide) ?_
  refine wc_iS (As := [.int a0, .int (0 : Int32), .int (29 : Int32)]) (rest := []) ⟨hx, hb, hml, hown, hts⟩ (c_X7_in l D c g hr S a0 (0 : Int32) (29 : Int32)) (va_cwS 3 hts gX7_noLine_X7_in rfl rfl rfl (by decide +kernel) ⟨Nat.le_of_ble_eq_true rfl, Nat.le_of_ble_eq_true rfl⟩) hK hP hS (fun _ h => h) rfl hl.1 rfl (lv_room (Nat.le_of_ble_eq_true rfl)) dX7_noLine_4 ⟨Nat.zero_le _, Nat.zero_le _⟩ (fun H locs hP hS => ?_)
  refine lv_if_ne (tgt := 14) hx hb dX7_noLine_7 (by decide) (fun c_7 => ?_) (fun c_7 => ?_)
  · refine lv_iconst (v := 0) hx hb dX7_noLine_14 (by decide) ?_
    exact wx_zret hx hb hret hlk hK hP hS rfl (by unfold f_X7_noLine; rw [if_neg c_7]) rfl dX7_noLine_15
  · refine lv_iconst (v := 1) hx hb dX7_noLine_10 (by decide) ?_
    refine lv_goto (tgt := 15) hx hb dX7_noLine_11 (by decide) ?_
    exact wx_zret hx hb hret hlk hK hP hS rfl (by unfold f_X7_noLine; rw [if_pos c_7]) rfl dX7_noLine_15
theorem noLine_b (a0 : Int32) : f_X7_noLine a0 = 0 ∨ f_X7_noLine a0 = 1 := by unfold f_X7_noLine; split; exact Or.inr rfl; exact Or.inl rfl
def f_X7_noThing (a0 : Int32) : Int32 := (if (f_X7_in a0 (0 : Int32) (5 : Int32)) = 0 then (1 : Int32) else (0 : Int32))
set_option maxHeartbeats 4000000 in
set_option maxRecDepth 100000 in
theorem c_X7_noThing (l : Launch) (D : va_G) {r : Nat → Nat} (c : Nat → ClassId) (g : Nat → Int64) (hr : qw_inj r) (S : qw_St) (a0 : Int32) : MI l D r c g yX7_noThing wsX7_noThing ({ frames := 1, cells := 0, slots := 0, locals := 22 }) [.int a0] S (f_X7_noThing a0) S := by
  refine wx_of (cc := cX7_noThing) (nL := 1) (ret := (some .boolean)) (lvs := [(0, .int a0)]) (by decide) rfl rfl (Nat.le_of_ble_eq_true rfl) ?_
  intro p e s m below meth c0 ls hx hb hret hml hts hown hlk hK hP hS hl
  have hP : qw_P D r c g S s.heap := hP
  refine lv_iload_n hx hb dX7_noThing_0 rfl (lv_at hl 0 rfl) ?_
  refine lv_iconst (v := 0) hx hb dX7_noThing_1 (by decide) ?_
  refine lv_iconst (v := 5) hx hb dX7_noThing_2 (by decide) ?_
  refine wc_iS (As := [.int a0, .int (0 : Int32), .int (5 : Int32)]) (rest := []) ⟨hx, hb, hml, hown, hts⟩ (c_X7_in l D c g hr S a0 (0 : Int32) (5 : Int32)) (va_cwS 3 hts gX7_noThing_X7_in rfl rfl rfl (by decide +kernel) ⟨Nat.le_of_ble_eq_true rfl, Nat.le_of_ble_eq_true rfl⟩) hK hP hS (fun _ h => h) rfl hl.1 rfl (lv_room (Nat.le_of_ble_eq_true rfl)) dX7_noThing_3 ⟨Nat.zero_le _, Nat.zero_le _⟩ (fun H locs hP hS => ?_)
  refine lv_if_ne (tgt := 13) hx hb dX7_noThing_6 (by decide) (fun c_6 => ?_) (fun c_6 => ?_)
  · refine lv_iconst (v := 0) hx hb dX7_noThing_13 (by decide) ?_
    exact wx_zret hx hb hret hlk hK hP hS rfl (by unfold f_X7_noThing; rw [if_neg c_6]) rfl dX7_noThing_14
  · refine lv_iconst (v := 1) hx hb dX7_noThing_9 (by decide) ?_
    refine lv_goto (tgt := 14) hx hb dX7_noThing_10 (by decide) ?_
    exact wx_zret hx hb hret hlk hK hP hS rfl (by unfold f_X7_noThing; rw [if_pos c_6]) rfl dX7_noThing_14
theorem noThing_b (a0 : Int32) : f_X7_noThing a0 = 0 ∨ f_X7_noThing a0 = 1 := by unfold f_X7_noThing; split; exact Or.inr rfl; exact Or.inl rfl
theorem noThing_in {a0 : Int32} (h : f_X7_noThing a0 = 0) : vp_in a0 6 := by
  unfold f_X7_noThing at h
  split at h
  · exact absurd h (by decide)
  · next q =>
    have := in_t q
    rw [vp_in_iff]
    rw [Int32.lt_iff_toInt_lt, Int32.lt_iff_toInt_lt] at this
    have h0 : (0 : Int32).toInt = 0 := rfl
    have h5 : (5 : Int32).toInt = 5 := rfl
    omega
def f_X7_noTown (S : qw_St) (a1 : Int32) : Int32 := (if (f_X7_in a1 (0 : Int32) ((S 143 26) - (1 : Int32))) = 0 then (1 : Int32) else (0 : Int32))
set_option maxHeartbeats 4000000 in
set_option maxRecDepth 100000 in
theorem c_X7_noTown (l : Launch) (D : va_G) {r : Nat → Nat} (c : Nat → ClassId) (g : Nat → Int64) (hr : qw_inj r) (S : qw_St) (a1 : Int32) : MI l D r c g yX7_noTown wsX7_noTown ({ frames := 1, cells := 0, slots := 0, locals := 22 }) [.ref (r 143), .int a1] S (f_X7_noTown S a1) S := by
  have hiX7 : ∀ w ∈ wsX70, w ∈ wsX7_noTown := by decide +kernel
  refine wx_of (cc := cX7_noTown) (nL := 2) (ret := (some .boolean)) (lvs := [(0, .ref (r 143)), (1, .int a1)]) (by decide) rfl rfl (Nat.le_of_ble_eq_true rfl) ?_
  intro p e s m below meth c0 ls hx hb hret hml hts hown hlk hK hP hS hl
  have hP : qw_P D r c g S s.heap := hP
  refine lv_iload_n hx hb dX7_noTown_0 rfl (lv_at hl 1 rfl) ?_
  refine lv_iconst (v := 0) hx hb dX7_noTown_1 (by decide) ?_
  refine lv_aload_n hx hb dX7_noTown_2 rfl (lv_at hl 0 rfl) ?_
  refine wx_get hx hb hts hiX7 hown hK hP 143 (by decide) qc_143 rfl 26 (by decide) (hts (.fieldLink RX7 199 "PriceEdictModel" "towns" "I") (by decide +kernel)) rfl dX7_noTown_3 ?_
  refine lv_iconst (v := 1) hx hb dX7_noTown_6 (by decide) ?_
  refine lv_isub hx hb dX7_noTown_7 ?_
  refine wc_iS (As := [.int a1, .int (0 : Int32), .int ((S 143 26) - (1 : Int32))]) (rest := []) ⟨hx, hb, hml, hown, hts⟩ (c_X7_in l D c g hr S a1 (0 : Int32) ((S 143 26) - (1 : Int32))) (va_cwS 3 hts gX7_noTown_X7_in rfl rfl rfl (by decide +kernel) ⟨Nat.le_of_ble_eq_true rfl, Nat.le_of_ble_eq_true rfl⟩) hK hP hS (fun _ h => h) rfl hl.1 rfl (lv_room (Nat.le_of_ble_eq_true rfl)) dX7_noTown_8 ⟨Nat.zero_le _, Nat.zero_le _⟩ (fun H locs hP hS => ?_)
  refine lv_if_ne (tgt := 18) hx hb dX7_noTown_11 (by decide) (fun c_11 => ?_) (fun c_11 => ?_)
  · refine lv_iconst (v := 0) hx hb dX7_noTown_18 (by decide) ?_
    exact wx_zret hx hb hret hlk hK hP hS rfl (by unfold f_X7_noTown; rw [if_neg c_11]) rfl dX7_noTown_19
  · refine lv_iconst (v := 1) hx hb dX7_noTown_14 (by decide) ?_
    refine lv_goto (tgt := 19) hx hb dX7_noTown_15 (by decide) ?_
    exact wx_zret hx hb hret hlk hK hP hS rfl (by unfold f_X7_noTown; rw [if_pos c_11]) rfl dX7_noTown_19
theorem noTown_b (S : qw_St) (a1 : Int32) : f_X7_noTown S a1 = 0 ∨ f_X7_noTown S a1 = 1 := by unfold f_X7_noTown; split; exact Or.inr rfl; exact Or.inl rfl
theorem noTown_in {S : qw_St} {a1 : Int32} (hz : qz (S 143 26) 8) (h : f_X7_noTown S a1 = 0) : vp_in a1 8 := by
  obtain ⟨m, hm, em⟩ := hz
  unfold f_X7_noTown at h
  split at h
  · exact absurd h (by decide)
  · next q =>
    have q2 := in_t q
    rw [vp_in_iff]
    rw [em] at q2
    rw [Int32.lt_iff_toInt_lt, Int32.lt_iff_toInt_lt] at q2
    have h0 : (0 : Int32).toInt = 0 := rfl
    have h1 : (nI m - 1).toInt = (m : Int) - 1 := by
      have := pk_sub_toInt (a := m) (b := 1) (by omega) (by omega)
      exact this
    omega
def g_X7_stone (S : qw_St) (a1 : Int32) (a2 : Int32) (a3 : Int32) (a4 : Int32) (a5 : Int32) : qw_St := (if (f_X7_noLine a1) = 0 then (if (if (f_X7_in a2 (-1 : Int32) (9 : Int32)) = 0 then (1 : Int32) else (if (f_X7_in a3 (-1 : Int32) (9 : Int32)) = 0 then (1 : Int32) else (if (f_X7_in a4 (-1 : Int32) (9 : Int32)) = 0 then (1 : Int32) else (if (f_X7_in a5 (-1 : Int32) (9 : Int32)) = 0 then (1 : Int32) else (0 : Int32))))) = 0 then (if (if (S 143 6) = (60 : Int32) then (1 : Int32) else (0 : Int32)) = 0 then (up2 (up2 (up2 (up2 (up2 (up2 (up2 (up2 (g_X7_throwsIf (g_X7_throwsIf (g_X7_throwsIf (up2 S 143 0 (0 : Int32)) (f_X7_noLine a1) (1 : Int32)) (if (f_X7_in a2 (-1 : Int32) (9 : Int32)) = 0 then (1 : Int32) else (if (f_X7_in a3 (-1 : Int32) (9 : Int32)) = 0 then (1 : Int32) else (if (f_X7_in a4 (-1 : Int32) (9 : Int32)) = 0 then (1 : Int32) else (if (f_X7_in a5 (-1 : Int32) (9 : Int32)) = 0 then (1 : Int32) else (0 : Int32))))) (2 : Int32)) (if (S 143 6) = (60 : Int32) then (1 : Int32) else (0 : Int32)) (3 : Int32)) 144 (S 143 6).toNatClampNeg a1) 145 ((4 : Int32) * (S 143 6)).toNatClampNeg a2) 145 (((4 : Int32) * (S 143 6)) + (1 : Int32)).toNatClampNeg a3) 145 (((4 : Int32) * (S 143 6)) + (2 : Int32)).toNatClampNeg a4) 145 (((4 : Int32) * (S 143 6)) + (3 : Int32)).toNatClampNeg a5) 146 (S 143 6).toNatClampNeg (S 143 1)) 147 (S 143 6).toNatClampNeg (-1 : Int32)) 143 6 ((S 143 6) + (1 : Int32))) else (g_X7_throwsIf (g_X7_throwsIf (g_X7_throwsIf (up2 S 143 0 (0 : Int32)) (f_X7_noLine a1) (1 : Int32)) (if (f_X7_in a2 (-1 : Int32) (9 : Int32)) = 0 then (1 : Int32) else (if (f_X7_in a3 (-1 : Int32) (9 : Int32)) = 0 then (1 : Int32) else (if (f_X7_in a4 (-1 : Int32) (9 : Int32)) = 0 then (1 : Int32) else (if (f_X7_in a5 (-1 : Int32) (9 : Int32)) = 0 then (1 : Int32) else (0 : Int32))))) (2 : Int32)) (if (S 143 6) = (60 : Int32) then (1 : Int32) else (0 : Int32)) (3 : Int32))) else (g_X7_throwsIf (g_X7_throwsIf (up2 S 143 0 (0 : Int32)) (f_X7_noLine a1) (1 : Int32)) (if (f_X7_in a2 (-1 : Int32) (9 : Int32)) = 0 then (1 : Int32) else (if (f_X7_in a3 (-1 : Int32) (9 : Int32)) = 0 then (1 : Int32) else (if (f_X7_in a4 (-1 : Int32) (9 : Int32)) = 0 then (1 : Int32) else (if (f_X7_in a5 (-1 : Int32) (9 : Int32)) = 0 then (1 : Int32) else (0 : Int32))))) (2 : Int32))) else (g_X7_throwsIf (up2 S 143 0 (0 : Int32)) (f_X7_noLine a1) (1 : Int32)))
def f_X7_stone (S : qw_St) (a1 : Int32) (a2 : Int32) (a3 : Int32) (a4 : Int32) (a5 : Int32) : Int32 := (if (f_X7_noLine a1) = 0 then (if (if (f_X7_in a2 (-1 : Int32) (9 : Int32)) = 0 then (1 : Int32) else (if (f_X7_in a3 (-1 : Int32) (9 : Int32)) = 0 then (1 : Int32) else (if (f_X7_in a4 (-1 : Int32) (9 : Int32)) = 0 then (1 : Int32) else (if (f_X7_in a5 (-1 : Int32) (9 : Int32)) = 0 then (1 : Int32) else (0 : Int32))))) = 0 then (if (if (S 143 6) = (60 : Int32) then (1 : Int32) else (0 : Int32)) = 0 then (((S 143 6) + (1 : Int32)) - (1 : Int32)) else (0 : Int32)) else (0 : Int32)) else (0 : Int32))
set_option maxHeartbeats 4000000 in
set_option maxRecDepth 100000 in
theorem c_X7_stone (l : Launch) (D : va_G) {r : Nat → Nat} (c : Nat → ClassId) (g : Nat → Int64) (hr : qw_inj r) (S : qw_St) (a1 : Int32) (a2 : Int32) (a3 : Int32) (a4 : Int32) (a5 : Int32) (hI : InvM S) : MI l D r c g yX7_stone wsX7_stone ({ frames := 2, cells := 0, slots := 0, locals := 42 }) [.ref (r 143), .int a1, .int a2, .int a3, .int a4, .int a5] S (f_X7_stone S a1 a2 a3 a4 a5) (g_X7_stone S a1 a2 a3 a4 a5) := by
  have hiX7 : ∀ w ∈ wsX70, w ∈ wsX7_stone := by decide +kernel
  refine wx_of (cc := cX7_stone) (nL := 6) (ret := (some .int)) (lvs := [(0, .ref (r 143)), (1, .int a1), (2, .int a2), (3, .int a3), (4, .int a4), (5, .int a5)]) (by decide) rfl rfl (Nat.le_of_ble_eq_true rfl) ?_
  intro p e s m below meth c0 ls hx hb hret hml hts hown hlk hK hP hS hl
  obtain ⟨m0, hm0, em0⟩ := id hI.1
  have hP : qw_P D r c g S s.heap := hP
  refine lv_aload_n hx hb dX7_stone_0 rfl (lv_at hl 0 rfl) ?_
  refine lv_iconst (v := 0) hx hb dX7_stone_1 (by decide) ?_
  refine wx_put hr hx hb hts hiX7 tyX7 tyX7_ok nmX7 hown hK hP hS 143 (by decide) qc_143 rfl 0 (by decide) (hts (.fieldLink RX7 99 "PriceEdictModel" "thrown" "I") (by decide +kernel)) rfl (by decide +kernel) (fun _ => rfl) (Nat.le_of_ble_eq_true rfl) dX7_stone_2 (fun H locs hP hS => ?_)
  refine lv_aload_n hx hb dX7_stone_5 rfl (lv_at hl 0 rfl) ?_
  refine lv_iload_n hx hb dX7_stone_6 rfl (lv_at hl 1 rfl) ?_
  refine wc_iS (As := [.int a1]) (rest := [.ref (r 143)]) ⟨hx, hb, hml, hown, hts⟩ (c_X7_noLine l D c g hr (up2 S 143 0 (0 : Int32)) a1) (va_cwS 1 hts gX7_stone_X7_noLine rfl rfl rfl (by decide +kernel) ⟨Nat.le_of_ble_eq_true rfl, Nat.le_of_ble_eq_true rfl⟩) hK hP hS (fun _ h => h) rfl hl.1 rfl (lv_room (Nat.le_of_ble_eq_true rfl)) dX7_stone_7 ⟨Nat.zero_le _, Nat.zero_le _⟩ (fun H locs hP hS => ?_)
  refine lv_iconst (v := 1) hx hb dX7_stone_10 (by decide) ?_
  refine wc_iV (k := 143) (C := RX7) (As := [.int (f_X7_noLine a1), .int (1 : Int32)]) (rest := []) ⟨hx, hb, hml, hown, hts⟩ (c_X7_throwsIf l D c g hr (up2 S 143 0 (0 : Int32)) (f_X7_noLine a1) (1 : Int32) (noLine_b _)) (cwV 2 hts gX7_stone_X7_throwsIf rfl rfl rfl (by decide +kernel) ⟨Nat.le_of_ble_eq_true rfl, Nat.le_of_ble_eq_true rfl⟩) (wx_recv hK hP (by decide) qc_143 rfl) hK hP hS (fun _ h => h) rfl hl.1 rfl (lv_room (Nat.le_of_ble_eq_true rfl)) dX7_stone_11 ⟨Nat.zero_le _, Nat.zero_le _⟩ (fun H locs hP hS => ?_)
  refine lv_tope (f_X7_noLine a1) rfl ?_
  refine lv_if_ne (tgt := 94) hx hb dX7_stone_14 (by decide) (fun c_14 => ?_) (fun c_14 => ?_)
  · refine lv_iconst (v := 0) hx hb dX7_stone_94 (by decide) ?_
    exact wx_iret hx hb hret hlk hK hP hS (by unfold f_X7_stone; rw [if_neg c_14]) (by unfold g_X7_stone; rw [if_neg c_14]) dX7_stone_95
  · have J_65 : ∀ (v_1 : Int32) (H : Heap) (locs : List Loc) (ls : Array Slot) (ev_1 : v_1 = (if (f_X7_in a2 (-1 : Int32) (9 : Int32)) = 0 then (1 : Int32) else (if (f_X7_in a3 (-1 : Int32) (9 : Int32)) = 0 then (1 : Int32) else (if (f_X7_in a4 (-1 : Int32) (9 : Int32)) = 0 then (1 : Int32) else (if (f_X7_in a5 (-1 : Int32) (9 : Int32)) = 0 then (1 : Int32) else (0 : Int32)))))), qw_P D r c g (g_X7_throwsIf (up2 S 143 0 (0 : Int32)) (f_X7_noLine a1) (1 : Int32)) H → va_S (qw_A r) s.heap H locs → lv_has ls 6 [(0, .ref (r 143)), (1, .int a1), (2, .int a2), (3, .int a3), (4, .int a4), (5, .int a5)] → W p l e ({ frames := 2, cells := 0, slots := 0, locals := 42 }) s m [.ref (r 143), .int a1, .int a2, .int a3, .int a4, .int a5].toArray below meth c0 H locs 0 0 (MQ below (qw_Qi D r c g (f_X7_stone S a1 a2 a3 a4 a5) (g_X7_stone S a1 a2 a3 a4 a5)) [.ref (r 143), .int a1, .int a2, .int a3, .int a4, .int a5].toArray s 0 0 (qw_A r)) (F0 m 65 ls [.int v_1, .ref (r 143)]) := by
      intro v_1 H locs ls ev_1 hP hS hl
      refine lv_iconst (v := 2) hx hb dX7_stone_65 (by decide) ?_
      refine wc_iV (k := 143) (C := RX7) (As := [.int v_1, .int (2 : Int32)]) (rest := []) ⟨hx, hb, hml, hown, hts⟩ (c_X7_throwsIf l D c g hr (g_X7_throwsIf (up2 S 143 0 (0 : Int32)) (f_X7_noLine a1) (1 : Int32)) v_1 (2 : Int32) (by rw [ev_1]; repeat' (first | split | exact Or.inl rfl | exact Or.inr rfl))) (cwV 2 hts gX7_stone_X7_throwsIf rfl rfl rfl (by decide +kernel) ⟨Nat.le_of_ble_eq_true rfl, Nat.le_of_ble_eq_true rfl⟩) (wx_recv hK hP (by decide) qc_143 rfl) hK hP hS (fun _ h => h) rfl hl.1 rfl (lv_room (Nat.le_of_ble_eq_true rfl)) dX7_stone_66 ⟨Nat.zero_le _, Nat.zero_le _⟩ (fun H locs hP hS => ?_)
      refine lv_tope v_1 rfl ?_
      refine lv_if_ne (tgt := 94) hx hb dX7_stone_69 (by decide) (fun c_69 => ?_) (fun c_69 => ?_)
      · refine lv_iconst (v := 0) hx hb dX7_stone_94 (by decide) ?_
        exact wx_iret hx hb hret hlk hK hP hS (by subst ev_1; unfold f_X7_stone; rw [if_pos c_14, if_neg c_69]) (by subst ev_1; unfold g_X7_stone; rw [if_pos c_14, if_neg c_69]) dX7_stone_95
      · refine lv_aload_n hx hb dX7_stone_72 rfl (lv_at hl 0 rfl) ?_
        have J_87 : ∀ (v_2 : Int32) (H : Heap) (locs : List Loc) (ls : Array Slot) (ev_2 : v_2 = (if (S 143 6) = (60 : Int32) then (1 : Int32) else (0 : Int32))), qw_P D r c g (g_X7_throwsIf (g_X7_throwsIf (up2 S 143 0 (0 : Int32)) (f_X7_noLine a1) (1 : Int32)) v_1 (2 : Int32)) H → va_S (qw_A r) s.heap H locs → lv_has ls 6 [(0, .ref (r 143)), (1, .int a1), (2, .int a2), (3, .int a3), (4, .int a4), (5, .int a5)] → W p l e ({ frames := 2, cells := 0, slots := 0, locals := 42 }) s m [.ref (r 143), .int a1, .int a2, .int a3, .int a4, .int a5].toArray below meth c0 H locs 0 0 (MQ below (qw_Qi D r c g (f_X7_stone S a1 a2 a3 a4 a5) (g_X7_stone S a1 a2 a3 a4 a5)) [.ref (r 143), .int a1, .int a2, .int a3, .int a4, .int a5].toArray s 0 0 (qw_A r)) (F0 m 87 ls [.int v_2, .ref (r 143)]) := by
          intro v_2 H locs ls ev_2 hP hS hl
          refine lv_iconst (v := 3) hx hb dX7_stone_87 (by decide) ?_
          refine wc_iV (k := 143) (C := RX7) (As := [.int v_2, .int (3 : Int32)]) (rest := []) ⟨hx, hb, hml, hown, hts⟩ (c_X7_throwsIf l D c g hr (g_X7_throwsIf (g_X7_throwsIf (up2 S 143 0 (0 : Int32)) (f_X7_noLine a1) (1 : Int32)) v_1 (2 : Int32)) v_2 (3 : Int32) (by rw [ev_2]; repeat' (first | split | exact Or.inl rfl | exact Or.inr rfl))) (cwV 2 hts gX7_stone_X7_throwsIf rfl rfl rfl (by decide +kernel) ⟨Nat.le_of_ble_eq_true rfl, Nat.le_of_ble_eq_true rfl⟩) (wx_recv hK hP (by decide) qc_143 rfl) hK hP hS (fun _ h => h) rfl hl.1 rfl (lv_room (Nat.le_of_ble_eq_true rfl)) dX7_stone_88 ⟨Nat.zero_le _, Nat.zero_le _⟩ (fun H locs hP hS => ?_)
          refine lv_tope v_2 rfl ?_
          refine lv_if_eq (tgt := 96) hx hb dX7_stone_91 (by decide) (fun c_91 => ?_) (fun c_91 => ?_)
          · have hm1 : m0 < 60 := qi_ne60 em0 hm0 (qb0 (ev_2.symm.trans c_91))
            refine lv_aload_n hx hb dX7_stone_96 rfl (lv_at hl 0 rfl) ?_
            refine wx_get hx hb hts hiX7 hown hK hP 143 (by decide) qc_143 rfl 2 (by decide) (hts (.fieldLink RX7 9 "PriceEdictModel" "line" "[I") (by decide +kernel)) rfl dX7_stone_97 ?_
            refine lv_aload_n hx hb dX7_stone_100 rfl (lv_at hl 0 rfl) ?_
            refine wx_get hx hb hts hiX7 hown hK hP 143 (by decide) qc_143 rfl 6 (by decide) (hts (.fieldLink RX7 114 "PriceEdictModel" "stones" "I") (by decide +kernel)) rfl dX7_stone_101 ?_
            refine lv_tope (S 143 6) ((fr_X7_throwsIf (g_X7_throwsIf (g_X7_throwsIf (up2 S 143 0 (0 : Int32)) (f_X7_noLine a1) (1 : Int32)) v_1 (2 : Int32)) v_2 (3 : Int32) 6 (Or.inr (by decide))).trans ((fr_X7_throwsIf (g_X7_throwsIf (up2 S 143 0 (0 : Int32)) (f_X7_noLine a1) (1 : Int32)) v_1 (2 : Int32) 6 (Or.inr (by decide))).trans ((fr_X7_throwsIf (up2 S 143 0 (0 : Int32)) (f_X7_noLine a1) (1 : Int32) 6 (Or.inr (by decide))).trans ((up2_ne _ _ (Or.inr (by decide))))))) ?_
            refine lv_iload_n hx hb dX7_stone_104 rfl (lv_at hl 1 rfl) ?_
            refine wx_ist hr hx hb hK hP hS 144 (by decide) qc_144 (qi_in em0 hm1 (by decide)) dX7_stone_105 (fun H locs hP hS => ?_)
            refine lv_aload_n hx hb dX7_stone_106 rfl (lv_at hl 0 rfl) ?_
            refine wx_get hx hb hts hiX7 hown hK hP 143 (by decide) qc_143 rfl 3 (by decide) (hts (.fieldLink RX7 13 "PriceEdictModel" "figure" "[I") (by decide +kernel)) rfl dX7_stone_107 ?_
            refine lv_iconst (v := 4) hx hb dX7_stone_110 (by decide) ?_
            refine lv_aload_n hx hb dX7_stone_111 rfl (lv_at hl 0 rfl) ?_
            refine wx_get hx hb hts hiX7 hown hK hP 143 (by decide) qc_143 rfl 6 (by decide) (hts (.fieldLink RX7 114 "PriceEdictModel" "stones" "I") (by decide +kernel)) rfl dX7_stone_112 ?_
            refine lv_tope (S 143 6) ((up2_ne _ _ (Or.inl (by decide))).trans ((fr_X7_throwsIf (g_X7_throwsIf (g_X7_throwsIf (up2 S 143 0 (0 : Int32)) (f_X7_noLine a1) (1 : Int32)) v_1 (2 : Int32)) v_2 (3 : Int32) 6 (Or.inr (by decide))).trans ((fr_X7_throwsIf (g_X7_throwsIf (up2 S 143 0 (0 : Int32)) (f_X7_noLine a1) (1 : Int32)) v_1 (2 : Int32) 6 (Or.inr (by decide))).trans ((fr_X7_throwsIf (up2 S 143 0 (0 : Int32)) (f_X7_noLine a1) (1 : Int32) 6 (Or.inr (by decide))).trans ((up2_ne _ _ (Or.inr (by decide)))))))) ?_
            refine lv_imul hx hb dX7_stone_115 ?_
            refine lv_iload_n hx hb dX7_stone_116 rfl (lv_at hl 2 rfl) ?_
            refine wx_ist hr hx hb hK hP hS 145 (by decide) qc_145 (qi_40 em0 (by omega) (by decide)) dX7_stone_117 (fun H locs hP hS => ?_)
            refine lv_aload_n hx hb dX7_stone_118 rfl (lv_at hl 0 rfl) ?_
            refine wx_get hx hb hts hiX7 hown hK hP 143 (by decide) qc_143 rfl 3 (by decide) (hts (.fieldLink RX7 13 "PriceEdictModel" "figure" "[I") (by decide +kernel)) rfl dX7_stone_119 ?_
            refine lv_iconst (v := 4) hx hb dX7_stone_122 (by decide) ?_
            refine lv_aload_n hx hb dX7_stone_123 rfl (lv_at hl 0 rfl) ?_
            refine wx_get hx hb hts hiX7 hown hK hP 143 (by decide) qc_143 rfl 6 (by decide) (hts (.fieldLink RX7 114 "PriceEdictModel" "stones" "I") (by decide +kernel)) rfl dX7_stone_124 ?_
            refine lv_tope (S 143 6) ((up2_ne _ _ (Or.inl (by decide))).trans ((up2_ne _ _ (Or.inl (by decide))).trans ((fr_X7_throwsIf (g_X7_throwsIf (g_X7_throwsIf (up2 S 143 0 (0 : Int32)) (f_X7_noLine a1) (1 : Int32)) v_1 (2 : Int32)) v_2 (3 : Int32) 6 (Or.inr (by decide))).trans ((fr_X7_throwsIf (g_X7_throwsIf (up2 S 143 0 (0 : Int32)) (f_X7_noLine a1) (1 : Int32)) v_1 (2 : Int32) 6 (Or.inr (by decide))).trans ((fr_X7_throwsIf (up2 S 143 0 (0 : Int32)) (f_X7_noLine a1) (1 : Int32) 6 (Or.inr (by decide))).trans ((up2_ne _ _ (Or.inr (by decide))))))))) ?_
            refine lv_imul hx hb dX7_stone_127 ?_
            refine lv_iconst (v := 1) hx hb dX7_stone_128 (by decide) ?_
            refine lv_iadd hx hb dX7_stone_129 ?_
            refine lv_iload_n hx hb dX7_stone_130 rfl (lv_at hl 3 rfl) ?_
            refine wx_ist hr hx hb hK hP hS 145 (by decide) qc_145 (qi_4c em0 (m := 1) rfl (by omega) (by decide)) dX7_stone_131 (fun H locs hP hS => ?_)
            refine lv_aload_n hx hb dX7_stone_132 rfl (lv_at hl 0 rfl) ?_
            refine wx_get hx hb hts hiX7 hown hK hP 143 (by decide) qc_143 rfl 3 (by decide) (hts (.fieldLink RX7 13 "PriceEdictModel" "figure" "[I") (by decide +kernel)) rfl dX7_stone_133 ?_
            refine lv_iconst (v := 4) hx hb dX7_stone_136 (by decide) ?_
            refine lv_aload_n hx hb dX7_stone_137 rfl (lv_at hl 0 rfl) ?_
            refine wx_get hx hb hts hiX7 hown hK hP 143 (by decide) qc_143 rfl 6 (by decide) (hts (.fieldLink RX7 114 "PriceEdictModel" "stones" "I") (by decide +kernel)) rfl dX7_stone_138 ?_
            refine lv_tope (S 143 6) ((up2_ne _ _ (Or.inl (by decide))).trans ((up2_ne _ _ (Or.inl (by decide))).trans ((up2_ne _ _ (Or.inl (by decide))).trans ((fr_X7_throwsIf (g_X7_throwsIf (g_X7_throwsIf (up2 S 143 0 (0 : Int32)) (f_X7_noLine a1) (1 : Int32)) v_1 (2 : Int32)) v_2 (3 : Int32) 6 (Or.inr (by decide))).trans ((fr_X7_throwsIf (g_X7_throwsIf (up2 S 143 0 (0 : Int32)) (f_X7_noLine a1) (1 : Int32)) v_1 (2 : Int32) 6 (Or.inr (by decide))).trans ((fr_X7_throwsIf (up2 S 143 0 (0 : Int32)) (f_X7_noLine a1) (1 : Int32) 6 (Or.inr (by decide))).trans ((up2_ne _ _ (Or.inr (by decide)))))))))) ?_
            refine lv_imul hx hb dX7_stone_141 ?_
            refine lv_iconst (v := 2) hx hb dX7_stone_142 (by decide) ?_
            refine lv_iadd hx hb dX7_stone_143 ?_
            refine lv_iload hx hb dX7_stone_144 (lv_at hl 4 rfl) ?_
            refine wx_ist hr hx hb hK hP hS 145 (by decide) qc_145 (qi_4c em0 (m := 2) rfl (by omega) (by decide)) dX7_stone_146 (fun H locs hP hS => ?_)
            refine lv_aload_n hx hb dX7_stone_147 rfl (lv_at hl 0 rfl) ?_
            refine wx_get hx hb hts hiX7 hown hK hP 143 (by decide) qc_143 rfl 3 (by decide) (hts (.fieldLink RX7 13 "PriceEdictModel" "figure" "[I") (by decide +kernel)) rfl dX7_stone_148 ?_
            refine lv_iconst (v := 4) hx hb dX7_stone_151 (by decide) ?_
            refine lv_aload_n hx hb dX7_stone_152 rfl (lv_at hl 0 rfl) ?_
            refine wx_get hx hb hts hiX7 hown hK hP 143 (by decide) qc_143 rfl 6 (by decide) (hts (.fieldLink RX7 114 "PriceEdictModel" "stones" "I") (by decide +kernel)) rfl dX7_stone_153 ?_
            refine lv_tope (S 143 6) ((up2_ne _ _ (Or.inl (by decide))).trans ((up2_ne _ _ (Or.inl (by decide))).trans ((up2_ne _ _ (Or.inl (by decide))).trans ((up2_ne _ _ (Or.inl (by decide))).trans ((fr_X7_throwsIf (g_X7_throwsIf (g_X7_throwsIf (up2 S 143 0 (0 : Int32)) (f_X7_noLine a1) (1 : Int32)) v_1 (2 : Int32)) v_2 (3 : Int32) 6 (Or.inr (by decide))).trans ((fr_X7_throwsIf (g_X7_throwsIf (up2 S 143 0 (0 : Int32)) (f_X7_noLine a1) (1 : Int32)) v_1 (2 : Int32) 6 (Or.inr (by decide))).trans ((fr_X7_throwsIf (up2 S 143 0 (0 : Int32)) (f_X7_noLine a1) (1 : Int32) 6 (Or.inr (by decide))).trans ((up2_ne _ _ (Or.inr (by decide))))))))))) ?_
            refine lv_imul hx hb dX7_stone_156 ?_
            refine lv_iconst (v := 3) hx hb dX7_stone_157 (by decide) ?_
            refine lv_iadd hx hb dX7_stone_158 ?_
            refine lv_iload hx hb dX7_stone_159 (lv_at hl 5 rfl) ?_
            refine wx_ist hr hx hb hK hP hS 145 (by decide) qc_145 (qi_4c em0 (m := 3) rfl (by omega) (by decide)) dX7_stone_161 (fun H locs hP hS => ?_)
            refine lv_aload_n hx hb dX7_stone_162 rfl (lv_at hl 0 rfl) ?_
            refine wx_get hx hb hts hiX7 hown hK hP 143 (by decide) qc_143 rfl 4 (by decide) (hts (.fieldLink RX7 16 "PriceEdictModel" "foundOn" "[I") (by decide +kernel)) rfl dX7_stone_163 ?_
            refine lv_aload_n hx hb dX7_stone_166 rfl (lv_at hl 0 rfl) ?_
            refine wx_get hx hb hts hiX7 hown hK hP 143 (by decide) qc_143 rfl 6 (by decide) (hts (.fieldLink RX7 114 "PriceEdictModel" "stones" "I") (by decide +kernel)) rfl dX7_stone_167 ?_
            refine lv_tope (S 143 6) ((up2_ne _ _ (Or.inl (by decide))).trans ((up2_ne _ _ (Or.inl (by decide))).trans ((up2_ne _ _ (Or.inl (by decide))).trans ((up2_ne _ _ (Or.inl (by decide))).trans ((up2_ne _ _ (Or.inl (by decide))).trans ((fr_X7_throwsIf (g_X7_throwsIf (g_X7_throwsIf (up2 S 143 0 (0 : Int32)) (f_X7_noLine a1) (1 : Int32)) v_1 (2 : Int32)) v_2 (3 : Int32) 6 (Or.inr (by decide))).trans ((fr_X7_throwsIf (g_X7_throwsIf (up2 S 143 0 (0 : Int32)) (f_X7_noLine a1) (1 : Int32)) v_1 (2 : Int32) 6 (Or.inr (by decide))).trans ((fr_X7_throwsIf (up2 S 143 0 (0 : Int32)) (f_X7_noLine a1) (1 : Int32) 6 (Or.inr (by decide))).trans ((up2_ne _ _ (Or.inr (by decide)))))))))))) ?_
            refine lv_aload_n hx hb dX7_stone_170 rfl (lv_at hl 0 rfl) ?_
            refine wx_get hx hb hts hiX7 hown hK hP 143 (by decide) qc_143 rfl 1 (by decide) (hts (.fieldLink RX7 117 "PriceEdictModel" "today" "I") (by decide +kernel)) rfl dX7_stone_171 ?_
            refine lv_tope (S 143 1) ((up2_ne _ _ (Or.inl (by decide))).trans ((up2_ne _ _ (Or.inl (by decide))).trans ((up2_ne _ _ (Or.inl (by decide))).trans ((up2_ne _ _ (Or.inl (by decide))).trans ((up2_ne _ _ (Or.inl (by decide))).trans ((fr_X7_throwsIf (g_X7_throwsIf (g_X7_throwsIf (up2 S 143 0 (0 : Int32)) (f_X7_noLine a1) (1 : Int32)) v_1 (2 : Int32)) v_2 (3 : Int32) 1 (Or.inr (by decide))).trans ((fr_X7_throwsIf (g_X7_throwsIf (up2 S 143 0 (0 : Int32)) (f_X7_noLine a1) (1 : Int32)) v_1 (2 : Int32) 1 (Or.inr (by decide))).trans ((fr_X7_throwsIf (up2 S 143 0 (0 : Int32)) (f_X7_noLine a1) (1 : Int32) 1 (Or.inr (by decide))).trans ((up2_ne _ _ (Or.inr (by decide)))))))))))) ?_
            refine wx_ist hr hx hb hK hP hS 146 (by decide) qc_146 (qi_in em0 hm1 (by decide)) dX7_stone_174 (fun H locs hP hS => ?_)
            refine lv_aload_n hx hb dX7_stone_175 rfl (lv_at hl 0 rfl) ?_
            refine wx_get hx hb hts hiX7 hown hK hP 143 (by decide) qc_143 rfl 5 (by decide) (hts (.fieldLink RX7 19 "PriceEdictModel" "struckOn" "[I") (by decide +kernel)) rfl dX7_stone_176 ?_
            refine lv_aload_n hx hb dX7_stone_179 rfl (lv_at hl 0 rfl) ?_
            refine wx_get hx hb hts hiX7 hown hK hP 143 (by decide) qc_143 rfl 6 (by decide) (hts (.fieldLink RX7 114 "PriceEdictModel" "stones" "I") (by decide +kernel)) rfl dX7_stone_180 ?_
            refine lv_tope (S 143 6) ((up2_ne _ _ (Or.inl (by decide))).trans ((up2_ne _ _ (Or.inl (by decide))).trans ((up2_ne _ _ (Or.inl (by decide))).trans ((up2_ne _ _ (Or.inl (by decide))).trans ((up2_ne _ _ (Or.inl (by decide))).trans ((up2_ne _ _ (Or.inl (by decide))).trans ((fr_X7_throwsIf (g_X7_throwsIf (g_X7_throwsIf (up2 S 143 0 (0 : Int32)) (f_X7_noLine a1) (1 : Int32)) v_1 (2 : Int32)) v_2 (3 : Int32) 6 (Or.inr (by decide))).trans ((fr_X7_throwsIf (g_X7_throwsIf (up2 S 143 0 (0 : Int32)) (f_X7_noLine a1) (1 : Int32)) v_1 (2 : Int32) 6 (Or.inr (by decide))).trans ((fr_X7_throwsIf (up2 S 143 0 (0 : Int32)) (f_X7_noLine a1) (1 : Int32) 6 (Or.inr (by decide))).trans ((up2_ne _ _ (Or.inr (by decide))))))))))))) ?_
            refine lv_iconst (v := (-1)) hx hb dX7_stone_183 (by decide) ?_
            refine wx_ist hr hx hb hK hP hS 147 (by decide) qc_147 (qi_in em0 hm1 (by decide)) dX7_stone_184 (fun H locs hP hS => ?_)
            refine lv_aload_n hx hb dX7_stone_185 rfl (lv_at hl 0 rfl) ?_
            refine lv_dup hx hb dX7_stone_186 rfl ?_
            refine wx_get hx hb hts hiX7 hown hK hP 143 (by decide) qc_143 rfl 6 (by decide) (hts (.fieldLink RX7 114 "PriceEdictModel" "stones" "I") (by decide +kernel)) rfl dX7_stone_187 ?_
            refine lv_tope (S 143 6) ((up2_ne _ _ (Or.inl (by decide))).trans ((up2_ne _ _ (Or.inl (by decide))).trans ((up2_ne _ _ (Or.inl (by decide))).trans ((up2_ne _ _ (Or.inl (by decide))).trans ((up2_ne _ _ (Or.inl (by decide))).trans ((up2_ne _ _ (Or.inl (by decide))).trans ((up2_ne _ _ (Or.inl (by decide))).trans ((fr_X7_throwsIf (g_X7_throwsIf (g_X7_throwsIf (up2 S 143 0 (0 : Int32)) (f_X7_noLine a1) (1 : Int32)) v_1 (2 : Int32)) v_2 (3 : Int32) 6 (Or.inr (by decide))).trans ((fr_X7_throwsIf (g_X7_throwsIf (up2 S 143 0 (0 : Int32)) (f_X7_noLine a1) (1 : Int32)) v_1 (2 : Int32) 6 (Or.inr (by decide))).trans ((fr_X7_throwsIf (up2 S 143 0 (0 : Int32)) (f_X7_noLine a1) (1 : Int32) 6 (Or.inr (by decide))).trans ((up2_ne _ _ (Or.inr (by decide)))))))))))))) ?_
            refine lv_iconst (v := 1) hx hb dX7_stone_190 (by decide) ?_
            refine lv_iadd hx hb dX7_stone_191 ?_
            refine wx_put hr hx hb hts hiX7 tyX7 tyX7_ok nmX7 hown hK hP hS 143 (by decide) qc_143 rfl 6 (by decide) (hts (.fieldLink RX7 114 "PriceEdictModel" "stones" "I") (by decide +kernel)) rfl (by decide +kernel) (fun _ => rfl) (Nat.le_of_ble_eq_true rfl) dX7_stone_192 (fun H locs hP hS => ?_)
            refine lv_aload_n hx hb dX7_stone_195 rfl (lv_at hl 0 rfl) ?_
            refine wx_get hx hb hts hiX7 hown hK hP 143 (by decide) qc_143 rfl 6 (by decide) (hts (.fieldLink RX7 114 "PriceEdictModel" "stones" "I") (by decide +kernel)) rfl dX7_stone_196 ?_
            refine lv_tope ((S 143 6) + (1 : Int32)) ((up2_same _ _ _ _)) ?_
            refine lv_iconst (v := 1) hx hb dX7_stone_199 (by decide) ?_
            refine lv_isub hx hb dX7_stone_200 ?_
            exact wx_iret hx hb hret hlk hK hP hS (by subst ev_2; subst ev_1; unfold f_X7_stone; rw [if_pos c_14, if_pos c_69, if_pos c_91]) (by subst ev_2; subst ev_1; unfold g_X7_stone; rw [if_pos c_14, if_pos c_69, if_pos c_91]) dX7_stone_201
          · refine lv_iconst (v := 0) hx hb dX7_stone_94 (by decide) ?_
            exact wx_iret hx hb hret hlk hK hP hS (by subst ev_2; subst ev_1; unfold f_X7_stone; rw [if_pos c_14, if_pos c_69, if_neg c_91]) (by subst ev_2; subst ev_1; unfold g_X7_stone; rw [if_pos c_14, if_pos c_69, if_neg c_91]) dX7_stone_95
        refine lv_aload_n hx hb dX7_stone_73 rfl (lv_at hl 0 rfl) ?_
        refine wx_get hx hb hts hiX7 hown hK hP 143 (by decide) qc_143 rfl 6 (by decide) (hts (.fieldLink RX7 114 "PriceEdictModel" "stones" "I") (by decide +kernel)) rfl dX7_stone_74 ?_
        refine lv_tope (S 143 6) ((fr_X7_throwsIf (g_X7_throwsIf (up2 S 143 0 (0 : Int32)) (f_X7_noLine a1) (1 : Int32)) v_1 (2 : Int32) 6 (Or.inr (by decide))).trans ((fr_X7_throwsIf (up2 S 143 0 (0 : Int32)) (f_X7_noLine a1) (1 : Int32) 6 (Or.inr (by decide))).trans ((up2_ne _ _ (Or.inr (by decide)))))) ?_
        refine lv_bipush (v := 60) hx hb dX7_stone_77 (by decide) ?_
        refine lv_icmp_ne (tgt := 86) hx hb dX7_stone_79 (by decide) (fun c_79 => ?_) (fun c_79 => ?_)
        · refine lv_iconst (v := 0) hx hb dX7_stone_86 (by decide) ?_
          exact J_87 _ _ _ _ (by rw [if_neg c_79]) hP hS (lv_sub hl [0, 1, 2, 3, 4, 5] rfl)
        · refine lv_iconst (v := 1) hx hb dX7_stone_82 (by decide) ?_
          refine lv_goto (tgt := 87) hx hb dX7_stone_83 (by decide) ?_
          exact J_87 _ _ _ _ (by rw [if_pos c_79]) hP hS (lv_sub hl [0, 1, 2, 3, 4, 5] rfl)
    refine lv_aload_n hx hb dX7_stone_17 rfl (lv_at hl 0 rfl) ?_
    refine lv_iload_n hx hb dX7_stone_18 rfl (lv_at hl 2 rfl) ?_
    refine lv_iconst (v := (-1)) hx hb dX7_stone_19 (by decide) ?_
    refine lv_bipush (v := 9) hx hb dX7_stone_20 (by decide) ?_
    refine wc_iS (As := [.int a2, .int (-1 : Int32), .int (9 : Int32)]) (rest := [.ref (r 143)]) ⟨hx, hb, hml, hown, hts⟩ (c_X7_in l D c g hr (g_X7_throwsIf (up2 S 143 0 (0 : Int32)) (f_X7_noLine a1) (1 : Int32)) a2 (-1 : Int32) (9 : Int32)) (va_cwS 3 hts gX7_stone_X7_in rfl rfl rfl (by decide +kernel) ⟨Nat.le_of_ble_eq_true rfl, Nat.le_of_ble_eq_true rfl⟩) hK hP hS (fun _ h => h) rfl hl.1 rfl (lv_room (Nat.le_of_ble_eq_true rfl)) dX7_stone_22 ⟨Nat.zero_le _, Nat.zero_le _⟩ (fun H locs hP hS => ?_)
    refine lv_if_eq (tgt := 60) hx hb dX7_stone_25 (by decide) (fun c_25 => ?_) (fun c_25 => ?_)
    · refine lv_iconst (v := 1) hx hb dX7_stone_60 (by decide) ?_
      refine lv_goto (tgt := 65) hx hb dX7_stone_61 (by decide) ?_
      exact J_65 _ _ _ _ (by rw [if_pos c_25]) hP hS (lv_sub hl [0, 1, 2, 3, 4, 5] rfl)
    · refine lv_iload_n hx hb dX7_stone_28 rfl (lv_at hl 3 rfl) ?_
      refine lv_iconst (v := (-1)) hx hb dX7_stone_29 (by decide) ?_
      refine lv_bipush (v := 9) hx hb dX7_stone_30 (by decide) ?_
      refine wc_iS (As := [.int a3, .int (-1 : Int32), .int (9 : Int32)]) (rest := [.ref (r 143)]) ⟨hx, hb, hml, hown, hts⟩ (c_X7_in l D c g hr (g_X7_throwsIf (up2 S 143 0 (0 : Int32)) (f_X7_noLine a1) (1 : Int32)) a3 (-1 : Int32) (9 : Int32)) (va_cwS 3 hts gX7_stone_X7_in rfl rfl rfl (by decide +kernel) ⟨Nat.le_of_ble_eq_true rfl, Nat.le_of_ble_eq_true rfl⟩) hK hP hS (fun _ h => h) rfl hl.1 rfl (lv_room (Nat.le_of_ble_eq_true rfl)) dX7_stone_32 ⟨Nat.zero_le _, Nat.zero_le _⟩ (fun H locs hP hS => ?_)
      refine lv_if_eq (tgt := 60) hx hb dX7_stone_35 (by decide) (fun c_35 => ?_) (fun c_35 => ?_)
      · refine lv_iconst (v := 1) hx hb dX7_stone_60 (by decide) ?_
        refine lv_goto (tgt := 65) hx hb dX7_stone_61 (by decide) ?_
        exact J_65 _ _ _ _ (by rw [if_neg c_25, if_pos c_35]) hP hS (lv_sub hl [0, 1, 2, 3, 4, 5] rfl)
      · refine lv_iload hx hb dX7_stone_38 (lv_at hl 4 rfl) ?_
        refine lv_iconst (v := (-1)) hx hb dX7_stone_40 (by decide) ?_
        refine lv_bipush (v := 9) hx hb dX7_stone_41 (by decide) ?_
        refine wc_iS (As := [.int a4, .int (-1 : Int32), .int (9 : Int32)]) (rest := [.ref (r 143)]) ⟨hx, hb, hml, hown, hts⟩ (c_X7_in l D c g hr (g_X7_throwsIf (up2 S 143 0 (0 : Int32)) (f_X7_noLine a1) (1 : Int32)) a4 (-1 : Int32) (9 : Int32)) (va_cwS 3 hts gX7_stone_X7_in rfl rfl rfl (by decide +kernel) ⟨Nat.le_of_ble_eq_true rfl, Nat.le_of_ble_eq_true rfl⟩) hK hP hS (fun _ h => h) rfl hl.1 rfl (lv_room (Nat.le_of_ble_eq_true rfl)) dX7_stone_43 ⟨Nat.zero_le _, Nat.zero_le _⟩ (fun H locs hP hS => ?_)
        refine lv_if_eq (tgt := 60) hx hb dX7_stone_46 (by decide) (fun c_46 => ?_) (fun c_46 => ?_)
        · refine lv_iconst (v := 1) hx hb dX7_stone_60 (by decide) ?_
          refine lv_goto (tgt := 65) hx hb dX7_stone_61 (by decide) ?_
          exact J_65 _ _ _ _ (by rw [if_neg c_25, if_neg c_35, if_pos c_46]) hP hS (lv_sub hl [0, 1, 2, 3, 4, 5] rfl)
        · refine lv_iload hx hb dX7_stone_49 (lv_at hl 5 rfl) ?_
          refine lv_iconst (v := (-1)) hx hb dX7_stone_51 (by decide) ?_
          refine lv_bipush (v := 9) hx hb dX7_stone_52 (by decide) ?_
          refine wc_iS (As := [.int a5, .int (-1 : Int32), .int (9 : Int32)]) (rest := [.ref (r 143)]) ⟨hx, hb, hml, hown, hts⟩ (c_X7_in l D c g hr (g_X7_throwsIf (up2 S 143 0 (0 : Int32)) (f_X7_noLine a1) (1 : Int32)) a5 (-1 : Int32) (9 : Int32)) (va_cwS 3 hts gX7_stone_X7_in rfl rfl rfl (by decide +kernel) ⟨Nat.le_of_ble_eq_true rfl, Nat.le_of_ble_eq_true rfl⟩) hK hP hS (fun _ h => h) rfl hl.1 rfl (lv_room (Nat.le_of_ble_eq_true rfl)) dX7_stone_54 ⟨Nat.zero_le _, Nat.zero_le _⟩ (fun H locs hP hS => ?_)
          refine lv_if_ne (tgt := 64) hx hb dX7_stone_57 (by decide) (fun c_57 => ?_) (fun c_57 => ?_)
          · refine lv_iconst (v := 0) hx hb dX7_stone_64 (by decide) ?_
            exact J_65 _ _ _ _ (by rw [if_neg c_25, if_neg c_35, if_neg c_46, if_neg c_57]) hP hS (lv_sub hl [0, 1, 2, 3, 4, 5] rfl)
          · refine lv_iconst (v := 1) hx hb dX7_stone_60 (by decide) ?_
            refine lv_goto (tgt := 65) hx hb dX7_stone_61 (by decide) ?_
            exact J_65 _ _ _ _ (by rw [if_neg c_25, if_neg c_35, if_neg c_46, if_pos c_57]) hP hS (lv_sub hl [0, 1, 2, 3, 4, 5] rfl)
theorem strike_in {S : qw_St} {a1 : Int32} (hz : qz (S 143 6) 60) (h : (if f_X7_in a1 0 (S 143 6 - 1) = 0 then (1 : Int32) else 0) = 0) : vp_in a1 60 := by
  obtain ⟨m0, hm0, em0⟩ := hz
  have q := in_t (qb0 h)
  rw [em0] at q
  rw [Int32.lt_iff_toInt_lt, Int32.lt_iff_toInt_lt] at q
  have h0 : (0 : Int32).toInt = 0 := rfl
  have h1 : (nI m0 - 1).toInt = (m0 : Int) - 1 := pk_sub_toInt (a := m0) (b := 1) (by omega) (by omega)
  rw [vp_in_iff]
  omega
def g_X7_strike (S : qw_St) (a1 : Int32) : qw_St := (if (if (f_X7_in a1 (0 : Int32) ((S 143 6) - (1 : Int32))) = 0 then (1 : Int32) else (0 : Int32)) = 0 then (if (S 147 a1.toNatClampNeg) < 0 then (up2 (g_X7_throwsIf (up2 S 143 0 (0 : Int32)) (if (f_X7_in a1 (0 : Int32) ((S 143 6) - (1 : Int32))) = 0 then (1 : Int32) else (0 : Int32)) (1 : Int32)) 147 a1.toNatClampNeg (S 143 1)) else (g_X7_throwsIf (up2 S 143 0 (0 : Int32)) (if (f_X7_in a1 (0 : Int32) ((S 143 6) - (1 : Int32))) = 0 then (1 : Int32) else (0 : Int32)) (1 : Int32))) else (g_X7_throwsIf (up2 S 143 0 (0 : Int32)) (if (f_X7_in a1 (0 : Int32) ((S 143 6) - (1 : Int32))) = 0 then (1 : Int32) else (0 : Int32)) (1 : Int32)))
def f_X7_strike (S : qw_St) (a1 : Int32) : Int32 := (if (if (f_X7_in a1 (0 : Int32) ((S 143 6) - (1 : Int32))) = 0 then (1 : Int32) else (0 : Int32)) = 0 then (if (S 147 a1.toNatClampNeg) < 0 then (1 : Int32) else (0 : Int32)) else (0 : Int32))
set_option maxHeartbeats 4000000 in
set_option maxRecDepth 100000 in
theorem c_X7_strike (l : Launch) (D : va_G) {r : Nat → Nat} (c : Nat → ClassId) (g : Nat → Int64) (hr : qw_inj r) (S : qw_St) (a1 : Int32) (hI : InvM S) : MI l D r c g yX7_strike wsX7_strike ({ frames := 1, cells := 0, slots := 0, locals := 22 }) [.ref (r 143), .int a1] S (f_X7_strike S a1) (g_X7_strike S a1) := by
  have hiX7 : ∀ w ∈ wsX70, w ∈ wsX7_strike := by decide +kernel
  refine wx_of (cc := cX7_strike) (nL := 2) (ret := (some .boolean)) (lvs := [(0, .ref (r 143)), (1, .int a1)]) (by decide) rfl rfl (Nat.le_of_ble_eq_true rfl) ?_
  intro p e s m below meth c0 ls hx hb hret hml hts hown hlk hK hP hS hl
  have hP : qw_P D r c g S s.heap := hP
  refine lv_aload_n hx hb dX7_strike_0 rfl (lv_at hl 0 rfl) ?_
  refine lv_iconst (v := 0) hx hb dX7_strike_1 (by decide) ?_
  refine wx_put hr hx hb hts hiX7 tyX7 tyX7_ok nmX7 hown hK hP hS 143 (by decide) qc_143 rfl 0 (by decide) (hts (.fieldLink RX7 99 "PriceEdictModel" "thrown" "I") (by decide +kernel)) rfl (by decide +kernel) (fun _ => rfl) (Nat.le_of_ble_eq_true rfl) dX7_strike_2 (fun H locs hP hS => ?_)
  refine lv_aload_n hx hb dX7_strike_5 rfl (lv_at hl 0 rfl) ?_
  have J_25 : ∀ (v_1 : Int32) (H : Heap) (locs : List Loc) (ls : Array Slot) (ev_1 : v_1 = (if (f_X7_in a1 (0 : Int32) ((S 143 6) - (1 : Int32))) = 0 then (1 : Int32) else (0 : Int32))), qw_P D r c g (up2 S 143 0 (0 : Int32)) H → va_S (qw_A r) s.heap H locs → lv_has ls 2 [(0, .ref (r 143)), (1, .int a1)] → W p l e ({ frames := 1, cells := 0, slots := 0, locals := 22 }) s m [.ref (r 143), .int a1].toArray below meth c0 H locs 0 0 (MQ below (qw_Qi D r c g (f_X7_strike S a1) (g_X7_strike S a1)) [.ref (r 143), .int a1].toArray s 0 0 (qw_A r)) (F0 m 25 ls [.int v_1, .ref (r 143)]) := by
    intro v_1 H locs ls ev_1 hP hS hl
    refine lv_iconst (v := 1) hx hb dX7_strike_25 (by decide) ?_
    refine wc_iV (k := 143) (C := RX7) (As := [.int v_1, .int (1 : Int32)]) (rest := []) ⟨hx, hb, hml, hown, hts⟩ (c_X7_throwsIf l D c g hr (up2 S 143 0 (0 : Int32)) v_1 (1 : Int32) (by rw [ev_1]; repeat' (first | split | exact Or.inl rfl | exact Or.inr rfl))) (cwV 2 hts gX7_strike_X7_throwsIf rfl rfl rfl (by decide +kernel) ⟨Nat.le_of_ble_eq_true rfl, Nat.le_of_ble_eq_true rfl⟩) (wx_recv hK hP (by decide) qc_143 rfl) hK hP hS (fun _ h => h) rfl hl.1 rfl (lv_room (Nat.le_of_ble_eq_true rfl)) dX7_strike_26 ⟨Nat.zero_le _, Nat.zero_le _⟩ (fun H locs hP hS => ?_)
    refine lv_tope v_1 rfl ?_
    refine lv_if_ne (tgt := 41) hx hb dX7_strike_29 (by decide) (fun c_29 => ?_) (fun c_29 => ?_)
    · refine lv_iconst (v := 0) hx hb dX7_strike_41 (by decide) ?_
      exact wx_zret hx hb hret hlk hK hP hS rfl (by subst ev_1; unfold f_X7_strike; rw [if_neg c_29]) (by subst ev_1; unfold g_X7_strike; rw [if_neg c_29]) dX7_strike_42
    · have ha : vp_in a1 60 := strike_in hI.1 (ev_1.symm.trans c_29)
      refine lv_aload_n hx hb dX7_strike_32 rfl (lv_at hl 0 rfl) ?_
      refine wx_get hx hb hts hiX7 hown hK hP 143 (by decide) qc_143 rfl 5 (by decide) (hts (.fieldLink RX7 19 "PriceEdictModel" "struckOn" "[I") (by decide +kernel)) rfl dX7_strike_33 ?_
      refine lv_iload_n hx hb dX7_strike_36 rfl (lv_at hl 1 rfl) ?_
      refine wx_ild hx hb hK hP 147 (by decide) qc_147 ha dX7_strike_37 ?_
      refine lv_tope (S 147 a1.toNatClampNeg) ((fr_X7_throwsIf (up2 S 143 0 (0 : Int32)) v_1 (1 : Int32) a1.toNatClampNeg (Or.inl (by decide))).trans ((up2_ne _ _ (Or.inl (by decide))))) ?_
      refine lv_if_lt (tgt := 43) hx hb dX7_strike_38 (by decide) (fun c_38 => ?_) (fun c_38 => ?_)
      · refine lv_aload_n hx hb dX7_strike_43 rfl (lv_at hl 0 rfl) ?_
        refine wx_get hx hb hts hiX7 hown hK hP 143 (by decide) qc_143 rfl 5 (by decide) (hts (.fieldLink RX7 19 "PriceEdictModel" "struckOn" "[I") (by decide +kernel)) rfl dX7_strike_44 ?_
        refine lv_iload_n hx hb dX7_strike_47 rfl (lv_at hl 1 rfl) ?_
        refine lv_aload_n hx hb dX7_strike_48 rfl (lv_at hl 0 rfl) ?_
        refine wx_get hx hb hts hiX7 hown hK hP 143 (by decide) qc_143 rfl 1 (by decide) (hts (.fieldLink RX7 117 "PriceEdictModel" "today" "I") (by decide +kernel)) rfl dX7_strike_49 ?_
        refine lv_tope (S 143 1) ((fr_X7_throwsIf (up2 S 143 0 (0 : Int32)) v_1 (1 : Int32) 1 (Or.inr (by decide))).trans ((up2_ne _ _ (Or.inr (by decide))))) ?_
        refine wx_ist hr hx hb hK hP hS 147 (by decide) qc_147 ha dX7_strike_52 (fun H locs hP hS => ?_)
        refine lv_iconst (v := 1) hx hb dX7_strike_53 (by decide) ?_
        exact wx_zret hx hb hret hlk hK hP hS rfl (by subst ev_1; unfold f_X7_strike; rw [if_pos c_29, if_pos c_38]) (by subst ev_1; unfold g_X7_strike; rw [if_pos c_29, if_pos c_38]) dX7_strike_54
      · refine lv_iconst (v := 0) hx hb dX7_strike_41 (by decide) ?_
        exact wx_zret hx hb hret hlk hK hP hS rfl (by subst ev_1; unfold f_X7_strike; rw [if_pos c_29, if_neg c_38]) (by subst ev_1; unfold g_X7_strike; rw [if_pos c_29, if_neg c_38]) dX7_strike_42
  refine lv_iload_n hx hb dX7_strike_6 rfl (lv_at hl 1 rfl) ?_
  refine lv_iconst (v := 0) hx hb dX7_strike_7 (by decide) ?_
  refine lv_aload_n hx hb dX7_strike_8 rfl (lv_at hl 0 rfl) ?_
  refine wx_get hx hb hts hiX7 hown hK hP 143 (by decide) qc_143 rfl 6 (by decide) (hts (.fieldLink RX7 114 "PriceEdictModel" "stones" "I") (by decide +kernel)) rfl dX7_strike_9 ?_
  refine lv_tope (S 143 6) ((up2_ne _ _ (Or.inr (by decide)))) ?_
  refine lv_iconst (v := 1) hx hb dX7_strike_12 (by decide) ?_
  refine lv_isub hx hb dX7_strike_13 ?_
  refine wc_iS (As := [.int a1, .int (0 : Int32), .int ((S 143 6) - (1 : Int32))]) (rest := [.ref (r 143)]) ⟨hx, hb, hml, hown, hts⟩ (c_X7_in l D c g hr (up2 S 143 0 (0 : Int32)) a1 (0 : Int32) ((S 143 6) - (1 : Int32))) (va_cwS 3 hts gX7_strike_X7_in rfl rfl rfl (by decide +kernel) ⟨Nat.le_of_ble_eq_true rfl, Nat.le_of_ble_eq_true rfl⟩) hK hP hS (fun _ h => h) rfl hl.1 rfl (lv_room (Nat.le_of_ble_eq_true rfl)) dX7_strike_14 ⟨Nat.zero_le _, Nat.zero_le _⟩ (fun H locs hP hS => ?_)
  refine lv_if_ne (tgt := 24) hx hb dX7_strike_17 (by decide) (fun c_17 => ?_) (fun c_17 => ?_)
  · refine lv_iconst (v := 0) hx hb dX7_strike_24 (by decide) ?_
    exact J_25 _ _ _ _ (by rw [if_neg c_17]) hP hS (lv_sub hl [0, 1] rfl)
  · refine lv_iconst (v := 1) hx hb dX7_strike_20 (by decide) ?_
    refine lv_goto (tgt := 25) hx hb dX7_strike_21 (by decide) ?_
    exact J_25 _ _ _ _ (by rw [if_pos c_17]) hP hS (lv_sub hl [0, 1] rfl)
theorem hab_in {a1 a2 : Int32} (h : (if f_X7_in a1 0 9 = 0 then (1 : Int32) else if f_X7_in a2 0 9 = 0 then 1 else if a1 = a2 then 1 else 0) = 0) : vp_in a1 10 ∧ vp_in a2 10 := by
  have e : ∀ x : Int32, ¬ f_X7_in x 0 9 = 0 → vp_in x 10 := fun x q => by
    have := in_t q
    rw [vp_in_iff]
    rw [Int32.lt_iff_toInt_lt, Int32.lt_iff_toInt_lt] at this
    have h0 : (0 : Int32).toInt = 0 := rfl
    have h5 : (9 : Int32).toInt = 9 := rfl
    omega
  split at h
  · exact absurd h (by decide)
  · split at h
    · exact absurd h (by decide)
    · exact ⟨e _ (by assumption), e _ (by assumption)⟩
def g_X7_habit (S : qw_St) (a1 : Int32) (a2 : Int32) : qw_St := (if (if (f_X7_in a1 (0 : Int32) (9 : Int32)) = 0 then (1 : Int32) else (if (f_X7_in a2 (0 : Int32) (9 : Int32)) = 0 then (1 : Int32) else (if a1 = a2 then (1 : Int32) else (0 : Int32)))) = 0 then (if (((S 148 a1.toNatClampNeg) >>> (a2 &&& 31)) &&& (1 : Int32)) = (1 : Int32) then (g_X7_throwsIf (up2 S 143 0 (0 : Int32)) (if (f_X7_in a1 (0 : Int32) (9 : Int32)) = 0 then (1 : Int32) else (if (f_X7_in a2 (0 : Int32) (9 : Int32)) = 0 then (1 : Int32) else (if a1 = a2 then (1 : Int32) else (0 : Int32)))) (1 : Int32)) else (up2 (up2 (up2 (g_X7_throwsIf (up2 S 143 0 (0 : Int32)) (if (f_X7_in a1 (0 : Int32) (9 : Int32)) = 0 then (1 : Int32) else (if (f_X7_in a2 (0 : Int32) (9 : Int32)) = 0 then (1 : Int32) else (if a1 = a2 then (1 : Int32) else (0 : Int32)))) (1 : Int32)) 148 a1.toNatClampNeg ((S 148 a1.toNatClampNeg) ||| ((1 : Int32) <<< (a2 &&& 31)))) 148 a2.toNatClampNeg (((up2 (g_X7_throwsIf (up2 S 143 0 (0 : Int32)) (if (f_X7_in a1 (0 : Int32) (9 : Int32)) = 0 then (1 : Int32) else (if (f_X7_in a2 (0 : Int32) (9 : Int32)) = 0 then (1 : Int32) else (if a1 = a2 then (1 : Int32) else (0 : Int32)))) (1 : Int32)) 148 a1.toNatClampNeg ((S 148 a1.toNatClampNeg) ||| ((1 : Int32) <<< (a2 &&& 31)))) 148 a2.toNatClampNeg) ||| ((1 : Int32) <<< (a1 &&& 31)))) 143 7 ((S 143 7) + (1 : Int32)))) else (g_X7_throwsIf (up2 S 143 0 (0 : Int32)) (if (f_X7_in a1 (0 : Int32) (9 : Int32)) = 0 then (1 : Int32) else (if (f_X7_in a2 (0 : Int32) (9 : Int32)) = 0 then (1 : Int32) else (if a1 = a2 then (1 : Int32) else (0 : Int32)))) (1 : Int32)))
def f_X7_habit (S : qw_St) (a1 : Int32) (a2 : Int32) : Int32 := (if (if (f_X7_in a1 (0 : Int32) (9 : Int32)) = 0 then (1 : Int32) else (if (f_X7_in a2 (0 : Int32) (9 : Int32)) = 0 then (1 : Int32) else (if a1 = a2 then (1 : Int32) else (0 : Int32)))) = 0 then (if (((S 148 a1.toNatClampNeg) >>> (a2 &&& 31)) &&& (1 : Int32)) = (1 : Int32) then (0 : Int32) else (1 : Int32)) else (0 : Int32))
set_option maxHeartbeats 4000000 in
set_option maxRecDepth 100000 in
theorem c_X7_habit (l : Launch) (D : va_G) {r : Nat → Nat} (c : Nat → ClassId) (g : Nat → Int64) (hr : qw_inj r) (S : qw_St) (a1 : Int32) (a2 : Int32) : MI l D r c g yX7_habit wsX7_habit ({ frames := 1, cells := 0, slots := 0, locals := 22 }) [.ref (r 143), .int a1, .int a2] S (f_X7_habit S a1 a2) (g_X7_habit S a1 a2) := by
  have hiX7 : ∀ w ∈ wsX70, w ∈ wsX7_habit := by decide +kernel
  refine wx_of (cc := cX7_habit) (nL := 3) (ret := (some .boolean)) (lvs := [(0, .ref (r 143)), (1, .int a1), (2, .int a2)]) (by decide) rfl rfl (Nat.le_of_ble_eq_true rfl) ?_
  intro p e s m below meth c0 ls hx hb hret hml hts hown hlk hK hP hS hl
  have hP : qw_P D r c g S s.heap := hP
  refine lv_aload_n hx hb dX7_habit_0 rfl (lv_at hl 0 rfl) ?_
  refine lv_iconst (v := 0) hx hb dX7_habit_1 (by decide) ?_
  refine wx_put hr hx hb hts hiX7 tyX7 tyX7_ok nmX7 hown hK hP hS 143 (by decide) qc_143 rfl 0 (by decide) (hts (.fieldLink RX7 99 "PriceEdictModel" "thrown" "I") (by decide +kernel)) rfl (by decide +kernel) (fun _ => rfl) (Nat.le_of_ble_eq_true rfl) dX7_habit_2 (fun H locs hP hS => ?_)
  refine lv_aload_n hx hb dX7_habit_5 rfl (lv_at hl 0 rfl) ?_
  have J_36 : ∀ (v_1 : Int32) (H : Heap) (locs : List Loc) (ls : Array Slot) (ev_1 : v_1 = (if (f_X7_in a1 (0 : Int32) (9 : Int32)) = 0 then (1 : Int32) else (if (f_X7_in a2 (0 : Int32) (9 : Int32)) = 0 then (1 : Int32) else (if a1 = a2 then (1 : Int32) else (0 : Int32))))), qw_P D r c g (up2 S 143 0 (0 : Int32)) H → va_S (qw_A r) s.heap H locs → lv_has ls 3 [(0, .ref (r 143)), (1, .int a1), (2, .int a2)] → W p l e ({ frames := 1, cells := 0, slots := 0, locals := 22 }) s m [.ref (r 143), .int a1, .int a2].toArray below meth c0 H locs 0 0 (MQ below (qw_Qi D r c g (f_X7_habit S a1 a2) (g_X7_habit S a1 a2)) [.ref (r 143), .int a1, .int a2].toArray s 0 0 (qw_A r)) (F0 m 36 ls [.int v_1, .ref (r 143)]) := by
    intro v_1 H locs ls ev_1 hP hS hl
    refine lv_iconst (v := 1) hx hb dX7_habit_36 (by decide) ?_
    refine wc_iV (k := 143) (C := RX7) (As := [.int v_1, .int (1 : Int32)]) (rest := []) ⟨hx, hb, hml, hown, hts⟩ (c_X7_throwsIf l D c g hr (up2 S 143 0 (0 : Int32)) v_1 (1 : Int32) (by rw [ev_1]; repeat' (first | split | exact Or.inl rfl | exact Or.inr rfl))) (cwV 2 hts gX7_habit_X7_throwsIf rfl rfl rfl (by decide +kernel) ⟨Nat.le_of_ble_eq_true rfl, Nat.le_of_ble_eq_true rfl⟩) (wx_recv hK hP (by decide) qc_143 rfl) hK hP hS (fun _ h => h) rfl hl.1 rfl (lv_room (Nat.le_of_ble_eq_true rfl)) dX7_habit_37 ⟨Nat.zero_le _, Nat.zero_le _⟩ (fun H locs hP hS => ?_)
    refine lv_tope v_1 rfl ?_
    refine lv_if_ne (tgt := 57) hx hb dX7_habit_40 (by decide) (fun c_40 => ?_) (fun c_40 => ?_)
    · refine lv_iconst (v := 0) hx hb dX7_habit_57 (by decide) ?_
      exact wx_zret hx hb hret hlk hK hP hS rfl (by subst ev_1; unfold f_X7_habit; rw [if_neg c_40]) (by subst ev_1; unfold g_X7_habit; rw [if_neg c_40]) dX7_habit_58
    · have ha : vp_in a1 10 ∧ vp_in a2 10 := hab_in (ev_1.symm.trans c_40)
      refine lv_aload_n hx hb dX7_habit_43 rfl (lv_at hl 0 rfl) ?_
      refine wx_get hx hb hts hiX7 hown hK hP 143 (by decide) qc_143 rfl 8 (by decide) (hts (.fieldLink RX7 22 "PriceEdictModel" "reads" "[I") (by decide +kernel)) rfl dX7_habit_44 ?_
      refine lv_iload_n hx hb dX7_habit_47 rfl (lv_at hl 1 rfl) ?_
      refine wx_ild hx hb hK hP 148 (by decide) qc_148 ha.1 dX7_habit_48 ?_
      refine lv_tope (S 148 a1.toNatClampNeg) ((fr_X7_throwsIf (up2 S 143 0 (0 : Int32)) v_1 (1 : Int32) a1.toNatClampNeg (Or.inl (by decide))).trans ((up2_ne _ _ (Or.inl (by decide))))) ?_
      refine lv_iload_n hx hb dX7_habit_49 rfl (lv_at hl 2 rfl) ?_
      refine lv_ishr hx hb dX7_habit_50 ?_
      refine lv_iconst (v := 1) hx hb dX7_habit_51 (by decide) ?_
      refine lv_iand hx hb dX7_habit_52 ?_
      refine lv_iconst (v := 1) hx hb dX7_habit_53 (by decide) ?_
      refine lv_icmp_ne (tgt := 59) hx hb dX7_habit_54 (by decide) (fun c_54 => ?_) (fun c_54 => ?_)
      · refine lv_aload_n hx hb dX7_habit_59 rfl (lv_at hl 0 rfl) ?_
        refine wx_get hx hb hts hiX7 hown hK hP 143 (by decide) qc_143 rfl 8 (by decide) (hts (.fieldLink RX7 22 "PriceEdictModel" "reads" "[I") (by decide +kernel)) rfl dX7_habit_60 ?_
        refine lv_iload_n hx hb dX7_habit_63 rfl (lv_at hl 1 rfl) ?_
        refine lv_dup2_11 hx hb dX7_habit_64 rfl rfl ?_
        refine wx_ild hx hb hK hP 148 (by decide) qc_148 ha.1 dX7_habit_65 ?_
        refine lv_tope (S 148 a1.toNatClampNeg) ((fr_X7_throwsIf (up2 S 143 0 (0 : Int32)) v_1 (1 : Int32) a1.toNatClampNeg (Or.inl (by decide))).trans ((up2_ne _ _ (Or.inl (by decide))))) ?_
        refine lv_iconst (v := 1) hx hb dX7_habit_66 (by decide) ?_
        refine lv_iload_n hx hb dX7_habit_67 rfl (lv_at hl 2 rfl) ?_
        refine lv_ishl hx hb dX7_habit_68 ?_
        refine lv_ior hx hb dX7_habit_69 ?_
        refine wx_ist hr hx hb hK hP hS 148 (by decide) qc_148 ha.1 dX7_habit_70 (fun H locs hP hS => ?_)
        refine lv_aload_n hx hb dX7_habit_71 rfl (lv_at hl 0 rfl) ?_
        refine wx_get hx hb hts hiX7 hown hK hP 143 (by decide) qc_143 rfl 8 (by decide) (hts (.fieldLink RX7 22 "PriceEdictModel" "reads" "[I") (by decide +kernel)) rfl dX7_habit_72 ?_
        refine lv_iload_n hx hb dX7_habit_75 rfl (lv_at hl 2 rfl) ?_
        refine lv_dup2_11 hx hb dX7_habit_76 rfl rfl ?_
        refine wx_ild hx hb hK hP 148 (by decide) qc_148 ha.2 dX7_habit_77 ?_
        refine lv_iconst (v := 1) hx hb dX7_habit_78 (by decide) ?_
        refine lv_iload_n hx hb dX7_habit_79 rfl (lv_at hl 1 rfl) ?_
        refine lv_ishl hx hb dX7_habit_80 ?_
        refine lv_ior hx hb dX7_habit_81 ?_
        refine wx_ist hr hx hb hK hP hS 148 (by decide) qc_148 ha.2 dX7_habit_82 (fun H locs hP hS => ?_)
        refine lv_aload_n hx hb dX7_habit_83 rfl (lv_at hl 0 rfl) ?_
        refine lv_dup hx hb dX7_habit_84 rfl ?_
        refine wx_get hx hb hts hiX7 hown hK hP 143 (by decide) qc_143 rfl 7 (by decide) (hts (.fieldLink RX7 120 "PriceEdictModel" "habits" "I") (by decide +kernel)) rfl dX7_habit_85 ?_
        refine lv_tope (S 143 7) ((up2_ne _ _ (Or.inl (by decide))).trans ((up2_ne _ _ (Or.inl (by decide))).trans ((fr_X7_throwsIf (up2 S 143 0 (0 : Int32)) v_1 (1 : Int32) 7 (Or.inr (by decide))).trans ((up2_ne _ _ (Or.inr (by decide))))))) ?_
        refine lv_iconst (v := 1) hx hb dX7_habit_88 (by decide) ?_
        refine lv_iadd hx hb dX7_habit_89 ?_
        refine wx_put hr hx hb hts hiX7 tyX7 tyX7_ok nmX7 hown hK hP hS 143 (by decide) qc_143 rfl 7 (by decide) (hts (.fieldLink RX7 120 "PriceEdictModel" "habits" "I") (by decide +kernel)) rfl (by decide +kernel) (fun _ => rfl) (Nat.le_of_ble_eq_true rfl) dX7_habit_90 (fun H locs hP hS => ?_)
        refine lv_iconst (v := 1) hx hb dX7_habit_93 (by decide) ?_
        exact wx_zret hx hb hret hlk hK hP hS rfl (by subst ev_1; unfold f_X7_habit; rw [if_pos c_40, if_neg c_54]) (by subst ev_1; unfold g_X7_habit; rw [if_pos c_40, if_neg c_54]) dX7_habit_94
      · refine lv_iconst (v := 0) hx hb dX7_habit_57 (by decide) ?_
        exact wx_zret hx hb hret hlk hK hP hS rfl (by subst ev_1; unfold f_X7_habit; rw [if_pos c_40, if_pos c_54]) (by subst ev_1; unfold g_X7_habit; rw [if_pos c_40, if_pos c_54]) dX7_habit_58
  refine lv_iload_n hx hb dX7_habit_6 rfl (lv_at hl 1 rfl) ?_
  refine lv_iconst (v := 0) hx hb dX7_habit_7 (by decide) ?_
  refine lv_bipush (v := 9) hx hb dX7_habit_8 (by decide) ?_
  refine wc_iS (As := [.int a1, .int (0 : Int32), .int (9 : Int32)]) (rest := [.ref (r 143)]) ⟨hx, hb, hml, hown, hts⟩ (c_X7_in l D c g hr (up2 S 143 0 (0 : Int32)) a1 (0 : Int32) (9 : Int32)) (va_cwS 3 hts gX7_habit_X7_in rfl rfl rfl (by decide +kernel) ⟨Nat.le_of_ble_eq_true rfl, Nat.le_of_ble_eq_true rfl⟩) hK hP hS (fun _ h => h) rfl hl.1 rfl (lv_room (Nat.le_of_ble_eq_true rfl)) dX7_habit_10 ⟨Nat.zero_le _, Nat.zero_le _⟩ (fun H locs hP hS => ?_)
  refine lv_if_eq (tgt := 31) hx hb dX7_habit_13 (by decide) (fun c_13 => ?_) (fun c_13 => ?_)
  · refine lv_iconst (v := 1) hx hb dX7_habit_31 (by decide) ?_
    refine lv_goto (tgt := 36) hx hb dX7_habit_32 (by decide) ?_
    exact J_36 _ _ _ _ (by rw [if_pos c_13]) hP hS (lv_sub hl [0, 1, 2] rfl)
  · refine lv_iload_n hx hb dX7_habit_16 rfl (lv_at hl 2 rfl) ?_
    refine lv_iconst (v := 0) hx hb dX7_habit_17 (by decide) ?_
    refine lv_bipush (v := 9) hx hb dX7_habit_18 (by decide) ?_
    refine wc_iS (As := [.int a2, .int (0 : Int32), .int (9 : Int32)]) (rest := [.ref (r 143)]) ⟨hx, hb, hml, hown, hts⟩ (c_X7_in l D c g hr (up2 S 143 0 (0 : Int32)) a2 (0 : Int32) (9 : Int32)) (va_cwS 3 hts gX7_habit_X7_in rfl rfl rfl (by decide +kernel) ⟨Nat.le_of_ble_eq_true rfl, Nat.le_of_ble_eq_true rfl⟩) hK hP hS (fun _ h => h) rfl hl.1 rfl (lv_room (Nat.le_of_ble_eq_true rfl)) dX7_habit_20 ⟨Nat.zero_le _, Nat.zero_le _⟩ (fun H locs hP hS => ?_)
    refine lv_if_eq (tgt := 31) hx hb dX7_habit_23 (by decide) (fun c_23 => ?_) (fun c_23 => ?_)
    · refine lv_iconst (v := 1) hx hb dX7_habit_31 (by decide) ?_
      refine lv_goto (tgt := 36) hx hb dX7_habit_32 (by decide) ?_
      exact J_36 _ _ _ _ (by rw [if_neg c_13, if_pos c_23]) hP hS (lv_sub hl [0, 1, 2] rfl)
    · refine lv_iload_n hx hb dX7_habit_26 rfl (lv_at hl 1 rfl) ?_
      refine lv_iload_n hx hb dX7_habit_27 rfl (lv_at hl 2 rfl) ?_
      refine lv_icmp_ne (tgt := 35) hx hb dX7_habit_28 (by decide) (fun c_28 => ?_) (fun c_28 => ?_)
      · refine lv_iconst (v := 0) hx hb dX7_habit_35 (by decide) ?_
        exact J_36 _ _ _ _ (by rw [if_neg c_13, if_neg c_23, if_neg c_28]) hP hS (lv_sub hl [0, 1, 2] rfl)
      · refine lv_iconst (v := 1) hx hb dX7_habit_31 (by decide) ?_
        refine lv_goto (tgt := 36) hx hb dX7_habit_32 (by decide) ?_
        exact J_36 _ _ _ _ (by rw [if_neg c_13, if_neg c_23, if_pos c_28]) hP hS (lv_sub hl [0, 1, 2] rfl)
def f_X7_agreeing_8 (a1 : Int32) (a2 : Int32) (a3 : Int32) : Nat → qw_St → Int32 → Int32 → Int32
  | 0, S, _, _ => 0
  | n + 1, S, z4, z5 => (if (S 143 6) ≤ z5 then z4 else (if (if a3 < (S 146 z5.toNatClampNeg) then (0 : Int32) else (if (S 147 z5.toNatClampNeg) < 0 then (1 : Int32) else (if (S 147 z5.toNatClampNeg) ≤ a3 then (0 : Int32) else (1 : Int32)))) = 0 then (f_X7_agreeing_8 a1 a2 a3 n S z4 (z5 + (1 : Int32))) else (if (S 144 z5.toNatClampNeg) = a1 then (if (S 145 (((4 : Int32) * z5) + a2).toNatClampNeg) < 0 then (f_X7_agreeing_8 a1 a2 a3 n S z4 (z5 + (1 : Int32))) else (f_X7_agreeing_8 a1 a2 a3 n S (z4 &&& (S 148 (S 145 (((4 : Int32) * z5) + a2).toNatClampNeg).toNatClampNeg)) (z5 + (1 : Int32)))) else (f_X7_agreeing_8 a1 a2 a3 n S z4 (z5 + (1 : Int32))))))
def f_X7_agreeing (S : qw_St) (a1 : Int32) (a2 : Int32) (a3 : Int32) : Int32 := (f_X7_agreeing_8 a1 a2 a3 ((S 143 6).toNatClampNeg + 1) S (1023 : Int32) (0 : Int32))
set_option maxHeartbeats 4000000 in
set_option maxRecDepth 100000 in
theorem c_X7_agreeing (l : Launch) (D : va_G) {r : Nat → Nat} (c : Nat → ClassId) (g : Nat → Int64) (hr : qw_inj r) (S : qw_St) (a1 : Int32) (a2 : Int32) (a3 : Int32) (hI : InvM S) (hp : vp_in a2 4) : MI l D r c g yX7_agreeing wsX7_agreeing ({ frames := 0, cells := 0, slots := 0, locals := 0 }) [.ref (r 143), .int a1, .int a2, .int a3] S (f_X7_agreeing S a1 a2 a3) S := by
  have hiX7 : ∀ w ∈ wsX70, w ∈ wsX7_agreeing := by decide +kernel
  refine wx_of (cc := cX7_agreeing) (nL := 7) (ret := (some .int)) (lvs := [(0, .ref (r 143)), (1, .int a1), (2, .int a2), (3, .int a3)]) (by decide) rfl rfl (Nat.le_of_ble_eq_true rfl) ?_
  intro p e s m below meth c0 ls hx hb hret hml hts hown hlk hK hP hS hl
  obtain ⟨m0, hm0, em0⟩ := id hI.1
  obtain ⟨p0, hp0, ep0⟩ := vp_in_of hp (by decide)
  have hP : qw_P D r c g S s.heap := hP
  refine lv_sipush (v := 1023) hx hb dX7_agreeing_0 (by decide) ?_
  refine lv_istore (lv' := [(4, .int (1023 : Int32)), (0, .ref (r 143)), (1, .int a1), (2, .int a2), (3, .int a3)]) hx hb dX7_agreeing_3 hl (by decide) rfl (fun ls hl => ?_)
  refine lv_iconst (v := 0) hx hb dX7_agreeing_5 (by decide) ?_
  refine lv_istore (lv' := [(5, .int (0 : Int32)), (4, .int (1023 : Int32)), (0, .ref (r 143)), (1, .int a1), (2, .int a2), (3, .int a3)]) hx hb dX7_agreeing_6 hl (by decide) rfl (fun ls hl => ?_)
  have L_8 : ∀ (n : Nat) (k : Nat) (z4 : Int32) (z5 : Int32) (H : Heap) (locs : List Loc) (ls : Array Slot) (hk : k + n = m0 + 1 ∧ k ≤ m0) (hz5 : z5 = nI k) (hf_8 : f_X7_agreeing_8 a1 a2 a3 n S z4 z5 = (f_X7_agreeing S a1 a2 a3)), qw_P D r c g S H → va_S (qw_A r) s.heap H locs → lv_has ls 7 [(5, .int z5), (4, .int z4), (0, .ref (r 143)), (1, .int a1), (2, .int a2), (3, .int a3)] → W p l e ({ frames := 0, cells := 0, slots := 0, locals := 0 }) s m [.ref (r 143), .int a1, .int a2, .int a3].toArray below meth c0 H locs 0 0 (MQ below (qw_Qi D r c g (f_X7_agreeing S a1 a2 a3) S) [.ref (r 143), .int a1, .int a2, .int a3].toArray s 0 0 (qw_A r)) (F0 m 8 ls []) := by
    intro n
    induction n with
    | zero =>
      intro k z4 z5 H locs ls hk hz5 hf_8 hP hS hl
      omega
    | succ n ih_8 =>
      intro k z4 z5 H locs ls hk hz5 hf_8 hP hS hl
      refine lv_iload hx hb dX7_agreeing_8 (lv_at hl 0 rfl) ?_
      refine lv_aload_n hx hb dX7_agreeing_10 rfl (lv_at hl 2 rfl) ?_
      refine wx_get hx hb hts hiX7 hown hK hP 143 (by decide) qc_143 rfl 6 (by decide) (hts (.fieldLink RX7 114 "PriceEdictModel" "stones" "I") (by decide +kernel)) rfl dX7_agreeing_11 ?_
      refine lv_icmp_ge (tgt := 113) hx hb dX7_agreeing_14 (by decide) (fun c_14 => ?_) (fun c_14 => ?_)
      · refine lv_iload hx hb dX7_agreeing_113 (lv_at hl 1 rfl) ?_
        exact wx_iret hx hb hret hlk hK hP hS (by rw [← hf_8, f_X7_agreeing_8]; rw [if_pos c_14]) rfl dX7_agreeing_115
      · have hk5 : k < m0 := qi_ltn hz5 (by omega) em0 (by omega) c_14
        have hi5 : vp_in z5 60 := qi_in hz5 (by omega) (by decide)
        have hi4 : vp_in ((4 : Int32) * z5 + a2) 240 := qi_4m hz5 ep0 (by omega) (by decide)
        have J_54 : ∀ (v_1 : Int32) (H : Heap) (locs : List Loc) (ls : Array Slot) (ev_1 : v_1 = (if a3 < (S 146 z5.toNatClampNeg) then (0 : Int32) else (if (S 147 z5.toNatClampNeg) < 0 then (1 : Int32) else (if (S 147 z5.toNatClampNeg) ≤ a3 then (0 : Int32) else (1 : Int32))))), qw_P D r c g S H → va_S (qw_A r) s.heap H locs → lv_has ls 7 [(5, .int z5), (4, .int z4), (0, .ref (r 143)), (1, .int a1), (2, .int a2), (3, .int a3)] → W p l e ({ frames := 0, cells := 0, slots := 0, locals := 0 }) s m [.ref (r 143), .int a1, .int a2, .int a3].toArray below meth c0 H locs 0 0 (MQ below (qw_Qi D r c g (f_X7_agreeing S a1 a2 a3) S) [.ref (r 143), .int a1, .int a2, .int a3].toArray s 0 0 (qw_A r)) (F0 m 54 ls [.int v_1]) := by
          intro v_1 H locs ls ev_1 hP hS hl
          refine lv_istore (lv' := [(6, .int v_1), (5, .int z5), (4, .int z4), (0, .ref (r 143)), (1, .int a1), (2, .int a2), (3, .int a3)]) hx hb dX7_agreeing_54 hl (by decide) rfl (fun ls hl => ?_)
          refine lv_iload hx hb dX7_agreeing_56 (lv_at hl 0 rfl) ?_
          refine lv_if_eq (tgt := 107) hx hb dX7_agreeing_58 (by decide) (fun c_58 => ?_) (fun c_58 => ?_)
          · obtain ⟨x_2, ex_2⟩ : ∃ y : Int32, y = (z5 + (1 : Int32)) := ⟨_, rfl⟩
            refine lv_iinc (v := x_2) (lv' := [(5, .int x_2), (6, .int v_1), (4, .int z4), (0, .ref (r 143)), (1, .int a1), (2, .int a2), (3, .int a3)]) hx hb dX7_agreeing_107 hl (k := 1) rfl (by rw [ex_2]; rfl) (by decide) rfl (fun ls hl => ?_)
            refine lv_goto (tgt := 8) hx hb dX7_agreeing_110 (by decide) ?_
            exact ih_8 (k + 1) z4 x_2 _ _ _ (by omega) (by rw [ex_2]; exact qi_add hz5) (by subst ex_2; subst ev_1; rw [← hf_8, f_X7_agreeing_8]; rw [if_neg c_14, if_pos c_58]) hP hS (lv_sub hl [0, 2, 3, 4, 5, 6] rfl)
          · refine lv_aload_n hx hb dX7_agreeing_61 rfl (lv_at hl 3 rfl) ?_
            refine wx_get hx hb hts hiX7 hown hK hP 143 (by decide) qc_143 rfl 2 (by decide) (hts (.fieldLink RX7 9 "PriceEdictModel" "line" "[I") (by decide +kernel)) rfl dX7_agreeing_62 ?_
            refine lv_iload hx hb dX7_agreeing_65 (lv_at hl 1 rfl) ?_
            refine wx_ild hx hb hK hP 144 (by decide) qc_144 hi5 dX7_agreeing_67 ?_
            refine lv_iload_n hx hb dX7_agreeing_68 rfl (lv_at hl 4 rfl) ?_
            refine lv_icmp_ne (tgt := 107) hx hb dX7_agreeing_69 (by decide) (fun c_69 => ?_) (fun c_69 => ?_)
            · obtain ⟨x_3, ex_3⟩ : ∃ y : Int32, y = (z5 + (1 : Int32)) := ⟨_, rfl⟩
              refine lv_iinc (v := x_3) (lv' := [(5, .int x_3), (6, .int v_1), (4, .int z4), (0, .ref (r 143)), (1, .int a1), (2, .int a2), (3, .int a3)]) hx hb dX7_agreeing_107 hl (k := 1) rfl (by rw [ex_3]; rfl) (by decide) rfl (fun ls hl => ?_)
              refine lv_goto (tgt := 8) hx hb dX7_agreeing_110 (by decide) ?_
              exact ih_8 (k + 1) z4 x_3 _ _ _ (by omega) (by rw [ex_3]; exact qi_add hz5) (by subst ex_3; subst ev_1; rw [← hf_8, f_X7_agreeing_8]; rw [if_neg c_14, if_neg c_58, if_neg c_69]) hP hS (lv_sub hl [0, 2, 3, 4, 5, 6] rfl)
            · refine lv_aload_n hx hb dX7_agreeing_72 rfl (lv_at hl 3 rfl) ?_
              refine wx_get hx hb hts hiX7 hown hK hP 143 (by decide) qc_143 rfl 3 (by decide) (hts (.fieldLink RX7 13 "PriceEdictModel" "figure" "[I") (by decide +kernel)) rfl dX7_agreeing_73 ?_
              refine lv_iconst (v := 4) hx hb dX7_agreeing_76 (by decide) ?_
              refine lv_iload hx hb dX7_agreeing_77 (lv_at hl 1 rfl) ?_
              refine lv_imul hx hb dX7_agreeing_79 ?_
              refine lv_iload_n hx hb dX7_agreeing_80 rfl (lv_at hl 5 rfl) ?_
              refine lv_iadd hx hb dX7_agreeing_81 ?_
              refine wx_ild hx hb hK hP 145 (by decide) qc_145 hi4 dX7_agreeing_82 ?_
              refine lv_if_lt (tgt := 107) hx hb dX7_agreeing_83 (by decide) (fun c_83 => ?_) (fun c_83 => ?_)
              · obtain ⟨x_4, ex_4⟩ : ∃ y : Int32, y = (z5 + (1 : Int32)) := ⟨_, rfl⟩
                refine lv_iinc (v := x_4) (lv' := [(5, .int x_4), (6, .int v_1), (4, .int z4), (0, .ref (r 143)), (1, .int a1), (2, .int a2), (3, .int a3)]) hx hb dX7_agreeing_107 hl (k := 1) rfl (by rw [ex_4]; rfl) (by decide) rfl (fun ls hl => ?_)
                refine lv_goto (tgt := 8) hx hb dX7_agreeing_110 (by decide) ?_
                exact ih_8 (k + 1) z4 x_4 _ _ _ (by omega) (by rw [ex_4]; exact qi_add hz5) (by subst ex_4; subst ev_1; rw [← hf_8, f_X7_agreeing_8]; rw [if_neg c_14, if_neg c_58, if_pos c_69, if_pos c_83]) hP hS (lv_sub hl [0, 2, 3, 4, 5, 6] rfl)
              · refine lv_iload hx hb dX7_agreeing_86 (lv_at hl 2 rfl) ?_
                refine lv_aload_n hx hb dX7_agreeing_88 rfl (lv_at hl 3 rfl) ?_
                refine wx_get hx hb hts hiX7 hown hK hP 143 (by decide) qc_143 rfl 8 (by decide) (hts (.fieldLink RX7 22 "PriceEdictModel" "reads" "[I") (by decide +kernel)) rfl dX7_agreeing_89 ?_
                refine lv_aload_n hx hb dX7_agreeing_92 rfl (lv_at hl 3 rfl) ?_
                refine wx_get hx hb hts hiX7 hown hK hP 143 (by decide) qc_143 rfl 3 (by decide) (hts (.fieldLink RX7 13 "PriceEdictModel" "figure" "[I") (by decide +kernel)) rfl dX7_agreeing_93 ?_
                refine lv_iconst (v := 4) hx hb dX7_agreeing_96 (by decide) ?_
                refine lv_iload hx hb dX7_agreeing_97 (lv_at hl 1 rfl) ?_
                refine lv_imul hx hb dX7_agreeing_99 ?_
                refine lv_iload_n hx hb dX7_agreeing_100 rfl (lv_at hl 5 rfl) ?_
                refine lv_iadd hx hb dX7_agreeing_101 ?_
                refine wx_ild hx hb hK hP 145 (by decide) qc_145 hi4 dX7_agreeing_102 ?_
                refine wx_ild hx hb hK hP 148 (by decide) qc_148 ((hI.2.1 _ (vp_lt hi4)).resolve_left c_83) dX7_agreeing_103 ?_
                refine lv_iand hx hb dX7_agreeing_104 ?_
                refine lv_topi (fun x_5 ex_5 => ?_)
                refine lv_istore (lv' := [(4, .int x_5), (6, .int v_1), (5, .int z5), (0, .ref (r 143)), (1, .int a1), (2, .int a2), (3, .int a3)]) hx hb dX7_agreeing_105 hl (by decide) rfl (fun ls hl => ?_)
                obtain ⟨x_6, ex_6⟩ : ∃ y : Int32, y = (z5 + (1 : Int32)) := ⟨_, rfl⟩
                refine lv_iinc (v := x_6) (lv' := [(5, .int x_6), (4, .int x_5), (6, .int v_1), (0, .ref (r 143)), (1, .int a1), (2, .int a2), (3, .int a3)]) hx hb dX7_agreeing_107 hl (k := 2) rfl (by rw [ex_6]; rfl) (by decide) rfl (fun ls hl => ?_)
                refine lv_goto (tgt := 8) hx hb dX7_agreeing_110 (by decide) ?_
                exact ih_8 (k + 1) x_5 x_6 _ _ _ (by omega) (by rw [ex_6]; exact qi_add hz5) (by subst ex_6; subst ex_5; subst ev_1; rw [← hf_8, f_X7_agreeing_8]; rw [if_neg c_14, if_neg c_58, if_pos c_69, if_neg c_83]) hP hS (lv_sub hl [0, 1, 3, 4, 5, 6] rfl)
        refine lv_aload_n hx hb dX7_agreeing_17 rfl (lv_at hl 2 rfl) ?_
        refine wx_get hx hb hts hiX7 hown hK hP 143 (by decide) qc_143 rfl 4 (by decide) (hts (.fieldLink RX7 16 "PriceEdictModel" "foundOn" "[I") (by decide +kernel)) rfl dX7_agreeing_18 ?_
        refine lv_iload hx hb dX7_agreeing_21 (lv_at hl 0 rfl) ?_
        refine wx_ild hx hb hK hP 146 (by decide) qc_146 hi5 dX7_agreeing_23 ?_
        refine lv_iload_n hx hb dX7_agreeing_24 rfl (lv_at hl 5 rfl) ?_
        refine lv_icmp_gt (tgt := 53) hx hb dX7_agreeing_25 (by decide) (fun c_25 => ?_) (fun c_25 => ?_)
        · refine lv_iconst (v := 0) hx hb dX7_agreeing_53 (by decide) ?_
          exact J_54 _ _ _ _ (by rw [if_pos c_25]) hP hS (lv_sub hl [0, 1, 2, 3, 4, 5] rfl)
        · refine lv_aload_n hx hb dX7_agreeing_28 rfl (lv_at hl 2 rfl) ?_
          refine wx_get hx hb hts hiX7 hown hK hP 143 (by decide) qc_143 rfl 5 (by decide) (hts (.fieldLink RX7 19 "PriceEdictModel" "struckOn" "[I") (by decide +kernel)) rfl dX7_agreeing_29 ?_
          refine lv_iload hx hb dX7_agreeing_32 (lv_at hl 0 rfl) ?_
          refine wx_ild hx hb hK hP 147 (by decide) qc_147 hi5 dX7_agreeing_34 ?_
          refine lv_if_lt (tgt := 49) hx hb dX7_agreeing_35 (by decide) (fun c_35 => ?_) (fun c_35 => ?_)
          · refine lv_iconst (v := 1) hx hb dX7_agreeing_49 (by decide) ?_
            refine lv_goto (tgt := 54) hx hb dX7_agreeing_50 (by decide) ?_
            exact J_54 _ _ _ _ (by rw [if_neg c_25, if_pos c_35]) hP hS (lv_sub hl [0, 1, 2, 3, 4, 5] rfl)
          · refine lv_iload_n hx hb dX7_agreeing_38 rfl (lv_at hl 5 rfl) ?_
            refine lv_aload_n hx hb dX7_agreeing_39 rfl (lv_at hl 2 rfl) ?_
            refine wx_get hx hb hts hiX7 hown hK hP 143 (by decide) qc_143 rfl 5 (by decide) (hts (.fieldLink RX7 19 "PriceEdictModel" "struckOn" "[I") (by decide +kernel)) rfl dX7_agreeing_40 ?_
            refine lv_iload hx hb dX7_agreeing_43 (lv_at hl 0 rfl) ?_
            refine wx_ild hx hb hK hP 147 (by decide) qc_147 hi5 dX7_agreeing_45 ?_
            refine lv_icmp_ge (tgt := 53) hx hb dX7_agreeing_46 (by decide) (fun c_46 => ?_) (fun c_46 => ?_)
            · refine lv_iconst (v := 0) hx hb dX7_agreeing_53 (by decide) ?_
              exact J_54 _ _ _ _ (by rw [if_neg c_25, if_neg c_35, if_pos c_46]) hP hS (lv_sub hl [0, 1, 2, 3, 4, 5] rfl)
            · refine lv_iconst (v := 1) hx hb dX7_agreeing_49 (by decide) ?_
              refine lv_goto (tgt := 54) hx hb dX7_agreeing_50 (by decide) ?_
              exact J_54 _ _ _ _ (by rw [if_neg c_25, if_neg c_35, if_neg c_46]) hP hS (lv_sub hl [0, 1, 2, 3, 4, 5] rfl)
  exact L_8 ((S 143 6).toNatClampNeg + 1) 0 (1023 : Int32) (0 : Int32) _ _ _ (by rw [qi_cl em0 (by omega)]; omega) nI_0.symm (by rw [f_X7_agreeing]) hP hS (lv_sub hl [0, 1, 2, 3, 4, 5] rfl)
def f_X7_many_5 (a1 : Int32) (a2 : Int32) : Nat → qw_St → Int32 → Int32 → Int32
  | 0, S, _, _ => 0
  | n + 1, S, z3, z4 => (if (4 : Int32) ≤ z4 then z3 else (f_X7_many_5 a1 a2 n S (z3 * (f_J6_bitCount_0f7a4 (f_X7_agreeing S a1 z4 a2))) (z4 + (1 : Int32))))
def f_X7_many (S : qw_St) (a1 : Int32) (a2 : Int32) : Int32 := (f_X7_many_5 a1 a2 5 S (1 : Int32) (0 : Int32))
set_option maxHeartbeats 4000000 in
set_option maxRecDepth 100000 in
theorem c_X7_many (l : Launch) (D : va_G) {r : Nat → Nat} (c : Nat → ClassId) (g : Nat → Int64) (hr : qw_inj r) (S : qw_St) (a1 : Int32) (a2 : Int32) (hI : InvM S) : MI l D r c g yX7_many wsX7_many ({ frames := 1, cells := 0, slots := 0, locals := 26 }) [.ref (r 143), .int a1, .int a2] S (f_X7_many S a1 a2) S := by
  refine wx_of (cc := cX7_many) (nL := 5) (ret := (some .int)) (lvs := [(0, .ref (r 143)), (1, .int a1), (2, .int a2)]) (by decide) rfl rfl (Nat.le_of_ble_eq_true rfl) ?_
  intro p e s m below meth c0 ls hx hb hret hml hts hown hlk hK hP hS hl
  have hP : qw_P D r c g S s.heap := hP
  refine lv_iconst (v := 1) hx hb dX7_many_0 (by decide) ?_
  refine lv_istore_n (lv' := [(3, .int (1 : Int32)), (0, .ref (r 143)), (1, .int a1), (2, .int a2)]) hx hb dX7_many_1 rfl hl (by decide) rfl (fun ls hl => ?_)
  refine lv_iconst (v := 0) hx hb dX7_many_2 (by decide) ?_
  refine lv_istore (lv' := [(4, .int (0 : Int32)), (3, .int (1 : Int32)), (0, .ref (r 143)), (1, .int a1), (2, .int a2)]) hx hb dX7_many_3 hl (by decide) rfl (fun ls hl => ?_)
  have L_5 : ∀ (n : Nat) (k : Nat) (z3 : Int32) (z4 : Int32) (H : Heap) (locs : List Loc) (ls : Array Slot) (hk : k + n = 5 ∧ k ≤ 4) (hz4 : z4 = nI k) (hf_5 : f_X7_many_5 a1 a2 n S z3 z4 = (f_X7_many S a1 a2)), qw_P D r c g S H → va_S (qw_A r) s.heap H locs → lv_has ls 5 [(4, .int z4), (3, .int z3), (0, .ref (r 143)), (1, .int a1), (2, .int a2)] → W p l e ({ frames := 1, cells := 0, slots := 0, locals := 26 }) s m [.ref (r 143), .int a1, .int a2].toArray below meth c0 H locs 0 0 (MQ below (qw_Qi D r c g (f_X7_many S a1 a2) S) [.ref (r 143), .int a1, .int a2].toArray s 0 0 (qw_A r)) (F0 m 5 ls []) := by
    intro n
    induction n with
    | zero =>
      intro k z3 z4 H locs ls hk hz4 hf_5 hP hS hl
      omega
    | succ n ih_5 =>
      intro k z3 z4 H locs ls hk hz4 hf_5 hP hS hl
      refine lv_iload hx hb dX7_many_5 (lv_at hl 0 rfl) ?_
      refine lv_iconst (v := 4) hx hb dX7_many_7 (by decide) ?_
      refine lv_icmp_ge (tgt := 31) hx hb dX7_many_8 (by decide) (fun c_8 => ?_) (fun c_8 => ?_)
      · refine lv_iload_n hx hb dX7_many_31 rfl (lv_at hl 1 rfl) ?_
        exact wx_iret hx hb hret hlk hK hP hS (by rw [← hf_5, f_X7_many_5]; rw [if_pos c_8]) rfl dX7_many_32
      · have hk4 : k < 4 := qi_lt hz4 (by omega) (m := 4) rfl c_8
        refine lv_iload_n hx hb dX7_many_11 rfl (lv_at hl 1 rfl) ?_
        refine lv_aload_n hx hb dX7_many_12 rfl (lv_at hl 2 rfl) ?_
        refine lv_iload_n hx hb dX7_many_13 rfl (lv_at hl 3 rfl) ?_
        refine lv_iload hx hb dX7_many_14 (lv_at hl 0 rfl) ?_
        refine lv_iload_n hx hb dX7_many_16 rfl (lv_at hl 4 rfl) ?_
        refine wc_iV (k := 143) (C := RX7) (As := [.int a1, .int z4, .int a2]) (rest := [.int z3]) ⟨hx, hb, hml, hown, hts⟩ (c_X7_agreeing l D c g hr S a1 z4 a2 (by first | assumption | omega) (qi_in hz4 hk4 (by decide))) (cwV 3 hts gX7_many_X7_agreeing rfl rfl rfl (by decide +kernel) ⟨Nat.le_of_ble_eq_true rfl, Nat.le_of_ble_eq_true rfl⟩) (wx_recv hK hP (by decide) qc_143 rfl) hK hP hS (fun _ h => h) rfl hl.1 rfl (lv_room (Nat.le_of_ble_eq_true rfl)) dX7_many_17 ⟨Nat.zero_le _, Nat.zero_le _⟩ (fun H locs hP hS => ?_)
        refine wc_iS (As := [.int (f_X7_agreeing S a1 z4 a2)]) (rest := [.int z3]) ⟨hx, hb, hml, hown, hts⟩ (c_J6_bitCount_0f7a4 l D c g hr S (f_X7_agreeing S a1 z4 a2)) (va_cwS 1 hts gX7_many_J6_bitCount_0f7a4 rfl rfl rfl (by decide +kernel) ⟨Nat.le_of_ble_eq_true rfl, Nat.le_of_ble_eq_true rfl⟩) hK hP hS (fun _ h => h) rfl hl.1 rfl (lv_room (Nat.le_of_ble_eq_true rfl)) dX7_many_20 ⟨Nat.zero_le _, Nat.zero_le _⟩ (fun H locs hP hS => ?_)
        refine lv_imul hx hb dX7_many_23 ?_
        refine lv_topi (fun x_1 ex_1 => ?_)
        refine lv_istore_n (lv' := [(3, .int x_1), (4, .int z4), (0, .ref (r 143)), (1, .int a1), (2, .int a2)]) hx hb dX7_many_24 rfl hl (by decide) rfl (fun ls hl => ?_)
        obtain ⟨x_2, ex_2⟩ : ∃ y : Int32, y = (z4 + (1 : Int32)) := ⟨_, rfl⟩
        refine lv_iinc (v := x_2) (lv' := [(4, .int x_2), (3, .int x_1), (0, .ref (r 143)), (1, .int a1), (2, .int a2)]) hx hb dX7_many_25 hl (k := 1) rfl (by rw [ex_2]; rfl) (by decide) rfl (fun ls hl => ?_)
        refine lv_goto (tgt := 5) hx hb dX7_many_28 (by decide) ?_
        exact ih_5 (k + 1) x_1 x_2 _ _ _ (by omega) (by rw [ex_2]; exact qi_add hz4) (by subst ex_2; subst ex_1; rw [← hf_5, f_X7_many_5]; rw [if_neg c_8]) hP hS (lv_sub hl [0, 1, 2, 3, 4] rfl)
  exact L_5 5 0 (1 : Int32) (0 : Int32) _ _ _ (by omega) nI_0.symm (by rw [f_X7_many]) hP hS (lv_sub hl [0, 1, 2, 3, 4] rfl)
def ex_inv (a3 z : Int32) (n : Nat) : Prop := (a3 = 0 ∧ 0 ≤ z.toInt ∧ z.toInt ≤ 10 ∧ z.toInt + n = 11) ∨ (¬ a3 = 0 ∧ -1 ≤ z.toInt ∧ z.toInt ≤ 9 ∧ z.toInt + 2 = n)
theorem ex_init {a3 z : Int32} (h : z = if a3 = 0 then 0 else 9) : ex_inv a3 z 11 := by
  subst h
  by_cases q : a3 = 0
  · rw [if_pos q]; exact Or.inl ⟨q, by decide, by decide, by decide⟩
  · rw [if_neg q]; exact Or.inr ⟨q, by decide, by decide, by decide⟩
theorem ex_zero {a3 z : Int32} (h : ex_inv a3 z 0) : False := by unfold ex_inv at h; omega
theorem ex_step {a3 z z' v : Int32} {n : Nat} (c : ¬ f_X7_in z 0 9 = 0) (h : ex_inv a3 z (n + 1)) (e : z' = z + v) (ev : v = if a3 = 0 then 1 else -1) : ex_inv a3 z' n := by
  have q := in_t c
  rw [Int32.lt_iff_toInt_lt, Int32.lt_iff_toInt_lt] at q
  have h0 : (0 : Int32).toInt = 0 := rfl
  have h9 : (9 : Int32).toInt = 9 := rfl
  unfold ex_inv at h ⊢
  subst e; subst ev
  by_cases q3 : a3 = 0
  · rw [if_pos q3, qi_tadd (by omega) (by omega)]
    rcases h with ⟨_, _, _, _⟩ | ⟨q4, _, _, _⟩
    · exact Or.inl ⟨q3, by omega, by omega, by omega⟩
    · exact absurd q3 q4
  · rw [if_neg q3, qi_tsub (by omega) (by omega)]
    rcases h with ⟨q4, _, _, _⟩ | ⟨_, _, _, _⟩
    · exact absurd q4 q3
    · exact Or.inr ⟨q3, by omega, by omega, by omega⟩
def f_X7_extreme_34 (a1 : Int32) (a2 : Int32) (a3 : Int32) (y4 : Int32) (y5 : Int32) (y6 : Int32) (K : qw_St → Int32 → Int32 → Int32) : Nat → qw_St → Int32 → Int32
  | 0, S, _ => 0
  | n + 1, S, z7 => (if (f_X7_in z7 (0 : Int32) (9 : Int32)) = 0 then (if (f_X7_in z7 (0 : Int32) (9 : Int32)) = 0 then (-1 : Int32) else (K S (((10 : Int32) * y4) + z7) (y5 + (1 : Int32)))) else (if ((y6 >>> (z7 &&& 31)) &&& (1 : Int32)) = 0 then (f_X7_extreme_34 a1 a2 a3 y4 y5 y6 K n S (z7 + (if a3 = 0 then (1 : Int32) else (-1 : Int32)))) else (if (f_X7_in z7 (0 : Int32) (9 : Int32)) = 0 then (-1 : Int32) else (K S (((10 : Int32) * y4) + z7) (y5 + (1 : Int32))))))
def f_X7_extreme_6 (a1 : Int32) (a2 : Int32) (a3 : Int32) : Nat → qw_St → Int32 → Int32 → Int32
  | 0, S, _, _ => 0
  | n + 1, S, z4, z5 => (if (4 : Int32) ≤ z5 then z4 else (f_X7_extreme_34 a1 a2 a3 z4 z5 (f_X7_agreeing S a1 z5 a2) (fun (S9 : qw_St) (k4 : Int32) (k5 : Int32) => (f_X7_extreme_6 a1 a2 a3 n S9 k4 k5)) 11 S (if a3 = 0 then (0 : Int32) else (9 : Int32))))
def f_X7_extreme (S : qw_St) (a1 : Int32) (a2 : Int32) (a3 : Int32) : Int32 := (f_X7_extreme_6 a1 a2 a3 5 S (0 : Int32) (0 : Int32))
set_option maxHeartbeats 4000000 in
set_option maxRecDepth 100000 in
theorem c_X7_extreme (l : Launch) (D : va_G) {r : Nat → Nat} (c : Nat → ClassId) (g : Nat → Int64) (hr : qw_inj r) (S : qw_St) (a1 : Int32) (a2 : Int32) (a3 : Int32) (hI : InvM S) : MI l D r c g yX7_extreme wsX7_extreme ({ frames := 1, cells := 0, slots := 0, locals := 26 }) [.ref (r 143), .int a1, .int a2, .int a3] S (f_X7_extreme S a1 a2 a3) S := by
  refine wx_of (cc := cX7_extreme) (nL := 8) (ret := (some .int)) (lvs := [(0, .ref (r 143)), (1, .int a1), (2, .int a2), (3, .int a3)]) (by decide) rfl rfl (Nat.le_of_ble_eq_true rfl) ?_
  intro p e s m below meth c0 ls hx hb hret hml hts hown hlk hK hP hS hl
  have hP : qw_P D r c g S s.heap := hP
  refine lv_iconst (v := 0) hx hb dX7_extreme_0 (by decide) ?_
  refine lv_istore (lv' := [(4, .int (0 : Int32)), (0, .ref (r 143)), (1, .int a1), (2, .int a2), (3, .int a3)]) hx hb dX7_extreme_1 hl (by decide) rfl (fun ls hl => ?_)
  refine lv_iconst (v := 0) hx hb dX7_extreme_3 (by decide) ?_
  refine lv_istore (lv' := [(5, .int (0 : Int32)), (4, .int (0 : Int32)), (0, .ref (r 143)), (1, .int a1), (2, .int a2), (3, .int a3)]) hx hb dX7_extreme_4 hl (by decide) rfl (fun ls hl => ?_)
  have L_6 : ∀ (n : Nat) (k : Nat) (z4 : Int32) (z5 : Int32) (H : Heap) (locs : List Loc) (ls : Array Slot) (hk : k + n = 5 ∧ k ≤ 4) (hz5 : z5 = nI k) (hf_6 : f_X7_extreme_6 a1 a2 a3 n S z4 z5 = (f_X7_extreme S a1 a2 a3)), qw_P D r c g S H → va_S (qw_A r) s.heap H locs → lv_has ls 8 [(5, .int z5), (4, .int z4), (0, .ref (r 143)), (1, .int a1), (2, .int a2), (3, .int a3)] → W p l e ({ frames := 1, cells := 0, slots := 0, locals := 26 }) s m [.ref (r 143), .int a1, .int a2, .int a3].toArray below meth c0 H locs 0 0 (MQ below (qw_Qi D r c g (f_X7_extreme S a1 a2 a3) S) [.ref (r 143), .int a1, .int a2, .int a3].toArray s 0 0 (qw_A r)) (F0 m 6 ls []) := by
    intro n
    induction n with
    | zero =>
      intro k z4 z5 H locs ls hk hz5 hf_6 hP hS hl
      omega
    | succ n ih_6 =>
      intro k z4 z5 H locs ls hk hz5 hf_6 hP hS hl
      refine lv_iload hx hb dX7_extreme_6 (lv_at hl 0 rfl) ?_
      refine lv_iconst (v := 4) hx hb dX7_extreme_8 (by decide) ?_
      refine lv_icmp_ge (tgt := 101) hx hb dX7_extreme_9 (by decide) (fun c_9 => ?_) (fun c_9 => ?_)
      · refine lv_iload hx hb dX7_extreme_101 (lv_at hl 1 rfl) ?_
        exact wx_iret hx hb hret hlk hK hP hS (by rw [← hf_6, f_X7_extreme_6]; rw [if_pos c_9]) rfl dX7_extreme_103
      · have hk4 : k < 4 := qi_lt hz5 (by omega) (m := 4) rfl c_9
        refine lv_aload_n hx hb dX7_extreme_12 rfl (lv_at hl 2 rfl) ?_
        refine lv_iload_n hx hb dX7_extreme_13 rfl (lv_at hl 3 rfl) ?_
        refine lv_iload hx hb dX7_extreme_14 (lv_at hl 0 rfl) ?_
        refine lv_iload_n hx hb dX7_extreme_16 rfl (lv_at hl 4 rfl) ?_
        refine wc_iV (k := 143) (C := RX7) (As := [.int a1, .int z5, .int a2]) (rest := []) ⟨hx, hb, hml, hown, hts⟩ (c_X7_agreeing l D c g hr S a1 z5 a2 (by first | assumption | omega) (qi_in hz5 hk4 (by decide))) (cwV 3 hts gX7_extreme_X7_agreeing rfl rfl rfl (by decide +kernel) ⟨Nat.le_of_ble_eq_true rfl, Nat.le_of_ble_eq_true rfl⟩) (wx_recv hK hP (by decide) qc_143 rfl) hK hP hS (fun _ h => h) rfl hl.1 rfl (lv_room (Nat.le_of_ble_eq_true rfl)) dX7_extreme_17 ⟨Nat.zero_le _, Nat.zero_le _⟩ (fun H locs hP hS => ?_)
        refine lv_topi (fun x_1 ex_1 => ?_)
        refine lv_istore (lv' := [(6, .int x_1), (5, .int z5), (4, .int z4), (0, .ref (r 143)), (1, .int a1), (2, .int a2), (3, .int a3)]) hx hb dX7_extreme_20 hl (by decide) rfl (fun ls hl => ?_)
        have J_32 : ∀ (v_2 : Int32) (H : Heap) (locs : List Loc) (ls : Array Slot) (ev_2 : v_2 = (if a3 = 0 then (0 : Int32) else (9 : Int32))), qw_P D r c g S H → va_S (qw_A r) s.heap H locs → lv_has ls 8 [(6, .int x_1), (5, .int z5), (4, .int z4), (0, .ref (r 143)), (1, .int a1), (2, .int a2), (3, .int a3)] → W p l e ({ frames := 1, cells := 0, slots := 0, locals := 26 }) s m [.ref (r 143), .int a1, .int a2, .int a3].toArray below meth c0 H locs 0 0 (MQ below (qw_Qi D r c g (f_X7_extreme S a1 a2 a3) S) [.ref (r 143), .int a1, .int a2, .int a3].toArray s 0 0 (qw_A r)) (F0 m 32 ls [.int v_2]) := by
          intro v_2 H locs ls ev_2 hP hS hl
          refine lv_istore (lv' := [(7, .int v_2), (6, .int x_1), (5, .int z5), (4, .int z4), (0, .ref (r 143)), (1, .int a1), (2, .int a2), (3, .int a3)]) hx hb dX7_extreme_32 hl (by decide) rfl (fun ls hl => ?_)
          have L_34 : ∀ (n3 : Nat) (z7 : Int32) (H : Heap) (locs : List Loc) (ls : Array Slot) (h3 : ex_inv a3 z7 n3) (hf_34 : f_X7_extreme_34 a1 a2 a3 z4 z5 x_1 (fun (S9 : qw_St) (k4 : Int32) (k5 : Int32) => (f_X7_extreme_6 a1 a2 a3 n S9 k4 k5)) n3 S z7 = (f_X7_extreme S a1 a2 a3)), qw_P D r c g S H → va_S (qw_A r) s.heap H locs → lv_has ls 8 [(7, .int z7), (6, .int x_1), (5, .int z5), (4, .int z4), (0, .ref (r 143)), (1, .int a1), (2, .int a2), (3, .int a3)] → W p l e ({ frames := 1, cells := 0, slots := 0, locals := 26 }) s m [.ref (r 143), .int a1, .int a2, .int a3].toArray below meth c0 H locs 0 0 (MQ below (qw_Qi D r c g (f_X7_extreme S a1 a2 a3) S) [.ref (r 143), .int a1, .int a2, .int a3].toArray s 0 0 (qw_A r)) (F0 m 34 ls []) := by
            intro n3
            induction n3 with
            | zero =>
              intro z7 H locs ls h3 hf_34 hP hS hl
              exact (ex_zero h3).elim
            | succ n3 ih_34 =>
              intro z7 H locs ls h3 hf_34 hP hS hl
              refine lv_iload hx hb dX7_extreme_34 (lv_at hl 0 rfl) ?_
              refine lv_iconst (v := 0) hx hb dX7_extreme_36 (by decide) ?_
              refine lv_bipush (v := 9) hx hb dX7_extreme_37 (by decide) ?_
              refine wc_iS (As := [.int z7, .int (0 : Int32), .int (9 : Int32)]) (rest := []) ⟨hx, hb, hml, hown, hts⟩ (c_X7_in l D c g hr S z7 (0 : Int32) (9 : Int32)) (va_cwS 3 hts gX7_extreme_X7_in rfl rfl rfl (by decide +kernel) ⟨Nat.le_of_ble_eq_true rfl, Nat.le_of_ble_eq_true rfl⟩) hK hP hS (fun _ h => h) rfl hl.1 rfl (lv_room (Nat.le_of_ble_eq_true rfl)) dX7_extreme_39 ⟨Nat.zero_le _, Nat.zero_le _⟩ (fun H locs hP hS => ?_)
              refine lv_if_eq (tgt := 72) hx hb dX7_extreme_42 (by decide) (fun c_42 => ?_) (fun c_42 => ?_)
              · refine lv_iload hx hb dX7_extreme_72 (lv_at hl 0 rfl) ?_
                refine lv_iconst (v := 0) hx hb dX7_extreme_74 (by decide) ?_
                refine lv_bipush (v := 9) hx hb dX7_extreme_75 (by decide) ?_
                refine wc_iS (As := [.int z7, .int (0 : Int32), .int (9 : Int32)]) (rest := []) ⟨hx, hb, hml, hown, hts⟩ (c_X7_in l D c g hr S z7 (0 : Int32) (9 : Int32)) (va_cwS 3 hts gX7_extreme_X7_in rfl rfl rfl (by decide +kernel) ⟨Nat.le_of_ble_eq_true rfl, Nat.le_of_ble_eq_true rfl⟩) hK hP hS (fun _ h => h) rfl hl.1 rfl (lv_room (Nat.le_of_ble_eq_true rfl)) dX7_extreme_77 ⟨Nat.zero_le _, Nat.zero_le _⟩ (fun H locs hP hS => ?_)
                refine lv_if_ne (tgt := 85) hx hb dX7_extreme_80 (by decide) (fun c_80 => ?_) (fun c_80 => ?_)
                · refine lv_bipush (v := 10) hx hb dX7_extreme_85 (by decide) ?_
                  refine lv_iload hx hb dX7_extreme_87 (lv_at hl 3 rfl) ?_
                  refine lv_imul hx hb dX7_extreme_89 ?_
                  refine lv_iload hx hb dX7_extreme_90 (lv_at hl 0 rfl) ?_
                  refine lv_iadd hx hb dX7_extreme_92 ?_
                  refine lv_topi (fun x_3 ex_3 => ?_)
                  refine lv_istore (lv' := [(4, .int x_3), (7, .int z7), (6, .int x_1), (5, .int z5), (0, .ref (r 143)), (1, .int a1), (2, .int a2), (3, .int a3)]) hx hb dX7_extreme_93 hl (by decide) rfl (fun ls hl => ?_)
                  obtain ⟨x_4, ex_4⟩ : ∃ y : Int32, y = (z5 + (1 : Int32)) := ⟨_, rfl⟩
                  refine lv_iinc (v := x_4) (lv' := [(5, .int x_4), (4, .int x_3), (7, .int z7), (6, .int x_1), (0, .ref (r 143)), (1, .int a1), (2, .int a2), (3, .int a3)]) hx hb dX7_extreme_95 hl (k := 3) rfl (by rw [ex_4]; rfl) (by decide) rfl (fun ls hl => ?_)
                  refine lv_goto (tgt := 6) hx hb dX7_extreme_98 (by decide) ?_
                  exact ih_6 (k + 1) x_3 x_4 _ _ _ (by omega) (by rw [ex_4]; exact qi_add hz5) (by subst ex_4; subst ex_3; subst ev_2; subst ex_1; rw [← hf_34, f_X7_extreme_34]; rw [if_pos c_42, if_neg c_80]) hP hS (lv_sub hl [0, 1, 4, 5, 6, 7] rfl)
                · refine lv_iconst (v := (-1)) hx hb dX7_extreme_83 (by decide) ?_
                  exact wx_iret hx hb hret hlk hK hP hS (by subst ev_2; subst ex_1; rw [← hf_34, f_X7_extreme_34]; rw [if_pos c_42, if_pos c_80]) rfl dX7_extreme_84
              · refine lv_iload hx hb dX7_extreme_45 (lv_at hl 1 rfl) ?_
                refine lv_iload hx hb dX7_extreme_47 (lv_at hl 0 rfl) ?_
                refine lv_ishr hx hb dX7_extreme_49 ?_
                refine lv_iconst (v := 1) hx hb dX7_extreme_50 (by decide) ?_
                refine lv_iand hx hb dX7_extreme_51 ?_
                refine lv_if_ne (tgt := 72) hx hb dX7_extreme_52 (by decide) (fun c_52 => ?_) (fun c_52 => ?_)
                · refine lv_iload hx hb dX7_extreme_72 (lv_at hl 0 rfl) ?_
                  refine lv_iconst (v := 0) hx hb dX7_extreme_74 (by decide) ?_
                  refine lv_bipush (v := 9) hx hb dX7_extreme_75 (by decide) ?_
                  refine wc_iS (As := [.int z7, .int (0 : Int32), .int (9 : Int32)]) (rest := []) ⟨hx, hb, hml, hown, hts⟩ (c_X7_in l D c g hr S z7 (0 : Int32) (9 : Int32)) (va_cwS 3 hts gX7_extreme_X7_in rfl rfl rfl (by decide +kernel) ⟨Nat.le_of_ble_eq_true rfl, Nat.le_of_ble_eq_true rfl⟩) hK hP hS (fun _ h => h) rfl hl.1 rfl (lv_room (Nat.le_of_ble_eq_true rfl)) dX7_extreme_77 ⟨Nat.zero_le _, Nat.zero_le _⟩ (fun H locs hP hS => ?_)
                  refine lv_if_ne (tgt := 85) hx hb dX7_extreme_80 (by decide) (fun c_80 => ?_) (fun c_80 => ?_)
                  · refine lv_bipush (v := 10) hx hb dX7_extreme_85 (by decide) ?_
                    refine lv_iload hx hb dX7_extreme_87 (lv_at hl 3 rfl) ?_
                    refine lv_imul hx hb dX7_extreme_89 ?_
                    refine lv_iload hx hb dX7_extreme_90 (lv_at hl 0 rfl) ?_
                    refine lv_iadd hx hb dX7_extreme_92 ?_
                    refine lv_topi (fun x_5 ex_5 => ?_)
                    refine lv_istore (lv' := [(4, .int x_5), (7, .int z7), (6, .int x_1), (5, .int z5), (0, .ref (r 143)), (1, .int a1), (2, .int a2), (3, .int a3)]) hx hb dX7_extreme_93 hl (by decide) rfl (fun ls hl => ?_)
                    obtain ⟨x_6, ex_6⟩ : ∃ y : Int32, y = (z5 + (1 : Int32)) := ⟨_, rfl⟩
                    refine lv_iinc (v := x_6) (lv' := [(5, .int x_6), (4, .int x_5), (7, .int z7), (6, .int x_1), (0, .ref (r 143)), (1, .int a1), (2, .int a2), (3, .int a3)]) hx hb dX7_extreme_95 hl (k := 3) rfl (by rw [ex_6]; rfl) (by decide) rfl (fun ls hl => ?_)
                    refine lv_goto (tgt := 6) hx hb dX7_extreme_98 (by decide) ?_
                    exact ih_6 (k + 1) x_5 x_6 _ _ _ (by omega) (by rw [ex_6]; exact qi_add hz5) (by subst ex_6; subst ex_5; subst ev_2; subst ex_1; rw [← hf_34, f_X7_extreme_34]; rw [if_neg c_42, if_neg c_52, if_neg c_80]) hP hS (lv_sub hl [0, 1, 4, 5, 6, 7] rfl)
                  · refine lv_iconst (v := (-1)) hx hb dX7_extreme_83 (by decide) ?_
                    exact wx_iret hx hb hret hlk hK hP hS (by subst ev_2; subst ex_1; rw [← hf_34, f_X7_extreme_34]; rw [if_neg c_42, if_neg c_52, if_pos c_80]) rfl dX7_extreme_84
                · refine lv_iload hx hb dX7_extreme_55 (lv_at hl 0 rfl) ?_
                  have J_66 : ∀ (v_7 : Int32) (H : Heap) (locs : List Loc) (ls : Array Slot) (ev_7 : v_7 = (if a3 = 0 then (1 : Int32) else (-1 : Int32))), qw_P D r c g S H → va_S (qw_A r) s.heap H locs → lv_has ls 8 [(7, .int z7), (6, .int x_1), (5, .int z5), (4, .int z4), (0, .ref (r 143)), (1, .int a1), (2, .int a2), (3, .int a3)] → W p l e ({ frames := 1, cells := 0, slots := 0, locals := 26 }) s m [.ref (r 143), .int a1, .int a2, .int a3].toArray below meth c0 H locs 0 0 (MQ below (qw_Qi D r c g (f_X7_extreme S a1 a2 a3) S) [.ref (r 143), .int a1, .int a2, .int a3].toArray s 0 0 (qw_A r)) (F0 m 66 ls [.int v_7, .int z7]) := by
                    intro v_7 H locs ls ev_7 hP hS hl
                    refine lv_iadd hx hb dX7_extreme_66 ?_
                    refine lv_topi (fun x_8 ex_8 => ?_)
                    refine lv_istore (lv' := [(7, .int x_8), (6, .int x_1), (5, .int z5), (4, .int z4), (0, .ref (r 143)), (1, .int a1), (2, .int a2), (3, .int a3)]) hx hb dX7_extreme_67 hl (by decide) rfl (fun ls hl => ?_)
                    refine lv_goto (tgt := 34) hx hb dX7_extreme_69 (by decide) ?_
                    exact ih_34 x_8 _ _ _ (ex_step c_42 h3 ex_8 ev_7) (by subst ex_8; subst ev_7; subst ev_2; subst ex_1; rw [← hf_34, f_X7_extreme_34]; rw [if_neg c_42, if_pos c_52]) hP hS (lv_sub hl [0, 1, 2, 3, 4, 5, 6, 7] rfl)
                  refine lv_iload_n hx hb dX7_extreme_57 rfl (lv_at hl 7 rfl) ?_
                  refine lv_if_eq (tgt := 65) hx hb dX7_extreme_58 (by decide) (fun c_58 => ?_) (fun c_58 => ?_)
                  · refine lv_iconst (v := 1) hx hb dX7_extreme_65 (by decide) ?_
                    exact J_66 _ _ _ _ (by rw [if_pos c_58]) hP hS (lv_sub hl [0, 1, 2, 3, 4, 5, 6, 7] rfl)
                  · refine lv_iconst (v := (-1)) hx hb dX7_extreme_61 (by decide) ?_
                    refine lv_goto (tgt := 66) hx hb dX7_extreme_62 (by decide) ?_
                    exact J_66 _ _ _ _ (by rw [if_neg c_58]) hP hS (lv_sub hl [0, 1, 2, 3, 4, 5, 6, 7] rfl)
          exact L_34 11 v_2 _ _ _ (ex_init ev_2) (by subst ev_2; subst ex_1; rw [← hf_6, f_X7_extreme_6]; rw [if_neg c_9]) hP hS (lv_sub hl [0, 1, 2, 3, 4, 5, 6, 7] rfl)
        refine lv_iload_n hx hb dX7_extreme_22 rfl (lv_at hl 6 rfl) ?_
        refine lv_if_eq (tgt := 31) hx hb dX7_extreme_23 (by decide) (fun c_23 => ?_) (fun c_23 => ?_)
        · refine lv_iconst (v := 0) hx hb dX7_extreme_31 (by decide) ?_
          exact J_32 _ _ _ _ (by rw [if_pos c_23]) hP hS (lv_sub hl [0, 1, 2, 3, 4, 5, 6] rfl)
        · refine lv_bipush (v := 9) hx hb dX7_extreme_26 (by decide) ?_
          refine lv_goto (tgt := 32) hx hb dX7_extreme_28 (by decide) ?_
          exact J_32 _ _ _ _ (by rw [if_neg c_23]) hP hS (lv_sub hl [0, 1, 2, 3, 4, 5, 6] rfl)
  exact L_6 5 0 (0 : Int32) (0 : Int32) _ _ _ (by omega) nI_0.symm (by rw [f_X7_extreme]) hP hS (lv_sub hl [0, 1, 2, 3, 4, 5] rfl)
theorem InvM.zero {S : qw_St} (h : InvM S) (v : Int32 := 0) : InvM (up2 S 143 0 v) := h.cong (up2_ne _ _ (Or.inr (by decide))) (fun _ => up2_ne _ _ (Or.inl (by decide))) (up2_ne _ _ (Or.inr (by decide))) (fun _ => up2_ne _ _ (Or.inl (by decide))) (up2_ne _ _ (Or.inr (by decide))) (fun _ => up2_ne _ _ (Or.inl (by decide)))
theorem InvM.thr {S : qw_St} (h : InvM S) (a b : Int32) : InvM (g_X7_throwsIf S a b) := h.cong (fr_X7_throwsIf _ _ _ _ (Or.inr (by decide))) (fun _ => fr_X7_throwsIf _ _ _ _ (Or.inl (by decide))) (fr_X7_throwsIf _ _ _ _ (Or.inr (by decide))) (fun _ => fr_X7_throwsIf _ _ _ _ (Or.inl (by decide))) (fr_X7_throwsIf _ _ _ _ (Or.inr (by decide))) (fun _ => fr_X7_throwsIf _ _ _ _ (Or.inl (by decide)))
theorem feed_k {x z : Int32} {m k : Nat} (hx : x = nI m) (hm : m ≤ 400) (h : x + 20 ≤ 400) (hz : z = nI k) (hk : k < 20) : vp_in (x + z) 400 := by
  rw [hx, hz, nI_add]
  rw [hx, show (20 : Int32) = nI 20 from rfl, nI_add, show (400 : Int32) = nI 400 from rfl, nI_leI (by omega) (by omega)] at h
  exact vp_in_nI (by omega) (by decide)
theorem feed_d {z : Int32} {k : Nat} (hz : z = nI k) (hk : k < 20) : vp_in (z / 4) 5 := by
  rw [hz, show (4 : Int32) = nI 4 from rfl, pk_div (by omega) (by omega) (by omega)]
  exact vp_in_nI (by omega) (by decide)
def g_X7_agree (S : qw_St) (a1 : Int32) (a2 : Int32) (a3 : Int32) : qw_St := (if (f_X7_noLine a1) = 0 then (if a3 = 0 then (g_X7_throwsIf (up2 S 143 0 (0 : Int32)) (f_X7_noLine a1) (1 : Int32)) else (if a3 = 1 then (g_X7_throwsIf (up2 S 143 0 (0 : Int32)) (f_X7_noLine a1) (1 : Int32)) else (if a3 = 2 then (g_X7_throwsIf (up2 S 143 0 (0 : Int32)) (f_X7_noLine a1) (1 : Int32)) else (if a3 = 3 then (if (f_X7_many (g_X7_throwsIf (up2 S 143 0 (0 : Int32)) (f_X7_noLine a1) (1 : Int32)) a1 a2) = (1 : Int32) then (g_X7_throwsIf (up2 S 143 0 (0 : Int32)) (f_X7_noLine a1) (1 : Int32)) else (g_X7_throwsIf (up2 S 143 0 (0 : Int32)) (f_X7_noLine a1) (1 : Int32))) else (up2 (g_X7_throwsIf (up2 S 143 0 (0 : Int32)) (f_X7_noLine a1) (1 : Int32)) 143 0 (2 : Int32)))))) else (g_X7_throwsIf (up2 S 143 0 (0 : Int32)) (f_X7_noLine a1) (1 : Int32)))
def f_X7_agree (S : qw_St) (a1 : Int32) (a2 : Int32) (a3 : Int32) : Int32 := (if (f_X7_noLine a1) = 0 then (if a3 = 0 then (f_X7_many (g_X7_throwsIf (up2 S 143 0 (0 : Int32)) (f_X7_noLine a1) (1 : Int32)) a1 a2) else (if a3 = 1 then (f_X7_extreme (g_X7_throwsIf (up2 S 143 0 (0 : Int32)) (f_X7_noLine a1) (1 : Int32)) a1 a2 (0 : Int32)) else (if a3 = 2 then (f_X7_extreme (g_X7_throwsIf (up2 S 143 0 (0 : Int32)) (f_X7_noLine a1) (1 : Int32)) a1 a2 (1 : Int32)) else (if a3 = 3 then (if (f_X7_many (g_X7_throwsIf (up2 S 143 0 (0 : Int32)) (f_X7_noLine a1) (1 : Int32)) a1 a2) = (1 : Int32) then (1 : Int32) else (0 : Int32)) else (0 : Int32))))) else (0 : Int32))
set_option maxHeartbeats 4000000 in
set_option maxRecDepth 100000 in
theorem c_X7_agree (l : Launch) (D : va_G) {r : Nat → Nat} (c : Nat → ClassId) (g : Nat → Int64) (hr : qw_inj r) (S : qw_St) (a1 : Int32) (a2 : Int32) (a3 : Int32) (hI : InvM S) : MI l D r c g yX7_agree wsX7_agree ({ frames := 2, cells := 0, slots := 0, locals := 53 }) [.ref (r 143), .int a1, .int a2, .int a3] S (f_X7_agree S a1 a2 a3) (g_X7_agree S a1 a2 a3) := by
  have hiX7 : ∀ w ∈ wsX70, w ∈ wsX7_agree := by decide +kernel
  refine wx_of (cc := cX7_agree) (nL := 4) (ret := (some .int)) (lvs := [(0, .ref (r 143)), (1, .int a1), (2, .int a2), (3, .int a3)]) (by decide) rfl rfl (Nat.le_of_ble_eq_true rfl) ?_
  intro p e s m below meth c0 ls hx hb hret hml hts hown hlk hK hP hS hl
  have hP : qw_P D r c g S s.heap := hP
  refine lv_aload_n hx hb dX7_agree_0 rfl (lv_at hl 0 rfl) ?_
  refine lv_iconst (v := 0) hx hb dX7_agree_1 (by decide) ?_
  refine wx_put hr hx hb hts hiX7 tyX7 tyX7_ok nmX7 hown hK hP hS 143 (by decide) qc_143 rfl 0 (by decide) (hts (.fieldLink RX7 99 "PriceEdictModel" "thrown" "I") (by decide +kernel)) rfl (by decide +kernel) (fun _ => rfl) (Nat.le_of_ble_eq_true rfl) dX7_agree_2 (fun H locs hP hS => ?_)
  refine lv_aload_n hx hb dX7_agree_5 rfl (lv_at hl 0 rfl) ?_
  refine lv_iload_n hx hb dX7_agree_6 rfl (lv_at hl 1 rfl) ?_
  refine wc_iS (As := [.int a1]) (rest := [.ref (r 143)]) ⟨hx, hb, hml, hown, hts⟩ (c_X7_noLine l D c g hr (up2 S 143 0 (0 : Int32)) a1) (va_cwS 1 hts gX7_agree_X7_noLine rfl rfl rfl (by decide +kernel) ⟨Nat.le_of_ble_eq_true rfl, Nat.le_of_ble_eq_true rfl⟩) hK hP hS (fun _ h => h) rfl hl.1 rfl (lv_room (Nat.le_of_ble_eq_true rfl)) dX7_agree_7 ⟨Nat.zero_le _, Nat.zero_le _⟩ (fun H locs hP hS => ?_)
  refine lv_iconst (v := 1) hx hb dX7_agree_10 (by decide) ?_
  refine wc_iV (k := 143) (C := RX7) (As := [.int (f_X7_noLine a1), .int (1 : Int32)]) (rest := []) ⟨hx, hb, hml, hown, hts⟩ (c_X7_throwsIf l D c g hr (up2 S 143 0 (0 : Int32)) (f_X7_noLine a1) (1 : Int32) (noLine_b _)) (cwV 2 hts gX7_agree_X7_throwsIf rfl rfl rfl (by decide +kernel) ⟨Nat.le_of_ble_eq_true rfl, Nat.le_of_ble_eq_true rfl⟩) (wx_recv hK hP (by decide) qc_143 rfl) hK hP hS (fun _ h => h) rfl hl.1 rfl (lv_room (Nat.le_of_ble_eq_true rfl)) dX7_agree_11 ⟨Nat.zero_le _, Nat.zero_le _⟩ (fun H locs hP hS => ?_)
  refine lv_tope (f_X7_noLine a1) rfl ?_
  refine lv_if_eq (tgt := 19) hx hb dX7_agree_14 (by decide) (fun c_14 => ?_) (fun c_14 => ?_)
  · refine lv_iload_n hx hb dX7_agree_19 rfl (lv_at hl 3 rfl) ?_
    by_cases c_20_0 : a3 = 0
    · refine lv_tableIn (tgt := 52) hx hb dX7_agree_20 (by rw [c_20_0]; decide) (by rw [c_20_0]; decide) (by rw [c_20_0]; rfl) (by decide) ?_
      refine lv_aload_n hx hb dX7_agree_52 rfl (lv_at hl 0 rfl) ?_
      refine lv_iload_n hx hb dX7_agree_53 rfl (lv_at hl 1 rfl) ?_
      refine lv_iload_n hx hb dX7_agree_54 rfl (lv_at hl 2 rfl) ?_
      refine wc_iV (k := 143) (C := RX7) (As := [.int a1, .int a2]) (rest := []) ⟨hx, hb, hml, hown, hts⟩ (c_X7_many l D c g hr (g_X7_throwsIf (up2 S 143 0 (0 : Int32)) (f_X7_noLine a1) (1 : Int32)) a1 a2 (InvM.thr (InvM.zero hI) _ _)) (cwV 2 hts gX7_agree_X7_many rfl rfl rfl (by decide +kernel) ⟨Nat.le_of_ble_eq_true rfl, Nat.le_of_ble_eq_true rfl⟩) (wx_recv hK hP (by decide) qc_143 rfl) hK hP hS (fun _ h => h) rfl hl.1 rfl (lv_room (Nat.le_of_ble_eq_true rfl)) dX7_agree_55 ⟨Nat.zero_le _, Nat.zero_le _⟩ (fun H locs hP hS => ?_)
      exact wx_iret hx hb hret hlk hK hP hS (by unfold f_X7_agree; rw [if_pos c_14, if_pos c_20_0]) (by unfold g_X7_agree; rw [if_pos c_14, if_pos c_20_0]) dX7_agree_58
    by_cases c_20_1 : a3 = 1
    · refine lv_tableIn (tgt := 59) hx hb dX7_agree_20 (by rw [c_20_1]; decide) (by rw [c_20_1]; decide) (by rw [c_20_1]; rfl) (by decide) ?_
      refine lv_aload_n hx hb dX7_agree_59 rfl (lv_at hl 0 rfl) ?_
      refine lv_iload_n hx hb dX7_agree_60 rfl (lv_at hl 1 rfl) ?_
      refine lv_iload_n hx hb dX7_agree_61 rfl (lv_at hl 2 rfl) ?_
      refine lv_iconst (v := 0) hx hb dX7_agree_62 (by decide) ?_
      refine wc_iV (k := 143) (C := RX7) (As := [.int a1, .int a2, .int (0 : Int32)]) (rest := []) ⟨hx, hb, hml, hown, hts⟩ (c_X7_extreme l D c g hr (g_X7_throwsIf (up2 S 143 0 (0 : Int32)) (f_X7_noLine a1) (1 : Int32)) a1 a2 (0 : Int32) (InvM.thr (InvM.zero hI) _ _)) (cwV 3 hts gX7_agree_X7_extreme rfl rfl rfl (by decide +kernel) ⟨Nat.le_of_ble_eq_true rfl, Nat.le_of_ble_eq_true rfl⟩) (wx_recv hK hP (by decide) qc_143 rfl) hK hP hS (fun _ h => h) rfl hl.1 rfl (lv_room (Nat.le_of_ble_eq_true rfl)) dX7_agree_63 ⟨Nat.zero_le _, Nat.zero_le _⟩ (fun H locs hP hS => ?_)
      exact wx_iret hx hb hret hlk hK hP hS (by unfold f_X7_agree; rw [if_pos c_14, if_neg c_20_0, if_pos c_20_1]) (by unfold g_X7_agree; rw [if_pos c_14, if_neg c_20_0, if_pos c_20_1]) dX7_agree_66
    by_cases c_20_2 : a3 = 2
    · refine lv_tableIn (tgt := 67) hx hb dX7_agree_20 (by rw [c_20_2]; decide) (by rw [c_20_2]; decide) (by rw [c_20_2]; rfl) (by decide) ?_
      refine lv_aload_n hx hb dX7_agree_67 rfl (lv_at hl 0 rfl) ?_
      refine lv_iload_n hx hb dX7_agree_68 rfl (lv_at hl 1 rfl) ?_
      refine lv_iload_n hx hb dX7_agree_69 rfl (lv_at hl 2 rfl) ?_
      refine lv_iconst (v := 1) hx hb dX7_agree_70 (by decide) ?_
      refine wc_iV (k := 143) (C := RX7) (As := [.int a1, .int a2, .int (1 : Int32)]) (rest := []) ⟨hx, hb, hml, hown, hts⟩ (c_X7_extreme l D c g hr (g_X7_throwsIf (up2 S 143 0 (0 : Int32)) (f_X7_noLine a1) (1 : Int32)) a1 a2 (1 : Int32) (InvM.thr (InvM.zero hI) _ _)) (cwV 3 hts gX7_agree_X7_extreme rfl rfl rfl (by decide +kernel) ⟨Nat.le_of_ble_eq_true rfl, Nat.le_of_ble_eq_true rfl⟩) (wx_recv hK hP (by decide) qc_143 rfl) hK hP hS (fun _ h => h) rfl hl.1 rfl (lv_room (Nat.le_of_ble_eq_true rfl)) dX7_agree_71 ⟨Nat.zero_le _, Nat.zero_le _⟩ (fun H locs hP hS => ?_)
      exact wx_iret hx hb hret hlk hK hP hS (by unfold f_X7_agree; rw [if_pos c_14, if_neg c_20_0, if_neg c_20_1, if_pos c_20_2]) (by unfold g_X7_agree; rw [if_pos c_14, if_neg c_20_0, if_neg c_20_1, if_pos c_20_2]) dX7_agree_74
    by_cases c_20_3 : a3 = 3
    · refine lv_tableIn (tgt := 75) hx hb dX7_agree_20 (by rw [c_20_3]; decide) (by rw [c_20_3]; decide) (by rw [c_20_3]; rfl) (by decide) ?_
      refine lv_aload_n hx hb dX7_agree_75 rfl (lv_at hl 0 rfl) ?_
      refine lv_iload_n hx hb dX7_agree_76 rfl (lv_at hl 1 rfl) ?_
      refine lv_iload_n hx hb dX7_agree_77 rfl (lv_at hl 2 rfl) ?_
      refine wc_iV (k := 143) (C := RX7) (As := [.int a1, .int a2]) (rest := []) ⟨hx, hb, hml, hown, hts⟩ (c_X7_many l D c g hr (g_X7_throwsIf (up2 S 143 0 (0 : Int32)) (f_X7_noLine a1) (1 : Int32)) a1 a2 (InvM.thr (InvM.zero hI) _ _)) (cwV 2 hts gX7_agree_X7_many rfl rfl rfl (by decide +kernel) ⟨Nat.le_of_ble_eq_true rfl, Nat.le_of_ble_eq_true rfl⟩) (wx_recv hK hP (by decide) qc_143 rfl) hK hP hS (fun _ h => h) rfl hl.1 rfl (lv_room (Nat.le_of_ble_eq_true rfl)) dX7_agree_78 ⟨Nat.zero_le _, Nat.zero_le _⟩ (fun H locs hP hS => ?_)
      refine lv_iconst (v := 1) hx hb dX7_agree_81 (by decide) ?_
      refine lv_icmp_ne (tgt := 89) hx hb dX7_agree_82 (by decide) (fun c_82 => ?_) (fun c_82 => ?_)
      · refine lv_iconst (v := 0) hx hb dX7_agree_89 (by decide) ?_
        exact wx_iret hx hb hret hlk hK hP hS (by unfold f_X7_agree; rw [if_pos c_14, if_neg c_20_0, if_neg c_20_1, if_neg c_20_2, if_pos c_20_3, if_neg c_82]) (by unfold g_X7_agree; rw [if_pos c_14, if_neg c_20_0, if_neg c_20_1, if_neg c_20_2, if_pos c_20_3, if_neg c_82]) dX7_agree_90
      · refine lv_iconst (v := 1) hx hb dX7_agree_85 (by decide) ?_
        refine lv_goto (tgt := 90) hx hb dX7_agree_86 (by decide) ?_
        exact wx_iret hx hb hret hlk hK hP hS (by unfold f_X7_agree; rw [if_pos c_14, if_neg c_20_0, if_neg c_20_1, if_neg c_20_2, if_pos c_20_3, if_pos c_82]) (by unfold g_X7_agree; rw [if_pos c_14, if_neg c_20_0, if_neg c_20_1, if_neg c_20_2, if_pos c_20_3, if_pos c_82]) dX7_agree_90
    refine lv_tableOut (tgt := 91) hx hb dX7_agree_20 (sw_out3 c_20_0 c_20_1 c_20_2 c_20_3) (by decide) ?_
    refine lv_aload_n hx hb dX7_agree_91 rfl (lv_at hl 0 rfl) ?_
    refine lv_iconst (v := 2) hx hb dX7_agree_92 (by decide) ?_
    refine wx_put hr hx hb hts hiX7 tyX7 tyX7_ok nmX7 hown hK hP hS 143 (by decide) qc_143 rfl 0 (by decide) (hts (.fieldLink RX7 99 "PriceEdictModel" "thrown" "I") (by decide +kernel)) rfl (by decide +kernel) (fun _ => rfl) (Nat.le_of_ble_eq_true rfl) dX7_agree_93 (fun H locs hP hS => ?_)
    refine lv_iconst (v := 0) hx hb dX7_agree_96 (by decide) ?_
    exact wx_iret hx hb hret hlk hK hP hS (by unfold f_X7_agree; rw [if_pos c_14, if_neg c_20_0, if_neg c_20_1, if_neg c_20_2, if_neg c_20_3]) (by unfold g_X7_agree; rw [if_pos c_14, if_neg c_20_0, if_neg c_20_1, if_neg c_20_2, if_neg c_20_3]) dX7_agree_97
  · refine lv_iconst (v := 0) hx hb dX7_agree_17 (by decide) ?_
    exact wx_iret hx hb hret hlk hK hP hS (by unfold f_X7_agree; rw [if_neg c_14]) (by unfold g_X7_agree; rw [if_neg c_14]) dX7_agree_18
def g_X7_feed_60 (a1 : Int32) (a2 : Int32) (a3 : Int32) (a4 : Int32) (a5 : Int32) : Nat → qw_St → Int32 → qw_St
  | 0, S, _ => S
  | n + 1, S, z6 => (if (20 : Int32) ≤ z6 then (up2 S 143 19 ((S 143 19) + (20 : Int32))) else (g_X7_feed_60 a1 a2 a3 a4 a5 n (up2 S 156 ((S 143 19) + z6).toNatClampNeg (vp_nar .byte (((S 157 (z6 / (4 : Int32)).toNatClampNeg) >>> (((24 : Int32) - ((8 : Int32) * (z6 - z6 / (4 : Int32) * (4 : Int32)))) &&& 31)).toInt8.toInt32))) (z6 + (1 : Int32))))
def f_X7_feed_60 (a1 : Int32) (a2 : Int32) (a3 : Int32) (a4 : Int32) (a5 : Int32) : Nat → qw_St → Int32 → Int32
  | 0, S, _ => 0
  | n + 1, S, z6 => (if (20 : Int32) ≤ z6 then ((S 143 19) + (20 : Int32)) else (f_X7_feed_60 a1 a2 a3 a4 a5 n (up2 S 156 ((S 143 19) + z6).toNatClampNeg (vp_nar .byte (((S 157 (z6 / (4 : Int32)).toNatClampNeg) >>> (((24 : Int32) - ((8 : Int32) * (z6 - z6 / (4 : Int32) * (4 : Int32)))) &&& 31)).toInt8.toInt32))) (z6 + (1 : Int32))))
def g_X7_feed (S : qw_St) (a1 : Int32) (a2 : Int32) (a3 : Int32) (a4 : Int32) (a5 : Int32) : qw_St := (if ((S 143 19) + (20 : Int32)) ≤ (400 : Int32) then (g_X7_feed_60 a1 a2 a3 a4 a5 21 (up2 (up2 (up2 (up2 (up2 (up2 S 143 0 (0 : Int32)) 157 (0 : Int32).toNatClampNeg a1) 157 (1 : Int32).toNatClampNeg a2) 157 (2 : Int32).toNatClampNeg a3) 157 (3 : Int32).toNatClampNeg a4) 157 (4 : Int32).toNatClampNeg a5) (0 : Int32)) else (up2 S 143 0 (0 : Int32)))
def f_X7_feed (S : qw_St) (a1 : Int32) (a2 : Int32) (a3 : Int32) (a4 : Int32) (a5 : Int32) : Int32 := (if ((S 143 19) + (20 : Int32)) ≤ (400 : Int32) then (f_X7_feed_60 a1 a2 a3 a4 a5 21 (up2 (up2 (up2 (up2 (up2 (up2 S 143 0 (0 : Int32)) 157 (0 : Int32).toNatClampNeg a1) 157 (1 : Int32).toNatClampNeg a2) 157 (2 : Int32).toNatClampNeg a3) 157 (3 : Int32).toNatClampNeg a4) 157 (4 : Int32).toNatClampNeg a5) (0 : Int32)) else (-1 : Int32))
set_option maxHeartbeats 4000000 in
set_option maxRecDepth 100000 in
theorem c_X7_feed (l : Launch) (D : va_G) {r : Nat → Nat} (c : Nat → ClassId) (g : Nat → Int64) (hr : qw_inj r) (S : qw_St) (a1 : Int32) (a2 : Int32) (a3 : Int32) (a4 : Int32) (a5 : Int32) (hz : qz (S 143 19) 400) : MI l D r c g yX7_feed wsX7_feed ({ frames := 0, cells := 0, slots := 0, locals := 0 }) [.ref (r 143), .int a1, .int a2, .int a3, .int a4, .int a5] S (f_X7_feed S a1 a2 a3 a4 a5) (g_X7_feed S a1 a2 a3 a4 a5) := by
  have hiX7 : ∀ w ∈ wsX70, w ∈ wsX7_feed := by decide +kernel
  refine wx_of (cc := cX7_feed) (nL := 7) (ret := (some .int)) (lvs := [(0, .ref (r 143)), (1, .int a1), (2, .int a2), (3, .int a3), (4, .int a4), (5, .int a5)]) (by decide) rfl rfl (Nat.le_of_ble_eq_true rfl) ?_
  intro p e s m below meth c0 ls hx hb hret hml hts hown hlk hK hP hS hl
  obtain ⟨m0, hm0, em0⟩ := id hz
  have hP : qw_P D r c g S s.heap := hP
  refine lv_aload_n hx hb dX7_feed_0 rfl (lv_at hl 0 rfl) ?_
  refine lv_iconst (v := 0) hx hb dX7_feed_1 (by decide) ?_
  refine wx_put hr hx hb hts hiX7 tyX7 tyX7_ok nmX7 hown hK hP hS 143 (by decide) qc_143 rfl 0 (by decide) (hts (.fieldLink RX7 99 "PriceEdictModel" "thrown" "I") (by decide +kernel)) rfl (by decide +kernel) (fun _ => rfl) (Nat.le_of_ble_eq_true rfl) dX7_feed_2 (fun H locs hP hS => ?_)
  refine lv_aload_n hx hb dX7_feed_5 rfl (lv_at hl 0 rfl) ?_
  refine wx_get hx hb hts hiX7 hown hK hP 143 (by decide) qc_143 rfl 19 (by decide) (hts (.fieldLink RX7 141 "PriceEdictModel" "taped" "I") (by decide +kernel)) rfl dX7_feed_6 ?_
  refine lv_tope (S 143 19) ((up2_ne _ _ (Or.inr (by decide)))) ?_
  refine lv_bipush (v := 20) hx hb dX7_feed_9 (by decide) ?_
  refine lv_iadd hx hb dX7_feed_11 ?_
  refine lv_sipush (v := 400) hx hb dX7_feed_12 (by decide) ?_
  refine lv_icmp_le (tgt := 20) hx hb dX7_feed_15 (by decide) (fun c_15 => ?_) (fun c_15 => ?_)
  · refine lv_aload_n hx hb dX7_feed_20 rfl (lv_at hl 0 rfl) ?_
    refine wx_get hx hb hts hiX7 hown hK hP 143 (by decide) qc_143 rfl 24 (by decide) (hts (.fieldLink RX7 54 "PriceEdictModel" "five" "[I") (by decide +kernel)) rfl dX7_feed_21 ?_
    refine lv_iconst (v := 0) hx hb dX7_feed_24 (by decide) ?_
    refine lv_iload_n hx hb dX7_feed_25 rfl (lv_at hl 1 rfl) ?_
    refine wx_ist hr hx hb hK hP hS 157 (by decide) qc_157 (vp_in_iff.mpr (by decide)) dX7_feed_26 (fun H locs hP hS => ?_)
    refine lv_aload_n hx hb dX7_feed_27 rfl (lv_at hl 0 rfl) ?_
    refine wx_get hx hb hts hiX7 hown hK hP 143 (by decide) qc_143 rfl 24 (by decide) (hts (.fieldLink RX7 54 "PriceEdictModel" "five" "[I") (by decide +kernel)) rfl dX7_feed_28 ?_
    refine lv_iconst (v := 1) hx hb dX7_feed_31 (by decide) ?_
    refine lv_iload_n hx hb dX7_feed_32 rfl (lv_at hl 2 rfl) ?_
    refine wx_ist hr hx hb hK hP hS 157 (by decide) qc_157 (vp_in_iff.mpr (by decide)) dX7_feed_33 (fun H locs hP hS => ?_)
    refine lv_aload_n hx hb dX7_feed_34 rfl (lv_at hl 0 rfl) ?_
    refine wx_get hx hb hts hiX7 hown hK hP 143 (by decide) qc_143 rfl 24 (by decide) (hts (.fieldLink RX7 54 "PriceEdictModel" "five" "[I") (by decide +kernel)) rfl dX7_feed_35 ?_
    refine lv_iconst (v := 2) hx hb dX7_feed_38 (by decide) ?_
    refine lv_iload_n hx hb dX7_feed_39 rfl (lv_at hl 3 rfl) ?_
    refine wx_ist hr hx hb hK hP hS 157 (by decide) qc_157 (vp_in_iff.mpr (by decide)) dX7_feed_40 (fun H locs hP hS => ?_)
    refine lv_aload_n hx hb dX7_feed_41 rfl (lv_at hl 0 rfl) ?_
    refine wx_get hx hb hts hiX7 hown hK hP 143 (by decide) qc_143 rfl 24 (by decide) (hts (.fieldLink RX7 54 "PriceEdictModel" "five" "[I") (by decide +kernel)) rfl dX7_feed_42 ?_
    refine lv_iconst (v := 3) hx hb dX7_feed_45 (by decide) ?_
    refine lv_iload hx hb dX7_feed_46 (lv_at hl 4 rfl) ?_
    refine wx_ist hr hx hb hK hP hS 157 (by decide) qc_157 (vp_in_iff.mpr (by decide)) dX7_feed_48 (fun H locs hP hS => ?_)
    refine lv_aload_n hx hb dX7_feed_49 rfl (lv_at hl 0 rfl) ?_
    refine wx_get hx hb hts hiX7 hown hK hP 143 (by decide) qc_143 rfl 24 (by decide) (hts (.fieldLink RX7 54 "PriceEdictModel" "five" "[I") (by decide +kernel)) rfl dX7_feed_50 ?_
    refine lv_iconst (v := 4) hx hb dX7_feed_53 (by decide) ?_
    refine lv_iload hx hb dX7_feed_54 (lv_at hl 5 rfl) ?_
    refine wx_ist hr hx hb hK hP hS 157 (by decide) qc_157 (vp_in_iff.mpr (by decide)) dX7_feed_56 (fun H locs hP hS => ?_)
    refine lv_iconst (v := 0) hx hb dX7_feed_57 (by decide) ?_
    refine lv_istore (lv' := [(6, .int (0 : Int32)), (0, .ref (r 143)), (1, .int a1), (2, .int a2), (3, .int a3), (4, .int a4), (5, .int a5)]) hx hb dX7_feed_58 hl (by decide) rfl (fun ls hl => ?_)
    have L_60 : ∀ (n : Nat) (k : Nat) (z6 : Int32) (S1 : qw_St) (H : Heap) (locs : List Loc) (ls : Array Slot) (hk : k + n = 21 ∧ k ≤ 20) (hz6 : z6 = nI k) (hm9 : S1 143 19 = nI m0) (hf_60 : f_X7_feed_60 a1 a2 a3 a4 a5 n S1 z6 = (f_X7_feed S a1 a2 a3 a4 a5)) (hg_60 : g_X7_feed_60 a1 a2 a3 a4 a5 n S1 z6 = (g_X7_feed S a1 a2 a3 a4 a5)), qw_P D r c g S1 H → va_S (qw_A r) s.heap H locs → lv_has ls 7 [(6, .int z6), (0, .ref (r 143)), (1, .int a1), (2, .int a2), (3, .int a3), (4, .int a4), (5, .int a5)] → W p l e ({ frames := 0, cells := 0, slots := 0, locals := 0 }) s m [.ref (r 143), .int a1, .int a2, .int a3, .int a4, .int a5].toArray below meth c0 H locs 0 0 (MQ below (qw_Qi D r c g (f_X7_feed S a1 a2 a3 a4 a5) (g_X7_feed S a1 a2 a3 a4 a5)) [.ref (r 143), .int a1, .int a2, .int a3, .int a4, .int a5].toArray s 0 0 (qw_A r)) (F0 m 60 ls []) := by
      intro n
      induction n with
      | zero =>
        intro k z6 S1 H locs ls hk hz6 hm9 hf_60 hg_60 hP hS hl
        omega
      | succ n ih_60 =>
        intro k z6 S1 H locs ls hk hz6 hm9 hf_60 hg_60 hP hS hl
        refine lv_iload hx hb dX7_feed_60 (lv_at hl 0 rfl) ?_
        refine lv_bipush (v := 20) hx hb dX7_feed_62 (by decide) ?_
        refine lv_icmp_ge (tgt := 106) hx hb dX7_feed_64 (by decide) (fun c_64 => ?_) (fun c_64 => ?_)
        · refine lv_aload_n hx hb dX7_feed_106 rfl (lv_at hl 1 rfl) ?_
          refine lv_dup hx hb dX7_feed_107 rfl ?_
          refine wx_get hx hb hts hiX7 hown hK hP 143 (by decide) qc_143 rfl 19 (by decide) (hts (.fieldLink RX7 141 "PriceEdictModel" "taped" "I") (by decide +kernel)) rfl dX7_feed_108 ?_
          refine lv_bipush (v := 20) hx hb dX7_feed_111 (by decide) ?_
          refine lv_iadd hx hb dX7_feed_113 ?_
          refine wx_put hr hx hb hts hiX7 tyX7 tyX7_ok nmX7 hown hK hP hS 143 (by decide) qc_143 rfl 19 (by decide) (hts (.fieldLink RX7 141 "PriceEdictModel" "taped" "I") (by decide +kernel)) rfl (by decide +kernel) (fun _ => rfl) (Nat.le_of_ble_eq_true rfl) dX7_feed_114 (fun H locs hP hS => ?_)
          refine lv_aload_n hx hb dX7_feed_117 rfl (lv_at hl 1 rfl) ?_
          refine wx_get hx hb hts hiX7 hown hK hP 143 (by decide) qc_143 rfl 19 (by decide) (hts (.fieldLink RX7 141 "PriceEdictModel" "taped" "I") (by decide +kernel)) rfl dX7_feed_118 ?_
          refine lv_tope ((S1 143 19) + (20 : Int32)) ((up2_same _ _ _ _)) ?_
          exact wx_iret hx hb hret hlk hK hP hS (by rw [← hf_60, f_X7_feed_60]; rw [if_pos c_64]) (by rw [← hg_60, g_X7_feed_60]; rw [if_pos c_64]) dX7_feed_121
        · have hk6 : k < 20 := qi_lt hz6 (by omega) (m := 20) rfl c_64
          refine lv_aload_n hx hb dX7_feed_67 rfl (lv_at hl 1 rfl) ?_
          refine wx_get hx hb hts hiX7 hown hK hP 143 (by decide) qc_143 rfl 18 (by decide) (hts (.fieldLink RX7 46 "PriceEdictModel" "tape" "[B") (by decide +kernel)) rfl dX7_feed_68 ?_
          refine lv_aload_n hx hb dX7_feed_71 rfl (lv_at hl 1 rfl) ?_
          refine wx_get hx hb hts hiX7 hown hK hP 143 (by decide) qc_143 rfl 19 (by decide) (hts (.fieldLink RX7 141 "PriceEdictModel" "taped" "I") (by decide +kernel)) rfl dX7_feed_72 ?_
          refine lv_iload hx hb dX7_feed_75 (lv_at hl 0 rfl) ?_
          refine lv_iadd hx hb dX7_feed_77 ?_
          refine lv_aload_n hx hb dX7_feed_78 rfl (lv_at hl 1 rfl) ?_
          refine wx_get hx hb hts hiX7 hown hK hP 143 (by decide) qc_143 rfl 24 (by decide) (hts (.fieldLink RX7 54 "PriceEdictModel" "five" "[I") (by decide +kernel)) rfl dX7_feed_79 ?_
          refine lv_iload hx hb dX7_feed_82 (lv_at hl 0 rfl) ?_
          refine lv_iconst (v := 4) hx hb dX7_feed_84 (by decide) ?_
          refine lv_idiv hx hb dX7_feed_85 (by decide) ?_
          refine wx_ild hx hb hK hP 157 (by decide) qc_157 (feed_d hz6 hk6) dX7_feed_86 ?_
          refine lv_bipush (v := 24) hx hb dX7_feed_87 (by decide) ?_
          refine lv_bipush (v := 8) hx hb dX7_feed_89 (by decide) ?_
          refine lv_iload hx hb dX7_feed_91 (lv_at hl 0 rfl) ?_
          refine lv_iconst (v := 4) hx hb dX7_feed_93 (by decide) ?_
          refine lv_irem hx hb dX7_feed_94 (by decide) ?_
          refine lv_imul hx hb dX7_feed_95 ?_
          refine lv_isub hx hb dX7_feed_96 ?_
          refine lv_ishr hx hb dX7_feed_97 ?_
          refine lv_i2b hx hb dX7_feed_98 rfl ?_
          refine wx_bst hr hx hb hK hP hS 156 (by decide) qc_156 (feed_k hm9 hm0 (by rw [hm9, ← em0]; exact c_15) hz6 hk6) dX7_feed_99 (fun H locs hP hS => ?_)
          obtain ⟨x_1, ex_1⟩ : ∃ y : Int32, y = (z6 + (1 : Int32)) := ⟨_, rfl⟩
          refine lv_iinc (v := x_1) (lv' := [(6, .int x_1), (0, .ref (r 143)), (1, .int a1), (2, .int a2), (3, .int a3), (4, .int a4), (5, .int a5)]) hx hb dX7_feed_100 hl (k := 0) rfl (by rw [ex_1]; rfl) (by decide) rfl (fun ls hl => ?_)
          refine lv_goto (tgt := 60) hx hb dX7_feed_103 (by decide) ?_
          exact ih_60 (k + 1) x_1 (up2 S1 156 ((S1 143 19) + z6).toNatClampNeg (vp_nar .byte (((S1 157 (z6 / (4 : Int32)).toNatClampNeg) >>> (((24 : Int32) - ((8 : Int32) * (z6 - z6 / (4 : Int32) * (4 : Int32)))) &&& 31)).toInt8.toInt32))) _ _ _ (by omega) (by rw [ex_1]; exact qi_add hz6) hm9 (by subst ex_1; rw [← hf_60, f_X7_feed_60]; rw [if_neg c_64]) (by subst ex_1; rw [← hg_60, g_X7_feed_60]; rw [if_neg c_64]) hP hS (lv_sub hl [0, 1, 2, 3, 4, 5, 6] rfl)
    exact L_60 21 0 (0 : Int32) (up2 (up2 (up2 (up2 (up2 (up2 S 143 0 (0 : Int32)) 157 (0 : Int32).toNatClampNeg a1) 157 (1 : Int32).toNatClampNeg a2) 157 (2 : Int32).toNatClampNeg a3) 157 (3 : Int32).toNatClampNeg a4) 157 (4 : Int32).toNatClampNeg a5) _ _ _ (by omega) nI_0.symm em0 (by unfold f_X7_feed; rw [if_pos c_15]) (by unfold g_X7_feed; rw [if_pos c_15]) hP hS (lv_sub hl [0, 1, 2, 3, 4, 5, 6] rfl)
  · refine lv_iconst (v := (-1)) hx hb dX7_feed_18 (by decide) ?_
    exact wx_iret hx hb hret hlk hK hP hS (by unfold f_X7_feed; rw [if_neg c_15]) (by unfold g_X7_feed; rw [if_neg c_15]) dX7_feed_19
def g_X7_end (S : qw_St) (a1 : Int32) : qw_St := (if a1 < 0 then (up2 S 143 0 (0 : Int32)) else (if a1 ≤ (S 143 19) then (up2 (up2 S 143 0 (0 : Int32)) 143 19 a1) else (up2 S 143 0 (0 : Int32))))
def f_X7_end (S : qw_St) (a1 : Int32) : Int32 := (if a1 < 0 then (0 : Int32) else (if a1 ≤ (S 143 19) then (1 : Int32) else (0 : Int32)))
set_option maxHeartbeats 4000000 in
set_option maxRecDepth 100000 in
theorem c_X7_end (l : Launch) (D : va_G) {r : Nat → Nat} (c : Nat → ClassId) (g : Nat → Int64) (hr : qw_inj r) (S : qw_St) (a1 : Int32) : MI l D r c g yX7_end wsX7_end ({ frames := 0, cells := 0, slots := 0, locals := 0 }) [.ref (r 143), .int a1] S (f_X7_end S a1) (g_X7_end S a1) := by
  have hiX7 : ∀ w ∈ wsX70, w ∈ wsX7_end := by decide +kernel
  refine wx_of (cc := cX7_end) (nL := 2) (ret := (some .boolean)) (lvs := [(0, .ref (r 143)), (1, .int a1)]) (by decide) rfl rfl (Nat.le_of_ble_eq_true rfl) ?_
  intro p e s m below meth c0 ls hx hb hret hml hts hown hlk hK hP hS hl
  have hP : qw_P D r c g S s.heap := hP
  refine lv_aload_n hx hb dX7_end_0 rfl (lv_at hl 0 rfl) ?_
  refine lv_iconst (v := 0) hx hb dX7_end_1 (by decide) ?_
  refine wx_put hr hx hb hts hiX7 tyX7 tyX7_ok nmX7 hown hK hP hS 143 (by decide) qc_143 rfl 0 (by decide) (hts (.fieldLink RX7 99 "PriceEdictModel" "thrown" "I") (by decide +kernel)) rfl (by decide +kernel) (fun _ => rfl) (Nat.le_of_ble_eq_true rfl) dX7_end_2 (fun H locs hP hS => ?_)
  refine lv_iload_n hx hb dX7_end_5 rfl (lv_at hl 1 rfl) ?_
  refine lv_if_lt (tgt := 17) hx hb dX7_end_6 (by decide) (fun c_6 => ?_) (fun c_6 => ?_)
  · refine lv_iconst (v := 0) hx hb dX7_end_17 (by decide) ?_
    exact wx_zret hx hb hret hlk hK hP hS rfl (by unfold f_X7_end; rw [if_pos c_6]) (by unfold g_X7_end; rw [if_pos c_6]) dX7_end_18
  · refine lv_iload_n hx hb dX7_end_9 rfl (lv_at hl 1 rfl) ?_
    refine lv_aload_n hx hb dX7_end_10 rfl (lv_at hl 0 rfl) ?_
    refine wx_get hx hb hts hiX7 hown hK hP 143 (by decide) qc_143 rfl 19 (by decide) (hts (.fieldLink RX7 141 "PriceEdictModel" "taped" "I") (by decide +kernel)) rfl dX7_end_11 ?_
    refine lv_tope (S 143 19) ((up2_ne _ _ (Or.inr (by decide)))) ?_
    refine lv_icmp_le (tgt := 19) hx hb dX7_end_14 (by decide) (fun c_14 => ?_) (fun c_14 => ?_)
    · refine lv_aload_n hx hb dX7_end_19 rfl (lv_at hl 0 rfl) ?_
      refine lv_iload_n hx hb dX7_end_20 rfl (lv_at hl 1 rfl) ?_
      refine wx_put hr hx hb hts hiX7 tyX7 tyX7_ok nmX7 hown hK hP hS 143 (by decide) qc_143 rfl 19 (by decide) (hts (.fieldLink RX7 141 "PriceEdictModel" "taped" "I") (by decide +kernel)) rfl (by decide +kernel) (fun _ => rfl) (Nat.le_of_ble_eq_true rfl) dX7_end_21 (fun H locs hP hS => ?_)
      refine lv_iconst (v := 1) hx hb dX7_end_24 (by decide) ?_
      exact wx_zret hx hb hret hlk hK hP hS rfl (by unfold f_X7_end; rw [if_neg c_6, if_pos c_14]) (by unfold g_X7_end; rw [if_neg c_6, if_pos c_14]) dX7_end_25
    · refine lv_iconst (v := 0) hx hb dX7_end_17 (by decide) ?_
      exact wx_zret hx hb hret hlk hK hP hS rfl (by unfold f_X7_end; rw [if_neg c_6, if_neg c_14]) (by unfold g_X7_end; rw [if_neg c_6, if_neg c_14]) dX7_end_18
def f_X7_isAt (S : qw_St) (a1 : Int32) (a2 : Int32) : Int32 := (if (S 143 21) ≤ (S 143 20) then (0 : Int32) else (if (S 156 (S 143 20).toNatClampNeg) < a1 then (0 : Int32) else (if a2 < (S 156 (S 143 20).toNatClampNeg) then (0 : Int32) else (1 : Int32))))
set_option maxHeartbeats 4000000 in
set_option maxRecDepth 100000 in
theorem c_X7_isAt (l : Launch) (D : va_G) {r : Nat → Nat} (c : Nat → ClassId) (g : Nat → Int64) (hr : qw_inj r) (S : qw_St) (a1 : Int32) (a2 : Int32) (hp : qz (S 143 20) 400) (he : qz (S 143 21) 400) : MI l D r c g yX7_isAt wsX7_isAt ({ frames := 0, cells := 0, slots := 0, locals := 0 }) [.ref (r 143), .int a1, .int a2] S (f_X7_isAt S a1 a2) S := by
  have hiX7 : ∀ w ∈ wsX70, w ∈ wsX7_isAt := by decide +kernel
  refine wx_of (cc := cX7_isAt) (nL := 3) (ret := (some .boolean)) (lvs := [(0, .ref (r 143)), (1, .int a1), (2, .int a2)]) (by decide) rfl rfl (Nat.le_of_ble_eq_true rfl) ?_
  intro p e s m below meth c0 ls hx hb hret hml hts hown hlk hK hP hS hl
  obtain ⟨m0, hm0, em0⟩ := id hp
  obtain ⟨m1, hm1, em1⟩ := id he
  have hP : qw_P D r c g S s.heap := hP
  refine lv_aload_n hx hb dX7_isAt_0 rfl (lv_at hl 0 rfl) ?_
  refine wx_get hx hb hts hiX7 hown hK hP 143 (by decide) qc_143 rfl 20 (by decide) (hts (.fieldLink RX7 144 "PriceEdictModel" "point" "I") (by decide +kernel)) rfl dX7_isAt_1 ?_
  refine lv_aload_n hx hb dX7_isAt_4 rfl (lv_at hl 0 rfl) ?_
  refine wx_get hx hb hts hiX7 hown hK hP 143 (by decide) qc_143 rfl 21 (by decide) (hts (.fieldLink RX7 147 "PriceEdictModel" "end" "I") (by decide +kernel)) rfl dX7_isAt_5 ?_
  refine lv_icmp_ge (tgt := 41) hx hb dX7_isAt_8 (by decide) (fun c_8 => ?_) (fun c_8 => ?_)
  · refine lv_iconst (v := 0) hx hb dX7_isAt_41 (by decide) ?_
    exact wx_zret hx hb hret hlk hK hP hS rfl (by unfold f_X7_isAt; rw [if_pos c_8]) rfl dX7_isAt_42
  · refine lv_aload_n hx hb dX7_isAt_11 rfl (lv_at hl 0 rfl) ?_
    refine wx_get hx hb hts hiX7 hown hK hP 143 (by decide) qc_143 rfl 18 (by decide) (hts (.fieldLink RX7 46 "PriceEdictModel" "tape" "[B") (by decide +kernel)) rfl dX7_isAt_12 ?_
    refine lv_aload_n hx hb dX7_isAt_15 rfl (lv_at hl 0 rfl) ?_
    refine wx_get hx hb hts hiX7 hown hK hP 143 (by decide) qc_143 rfl 20 (by decide) (hts (.fieldLink RX7 144 "PriceEdictModel" "point" "I") (by decide +kernel)) rfl dX7_isAt_16 ?_
    refine wx_bld hx hb hK hP 156 (by decide) qc_156 (qi_in em0 (Nat.lt_of_lt_of_le (qi_ltn em0 (by omega) em1 (by omega) c_8) hm1) (by decide)) dX7_isAt_19 ?_
    refine lv_iload_n hx hb dX7_isAt_20 rfl (lv_at hl 1 rfl) ?_
    refine lv_icmp_lt (tgt := 41) hx hb dX7_isAt_21 (by decide) (fun c_21 => ?_) (fun c_21 => ?_)
    · refine lv_iconst (v := 0) hx hb dX7_isAt_41 (by decide) ?_
      exact wx_zret hx hb hret hlk hK hP hS rfl (by unfold f_X7_isAt; rw [if_neg c_8, if_pos c_21]) rfl dX7_isAt_42
    · refine lv_aload_n hx hb dX7_isAt_24 rfl (lv_at hl 0 rfl) ?_
      refine wx_get hx hb hts hiX7 hown hK hP 143 (by decide) qc_143 rfl 18 (by decide) (hts (.fieldLink RX7 46 "PriceEdictModel" "tape" "[B") (by decide +kernel)) rfl dX7_isAt_25 ?_
      refine lv_aload_n hx hb dX7_isAt_28 rfl (lv_at hl 0 rfl) ?_
      refine wx_get hx hb hts hiX7 hown hK hP 143 (by decide) qc_143 rfl 20 (by decide) (hts (.fieldLink RX7 144 "PriceEdictModel" "point" "I") (by decide +kernel)) rfl dX7_isAt_29 ?_
      refine wx_bld hx hb hK hP 156 (by decide) qc_156 (qi_in em0 (Nat.lt_of_lt_of_le (qi_ltn em0 (by omega) em1 (by omega) c_8) hm1) (by decide)) dX7_isAt_32 ?_
      refine lv_iload_n hx hb dX7_isAt_33 rfl (lv_at hl 2 rfl) ?_
      refine lv_icmp_gt (tgt := 41) hx hb dX7_isAt_34 (by decide) (fun c_34 => ?_) (fun c_34 => ?_)
      · refine lv_iconst (v := 0) hx hb dX7_isAt_41 (by decide) ?_
        exact wx_zret hx hb hret hlk hK hP hS rfl (by unfold f_X7_isAt; rw [if_neg c_8, if_neg c_21, if_pos c_34]) rfl dX7_isAt_42
      · refine lv_iconst (v := 1) hx hb dX7_isAt_37 (by decide) ?_
        refine lv_goto (tgt := 42) hx hb dX7_isAt_38 (by decide) ?_
        exact wx_zret hx hb hret hlk hK hP hS rfl (by unfold f_X7_isAt; rw [if_neg c_8, if_neg c_21, if_neg c_34]) rfl dX7_isAt_42
theorem isAt_b (S : qw_St) (a1 a2 : Int32) : f_X7_isAt S a1 a2 = 0 ∨ f_X7_isAt S a1 a2 = 1 := by unfold f_X7_isAt; repeat' (first | split | exact Or.inl rfl | exact Or.inr rfl)
theorem isAt_t {S : qw_St} {a1 a2 : Int32} (h : ¬ f_X7_isAt S a1 a2 = 0) : ¬ S 143 21 ≤ S 143 20 := by
  unfold f_X7_isAt at h
  split at h
  · exact absurd rfl h
  · assumption
