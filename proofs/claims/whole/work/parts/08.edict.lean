/-- what the class's reading methods lean on -/
def InvC (S : qw_St) : Prop := qz (S 3 6) 60 ∧ qz (S 11 2) 40 ∧ (∀ k, k < 40 → S 13 k = -1 ∨ vp_in (S 13 k) 21) ∧ qz (S 0 7) 8
theorem InvC.cong {S S' : qw_St} (h : InvC S) (h3 : S' 3 6 = S 3 6) (h11 : S' 11 2 = S 11 2) (h13 : ∀ k, S' 13 k = S 13 k) (h0 : S' 0 7 = S 0 7) : InvC S' := by
  refine ⟨?_, ?_, ?_, ?_⟩
  · rw [h3]; exact h.1
  · rw [h11]; exact h.2.1
  · intro k hk; rw [h13]; exact h.2.2.1 k hk
  · rw [h0]; exact h.2.2.2
theorem heard_in_5 {S : qw_St} (h : InvC S) (a1 a2 : Int32) : ∀ (n : Nat) (z3 z4 : Int32) (k : Nat), z4 = nI k → k ≤ 40 → (z3 = -1 ∨ vp_in z3 21) → n ≤ 41 → (f_X1_heard_5 a1 a2 n S z3 z4 = -1 ∨ vp_in (f_X1_heard_5 a1 a2 n S z3 z4) 21) ∨ n = 0 ∨ f_X1_heard_5 a1 a2 n S z3 z4 = 0 := by
  obtain ⟨m0, hm0, em0⟩ := h.2.1
  intro n
  induction n with
  | zero => intro z3 z4 k hz hk h3 hn; exact Or.inr (Or.inl rfl)
  | succ n ih =>
    intro z3 z4 k hz hk h3 hn
    rw [f_X1_heard_5]
    split
    · exact Or.inl h3
    · next c =>
      have hk5 : k < m0 := qi_ltn hz (by omega) em0 (by omega) c
      have hz1 : z4 + 1 = nI (k + 1) := qi_add hz
      have ez : z4.toNatClampNeg = k := qi_cl hz (by omega)
      have h0 : ∀ z, f_X1_heard_5 a1 a2 0 S z (z4 + 1) = 0 := fun z => rfl
      split
      · rcases ih z3 (z4 + 1) (k + 1) hz1 (by omega) h3 (by omega) with q | q | q
        · exact Or.inl q
        · subst q; exact Or.inr (Or.inr rfl)
        · exact Or.inr (Or.inr q)
      · have h3' : S 13 z4.toNatClampNeg = -1 ∨ vp_in (S 13 z4.toNatClampNeg) 21 := by rw [ez]; exact h.2.2.1 k (by omega)
        rcases ih (S 13 z4.toNatClampNeg) (z4 + 1) (k + 1) hz1 (by omega) h3' (by omega) with q | q | q
        · exact Or.inl q
        · subst q; exact Or.inr (Or.inr rfl)
        · exact Or.inr (Or.inr q)
theorem heard_in {S : qw_St} (h : InvC S) (a1 a2 : Int32) : f_X1_heard S a1 a2 = -1 ∨ vp_in (f_X1_heard S a1 a2) 21 := by
  obtain ⟨m0, hm0, em0⟩ := h.2.1
  unfold f_X1_heard
  rcases heard_in_5 h a1 a2 ((S 11 2).toNatClampNeg + 1) (-1) 0 0 nI_0.symm (by omega) (Or.inl rfl) (by rw [qi_cl em0 (by omega)]; omega) with q | q | q
  · exact q
  · exact absurd q (by omega)
  · rw [q]; exact Or.inr (vp_in_iff.mpr (by decide))
def f_X6_inForce (S : qw_St) (a1 : Int32) (a2 : Int32) : Int32 := (f_X1_heard S (f_X4_tensOfMiles S a1.toNatClampNeg) a2)
set_option maxHeartbeats 4000000 in
set_option maxRecDepth 100000 in
theorem c_X6_inForce (l : Launch) (D : va_G) {r : Nat → Nat} (c : Nat → ClassId) (g : Nat → Int64) (hr : qw_inj r) (S : qw_St) (a1 : Int32) (a2 : Int32) (ha : vp_in a1 8) (hI : InvC S) : MI l D r c g yX6_inForce wsX6_inForce ({ frames := 1, cells := 0, slots := 0, locals := 24 }) [.ref (r 0), .int a1, .int a2] S (f_X6_inForce S a1 a2) S := by
  have hiX6 : ∀ w ∈ wsX60, w ∈ wsX6_inForce := by decide +kernel
  refine wx_of (cc := cX6_inForce) (nL := 3) (ret := (some .int)) (lvs := [(0, .ref (r 0)), (1, .int a1), (2, .int a2)]) (by decide) rfl rfl (Nat.le_of_ble_eq_true rfl) ?_
  intro p e s m below meth c0 ls hx hb hret hml hts hown hlk hK hP hS hl
  have hP : qw_P D r c g S s.heap := hP
  refine lv_aload_n hx hb dX6_inForce_0 rfl (lv_at hl 0 rfl) ?_
  refine wx_get hx hb hts hiX6 hown hK hP 0 (by decide) qc_0 rfl 3 (by decide) (hts (.fieldLink RX6 32 "PriceEdict" "news" "LPriceEdict$News;") (by decide +kernel)) rfl dX6_inForce_1 ?_
  refine lv_aload_n hx hb dX6_inForce_4 rfl (lv_at hl 0 rfl) ?_
  refine wx_get hx hb hts hiX6 hown hK hP 0 (by decide) qc_0 rfl 4 (by decide) (hts (.fieldLink RX6 38 "PriceEdict" "towns" "[LPriceEdict$Town;") (by decide +kernel)) rfl dX6_inForce_5 ?_
  refine lv_iload_n hx hb dX6_inForce_8 rfl (lv_at hl 1 rfl) ?_
  have h_9 : a1.toNatClampNeg < 8 := vp_lt ha
  refine wx_ald hx hb hK hP 3 rfl 14 (by decide) qc_14 ha dX6_inForce_9 ?_
  refine wc_iV (k := (79 + 8 * a1.toNatClampNeg)) (C := RX4) (As := []) (rest := [.ref (r 11)]) ⟨hx, hb, hml, hown, hts⟩ (c_X4_tensOfMiles l D c g hr S a1.toNatClampNeg h_9) (cwV 0 hts gX6_inForce_X4_tensOfMiles rfl rfl rfl (by decide +kernel) ⟨Nat.le_of_ble_eq_true rfl, Nat.le_of_ble_eq_true rfl⟩) (wx_recv hK hP (by omega) (qc_town h_9) rfl) hK hP hS (fun _ h => h) rfl hl.1 rfl (lv_room (Nat.le_of_ble_eq_true rfl)) dX6_inForce_10 ⟨Nat.zero_le _, Nat.zero_le _⟩ (fun H locs hP hS => ?_)
  refine lv_iload_n hx hb dX6_inForce_13 rfl (lv_at hl 2 rfl) ?_
  refine wc_iV (k := 11) (C := RX1) (As := [.int (f_X4_tensOfMiles S a1.toNatClampNeg), .int a2]) (rest := []) ⟨hx, hb, hml, hown, hts⟩ (c_X1_heard l D c g hr S (f_X4_tensOfMiles S a1.toNatClampNeg) a2 hI.2.1) (cwV 2 hts gX6_inForce_X1_heard rfl rfl rfl (by decide +kernel) ⟨Nat.le_of_ble_eq_true rfl, Nat.le_of_ble_eq_true rfl⟩) (wx_recv hK hP (by decide) qc_11 rfl) hK hP hS (fun _ h => h) rfl hl.1 rfl (lv_room (Nat.le_of_ble_eq_true rfl)) dX6_inForce_14 ⟨Nat.zero_le _, Nat.zero_le _⟩ (fun H locs hP hS => ?_)
  exact wx_iret hx hb hret hlk hK hP hS (by unfold f_X6_inForce; exact rfl) rfl dX6_inForce_17
def g_X6_toldCap (S : qw_St) (d : Nat) (a2 : Int32) (a3 : Int32) : qw_St := (if (S (18 + 3 * d) a2.toNatClampNeg) = (-1 : Int32) then S else (if (f_X2_agreeing (g_X2_compare S (S (18 + 3 * d) a2.toNatClampNeg) a3)) = 0 then (g_X2_compare S (S (18 + 3 * d) a2.toNatClampNeg) a3) else (g_X2_compare S (S (18 + 3 * d) a2.toNatClampNeg) a3)))
def f_X6_toldCap (S : qw_St) (d : Nat) (a2 : Int32) (a3 : Int32) : Int32 := (if (S (18 + 3 * d) a2.toNatClampNeg) = (-1 : Int32) then (S (17 + 3 * d) a2.toNatClampNeg) else (if (f_X2_agreeing (g_X2_compare S (S (18 + 3 * d) a2.toNatClampNeg) a3)) = 0 then (9999 : Int32) else (f_X2_greatest (g_X2_compare S (S (18 + 3 * d) a2.toNatClampNeg) a3))))
set_option maxHeartbeats 4000000 in
set_option maxRecDepth 100000 in
theorem c_X6_toldCap (l : Launch) (D : va_G) {r : Nat → Nat} (c : Nat → ClassId) (g : Nat → Int64) (hr : qw_inj r) (S : qw_St) (d : Nat) (a2 : Int32) (a3 : Int32) (hd : d < 21) (hb2 : vp_in a2 6) (hI : InvC S) : MI l D r c g yX6_toldCap wsX6_toldCap ({ frames := 3, cells := 0, slots := 0, locals := 64 }) [.ref (r 0), .ref (r (16 + 3 * d)), .int a2, .int a3] S (f_X6_toldCap S d a2 a3) (g_X6_toldCap S d a2 a3) := by
  have hiX0 : ∀ w ∈ wsX00, w ∈ wsX6_toldCap := by decide +kernel
  have hiX6 : ∀ w ∈ wsX60, w ∈ wsX6_toldCap := by decide +kernel
  refine wx_of (cc := cX6_toldCap) (nL := 5) (ret := (some .int)) (lvs := [(0, .ref (r 0)), (1, .ref (r (16 + 3 * d))), (2, .int a2), (3, .int a3)]) (by decide) rfl rfl (Nat.le_of_ble_eq_true rfl) ?_
  intro p e s m below meth c0 ls hx hb hret hml hts hown hlk hK hP hS hl
  have hP : qw_P D r c g S s.heap := hP
  refine lv_aload_n hx hb dX6_toldCap_0 rfl (lv_at hl 1 rfl) ?_
  refine wx_get hx hb hts hiX0 hown hK hP (16 + 3 * d) (by omega) (qc_dec hd) rfl 1 (by decide) (hts (.fieldLink RX6 252 "PriceEdict$Decree" "lines" "[I") (by decide +kernel)) rfl dX6_toldCap_1 ?_
  refine lv_iload_n hx hb dX6_toldCap_4 rfl (lv_at hl 2 rfl) ?_
  refine wx_ild hx hb hK hP (18 + 3 * d) (by omega) (qc_lines hd) hb2 dX6_toldCap_5 ?_
  refine lv_topi (fun x_1 ex_1 => ?_)
  refine lv_istore (lv' := [(4, .int x_1), (0, .ref (r 0)), (1, .ref (r (16 + 3 * d))), (2, .int a2), (3, .int a3)]) hx hb dX6_toldCap_6 hl (by decide) rfl (fun ls hl => ?_)
  refine lv_iload hx hb dX6_toldCap_8 (lv_at hl 0 rfl) ?_
  refine lv_iconst (v := (-1)) hx hb dX6_toldCap_10 (by decide) ?_
  refine lv_icmp_ne (tgt := 21) hx hb dX6_toldCap_11 (by decide) (fun c_11 => ?_) (fun c_11 => ?_)
  · refine lv_aload_n hx hb dX6_toldCap_21 rfl (lv_at hl 1 rfl) ?_
    refine wx_get hx hb hts hiX6 hown hK hP 0 (by decide) qc_0 rfl 1 (by decide) (hts (.fieldLink RX6 19 "PriceEdict" "stones" "LPriceEdict$Stones;") (by decide +kernel)) rfl dX6_toldCap_22 ?_
    refine lv_iload hx hb dX6_toldCap_25 (lv_at hl 0 rfl) ?_
    refine lv_iload_n hx hb dX6_toldCap_27 rfl (lv_at hl 4 rfl) ?_
    refine wc_vV (k := 3) (C := RX2) (As := [.int x_1, .int a3]) (rest := []) ⟨hx, hb, hml, hown, hts⟩ (c_X2_compare l D c g hr S x_1 a3 hI.1) (cwV 2 hts gX6_toldCap_X2_compare rfl rfl rfl (by decide +kernel) ⟨Nat.le_of_ble_eq_true rfl, Nat.le_of_ble_eq_true rfl⟩) (wx_recv hK hP (by decide) qc_3 rfl) hK hP hS (fun _ h => h) rfl hl.1 rfl (lv_room (Nat.le_of_ble_eq_true rfl)) dX6_toldCap_28 ⟨Nat.zero_le _, Nat.zero_le _⟩ (fun H locs hP hS => ?_)
    refine lv_aload_n hx hb dX6_toldCap_31 rfl (lv_at hl 1 rfl) ?_
    refine wx_get hx hb hts hiX6 hown hK hP 0 (by decide) qc_0 rfl 1 (by decide) (hts (.fieldLink RX6 19 "PriceEdict" "stones" "LPriceEdict$Stones;") (by decide +kernel)) rfl dX6_toldCap_32 ?_
    refine wc_iV (k := 3) (C := RX2) (As := []) (rest := []) ⟨hx, hb, hml, hown, hts⟩ (c_X2_agreeing l D c g hr (g_X2_compare S x_1 a3)) (cwV 0 hts gX6_toldCap_X2_agreeing rfl rfl rfl (by decide +kernel) ⟨Nat.le_of_ble_eq_true rfl, Nat.le_of_ble_eq_true rfl⟩) (wx_recv hK hP (by decide) qc_3 rfl) hK hP hS (fun _ h => h) rfl hl.1 rfl (lv_room (Nat.le_of_ble_eq_true rfl)) dX6_toldCap_35 ⟨Nat.zero_le _, Nat.zero_le _⟩ (fun H locs hP hS => ?_)
    refine lv_if_ne (tgt := 47) hx hb dX6_toldCap_38 (by decide) (fun c_38 => ?_) (fun c_38 => ?_)
    · refine lv_aload_n hx hb dX6_toldCap_47 rfl (lv_at hl 1 rfl) ?_
      refine wx_get hx hb hts hiX6 hown hK hP 0 (by decide) qc_0 rfl 1 (by decide) (hts (.fieldLink RX6 19 "PriceEdict" "stones" "LPriceEdict$Stones;") (by decide +kernel)) rfl dX6_toldCap_48 ?_
      refine wc_iV (k := 3) (C := RX2) (As := []) (rest := []) ⟨hx, hb, hml, hown, hts⟩ (c_X2_greatest l D c g hr (g_X2_compare S x_1 a3)) (cwV 0 hts gX6_toldCap_X2_greatest rfl rfl rfl (by decide +kernel) ⟨Nat.le_of_ble_eq_true rfl, Nat.le_of_ble_eq_true rfl⟩) (wx_recv hK hP (by decide) qc_3 rfl) hK hP hS (fun _ h => h) rfl hl.1 rfl (lv_room (Nat.le_of_ble_eq_true rfl)) dX6_toldCap_51 ⟨Nat.zero_le _, Nat.zero_le _⟩ (fun H locs hP hS => ?_)
      exact wx_iret hx hb hret hlk hK hP hS (by subst ex_1; unfold f_X6_toldCap; rw [if_neg c_11, if_neg c_38]) (by subst ex_1; unfold g_X6_toldCap; rw [if_neg c_11, if_neg c_38]) dX6_toldCap_54
    · refine lv_sipush (v := 9999) hx hb dX6_toldCap_41 (by decide) ?_
      refine lv_goto (tgt := 54) hx hb dX6_toldCap_44 (by decide) ?_
      exact wx_iret hx hb hret hlk hK hP hS (by subst ex_1; unfold f_X6_toldCap; rw [if_neg c_11, if_pos c_38]) (by subst ex_1; unfold g_X6_toldCap; rw [if_neg c_11, if_pos c_38]) dX6_toldCap_54
  · refine lv_aload_n hx hb dX6_toldCap_14 rfl (lv_at hl 2 rfl) ?_
    refine wx_get hx hb hts hiX0 hown hK hP (16 + 3 * d) (by omega) (qc_dec hd) rfl 0 (by decide) (hts (.fieldLink RX6 255 "PriceEdict$Decree" "caps" "[I") (by decide +kernel)) rfl dX6_toldCap_15 ?_
    refine lv_iload_n hx hb dX6_toldCap_18 rfl (lv_at hl 3 rfl) ?_
    refine wx_ild hx hb hK hP (17 + 3 * d) (by omega) (qc_caps hd) hb2 dX6_toldCap_19 ?_
    exact wx_iret hx hb hret hlk hK hP hS (by subst ex_1; unfold f_X6_toldCap; rw [if_pos c_11]) (by subst ex_1; unfold g_X6_toldCap; rw [if_pos c_11]) dX6_toldCap_20
theorem fr_X6_toldCap (S : qw_St) (d : Nat) (a2 a3 : Int32) {k : Nat} (j : Nat) (h : k ≠ 9) : g_X6_toldCap S d a2 a3 k j = S k j := by
  unfold g_X6_toldCap
  repeat' (first | rfl | rw [fr_X2_compare _ _ _ _ h] | split)
def g_X6_highest (S : qw_St) (a1 : Int32) (a2 : Int32) (a3 : Int32) (a4 : Int32) : qw_St := (if (f_X6_inForce S a1 a4) < 0 then S else (if (f_X6_inForce S a1 a4) < (S 0 6) then (if (if (f_X0_frees S ((f_X6_inForce S a1 a4).toNatClampNeg) a1) = 0 then (f_X6_toldCap S ((f_X6_inForce S a1 a4).toNatClampNeg) a2 a4) else (-1 : Int32)) = (-1 : Int32) then (if (f_X0_frees S ((f_X6_inForce S a1 a4).toNatClampNeg) a1) = 0 then (g_X6_toldCap S ((f_X6_inForce S a1 a4).toNatClampNeg) a2 a4) else S) else (if a3 = 0 then (if (f_X0_frees S ((f_X6_inForce S a1 a4).toNatClampNeg) a1) = 0 then (g_X6_toldCap S ((f_X6_inForce S a1 a4).toNatClampNeg) a2 a4) else S) else (if (f_X0_frees S ((f_X6_inForce S a1 a4).toNatClampNeg) a1) = 0 then (g_X6_toldCap S ((f_X6_inForce S a1 a4).toNatClampNeg) a2 a4) else S))) else S))
def f_X6_highest (S : qw_St) (a1 : Int32) (a2 : Int32) (a3 : Int32) (a4 : Int32) : Int32 := (if (f_X6_inForce S a1 a4) < 0 then (-1 : Int32) else (if (f_X6_inForce S a1 a4) < (S 0 6) then (if (if (f_X0_frees S ((f_X6_inForce S a1 a4).toNatClampNeg) a1) = 0 then (f_X6_toldCap S ((f_X6_inForce S a1 a4).toNatClampNeg) a2 a4) else (-1 : Int32)) = (-1 : Int32) then (-1 : Int32) else (if a3 = 0 then ((if (f_X0_frees S ((f_X6_inForce S a1 a4).toNatClampNeg) a1) = 0 then (f_X6_toldCap S ((f_X6_inForce S a1 a4).toNatClampNeg) a2 a4) else (-1 : Int32)) + (((if (f_X0_frees S ((f_X6_inForce S a1 a4).toNatClampNeg) a1) = 0 then (g_X6_toldCap S ((f_X6_inForce S a1 a4).toNatClampNeg) a2 a4) else S) (16 + 3 * (f_X6_inForce S a1 a4).toNatClampNeg) 2) * (f_X4_tensOfMiles (if (f_X0_frees S ((f_X6_inForce S a1 a4).toNatClampNeg) a1) = 0 then (g_X6_toldCap S ((f_X6_inForce S a1 a4).toNatClampNeg) a2 a4) else S) a1.toNatClampNeg))) else (((if (f_X0_frees S ((f_X6_inForce S a1 a4).toNatClampNeg) a1) = 0 then (f_X6_toldCap S ((f_X6_inForce S a1 a4).toNatClampNeg) a2 a4) else (-1 : Int32)) + (((if (f_X0_frees S ((f_X6_inForce S a1 a4).toNatClampNeg) a1) = 0 then (g_X6_toldCap S ((f_X6_inForce S a1 a4).toNatClampNeg) a2 a4) else S) (16 + 3 * (f_X6_inForce S a1 a4).toNatClampNeg) 2) * (f_X4_tensOfMiles (if (f_X0_frees S ((f_X6_inForce S a1 a4).toNatClampNeg) a1) = 0 then (g_X6_toldCap S ((f_X6_inForce S a1 a4).toNatClampNeg) a2 a4) else S) a1.toNatClampNeg))) + ((((if (f_X0_frees S ((f_X6_inForce S a1 a4).toNatClampNeg) a1) = 0 then (f_X6_toldCap S ((f_X6_inForce S a1 a4).toNatClampNeg) a2 a4) else (-1 : Int32)) + (((if (f_X0_frees S ((f_X6_inForce S a1 a4).toNatClampNeg) a1) = 0 then (g_X6_toldCap S ((f_X6_inForce S a1 a4).toNatClampNeg) a2 a4) else S) (16 + 3 * (f_X6_inForce S a1 a4).toNatClampNeg) 2) * (f_X4_tensOfMiles (if (f_X0_frees S ((f_X6_inForce S a1 a4).toNatClampNeg) a1) = 0 then (g_X6_toldCap S ((f_X6_inForce S a1 a4).toNatClampNeg) a2 a4) else S) a1.toNatClampNeg))) * ((if (f_X0_frees S ((f_X6_inForce S a1 a4).toNatClampNeg) a1) = 0 then (g_X6_toldCap S ((f_X6_inForce S a1 a4).toNatClampNeg) a2 a4) else S) (16 + 3 * (f_X6_inForce S a1 a4).toNatClampNeg) 3)) / (100 : Int32))))) else (-1 : Int32)))
set_option maxHeartbeats 4000000 in
set_option maxRecDepth 100000 in
theorem c_X6_highest (l : Launch) (D : va_G) {r : Nat → Nat} (c : Nat → ClassId) (g : Nat → Int64) (hr : qw_inj r) (S : qw_St) (a1 : Int32) (a2 : Int32) (a3 : Int32) (a4 : Int32) (ha : vp_in a1 8) (hb2 : vp_in a2 6) (hI : InvC S) : MI l D r c g yX6_highest wsX6_highest ({ frames := 4, cells := 0, slots := 0, locals := 88 }) [.ref (r 0), .int a1, .int a2, .int a3, .int a4] S (f_X6_highest S a1 a2 a3 a4) (g_X6_highest S a1 a2 a3 a4) := by
  have hiX0 : ∀ w ∈ wsX00, w ∈ wsX6_highest := by decide +kernel
  have hiX6 : ∀ w ∈ wsX60, w ∈ wsX6_highest := by decide +kernel
  refine wx_of (cc := cX6_highest) (nL := 9) (ret := (some .int)) (lvs := [(0, .ref (r 0)), (1, .int a1), (2, .int a2), (3, .int a3), (4, .int a4)]) (by decide) rfl rfl (Nat.le_of_ble_eq_true rfl) ?_
  intro p e s m below meth c0 ls hx hb hret hml hts hown hlk hK hP hS hl
  have hP : qw_P D r c g S s.heap := hP
  refine lv_aload_n hx hb dX6_highest_0 rfl (lv_at hl 0 rfl) ?_
  refine lv_iload_n hx hb dX6_highest_1 rfl (lv_at hl 1 rfl) ?_
  refine lv_iload hx hb dX6_highest_2 (lv_at hl 4 rfl) ?_
  refine wc_iV (k := 0) (C := RX6) (As := [.int a1, .int a4]) (rest := []) ⟨hx, hb, hml, hown, hts⟩ (c_X6_inForce l D c g hr S a1 a4 (by first | assumption | omega) (by first | assumption | omega)) (cwV 2 hts gX6_highest_X6_inForce rfl rfl rfl (by decide +kernel) ⟨Nat.le_of_ble_eq_true rfl, Nat.le_of_ble_eq_true rfl⟩) (wx_recv hK hP (by decide) qc_0 rfl) hK hP hS (fun _ h => h) rfl hl.1 rfl (lv_room (Nat.le_of_ble_eq_true rfl)) dX6_highest_4 ⟨Nat.zero_le _, Nat.zero_le _⟩ (fun H locs hP hS => ?_)
  refine lv_topi (fun x_1 ex_1 => ?_)
  refine lv_istore (lv' := [(5, .int x_1), (0, .ref (r 0)), (1, .int a1), (2, .int a2), (3, .int a3), (4, .int a4)]) hx hb dX6_highest_7 hl (by decide) rfl (fun ls hl => ?_)
  refine lv_iload hx hb dX6_highest_9 (lv_at hl 0 rfl) ?_
  refine lv_if_lt (tgt := 23) hx hb dX6_highest_11 (by decide) (fun c_11 => ?_) (fun c_11 => ?_)
  · refine lv_iconst (v := (-1)) hx hb dX6_highest_23 (by decide) ?_
    exact wx_iret hx hb hret hlk hK hP hS (by subst ex_1; unfold f_X6_highest; rw [if_pos c_11]) (by subst ex_1; unfold g_X6_highest; rw [if_pos c_11]) dX6_highest_24
  · refine lv_iload hx hb dX6_highest_14 (lv_at hl 0 rfl) ?_
    refine lv_aload_n hx hb dX6_highest_16 rfl (lv_at hl 1 rfl) ?_
    refine wx_get hx hb hts hiX6 hown hK hP 0 (by decide) qc_0 rfl 6 (by decide) (hts (.fieldLink RX6 46 "PriceEdict" "decreeCount" "I") (by decide +kernel)) rfl dX6_highest_17 ?_
    refine lv_icmp_lt (tgt := 25) hx hb dX6_highest_20 (by decide) (fun c_20 => ?_) (fun c_20 => ?_)
    · have hn : vp_in x_1 21 := by rw [ex_1]; exact (heard_in hI _ _).resolve_left (fun h => c_11 (by rw [ex_1, show f_X6_inForce S a1 a4 = -1 from h]; decide))
      refine lv_aload_n hx hb dX6_highest_25 rfl (lv_at hl 1 rfl) ?_
      refine wx_get hx hb hts hiX6 hown hK hP 0 (by decide) qc_0 rfl 2 (by decide) (hts (.fieldLink RX6 25 "PriceEdict" "decrees" "[LPriceEdict$Decree;") (by decide +kernel)) rfl dX6_highest_26 ?_
      refine lv_iload hx hb dX6_highest_29 (lv_at hl 0 rfl) ?_
      have h_31 : x_1.toNatClampNeg < 21 := vp_lt hn
      refine wx_ald hx hb hK hP 2 rfl 10 (by decide) qc_10 hn dX6_highest_31 ?_
      refine lv_astore (lv' := [(6, .ref (r (16 + 3 * x_1.toNatClampNeg))), (5, .int x_1), (0, .ref (r 0)), (1, .int a1), (2, .int a2), (3, .int a3), (4, .int a4)]) hx hb dX6_highest_32 hl (by decide) rfl (fun ls hl => ?_)
      refine lv_aload hx hb dX6_highest_34 (lv_at hl 0 rfl) ?_
      refine lv_iload_n hx hb dX6_highest_36 rfl (lv_at hl 3 rfl) ?_
      refine wc_iV (k := (16 + 3 * x_1.toNatClampNeg)) (C := RX0) (As := [.int a1]) (rest := []) ⟨hx, hb, hml, hown, hts⟩ (c_X0_frees l D c g hr S x_1.toNatClampNeg a1 h_31) (cwV 1 hts gX6_highest_X0_frees rfl rfl rfl (by decide +kernel) ⟨Nat.le_of_ble_eq_true rfl, Nat.le_of_ble_eq_true rfl⟩) (wx_recv hK hP (by omega) (qc_dec h_31) rfl) hK hP hS (fun _ h => h) rfl hl.1 rfl (lv_room (Nat.le_of_ble_eq_true rfl)) dX6_highest_37 ⟨Nat.zero_le _, Nat.zero_le _⟩ (fun H locs hP hS => ?_)
      have J_56 : ∀ (v_2 : Int32) (S_3 : qw_St) (H : Heap) (locs : List Loc) (ls : Array Slot) (ev_2 : v_2 = (if (f_X0_frees S x_1.toNatClampNeg a1) = 0 then (f_X6_toldCap S x_1.toNatClampNeg a2 a4) else (-1 : Int32))) (eS_3 : S_3 = (if (f_X0_frees S x_1.toNatClampNeg a1) = 0 then (g_X6_toldCap S x_1.toNatClampNeg a2 a4) else S)), qw_P D r c g S_3 H → va_S (qw_A r) s.heap H locs → lv_has ls 9 [(6, .ref (r (16 + 3 * x_1.toNatClampNeg))), (5, .int x_1), (0, .ref (r 0)), (1, .int a1), (2, .int a2), (3, .int a3), (4, .int a4)] → W p l e ({ frames := 4, cells := 0, slots := 0, locals := 88 }) s m [.ref (r 0), .int a1, .int a2, .int a3, .int a4].toArray below meth c0 H locs 0 0 (MQ below (qw_Qi D r c g (f_X6_highest S a1 a2 a3 a4) (g_X6_highest S a1 a2 a3 a4)) [.ref (r 0), .int a1, .int a2, .int a3, .int a4].toArray s 0 0 (qw_A r)) (F0 m 56 ls [.int v_2]) := by
        intro v_2 S_3 H locs ls ev_2 eS_3 hP hS hl
        refine lv_istore (lv' := [(7, .int v_2), (6, .ref (r (16 + 3 * x_1.toNatClampNeg))), (5, .int x_1), (0, .ref (r 0)), (1, .int a1), (2, .int a2), (3, .int a3), (4, .int a4)]) hx hb dX6_highest_56 hl (by decide) rfl (fun ls hl => ?_)
        refine lv_iload hx hb dX6_highest_58 (lv_at hl 0 rfl) ?_
        refine lv_iconst (v := (-1)) hx hb dX6_highest_60 (by decide) ?_
        refine lv_icmp_ne (tgt := 66) hx hb dX6_highest_61 (by decide) (fun c_61 => ?_) (fun c_61 => ?_)
        · refine lv_iload hx hb dX6_highest_66 (lv_at hl 0 rfl) ?_
          refine lv_aload hx hb dX6_highest_68 (lv_at hl 1 rfl) ?_
          refine wx_get hx hb hts hiX0 hown hK hP (16 + 3 * x_1.toNatClampNeg) (by omega) (qc_dec h_31) rfl 2 (by decide) (hts (.fieldLink RX6 246 "PriceEdict$Decree" "carriage" "I") (by decide +kernel)) rfl dX6_highest_70 ?_
          refine lv_aload_n hx hb dX6_highest_73 rfl (lv_at hl 3 rfl) ?_
          refine wx_get hx hb hts hiX6 hown hK hP 0 (by decide) qc_0 rfl 4 (by decide) (hts (.fieldLink RX6 38 "PriceEdict" "towns" "[LPriceEdict$Town;") (by decide +kernel)) rfl dX6_highest_74 ?_
          refine lv_iload_n hx hb dX6_highest_77 rfl (lv_at hl 4 rfl) ?_
          have h_78 : a1.toNatClampNeg < 8 := vp_lt ha
          refine wx_ald hx hb hK hP 3 rfl 14 (by decide) qc_14 ha dX6_highest_78 ?_
          refine wc_iV (k := (79 + 8 * a1.toNatClampNeg)) (C := RX4) (As := []) (rest := [.int (S_3 (16 + 3 * x_1.toNatClampNeg) 2), .int v_2]) ⟨hx, hb, hml, hown, hts⟩ (c_X4_tensOfMiles l D c g hr S_3 a1.toNatClampNeg h_78) (cwV 0 hts gX6_highest_X4_tensOfMiles rfl rfl rfl (by decide +kernel) ⟨Nat.le_of_ble_eq_true rfl, Nat.le_of_ble_eq_true rfl⟩) (wx_recv hK hP (by omega) (qc_town h_78) rfl) hK hP hS (fun _ h => h) rfl hl.1 rfl (lv_room (Nat.le_of_ble_eq_true rfl)) dX6_highest_79 ⟨Nat.zero_le _, Nat.zero_le _⟩ (fun H locs hP hS => ?_)
          refine lv_imul hx hb dX6_highest_82 ?_
          refine lv_iadd hx hb dX6_highest_83 ?_
          refine lv_topi (fun x_4 ex_4 => ?_)
          refine lv_istore (lv' := [(8, .int x_4), (7, .int v_2), (6, .ref (r (16 + 3 * x_1.toNatClampNeg))), (5, .int x_1), (0, .ref (r 0)), (1, .int a1), (2, .int a2), (3, .int a3), (4, .int a4)]) hx hb dX6_highest_84 hl (by decide) rfl (fun ls hl => ?_)
          refine lv_iload_n hx hb dX6_highest_86 rfl (lv_at hl 7 rfl) ?_
          refine lv_if_eq (tgt := 107) hx hb dX6_highest_87 (by decide) (fun c_87 => ?_) (fun c_87 => ?_)
          · refine lv_iload hx hb dX6_highest_107 (lv_at hl 0 rfl) ?_
            exact wx_iret hx hb hret hlk hK hP hS (by subst ex_4; subst eS_3; subst ev_2; subst ex_1; unfold f_X6_highest; rw [if_neg c_11, if_pos c_20, if_neg c_61, if_pos c_87]) (by subst ex_4; subst eS_3; subst ev_2; subst ex_1; unfold g_X6_highest; rw [if_neg c_11, if_pos c_20, if_neg c_61, if_pos c_87]) dX6_highest_109
          · refine lv_iload hx hb dX6_highest_90 (lv_at hl 0 rfl) ?_
            refine lv_iload hx hb dX6_highest_92 (lv_at hl 0 rfl) ?_
            refine lv_aload hx hb dX6_highest_94 (lv_at hl 2 rfl) ?_
            refine wx_get hx hb hts hiX0 hown hK hP (16 + 3 * x_1.toNatClampNeg) (by omega) (qc_dec h_31) rfl 3 (by decide) (hts (.fieldLink RX6 249 "PriceEdict$Decree" "credit" "I") (by decide +kernel)) rfl dX6_highest_96 ?_
            refine lv_imul hx hb dX6_highest_99 ?_
            refine lv_bipush (v := 100) hx hb dX6_highest_100 (by decide) ?_
            refine lv_idiv hx hb dX6_highest_102 (by decide) ?_
            refine lv_iadd hx hb dX6_highest_103 ?_
            refine lv_goto (tgt := 109) hx hb dX6_highest_104 (by decide) ?_
            exact wx_iret hx hb hret hlk hK hP hS (by subst ex_4; subst eS_3; subst ev_2; subst ex_1; unfold f_X6_highest; rw [if_neg c_11, if_pos c_20, if_neg c_61, if_neg c_87]) (by subst ex_4; subst eS_3; subst ev_2; subst ex_1; unfold g_X6_highest; rw [if_neg c_11, if_pos c_20, if_neg c_61, if_neg c_87]) dX6_highest_109
        · refine lv_iconst (v := (-1)) hx hb dX6_highest_64 (by decide) ?_
          exact wx_iret hx hb hret hlk hK hP hS (by subst eS_3; subst ev_2; subst ex_1; unfold f_X6_highest; rw [if_neg c_11, if_pos c_20, if_pos c_61]) (by subst eS_3; subst ev_2; subst ex_1; unfold g_X6_highest; rw [if_neg c_11, if_pos c_20, if_pos c_61]) dX6_highest_65
      refine lv_if_eq (tgt := 47) hx hb dX6_highest_40 (by decide) (fun c_40 => ?_) (fun c_40 => ?_)
      · refine lv_aload_n hx hb dX6_highest_47 rfl (lv_at hl 2 rfl) ?_
        refine lv_aload hx hb dX6_highest_48 (lv_at hl 0 rfl) ?_
        refine lv_iload_n hx hb dX6_highest_50 rfl (lv_at hl 4 rfl) ?_
        refine lv_iload hx hb dX6_highest_51 (lv_at hl 6 rfl) ?_
        refine wc_iV (k := 0) (C := RX6) (As := [.ref (r (16 + 3 * x_1.toNatClampNeg)), .int a2, .int a4]) (rest := []) ⟨hx, hb, hml, hown, hts⟩ (c_X6_toldCap l D c g hr S x_1.toNatClampNeg a2 a4 h_31 (by first | assumption | omega) (by first | assumption | omega)) (cwV 3 hts gX6_highest_X6_toldCap rfl rfl rfl (by decide +kernel) ⟨Nat.le_of_ble_eq_true rfl, Nat.le_of_ble_eq_true rfl⟩) (wx_recv hK hP (by decide) qc_0 rfl) hK hP hS (fun _ h => h) rfl hl.1 rfl (lv_room (Nat.le_of_ble_eq_true rfl)) dX6_highest_53 ⟨Nat.zero_le _, Nat.zero_le _⟩ (fun H locs hP hS => ?_)
        exact J_56 _ _ _ _ _ (by rw [if_pos c_40]) (by rw [if_pos c_40]) hP hS (lv_sub hl [0, 1, 2, 3, 4, 5, 6] rfl)
      · refine lv_iconst (v := (-1)) hx hb dX6_highest_43 (by decide) ?_
        refine lv_goto (tgt := 56) hx hb dX6_highest_44 (by decide) ?_
        exact J_56 _ _ _ _ _ (by rw [if_neg c_40]) (by rw [if_neg c_40]) hP hS (lv_sub hl [0, 1, 2, 3, 4, 5, 6] rfl)
    · refine lv_iconst (v := (-1)) hx hb dX6_highest_23 (by decide) ?_
      exact wx_iret hx hb hret hlk hK hP hS (by subst ex_1; unfold f_X6_highest; rw [if_neg c_11, if_neg c_20]) (by subst ex_1; unfold g_X6_highest; rw [if_neg c_11, if_neg c_20]) dX6_highest_24
theorem fr_X6_highest (S : qw_St) (a1 a2 a3 a4 : Int32) {k : Nat} (j : Nat) (h : k ≠ 9) : g_X6_highest S a1 a2 a3 a4 k j = S k j := by
  unfold g_X6_highest
  repeat' (first | rfl | rw [fr_X6_toldCap _ _ _ _ _ h] | split)
def g_X6_priceToday (S : qw_St) (a1 : Int32) (a2 : Int32) : qw_St := (if (f_X6_highest S a1 a2 (0 : Int32) (S 0 9)) = (-1 : Int32) then (g_X6_highest S a1 a2 (0 : Int32) (S 0 9)) else (g_X6_highest S a1 a2 (0 : Int32) (S 0 9)))
def f_X6_priceToday (S : qw_St) (a1 : Int32) (a2 : Int32) : Int32 := (if (f_X6_highest S a1 a2 (0 : Int32) (S 0 9)) = (-1 : Int32) then (S (81 + 8 * a1.toNatClampNeg + a2.toNatClampNeg) 1) else (if (f_X6_highest S a1 a2 (0 : Int32) (S 0 9)) < (S (81 + 8 * a1.toNatClampNeg + a2.toNatClampNeg) 1) then (f_X6_highest S a1 a2 (0 : Int32) (S 0 9)) else (S (81 + 8 * a1.toNatClampNeg + a2.toNatClampNeg) 1)))
set_option maxHeartbeats 4000000 in
set_option maxRecDepth 100000 in
theorem c_X6_priceToday (l : Launch) (D : va_G) {r : Nat → Nat} (c : Nat → ClassId) (g : Nat → Int64) (hr : qw_inj r) (S : qw_St) (a1 : Int32) (a2 : Int32) (ha : vp_in a1 8) (hb2 : vp_in a2 6) (hI : InvC S) : MI l D r c g yX6_priceToday wsX6_priceToday ({ frames := 5, cells := 0, slots := 0, locals := 116 }) [.ref (r 0), .int a1, .int a2] S (f_X6_priceToday S a1 a2) (g_X6_priceToday S a1 a2) := by
  have hiX4 : ∀ w ∈ wsX40, w ∈ wsX6_priceToday := by decide +kernel
  have hiX5 : ∀ w ∈ wsX50, w ∈ wsX6_priceToday := by decide +kernel
  have hiX6 : ∀ w ∈ wsX60, w ∈ wsX6_priceToday := by decide +kernel
  refine wx_of (cc := cX6_priceToday) (nL := 5) (ret := (some .int)) (lvs := [(0, .ref (r 0)), (1, .int a1), (2, .int a2)]) (by decide) rfl rfl (Nat.le_of_ble_eq_true rfl) ?_
  intro p e s m below meth c0 ls hx hb hret hml hts hown hlk hK hP hS hl
  have hP : qw_P D r c g S s.heap := hP
  refine lv_aload_n hx hb dX6_priceToday_0 rfl (lv_at hl 0 rfl) ?_
  refine wx_get hx hb hts hiX6 hown hK hP 0 (by decide) qc_0 rfl 4 (by decide) (hts (.fieldLink RX6 38 "PriceEdict" "towns" "[LPriceEdict$Town;") (by decide +kernel)) rfl dX6_priceToday_1 ?_
  refine lv_iload_n hx hb dX6_priceToday_4 rfl (lv_at hl 1 rfl) ?_
  have h_5 : a1.toNatClampNeg < 8 := vp_lt ha
  refine wx_ald hx hb hK hP 3 rfl 14 (by decide) qc_14 ha dX6_priceToday_5 ?_
  refine wx_get hx hb hts hiX4 hown hK hP (79 + 8 * a1.toNatClampNeg) (by omega) (qc_town h_5) rfl 0 (by decide) (hts (.fieldLink RX6 166 "PriceEdict$Town" "wares" "[LPriceEdict$Wares;") (by decide +kernel)) rfl dX6_priceToday_6 ?_
  refine lv_iload_n hx hb dX6_priceToday_9 rfl (lv_at hl 2 rfl) ?_
  have h_10 : a2.toNatClampNeg < 6 := vp_lt hb2
  refine wx_ald hx hb hK hP 4 rfl (80 + 8 * a1.toNatClampNeg) (by omega) (qc_warr h_5) hb2 dX6_priceToday_10 ?_
  refine wx_get hx hb hts hiX5 hown hK hP (81 + 8 * a1.toNatClampNeg + a2.toNatClampNeg) (by omega) (qc_wares h_5 h_10) rfl 1 (by decide) (hts (.fieldLink RX6 258 "PriceEdict$Wares" "bid" "I") (by decide +kernel)) rfl dX6_priceToday_11 ?_
  refine lv_topi (fun x_1 ex_1 => ?_)
  refine lv_istore_n (lv' := [(3, .int x_1), (0, .ref (r 0)), (1, .int a1), (2, .int a2)]) hx hb dX6_priceToday_14 rfl hl (by decide) rfl (fun ls hl => ?_)
  refine lv_aload_n hx hb dX6_priceToday_15 rfl (lv_at hl 1 rfl) ?_
  refine lv_iload_n hx hb dX6_priceToday_16 rfl (lv_at hl 2 rfl) ?_
  refine lv_iload_n hx hb dX6_priceToday_17 rfl (lv_at hl 3 rfl) ?_
  refine lv_iconst (v := 0) hx hb dX6_priceToday_18 (by decide) ?_
  refine lv_aload_n hx hb dX6_priceToday_19 rfl (lv_at hl 1 rfl) ?_
  refine wx_get hx hb hts hiX6 hown hK hP 0 (by decide) qc_0 rfl 9 (by decide) (hts (.fieldLink RX6 56 "PriceEdict" "today" "I") (by decide +kernel)) rfl dX6_priceToday_20 ?_
  refine wc_iV (k := 0) (C := RX6) (As := [.int a1, .int a2, .int (0 : Int32), .int (S 0 9)]) (rest := []) ⟨hx, hb, hml, hown, hts⟩ (c_X6_highest l D c g hr S a1 a2 (0 : Int32) (S 0 9) (by first | assumption | omega) (by first | assumption | omega) (by first | assumption | omega)) (cwV 4 hts gX6_priceToday_X6_highest rfl rfl rfl (by decide +kernel) ⟨Nat.le_of_ble_eq_true rfl, Nat.le_of_ble_eq_true rfl⟩) (wx_recv hK hP (by decide) qc_0 rfl) hK hP hS (fun _ h => h) rfl hl.1 rfl (lv_room (Nat.le_of_ble_eq_true rfl)) dX6_priceToday_23 ⟨Nat.zero_le _, Nat.zero_le _⟩ (fun H locs hP hS => ?_)
  refine lv_topi (fun x_2 ex_2 => ?_)
  refine lv_istore (lv' := [(4, .int x_2), (3, .int x_1), (0, .ref (r 0)), (1, .int a1), (2, .int a2)]) hx hb dX6_priceToday_26 hl (by decide) rfl (fun ls hl => ?_)
  refine lv_iload hx hb dX6_priceToday_28 (lv_at hl 0 rfl) ?_
  refine lv_iconst (v := (-1)) hx hb dX6_priceToday_30 (by decide) ?_
  refine lv_icmp_ne (tgt := 38) hx hb dX6_priceToday_31 (by decide) (fun c_31 => ?_) (fun c_31 => ?_)
  · refine lv_iload_n hx hb dX6_priceToday_38 rfl (lv_at hl 1 rfl) ?_
    refine lv_iload hx hb dX6_priceToday_39 (lv_at hl 0 rfl) ?_
    refine va_mmin hx hb (hml.trans hl.1.symm) hown (hts (.methodLink RX6 126 Lib.Math.min.name) (by decide +kernel)) (hts (.static Lib.Math.min.name) (by decide +kernel)) (hts (.initialized "java/lang/Math") (by decide +kernel)) (hts (.code Lib.Math.min.name Lib.Math.min.code 2 (some .int)) (by decide +kernel)) (Nat.le_of_ble_eq_true rfl) (Nat.le_of_ble_eq_true rfl) (Nat.zero_le _) (Nat.zero_le _) dX6_priceToday_41 ?_
    exact wx_iret hx hb hret hlk hK hP hS (by subst ex_2; subst ex_1; unfold f_X6_priceToday; rw [if_neg c_31]) (by subst ex_2; subst ex_1; unfold g_X6_priceToday; rw [if_neg c_31]) dX6_priceToday_44
  · refine lv_iload_n hx hb dX6_priceToday_34 rfl (lv_at hl 1 rfl) ?_
    refine lv_goto (tgt := 44) hx hb dX6_priceToday_35 (by decide) ?_
    exact wx_iret hx hb hret hlk hK hP hS (by subst ex_2; subst ex_1; unfold f_X6_priceToday; rw [if_pos c_31]) (by subst ex_2; subst ex_1; unfold g_X6_priceToday; rw [if_pos c_31]) dX6_priceToday_44
theorem fr_X6_priceToday (S : qw_St) (a1 a2 : Int32) {k : Nat} (j : Nat) (h : k ≠ 9) : g_X6_priceToday S a1 a2 k j = S k j := by
  unfold g_X6_priceToday
  repeat' (first | rfl | rw [fr_X6_highest _ _ _ _ _ _ h] | split)
theorem InvC.left {S S' : qw_St} (h : InvC S) (hf : ∀ k j, k ≠ 9 → S' k j = S k j) : InvC S' := h.cong (hf _ _ (by decide)) (hf _ _ (by decide)) (fun k => hf _ _ (by decide)) (hf _ _ (by decide))
theorem InvC.price {S : qw_St} (h : InvC S) (a1 a2 : Int32) : InvC (g_X6_priceToday S a1 a2) := h.left (fun _ j q => fr_X6_priceToday S a1 a2 j q)
theorem InvC.week {S : qw_St} (h : InvC S) (t i : Nat) (a1 a2 a3 : Int32) : InvC (g_X5_passWeek S t i a1 a2 a3) := h.cong (fr_X5_passWeek _ _ _ _ _ _ _ (by omega)) (fr_X5_passWeek _ _ _ _ _ _ _ (by omega)) (fun k => fr_X5_passWeek _ _ _ _ _ _ _ (by omega)) (fr_X5_passWeek _ _ _ _ _ _ _ (by omega))
def g_X6_holdMarkets_30 (y1 : Int32) (y2 : Int32) (K : qw_St → Int32 → qw_St) : Nat → qw_St → Int32 → qw_St
  | 0, S, _ => S
  | n + 1, S, z3 => (if (6 : Int32) ≤ z3 then (K S (y1 + (1 : Int32))) else (g_X6_holdMarkets_30 y1 y2 K n (g_X5_passWeek (g_X6_priceToday S y1 z3) y1.toNatClampNeg z3.toNatClampNeg (f_X6_priceToday S y1 z3) y2 (S 15 z3.toNatClampNeg)) (z3 + (1 : Int32))))
def g_X6_holdMarkets_2 : Nat → qw_St → Int32 → qw_St
  | 0, S, _ => S
  | n + 1, S, z1 => (if (S 0 7) ≤ z1 then S else (g_X6_holdMarkets_30 z1 (((S 0 8) * (S (79 + 8 * z1.toNatClampNeg) 1)) / (10 : Int32)) (fun (S9 : qw_St) (k1 : Int32) => (g_X6_holdMarkets_2 n S9 k1)) 7 S (0 : Int32)))
def g_X6_holdMarkets (S : qw_St) : qw_St := (g_X6_holdMarkets_2 ((S 0 7).toNatClampNeg + 1) S (0 : Int32))
set_option maxHeartbeats 4000000 in
set_option maxRecDepth 100000 in
theorem c_X6_holdMarkets (l : Launch) (D : va_G) {r : Nat → Nat} (c : Nat → ClassId) (g : Nat → Int64) (hr : qw_inj r) (S : qw_St) (hI : InvC S) : MV l D r c g yX6_holdMarkets wsX6_holdMarkets ({ frames := 6, cells := 0, slots := 0, locals := 140 }) [.ref (r 0)] S (g_X6_holdMarkets S) := by
  have hiX4 : ∀ w ∈ wsX40, w ∈ wsX6_holdMarkets := by decide +kernel
  have hiX6 : ∀ w ∈ wsX60, w ∈ wsX6_holdMarkets := by decide +kernel
  refine wx_of (cc := cX6_holdMarkets) (nL := 5) (ret := none) (lvs := [(0, .ref (r 0))]) (by decide) rfl rfl (Nat.le_of_ble_eq_true rfl) ?_
  intro p e s m below meth c0 ls hx hb hret hml hts hown hlk hK hP hS hl
  obtain ⟨m0, hm0, em0⟩ := id hI.2.2.2
  have hP : qw_P D r c g S s.heap := hP
  refine lv_iconst (v := 0) hx hb dX6_holdMarkets_0 (by decide) ?_
  refine lv_istore_n (lv' := [(1, .int (0 : Int32)), (0, .ref (r 0))]) hx hb dX6_holdMarkets_1 rfl hl (by decide) rfl (fun ls hl => ?_)
  have L_2 : ∀ (n : Nat) (k : Nat) (z1 : Int32) (S1 : qw_St) (H : Heap) (locs : List Loc) (ls : Array Slot) (hk : k + n = m0 + 1 ∧ k ≤ m0) (hz1 : z1 = nI k) (hI1 : InvC S1) (hm7 : S1 0 7 = nI m0) (hg_2 : g_X6_holdMarkets_2 n S1 z1 = (g_X6_holdMarkets S)), qw_P D r c g S1 H → va_S (qw_A r) s.heap H locs → lv_has ls 5 [(1, .int z1), (0, .ref (r 0))] → W p l e ({ frames := 6, cells := 0, slots := 0, locals := 140 }) s m [.ref (r 0)].toArray below meth c0 H locs 0 0 (MQ below (qw_Qv D r c g (g_X6_holdMarkets S)) [.ref (r 0)].toArray s 0 0 (qw_A r)) (F0 m 2 ls []) := by
    intro n
    induction n with
    | zero =>
      intro k z1 S1 H locs ls hk hz1 hI1 hm7 hg_2 hP hS hl
      omega
    | succ n ih_2 =>
      intro k z1 S1 H locs ls hk hz1 hI1 hm7 hg_2 hP hS hl
      refine lv_iload_n hx hb dX6_holdMarkets_2 rfl (lv_at hl 0 rfl) ?_
      refine lv_aload_n hx hb dX6_holdMarkets_3 rfl (lv_at hl 1 rfl) ?_
      refine wx_get hx hb hts hiX6 hown hK hP 0 (by decide) qc_0 rfl 7 (by decide) (hts (.fieldLink RX6 50 "PriceEdict" "townCount" "I") (by decide +kernel)) rfl dX6_holdMarkets_4 ?_
      refine lv_icmp_ge (tgt := 79) hx hb dX6_holdMarkets_7 (by decide) (fun c_7 => ?_) (fun c_7 => ?_)
      · exact wx_vret hx hb hret hlk hK hP hS (by rw [← hg_2, g_X6_holdMarkets_2]; rw [if_pos c_7]) dX6_holdMarkets_79
      · have hk1 : k < m0 := qi_ltn hz1 (by omega) hm7 (by omega) c_7
        have ha : vp_in z1 8 := qi_in hz1 (by omega) (by decide)
        refine lv_aload_n hx hb dX6_holdMarkets_10 rfl (lv_at hl 1 rfl) ?_
        refine wx_get hx hb hts hiX6 hown hK hP 0 (by decide) qc_0 rfl 8 (by decide) (hts (.fieldLink RX6 53 "PriceEdict" "carryRate" "I") (by decide +kernel)) rfl dX6_holdMarkets_11 ?_
        refine lv_aload_n hx hb dX6_holdMarkets_14 rfl (lv_at hl 1 rfl) ?_
        refine wx_get hx hb hts hiX6 hown hK hP 0 (by decide) qc_0 rfl 4 (by decide) (hts (.fieldLink RX6 38 "PriceEdict" "towns" "[LPriceEdict$Town;") (by decide +kernel)) rfl dX6_holdMarkets_15 ?_
        refine lv_iload_n hx hb dX6_holdMarkets_18 rfl (lv_at hl 0 rfl) ?_
        have h_19 : z1.toNatClampNeg < 8 := vp_lt ha
        refine wx_ald hx hb hK hP 3 rfl 14 (by decide) qc_14 ha dX6_holdMarkets_19 ?_
        refine wx_get hx hb hts hiX4 hown hK hP (79 + 8 * z1.toNatClampNeg) (by omega) (qc_town h_19) rfl 1 (by decide) (hts (.fieldLink RX6 163 "PriceEdict$Town" "miles" "I") (by decide +kernel)) rfl dX6_holdMarkets_20 ?_
        refine lv_imul hx hb dX6_holdMarkets_23 ?_
        refine lv_bipush (v := 10) hx hb dX6_holdMarkets_24 (by decide) ?_
        refine lv_idiv hx hb dX6_holdMarkets_26 (by decide) ?_
        refine lv_topi (fun x_1 ex_1 => ?_)
        refine lv_istore_n (lv' := [(2, .int x_1), (1, .int z1), (0, .ref (r 0))]) hx hb dX6_holdMarkets_27 rfl hl (by decide) rfl (fun ls hl => ?_)
        refine lv_iconst (v := 0) hx hb dX6_holdMarkets_28 (by decide) ?_
        refine lv_istore_n (lv' := [(3, .int (0 : Int32)), (2, .int x_1), (1, .int z1), (0, .ref (r 0))]) hx hb dX6_holdMarkets_29 rfl hl (by decide) rfl (fun ls hl => ?_)
        have L_30 : ∀ (n3 : Nat) (k3 : Nat) (z3 : Int32) (S1 : qw_St) (H : Heap) (locs : List Loc) (ls : Array Slot) (hk3 : k3 + n3 = 7 ∧ k3 ≤ 6) (hz3 : z3 = nI k3) (hI2 : InvC S1) (hm8 : S1 0 7 = nI m0) (hg_30 : g_X6_holdMarkets_30 z1 x_1 (fun (S9 : qw_St) (k1 : Int32) => (g_X6_holdMarkets_2 n S9 k1)) n3 S1 z3 = (g_X6_holdMarkets S)), qw_P D r c g S1 H → va_S (qw_A r) s.heap H locs → lv_has ls 5 [(3, .int z3), (2, .int x_1), (1, .int z1), (0, .ref (r 0))] → W p l e ({ frames := 6, cells := 0, slots := 0, locals := 140 }) s m [.ref (r 0)].toArray below meth c0 H locs 0 0 (MQ below (qw_Qv D r c g (g_X6_holdMarkets S)) [.ref (r 0)].toArray s 0 0 (qw_A r)) (F0 m 30 ls []) := by
          intro n3
          induction n3 with
          | zero =>
            intro k3 z3 S1 H locs ls hk3 hz3 hI2 hm8 hg_30 hP hS hl
            omega
          | succ n3 ih_30 =>
            intro k3 z3 S1 H locs ls hk3 hz3 hI2 hm8 hg_30 hP hS hl
            refine lv_iload_n hx hb dX6_holdMarkets_30 rfl (lv_at hl 0 rfl) ?_
            refine lv_bipush (v := 6) hx hb dX6_holdMarkets_31 (by decide) ?_
            refine lv_icmp_ge (tgt := 73) hx hb dX6_holdMarkets_33 (by decide) (fun c_33 => ?_) (fun c_33 => ?_)
            · obtain ⟨x_2, ex_2⟩ : ∃ y : Int32, y = (z1 + (1 : Int32)) := ⟨_, rfl⟩
              refine lv_iinc (v := x_2) (lv' := [(1, .int x_2), (3, .int z3), (2, .int x_1), (0, .ref (r 0))]) hx hb dX6_holdMarkets_73 hl (k := 2) rfl (by rw [ex_2]; rfl) (by decide) rfl (fun ls hl => ?_)
              refine lv_goto (tgt := 2) hx hb dX6_holdMarkets_76 (by decide) ?_
              exact ih_2 (k + 1) x_2 S1 _ _ _ (by omega) (by rw [ex_2]; exact qi_add hz1) hI2 hm8 (by subst ex_2; subst ex_1; rw [← hg_30, g_X6_holdMarkets_30]; rw [if_pos c_33]) hP hS (lv_sub hl [0, 3] rfl)
            · have hk6 : k3 < 6 := qi_lt hz3 (by omega) (m := 6) rfl c_33
              have hb2 : vp_in z3 6 := qi_in hz3 hk6 (by decide)
              refine lv_aload_n hx hb dX6_holdMarkets_36 rfl (lv_at hl 3 rfl) ?_
              refine lv_iload_n hx hb dX6_holdMarkets_37 rfl (lv_at hl 2 rfl) ?_
              refine lv_iload_n hx hb dX6_holdMarkets_38 rfl (lv_at hl 0 rfl) ?_
              refine wc_iV (k := 0) (C := RX6) (As := [.int z1, .int z3]) (rest := []) ⟨hx, hb, hml, hown, hts⟩ (c_X6_priceToday l D c g hr S1 z1 z3 (by first | assumption | omega) (by first | assumption | omega) hI2) (cwV 2 hts gX6_holdMarkets_X6_priceToday rfl rfl rfl (by decide +kernel) ⟨Nat.le_of_ble_eq_true rfl, Nat.le_of_ble_eq_true rfl⟩) (wx_recv hK hP (by decide) qc_0 rfl) hK hP hS (fun _ h => h) rfl hl.1 rfl (lv_room (Nat.le_of_ble_eq_true rfl)) dX6_holdMarkets_39 ⟨Nat.zero_le _, Nat.zero_le _⟩ (fun H locs hP hS => ?_)
              refine lv_topi (fun x_3 ex_3 => ?_)
              refine lv_istore (lv' := [(4, .int x_3), (3, .int z3), (2, .int x_1), (1, .int z1), (0, .ref (r 0))]) hx hb dX6_holdMarkets_42 hl (by decide) rfl (fun ls hl => ?_)
              refine lv_aload_n hx hb dX6_holdMarkets_44 rfl (lv_at hl 4 rfl) ?_
              refine wx_get hx hb hts hiX6 hown hK hP 0 (by decide) qc_0 rfl 4 (by decide) (hts (.fieldLink RX6 38 "PriceEdict" "towns" "[LPriceEdict$Town;") (by decide +kernel)) rfl dX6_holdMarkets_45 ?_
              refine lv_iload_n hx hb dX6_holdMarkets_48 rfl (lv_at hl 3 rfl) ?_
              have h_49 : z1.toNatClampNeg < 8 := vp_lt ha
              refine wx_ald hx hb hK hP 3 rfl 14 (by decide) qc_14 ha dX6_holdMarkets_49 ?_
              refine wx_get hx hb hts hiX4 hown hK hP (79 + 8 * z1.toNatClampNeg) (by omega) (qc_town h_49) rfl 0 (by decide) (hts (.fieldLink RX6 166 "PriceEdict$Town" "wares" "[LPriceEdict$Wares;") (by decide +kernel)) rfl dX6_holdMarkets_50 ?_
              refine lv_iload_n hx hb dX6_holdMarkets_53 rfl (lv_at hl 1 rfl) ?_
              have h_54 : z3.toNatClampNeg < 6 := vp_lt hb2
              refine wx_ald hx hb hK hP 4 rfl (80 + 8 * z1.toNatClampNeg) (by omega) (qc_warr h_49) hb2 dX6_holdMarkets_54 ?_
              refine lv_iload hx hb dX6_holdMarkets_55 (lv_at hl 0 rfl) ?_
              refine lv_iload_n hx hb dX6_holdMarkets_57 rfl (lv_at hl 2 rfl) ?_
              refine lv_aload_n hx hb dX6_holdMarkets_58 rfl (lv_at hl 4 rfl) ?_
              refine wx_get hx hb hts hiX6 hown hK hP 0 (by decide) qc_0 rfl 5 (by decide) (hts (.fieldLink RX6 42 "PriceEdict" "spoilRates" "[I") (by decide +kernel)) rfl dX6_holdMarkets_59 ?_
              refine lv_iload_n hx hb dX6_holdMarkets_62 rfl (lv_at hl 1 rfl) ?_
              refine wx_ild hx hb hK hP 15 (by decide) qc_15 hb2 dX6_holdMarkets_63 ?_
              refine lv_tope (S1 15 z3.toNatClampNeg) ((fr_X6_priceToday S1 z1 z3 z3.toNatClampNeg (by decide))) ?_
              refine wc_vV (k := (81 + 8 * z1.toNatClampNeg + z3.toNatClampNeg)) (C := RX5) (As := [.int x_3, .int x_1, .int (S1 15 z3.toNatClampNeg)]) (rest := []) ⟨hx, hb, hml, hown, hts⟩ (c_X5_passWeek l D c g hr (g_X6_priceToday S1 z1 z3) z1.toNatClampNeg z3.toNatClampNeg x_3 x_1 (S1 15 z3.toNatClampNeg) h_49 h_54) (cwV 3 hts gX6_holdMarkets_X5_passWeek rfl rfl rfl (by decide +kernel) ⟨Nat.le_of_ble_eq_true rfl, Nat.le_of_ble_eq_true rfl⟩) (wx_recv hK hP (by omega) (qc_wares h_49 h_54) rfl) hK hP hS (fun _ h => h) rfl hl.1 rfl (lv_room (Nat.le_of_ble_eq_true rfl)) dX6_holdMarkets_64 ⟨Nat.zero_le _, Nat.zero_le _⟩ (fun H locs hP hS => ?_)
              obtain ⟨x_4, ex_4⟩ : ∃ y : Int32, y = (z3 + (1 : Int32)) := ⟨_, rfl⟩
              refine lv_iinc (v := x_4) (lv' := [(3, .int x_4), (4, .int x_3), (2, .int x_1), (1, .int z1), (0, .ref (r 0))]) hx hb dX6_holdMarkets_67 hl (k := 1) rfl (by rw [ex_4]; rfl) (by decide) rfl (fun ls hl => ?_)
              refine lv_goto (tgt := 30) hx hb dX6_holdMarkets_70 (by decide) ?_
              exact ih_30 (k3 + 1) x_4 (g_X5_passWeek (g_X6_priceToday S1 z1 z3) z1.toNatClampNeg z3.toNatClampNeg x_3 x_1 (S1 15 z3.toNatClampNeg)) _ _ _ (by omega) (by rw [ex_4]; exact qi_add hz3) (InvC.week (InvC.price hI2 _ _) _ _ _ _ _) (by rw [fr_X5_passWeek _ _ _ _ _ _ _ (by omega), fr_X6_priceToday _ _ _ _ (by decide)]; exact hm8) (by subst ex_4; subst ex_3; subst ex_1; rw [← hg_30, g_X6_holdMarkets_30]; rw [if_neg c_33]) hP hS (lv_sub hl [0, 2, 3, 4] rfl)
        exact L_30 7 0 (0 : Int32) S1 _ _ _ (by omega) nI_0.symm hI1 hm7 (by subst ex_1; rw [← hg_2, g_X6_holdMarkets_2]; rw [if_neg c_7]) hP hS (lv_sub hl [0, 1, 2, 3] rfl)
  exact L_2 ((S 0 7).toNatClampNeg + 1) 0 (0 : Int32) S _ _ _ (by rw [qi_cl em0 (by omega)]; omega) nI_0.symm hI em0 (by rw [g_X6_holdMarkets]) hP hS (lv_sub hl [0, 1] rfl)
def f_X6_stockOfAll_14 (y2 : Int32) (K : qw_St → Int32 → Int32 → Int32) : Nat → qw_St → Int32 → Int32 → Int32
  | 0, S, _, _ => 0
  | n + 1, S, z1, z3 => (if (6 : Int32) ≤ z3 then (K S z1 (y2 + (1 : Int32))) else (f_X6_stockOfAll_14 y2 K n S (z1 + (S (81 + 8 * y2.toNatClampNeg + z3.toNatClampNeg) 4)) (z3 + (1 : Int32))))
def f_X6_stockOfAll_4 : Nat → qw_St → Int32 → Int32 → Int32
  | 0, S, _, _ => 0
  | n + 1, S, z1, z2 => (if (S 0 7) ≤ z2 then z1 else (f_X6_stockOfAll_14 z2 (fun (S9 : qw_St) (k1 : Int32) (k2 : Int32) => (f_X6_stockOfAll_4 n S9 k1 k2)) 7 S z1 (0 : Int32)))
def f_X6_stockOfAll (S : qw_St) : Int32 := (f_X6_stockOfAll_4 ((S 0 7).toNatClampNeg + 1) S (0 : Int32) (0 : Int32))
set_option maxHeartbeats 4000000 in
set_option maxRecDepth 100000 in
theorem c_X6_stockOfAll (l : Launch) (D : va_G) {r : Nat → Nat} (c : Nat → ClassId) (g : Nat → Int64) (hr : qw_inj r) (S : qw_St) (hI : InvC S) : MI l D r c g yX6_stockOfAll wsX6_stockOfAll ({ frames := 0, cells := 0, slots := 0, locals := 0 }) [.ref (r 0)] S (f_X6_stockOfAll S) S := by
  have hiX4 : ∀ w ∈ wsX40, w ∈ wsX6_stockOfAll := by decide +kernel
  have hiX5 : ∀ w ∈ wsX50, w ∈ wsX6_stockOfAll := by decide +kernel
  have hiX6 : ∀ w ∈ wsX60, w ∈ wsX6_stockOfAll := by decide +kernel
  refine wx_of (cc := cX6_stockOfAll) (nL := 4) (ret := (some .int)) (lvs := [(0, .ref (r 0))]) (by decide) rfl rfl (Nat.le_of_ble_eq_true rfl) ?_
  intro p e s m below meth c0 ls hx hb hret hml hts hown hlk hK hP hS hl
  obtain ⟨m0, hm0, em0⟩ := id hI.2.2.2
  have hP : qw_P D r c g S s.heap := hP
  refine lv_iconst (v := 0) hx hb dX6_stockOfAll_0 (by decide) ?_
  refine lv_istore_n (lv' := [(1, .int (0 : Int32)), (0, .ref (r 0))]) hx hb dX6_stockOfAll_1 rfl hl (by decide) rfl (fun ls hl => ?_)
  refine lv_iconst (v := 0) hx hb dX6_stockOfAll_2 (by decide) ?_
  refine lv_istore_n (lv' := [(2, .int (0 : Int32)), (1, .int (0 : Int32)), (0, .ref (r 0))]) hx hb dX6_stockOfAll_3 rfl hl (by decide) rfl (fun ls hl => ?_)
  have L_4 : ∀ (n : Nat) (k : Nat) (z1 : Int32) (z2 : Int32) (H : Heap) (locs : List Loc) (ls : Array Slot) (hk : k + n = m0 + 1 ∧ k ≤ m0) (hz2 : z2 = nI k) (hf_4 : f_X6_stockOfAll_4 n S z1 z2 = (f_X6_stockOfAll S)), qw_P D r c g S H → va_S (qw_A r) s.heap H locs → lv_has ls 4 [(2, .int z2), (1, .int z1), (0, .ref (r 0))] → W p l e ({ frames := 0, cells := 0, slots := 0, locals := 0 }) s m [.ref (r 0)].toArray below meth c0 H locs 0 0 (MQ below (qw_Qi D r c g (f_X6_stockOfAll S) S) [.ref (r 0)].toArray s 0 0 (qw_A r)) (F0 m 4 ls []) := by
    intro n
    induction n with
    | zero =>
      intro k z1 z2 H locs ls hk hz2 hf_4 hP hS hl
      omega
    | succ n ih_4 =>
      intro k z1 z2 H locs ls hk hz2 hf_4 hP hS hl
      refine lv_iload_n hx hb dX6_stockOfAll_4 rfl (lv_at hl 0 rfl) ?_
      refine lv_aload_n hx hb dX6_stockOfAll_5 rfl (lv_at hl 2 rfl) ?_
      refine wx_get hx hb hts hiX6 hown hK hP 0 (by decide) qc_0 rfl 7 (by decide) (hts (.fieldLink RX6 50 "PriceEdict" "townCount" "I") (by decide +kernel)) rfl dX6_stockOfAll_6 ?_
      refine lv_icmp_ge (tgt := 49) hx hb dX6_stockOfAll_9 (by decide) (fun c_9 => ?_) (fun c_9 => ?_)
      · refine lv_iload_n hx hb dX6_stockOfAll_49 rfl (lv_at hl 1 rfl) ?_
        exact wx_iret hx hb hret hlk hK hP hS (by rw [← hf_4, f_X6_stockOfAll_4]; rw [if_pos c_9]) rfl dX6_stockOfAll_50
      · have hk1 : k < m0 := qi_ltn hz2 (by omega) em0 (by omega) c_9
        have ha : vp_in z2 8 := qi_in hz2 (by omega) (by decide)
        refine lv_iconst (v := 0) hx hb dX6_stockOfAll_12 (by decide) ?_
        refine lv_istore_n (lv' := [(3, .int (0 : Int32)), (2, .int z2), (1, .int z1), (0, .ref (r 0))]) hx hb dX6_stockOfAll_13 rfl hl (by decide) rfl (fun ls hl => ?_)
        have L_14 : ∀ (n3 : Nat) (k3 : Nat) (z1 : Int32) (z3 : Int32) (H : Heap) (locs : List Loc) (ls : Array Slot) (hk3 : k3 + n3 = 7 ∧ k3 ≤ 6) (hz3 : z3 = nI k3) (hf_14 : f_X6_stockOfAll_14 z2 (fun (S9 : qw_St) (k1 : Int32) (k2 : Int32) => (f_X6_stockOfAll_4 n S9 k1 k2)) n3 S z1 z3 = (f_X6_stockOfAll S)), qw_P D r c g S H → va_S (qw_A r) s.heap H locs → lv_has ls 4 [(3, .int z3), (2, .int z2), (1, .int z1), (0, .ref (r 0))] → W p l e ({ frames := 0, cells := 0, slots := 0, locals := 0 }) s m [.ref (r 0)].toArray below meth c0 H locs 0 0 (MQ below (qw_Qi D r c g (f_X6_stockOfAll S) S) [.ref (r 0)].toArray s 0 0 (qw_A r)) (F0 m 14 ls []) := by
          intro n3
          induction n3 with
          | zero =>
            intro k3 z1 z3 H locs ls hk3 hz3 hf_14 hP hS hl
            omega
          | succ n3 ih_14 =>
            intro k3 z1 z3 H locs ls hk3 hz3 hf_14 hP hS hl
            refine lv_iload_n hx hb dX6_stockOfAll_14 rfl (lv_at hl 0 rfl) ?_
            refine lv_bipush (v := 6) hx hb dX6_stockOfAll_15 (by decide) ?_
            refine lv_icmp_ge (tgt := 43) hx hb dX6_stockOfAll_17 (by decide) (fun c_17 => ?_) (fun c_17 => ?_)
            · obtain ⟨x_1, ex_1⟩ : ∃ y : Int32, y = (z2 + (1 : Int32)) := ⟨_, rfl⟩
              refine lv_iinc (v := x_1) (lv' := [(2, .int x_1), (3, .int z3), (1, .int z1), (0, .ref (r 0))]) hx hb dX6_stockOfAll_43 hl (k := 1) rfl (by rw [ex_1]; rfl) (by decide) rfl (fun ls hl => ?_)
              refine lv_goto (tgt := 4) hx hb dX6_stockOfAll_46 (by decide) ?_
              exact ih_4 (k + 1) z1 x_1 _ _ _ (by omega) (by rw [ex_1]; exact qi_add hz2) (by subst ex_1; rw [← hf_14, f_X6_stockOfAll_14]; rw [if_pos c_17]) hP hS (lv_sub hl [0, 2, 3] rfl)
            · have hk6 : k3 < 6 := qi_lt hz3 (by omega) (m := 6) rfl c_17
              have hb2 : vp_in z3 6 := qi_in hz3 hk6 (by decide)
              refine lv_iload_n hx hb dX6_stockOfAll_20 rfl (lv_at hl 2 rfl) ?_
              refine lv_aload_n hx hb dX6_stockOfAll_21 rfl (lv_at hl 3 rfl) ?_
              refine wx_get hx hb hts hiX6 hown hK hP 0 (by decide) qc_0 rfl 4 (by decide) (hts (.fieldLink RX6 38 "PriceEdict" "towns" "[LPriceEdict$Town;") (by decide +kernel)) rfl dX6_stockOfAll_22 ?_
              refine lv_iload_n hx hb dX6_stockOfAll_25 rfl (lv_at hl 1 rfl) ?_
              have h_26 : z2.toNatClampNeg < 8 := vp_lt ha
              refine wx_ald hx hb hK hP 3 rfl 14 (by decide) qc_14 ha dX6_stockOfAll_26 ?_
              refine wx_get hx hb hts hiX4 hown hK hP (79 + 8 * z2.toNatClampNeg) (by omega) (qc_town h_26) rfl 0 (by decide) (hts (.fieldLink RX6 166 "PriceEdict$Town" "wares" "[LPriceEdict$Wares;") (by decide +kernel)) rfl dX6_stockOfAll_27 ?_
              refine lv_iload_n hx hb dX6_stockOfAll_30 rfl (lv_at hl 0 rfl) ?_
              have h_31 : z3.toNatClampNeg < 6 := vp_lt hb2
              refine wx_ald hx hb hK hP 4 rfl (80 + 8 * z2.toNatClampNeg) (by omega) (qc_warr h_26) hb2 dX6_stockOfAll_31 ?_
              refine wx_get hx hb hts hiX5 hown hK hP (81 + 8 * z2.toNatClampNeg + z3.toNatClampNeg) (by omega) (qc_wares h_26 h_31) rfl 4 (by decide) (hts (.fieldLink RX6 179 "PriceEdict$Wares" "stock" "I") (by decide +kernel)) rfl dX6_stockOfAll_32 ?_
              refine lv_iadd hx hb dX6_stockOfAll_35 ?_
              refine lv_topi (fun x_2 ex_2 => ?_)
              refine lv_istore_n (lv' := [(1, .int x_2), (3, .int z3), (2, .int z2), (0, .ref (r 0))]) hx hb dX6_stockOfAll_36 rfl hl (by decide) rfl (fun ls hl => ?_)
              obtain ⟨x_3, ex_3⟩ : ∃ y : Int32, y = (z3 + (1 : Int32)) := ⟨_, rfl⟩
              refine lv_iinc (v := x_3) (lv' := [(3, .int x_3), (1, .int x_2), (2, .int z2), (0, .ref (r 0))]) hx hb dX6_stockOfAll_37 hl (k := 1) rfl (by rw [ex_3]; rfl) (by decide) rfl (fun ls hl => ?_)
              refine lv_goto (tgt := 14) hx hb dX6_stockOfAll_40 (by decide) ?_
              exact ih_14 (k3 + 1) x_2 x_3 _ _ _ (by omega) (by rw [ex_3]; exact qi_add hz3) (by subst ex_3; subst ex_2; rw [← hf_14, f_X6_stockOfAll_14]; rw [if_neg c_17]) hP hS (lv_sub hl [0, 2, 1, 3] rfl)
        exact L_14 7 0 z1 (0 : Int32) _ _ _ (by omega) nI_0.symm (by rw [← hf_4, f_X6_stockOfAll_4]; rw [if_neg c_9]) hP hS (lv_sub hl [0, 1, 2, 3] rfl)
  exact L_4 ((S 0 7).toNatClampNeg + 1) 0 (0 : Int32) (0 : Int32) _ _ _ (by rw [qi_cl em0 (by omega)]; omega) nI_0.symm (by rw [f_X6_stockOfAll]) hP hS (lv_sub hl [0, 1, 2] rfl)
def f_X6_hiddenOfAll_14 (y2 : Int32) (K : qw_St → Int32 → Int32 → Int32) : Nat → qw_St → Int32 → Int32 → Int32
  | 0, S, _, _ => 0
  | n + 1, S, z1, z3 => (if (6 : Int32) ≤ z3 then (K S z1 (y2 + (1 : Int32))) else (f_X6_hiddenOfAll_14 y2 K n S (z1 + (S (81 + 8 * y2.toNatClampNeg + z3.toNatClampNeg) 5)) (z3 + (1 : Int32))))
def f_X6_hiddenOfAll_4 : Nat → qw_St → Int32 → Int32 → Int32
  | 0, S, _, _ => 0
  | n + 1, S, z1, z2 => (if (S 0 7) ≤ z2 then z1 else (f_X6_hiddenOfAll_14 z2 (fun (S9 : qw_St) (k1 : Int32) (k2 : Int32) => (f_X6_hiddenOfAll_4 n S9 k1 k2)) 7 S z1 (0 : Int32)))
def f_X6_hiddenOfAll (S : qw_St) : Int32 := (f_X6_hiddenOfAll_4 ((S 0 7).toNatClampNeg + 1) S (0 : Int32) (0 : Int32))
set_option maxHeartbeats 4000000 in
set_option maxRecDepth 100000 in
theorem c_X6_hiddenOfAll (l : Launch) (D : va_G) {r : Nat → Nat} (c : Nat → ClassId) (g : Nat → Int64) (hr : qw_inj r) (S : qw_St) (hI : InvC S) : MI l D r c g yX6_hiddenOfAll wsX6_hiddenOfAll ({ frames := 0, cells := 0, slots := 0, locals := 0 }) [.ref (r 0)] S (f_X6_hiddenOfAll S) S := by
  have hiX4 : ∀ w ∈ wsX40, w ∈ wsX6_hiddenOfAll := by decide +kernel
  have hiX5 : ∀ w ∈ wsX50, w ∈ wsX6_hiddenOfAll := by decide +kernel
  have hiX6 : ∀ w ∈ wsX60, w ∈ wsX6_hiddenOfAll := by decide +kernel
  refine wx_of (cc := cX6_hiddenOfAll) (nL := 4) (ret := (some .int)) (lvs := [(0, .ref (r 0))]) (by decide) rfl rfl (Nat.le_of_ble_eq_true rfl) ?_
  intro p e s m below meth c0 ls hx hb hret hml hts hown hlk hK hP hS hl
  obtain ⟨m0, hm0, em0⟩ := id hI.2.2.2
  have hP : qw_P D r c g S s.heap := hP
  refine lv_iconst (v := 0) hx hb dX6_hiddenOfAll_0 (by decide) ?_
  refine lv_istore_n (lv' := [(1, .int (0 : Int32)), (0, .ref (r 0))]) hx hb dX6_hiddenOfAll_1 rfl hl (by decide) rfl (fun ls hl => ?_)
  refine lv_iconst (v := 0) hx hb dX6_hiddenOfAll_2 (by decide) ?_
  refine lv_istore_n (lv' := [(2, .int (0 : Int32)), (1, .int (0 : Int32)), (0, .ref (r 0))]) hx hb dX6_hiddenOfAll_3 rfl hl (by decide) rfl (fun ls hl => ?_)
  have L_4 : ∀ (n : Nat) (k : Nat) (z1 : Int32) (z2 : Int32) (H : Heap) (locs : List Loc) (ls : Array Slot) (hk : k + n = m0 + 1 ∧ k ≤ m0) (hz2 : z2 = nI k) (hf_4 : f_X6_hiddenOfAll_4 n S z1 z2 = (f_X6_hiddenOfAll S)), qw_P D r c g S H → va_S (qw_A r) s.heap H locs → lv_has ls 4 [(2, .int z2), (1, .int z1), (0, .ref (r 0))] → W p l e ({ frames := 0, cells := 0, slots := 0, locals := 0 }) s m [.ref (r 0)].toArray below meth c0 H locs 0 0 (MQ below (qw_Qi D r c g (f_X6_hiddenOfAll S) S) [.ref (r 0)].toArray s 0 0 (qw_A r)) (F0 m 4 ls []) := by
    intro n
    induction n with
    | zero =>
      intro k z1 z2 H locs ls hk hz2 hf_4 hP hS hl
      omega
    | succ n ih_4 =>
      intro k z1 z2 H locs ls hk hz2 hf_4 hP hS hl
      refine lv_iload_n hx hb dX6_hiddenOfAll_4 rfl (lv_at hl 0 rfl) ?_
      refine lv_aload_n hx hb dX6_hiddenOfAll_5 rfl (lv_at hl 2 rfl) ?_
      refine wx_get hx hb hts hiX6 hown hK hP 0 (by decide) qc_0 rfl 7 (by decide) (hts (.fieldLink RX6 50 "PriceEdict" "townCount" "I") (by decide +kernel)) rfl dX6_hiddenOfAll_6 ?_
      refine lv_icmp_ge (tgt := 49) hx hb dX6_hiddenOfAll_9 (by decide) (fun c_9 => ?_) (fun c_9 => ?_)
      · refine lv_iload_n hx hb dX6_hiddenOfAll_49 rfl (lv_at hl 1 rfl) ?_
        exact wx_iret hx hb hret hlk hK hP hS (by rw [← hf_4, f_X6_hiddenOfAll_4]; rw [if_pos c_9]) rfl dX6_hiddenOfAll_50
      · have hk1 : k < m0 := qi_ltn hz2 (by omega) em0 (by omega) c_9
        have ha : vp_in z2 8 := qi_in hz2 (by omega) (by decide)
        refine lv_iconst (v := 0) hx hb dX6_hiddenOfAll_12 (by decide) ?_
        refine lv_istore_n (lv' := [(3, .int (0 : Int32)), (2, .int z2), (1, .int z1), (0, .ref (r 0))]) hx hb dX6_hiddenOfAll_13 rfl hl (by decide) rfl (fun ls hl => ?_)
        have L_14 : ∀ (n3 : Nat) (k3 : Nat) (z1 : Int32) (z3 : Int32) (H : Heap) (locs : List Loc) (ls : Array Slot) (hk3 : k3 + n3 = 7 ∧ k3 ≤ 6) (hz3 : z3 = nI k3) (hf_14 : f_X6_hiddenOfAll_14 z2 (fun (S9 : qw_St) (k1 : Int32) (k2 : Int32) => (f_X6_hiddenOfAll_4 n S9 k1 k2)) n3 S z1 z3 = (f_X6_hiddenOfAll S)), qw_P D r c g S H → va_S (qw_A r) s.heap H locs → lv_has ls 4 [(3, .int z3), (2, .int z2), (1, .int z1), (0, .ref (r 0))] → W p l e ({ frames := 0, cells := 0, slots := 0, locals := 0 }) s m [.ref (r 0)].toArray below meth c0 H locs 0 0 (MQ below (qw_Qi D r c g (f_X6_hiddenOfAll S) S) [.ref (r 0)].toArray s 0 0 (qw_A r)) (F0 m 14 ls []) := by
          intro n3
          induction n3 with
          | zero =>
            intro k3 z1 z3 H locs ls hk3 hz3 hf_14 hP hS hl
            omega
          | succ n3 ih_14 =>
            intro k3 z1 z3 H locs ls hk3 hz3 hf_14 hP hS hl
            refine lv_iload_n hx hb dX6_hiddenOfAll_14 rfl (lv_at hl 0 rfl) ?_
            refine lv_bipush (v := 6) hx hb dX6_hiddenOfAll_15 (by decide) ?_
            refine lv_icmp_ge (tgt := 43) hx hb dX6_hiddenOfAll_17 (by decide) (fun c_17 => ?_) (fun c_17 => ?_)
            · obtain ⟨x_1, ex_1⟩ : ∃ y : Int32, y = (z2 + (1 : Int32)) := ⟨_, rfl⟩
              refine lv_iinc (v := x_1) (lv' := [(2, .int x_1), (3, .int z3), (1, .int z1), (0, .ref (r 0))]) hx hb dX6_hiddenOfAll_43 hl (k := 1) rfl (by rw [ex_1]; rfl) (by decide) rfl (fun ls hl => ?_)
              refine lv_goto (tgt := 4) hx hb dX6_hiddenOfAll_46 (by decide) ?_
              exact ih_4 (k + 1) z1 x_1 _ _ _ (by omega) (by rw [ex_1]; exact qi_add hz2) (by subst ex_1; rw [← hf_14, f_X6_hiddenOfAll_14]; rw [if_pos c_17]) hP hS (lv_sub hl [0, 2, 3] rfl)
            · have hk6 : k3 < 6 := qi_lt hz3 (by omega) (m := 6) rfl c_17
              have hb2 : vp_in z3 6 := qi_in hz3 hk6 (by decide)
              refine lv_iload_n hx hb dX6_hiddenOfAll_20 rfl (lv_at hl 2 rfl) ?_
              refine lv_aload_n hx hb dX6_hiddenOfAll_21 rfl (lv_at hl 3 rfl) ?_
              refine wx_get hx hb hts hiX6 hown hK hP 0 (by decide) qc_0 rfl 4 (by decide) (hts (.fieldLink RX6 38 "PriceEdict" "towns" "[LPriceEdict$Town;") (by decide +kernel)) rfl dX6_hiddenOfAll_22 ?_
              refine lv_iload_n hx hb dX6_hiddenOfAll_25 rfl (lv_at hl 1 rfl) ?_
              have h_26 : z2.toNatClampNeg < 8 := vp_lt ha
              refine wx_ald hx hb hK hP 3 rfl 14 (by decide) qc_14 ha dX6_hiddenOfAll_26 ?_
              refine wx_get hx hb hts hiX4 hown hK hP (79 + 8 * z2.toNatClampNeg) (by omega) (qc_town h_26) rfl 0 (by decide) (hts (.fieldLink RX6 166 "PriceEdict$Town" "wares" "[LPriceEdict$Wares;") (by decide +kernel)) rfl dX6_hiddenOfAll_27 ?_
              refine lv_iload_n hx hb dX6_hiddenOfAll_30 rfl (lv_at hl 0 rfl) ?_
              have h_31 : z3.toNatClampNeg < 6 := vp_lt hb2
              refine wx_ald hx hb hK hP 4 rfl (80 + 8 * z2.toNatClampNeg) (by omega) (qc_warr h_26) hb2 dX6_hiddenOfAll_31 ?_
              refine wx_get hx hb hts hiX5 hown hK hP (81 + 8 * z2.toNatClampNeg + z3.toNatClampNeg) (by omega) (qc_wares h_26 h_31) rfl 5 (by decide) (hts (.fieldLink RX6 182 "PriceEdict$Wares" "hidden" "I") (by decide +kernel)) rfl dX6_hiddenOfAll_32 ?_
              refine lv_iadd hx hb dX6_hiddenOfAll_35 ?_
              refine lv_topi (fun x_2 ex_2 => ?_)
              refine lv_istore_n (lv' := [(1, .int x_2), (3, .int z3), (2, .int z2), (0, .ref (r 0))]) hx hb dX6_hiddenOfAll_36 rfl hl (by decide) rfl (fun ls hl => ?_)
              obtain ⟨x_3, ex_3⟩ : ∃ y : Int32, y = (z3 + (1 : Int32)) := ⟨_, rfl⟩
              refine lv_iinc (v := x_3) (lv' := [(3, .int x_3), (1, .int x_2), (2, .int z2), (0, .ref (r 0))]) hx hb dX6_hiddenOfAll_37 hl (k := 1) rfl (by rw [ex_3]; rfl) (by decide) rfl (fun ls hl => ?_)
              refine lv_goto (tgt := 14) hx hb dX6_hiddenOfAll_40 (by decide) ?_
              exact ih_14 (k3 + 1) x_2 x_3 _ _ _ (by omega) (by rw [ex_3]; exact qi_add hz3) (by subst ex_3; subst ex_2; rw [← hf_14, f_X6_hiddenOfAll_14]; rw [if_neg c_17]) hP hS (lv_sub hl [0, 2, 1, 3] rfl)
        exact L_14 7 0 z1 (0 : Int32) _ _ _ (by omega) nI_0.symm (by rw [← hf_4, f_X6_hiddenOfAll_4]; rw [if_neg c_9]) hP hS (lv_sub hl [0, 1, 2, 3] rfl)
  exact L_4 ((S 0 7).toNatClampNeg + 1) 0 (0 : Int32) (0 : Int32) _ _ _ (by rw [qi_cl em0 (by omega)]; omega) nI_0.symm (by rw [f_X6_hiddenOfAll]) hP hS (lv_sub hl [0, 1, 2] rfl)
def g_X6_settledLines_4 : Nat → qw_St → Int32 → Int32 → qw_St
  | 0, S, _, _ => S
  | n + 1, S, z1, z2 => (if (30 : Int32) ≤ z2 then S else (if (f_X2_agreeing (g_X2_compare S z2 (S 0 9))) = (1 : Int32) then (g_X6_settledLines_4 n (g_X2_compare S z2 (S 0 9)) (z1 + (1 : Int32)) (z2 + (1 : Int32))) else (g_X6_settledLines_4 n (g_X2_compare S z2 (S 0 9)) z1 (z2 + (1 : Int32)))))
def f_X6_settledLines_4 : Nat → qw_St → Int32 → Int32 → Int32
  | 0, S, _, _ => 0
  | n + 1, S, z1, z2 => (if (30 : Int32) ≤ z2 then z1 else (if (f_X2_agreeing (g_X2_compare S z2 (S 0 9))) = (1 : Int32) then (f_X6_settledLines_4 n (g_X2_compare S z2 (S 0 9)) (z1 + (1 : Int32)) (z2 + (1 : Int32))) else (f_X6_settledLines_4 n (g_X2_compare S z2 (S 0 9)) z1 (z2 + (1 : Int32)))))
def g_X6_settledLines (S : qw_St) : qw_St := (g_X6_settledLines_4 31 S (0 : Int32) (0 : Int32))
def f_X6_settledLines (S : qw_St) : Int32 := (f_X6_settledLines_4 31 S (0 : Int32) (0 : Int32))
set_option maxHeartbeats 4000000 in
set_option maxRecDepth 100000 in
theorem c_X6_settledLines (l : Launch) (D : va_G) {r : Nat → Nat} (c : Nat → ClassId) (g : Nat → Int64) (hr : qw_inj r) (S : qw_St) (hI : InvC S) : MI l D r c g yX6_settledLines wsX6_settledLines ({ frames := 2, cells := 0, slots := 0, locals := 46 }) [.ref (r 0)] S (f_X6_settledLines S) (g_X6_settledLines S) := by
  have hiX6 : ∀ w ∈ wsX60, w ∈ wsX6_settledLines := by decide +kernel
  refine wx_of (cc := cX6_settledLines) (nL := 3) (ret := (some .int)) (lvs := [(0, .ref (r 0))]) (by decide) rfl rfl (Nat.le_of_ble_eq_true rfl) ?_
  intro p e s m below meth c0 ls hx hb hret hml hts hown hlk hK hP hS hl
  have hP : qw_P D r c g S s.heap := hP
  refine lv_iconst (v := 0) hx hb dX6_settledLines_0 (by decide) ?_
  refine lv_istore_n (lv' := [(1, .int (0 : Int32)), (0, .ref (r 0))]) hx hb dX6_settledLines_1 rfl hl (by decide) rfl (fun ls hl => ?_)
  refine lv_iconst (v := 0) hx hb dX6_settledLines_2 (by decide) ?_
  refine lv_istore_n (lv' := [(2, .int (0 : Int32)), (1, .int (0 : Int32)), (0, .ref (r 0))]) hx hb dX6_settledLines_3 rfl hl (by decide) rfl (fun ls hl => ?_)
  have L_4 : ∀ (n : Nat) (k : Nat) (z1 : Int32) (z2 : Int32) (S1 : qw_St) (H : Heap) (locs : List Loc) (ls : Array Slot) (hk : k + n = 31 ∧ k ≤ 30) (hz2 : z2 = nI k) (hI1 : InvC S1) (hf_4 : f_X6_settledLines_4 n S1 z1 z2 = (f_X6_settledLines S)) (hg_4 : g_X6_settledLines_4 n S1 z1 z2 = (g_X6_settledLines S)), qw_P D r c g S1 H → va_S (qw_A r) s.heap H locs → lv_has ls 3 [(2, .int z2), (1, .int z1), (0, .ref (r 0))] → W p l e ({ frames := 2, cells := 0, slots := 0, locals := 46 }) s m [.ref (r 0)].toArray below meth c0 H locs 0 0 (MQ below (qw_Qi D r c g (f_X6_settledLines S) (g_X6_settledLines S)) [.ref (r 0)].toArray s 0 0 (qw_A r)) (F0 m 4 ls []) := by
    intro n
    induction n with
    | zero =>
      intro k z1 z2 S1 H locs ls hk hz2 hI1 hf_4 hg_4 hP hS hl
      omega
    | succ n ih_4 =>
      intro k z1 z2 S1 H locs ls hk hz2 hI1 hf_4 hg_4 hP hS hl
      refine lv_iload_n hx hb dX6_settledLines_4 rfl (lv_at hl 0 rfl) ?_
      refine lv_bipush (v := 30) hx hb dX6_settledLines_5 (by decide) ?_
      refine lv_icmp_ge (tgt := 42) hx hb dX6_settledLines_7 (by decide) (fun c_7 => ?_) (fun c_7 => ?_)
      · refine lv_iload_n hx hb dX6_settledLines_42 rfl (lv_at hl 1 rfl) ?_
        exact wx_iret hx hb hret hlk hK hP hS (by rw [← hf_4, f_X6_settledLines_4]; rw [if_pos c_7]) (by rw [← hg_4, g_X6_settledLines_4]; rw [if_pos c_7]) dX6_settledLines_43
      · have hk3 : k < 30 := qi_lt hz2 (by omega) (m := 30) rfl c_7
        refine lv_aload_n hx hb dX6_settledLines_10 rfl (lv_at hl 2 rfl) ?_
        refine wx_get hx hb hts hiX6 hown hK hP 0 (by decide) qc_0 rfl 1 (by decide) (hts (.fieldLink RX6 19 "PriceEdict" "stones" "LPriceEdict$Stones;") (by decide +kernel)) rfl dX6_settledLines_11 ?_
        refine lv_iload_n hx hb dX6_settledLines_14 rfl (lv_at hl 0 rfl) ?_
        refine lv_aload_n hx hb dX6_settledLines_15 rfl (lv_at hl 2 rfl) ?_
        refine wx_get hx hb hts hiX6 hown hK hP 0 (by decide) qc_0 rfl 9 (by decide) (hts (.fieldLink RX6 56 "PriceEdict" "today" "I") (by decide +kernel)) rfl dX6_settledLines_16 ?_
        refine wc_vV (k := 3) (C := RX2) (As := [.int z2, .int (S1 0 9)]) (rest := []) ⟨hx, hb, hml, hown, hts⟩ (c_X2_compare l D c g hr S1 z2 (S1 0 9) hI1.1) (cwV 2 hts gX6_settledLines_X2_compare rfl rfl rfl (by decide +kernel) ⟨Nat.le_of_ble_eq_true rfl, Nat.le_of_ble_eq_true rfl⟩) (wx_recv hK hP (by decide) qc_3 rfl) hK hP hS (fun _ h => h) rfl hl.1 rfl (lv_room (Nat.le_of_ble_eq_true rfl)) dX6_settledLines_19 ⟨Nat.zero_le _, Nat.zero_le _⟩ (fun H locs hP hS => ?_)
        refine lv_aload_n hx hb dX6_settledLines_22 rfl (lv_at hl 2 rfl) ?_
        refine wx_get hx hb hts hiX6 hown hK hP 0 (by decide) qc_0 rfl 1 (by decide) (hts (.fieldLink RX6 19 "PriceEdict" "stones" "LPriceEdict$Stones;") (by decide +kernel)) rfl dX6_settledLines_23 ?_
        refine wc_iV (k := 3) (C := RX2) (As := []) (rest := []) ⟨hx, hb, hml, hown, hts⟩ (c_X2_agreeing l D c g hr (g_X2_compare S1 z2 (S1 0 9))) (cwV 0 hts gX6_settledLines_X2_agreeing rfl rfl rfl (by decide +kernel) ⟨Nat.le_of_ble_eq_true rfl, Nat.le_of_ble_eq_true rfl⟩) (wx_recv hK hP (by decide) qc_3 rfl) hK hP hS (fun _ h => h) rfl hl.1 rfl (lv_room (Nat.le_of_ble_eq_true rfl)) dX6_settledLines_26 ⟨Nat.zero_le _, Nat.zero_le _⟩ (fun H locs hP hS => ?_)
        refine lv_iconst (v := 1) hx hb dX6_settledLines_29 (by decide) ?_
        refine lv_icmp_ne (tgt := 36) hx hb dX6_settledLines_30 (by decide) (fun c_30 => ?_) (fun c_30 => ?_)
        · obtain ⟨x_1, ex_1⟩ : ∃ y : Int32, y = (z2 + (1 : Int32)) := ⟨_, rfl⟩
          refine lv_iinc (v := x_1) (lv' := [(2, .int x_1), (1, .int z1), (0, .ref (r 0))]) hx hb dX6_settledLines_36 hl (k := 0) rfl (by rw [ex_1]; rfl) (by decide) rfl (fun ls hl => ?_)
          refine lv_goto (tgt := 4) hx hb dX6_settledLines_39 (by decide) ?_
          exact ih_4 (k + 1) z1 x_1 (g_X2_compare S1 z2 (S1 0 9)) _ _ _ (by omega) (by rw [ex_1]; exact qi_add hz2) (InvC.left hI1 (fun _ j q => fr_X2_compare S1 _ _ j q)) (by subst ex_1; rw [← hf_4, f_X6_settledLines_4]; rw [if_neg c_7, if_neg c_30]) (by subst ex_1; rw [← hg_4, g_X6_settledLines_4]; rw [if_neg c_7, if_neg c_30]) hP hS (lv_sub hl [0, 1, 2] rfl)
        · obtain ⟨x_2, ex_2⟩ : ∃ y : Int32, y = (z1 + (1 : Int32)) := ⟨_, rfl⟩
          refine lv_iinc (v := x_2) (lv' := [(1, .int x_2), (2, .int z2), (0, .ref (r 0))]) hx hb dX6_settledLines_33 hl (k := 1) rfl (by rw [ex_2]; rfl) (by decide) rfl (fun ls hl => ?_)
          obtain ⟨x_3, ex_3⟩ : ∃ y : Int32, y = (z2 + (1 : Int32)) := ⟨_, rfl⟩
          refine lv_iinc (v := x_3) (lv' := [(2, .int x_3), (1, .int x_2), (0, .ref (r 0))]) hx hb dX6_settledLines_36 hl (k := 1) rfl (by rw [ex_3]; rfl) (by decide) rfl (fun ls hl => ?_)
          refine lv_goto (tgt := 4) hx hb dX6_settledLines_39 (by decide) ?_
          exact ih_4 (k + 1) x_2 x_3 (g_X2_compare S1 z2 (S1 0 9)) _ _ _ (by omega) (by rw [ex_3]; exact qi_add hz2) (InvC.left hI1 (fun _ j q => fr_X2_compare S1 _ _ j q)) (by subst ex_3; subst ex_2; rw [← hf_4, f_X6_settledLines_4]; rw [if_neg c_7, if_pos c_30]) (by subst ex_3; subst ex_2; rw [← hg_4, g_X6_settledLines_4]; rw [if_neg c_7, if_pos c_30]) hP hS (lv_sub hl [0, 1, 2] rfl)
  exact L_4 31 0 (0 : Int32) (0 : Int32) S _ _ _ (by omega) nI_0.symm hI (by rw [f_X6_settledLines]) (by rw [g_X6_settledLines]) hP hS (lv_sub hl [0, 1, 2] rfl)
