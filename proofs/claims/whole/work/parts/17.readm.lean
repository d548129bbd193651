theorem blanks_m_0 : ∀ (n : Nat) (S : qw_St) (k m1 : Nat), S 143 20 = nI k → S 143 21 = nI m1 → m1 ≤ 400 → k ≤ 400 → 401 ≤ k + n → ∃ k', k ≤ k' ∧ k' ≤ 400 ∧ g_X7_blanks_0 n S 143 20 = nI k' ∧ g_X7_blanks_0 n S 143 22 = nI k' := by
  intro n
  induction n with
  | zero => intro S k m1 hp he h1 hk hn; omega
  | succ n ih =>
    intro S k m1 hp he h1 hk hn
    rw [g_X7_blanks_0]
    split
    · exact ⟨k, Nat.le_refl _, hk, by rw [up2_ne _ _ (Or.inr (by decide))]; exact hp, by rw [up2_same]; exact hp⟩
    · next c =>
      have hlt : k < m1 := qi_ltn hp (by omega) he (by omega) (isAt_t c)
      obtain ⟨k', q1, q2, q3, q4⟩ := ih (up2 S 143 20 (S 143 20 + 1)) (k + 1) m1 (by rw [up2_same]; exact qi_add hp) (by rw [up2_ne _ _ (Or.inr (by decide))]; exact he) h1 (by omega) (by omega)
      exact ⟨k', by omega, q2, q3, q4⟩
theorem blanks_m {S : qw_St} {k m1 : Nat} (hp : S 143 20 = nI k) (he : S 143 21 = nI m1) (h1 : m1 ≤ 400) (hk : k ≤ 400) : ∃ k', k ≤ k' ∧ k' ≤ 400 ∧ g_X7_blanks S 143 20 = nI k' ∧ g_X7_blanks S 143 22 = nI k' := blanks_m_0 401 S k m1 hp he h1 hk (by omega)
theorem fr_X7_number_6 (a1 a2 : Int32) : ∀ (n : Nat) (S : qw_St) (z : Int32) (k j : Nat), (k ≠ 143 ∨ j ≠ 20) → g_X7_number_6 a1 a2 n S z k j = S k j := by
  intro n
  induction n with
  | zero => intro S z k j h; rfl
  | succ n ih =>
    intro S z k j h
    rw [g_X7_number_6]
    repeat' (first | split | rfl | (rw [ih _ _ _ _ h, up2_ne _ _ h]))
theorem fr_X7_number (S : qw_St) (a1 a2 : Int32) {k : Nat} (j : Nat) (h : k ≠ 143 ∨ (j ≠ 20 ∧ j ≠ 22)) : g_X7_number S a1 a2 k j = S k j := by
  unfold g_X7_number
  rw [fr_X7_number_6 _ _ _ _ _ _ _ (h.imp id (fun q => q.1)), fr_X7_blanks _ _ h]
theorem number_m_6 (a1 a2 : Int32) : ∀ (n : Nat) (S : qw_St) (z : Int32) (k m1 : Nat), S 143 20 = nI k → S 143 21 = nI m1 → m1 ≤ 400 → k ≤ 400 → ∃ k', k ≤ k' ∧ k' ≤ 400 ∧ g_X7_number_6 a1 a2 n S z 143 20 = nI k' := by
  intro n
  induction n with
  | zero => intro S z k m1 hp he h1 hk; exact ⟨k, Nat.le_refl _, hk, hp⟩
  | succ n ih =>
    intro S z k m1 hp he h1 hk
    rw [g_X7_number_6]
    split
    · repeat' (first | split | exact ⟨k, Nat.le_refl _, hk, hp⟩)
    · next c =>
      have hlt : k < m1 := qi_ltn hp (by omega) he (by omega) (isAt_t c)
      obtain ⟨k', q1, q2, q3⟩ := ih (up2 S 143 20 (S 143 20 + 1)) _ (k + 1) m1 (by rw [up2_same]; exact qi_add hp) (by rw [up2_ne _ _ (Or.inr (by decide))]; exact he) h1 (by omega)
      exact ⟨k', by omega, q2, q3⟩
theorem number_m {S : qw_St} (a1 a2 : Int32) {k m1 : Nat} (hp : S 143 20 = nI k) (he : S 143 21 = nI m1) (h1 : m1 ≤ 400) (hk : k ≤ 400) : ∃ k', k ≤ k' ∧ k' ≤ 400 ∧ g_X7_number S a1 a2 143 20 = nI k' ∧ g_X7_number S a1 a2 143 21 = nI m1 := by
  obtain ⟨k1, q1, q2, q3, q4⟩ := blanks_m hp he h1 hk
  obtain ⟨k2, q5, q6, q7⟩ := number_m_6 a1 a2 401 (g_X7_blanks S) 0 k1 m1 q3 (by rw [fr_X7_blanks _ _ (Or.inr (by decide))]; exact he) h1 q2
  exact ⟨k2, by omega, q6, q7, by rw [fr_X7_number _ _ _ _ (Or.inr (by decide))]; exact he⟩
theorem num_p {S : qw_St} (a1 a2 : Int32) (hp : qz (S 143 20) 400) (he : qz (S 143 21) 400) : qz (g_X7_number S a1 a2 143 20) 400 := by
  obtain ⟨k, hk, ek⟩ := hp
  obtain ⟨m1, hm1, em1⟩ := he
  obtain ⟨k2, -, q6, q7, -⟩ := number_m a1 a2 ek em1 hm1 hk
  exact ⟨k2, q6, q7⟩
theorem num_e {S : qw_St} (a1 a2 : Int32) (he : qz (S 143 21) 400) : qz (g_X7_number S a1 a2 143 21) 400 := by rw [fr_X7_number _ _ _ _ (Or.inr (by decide))]; exact he
theorem num_r_6 (a1 a2 : Int32) : ∀ (n : Nat) (S : qw_St) (z : Int32), n ≠ 0 → f_X7_number_6 a1 a2 n S z = -1 ∨ (¬ f_X7_number_6 a1 a2 n S z < a1 ∧ ¬ a2 < f_X7_number_6 a1 a2 n S z) ∨ f_X7_number_6 a1 a2 n S z = 0 := by
  intro n
  induction n with
  | zero => intro S z h; exact absurd rfl h
  | succ n ih =>
    intro S z h
    rw [f_X7_number_6]
    split
    · split
      · exact Or.inl rfl
      · split
        · exact Or.inl rfl
        · split
          · exact Or.inl rfl
          · split
            · next q1 q2 => exact Or.inr (Or.inl ⟨q1, Int32.not_lt.mpr q2⟩)
            · exact Or.inl rfl
    · cases n with
      | zero => exact Or.inr (Or.inr rfl)
      | succ n => exact ih _ _ (by omega)
theorem num_in {S : qw_St} {a1 a2 : Int32} {N : Nat} (h1 : a1.toInt = 0 ∨ a1.toInt = 1) (h2 : a2.toInt = (N : Int) - 1) (hN : 0 < N) (h : 0 ≤ f_X7_number S a1 a2) : vp_in (f_X7_number S a1 a2) N := by
  rw [vp_in_iff]
  rw [Int32.le_iff_toInt_le] at h
  have h0 : (0 : Int32).toInt = 0 := rfl
  have hm : (-1 : Int32).toInt = -1 := rfl
  unfold f_X7_number at h ⊢
  rcases num_r_6 a1 a2 401 (g_X7_blanks S) 0 (by omega) with q | q | q
  · rw [q] at h; rw [hm, h0] at h; omega
  · rw [Int32.lt_iff_toInt_lt, Int32.lt_iff_toInt_lt] at q; omega
  · rw [q]; rw [h0]; omega
theorem rc_120 {x : Int32} (h : vp_in x 6) : vp_in (120 + x) 126 := by
  obtain ⟨k, hk, rfl⟩ := vp_in_of h (by decide)
  rw [show (120 : Int32) = nI 120 from rfl, nI_add]; exact vp_in_nI (by omega) (by decide)
theorem iw_0 {x y v : Int32} {kb kp L : Nat} (ep : x = nI kp) (eb : y = nI kb) (h : kb ≤ kp) (hk : kp ≤ 400) (hL : L < 2 ^ 31) (e : v = if x - y = nI L then 1 else 0) : v = 0 ∨ kb + L = kp := by
  by_cases q : x - y = nI L
  · right
    rw [ep, eb, pk_sub h, nI_eq (by omega) hL] at q
    omega
  · left; rw [e, if_neg q]
theorem iw_in {y z : Int32} {kb k : Nat} (eb : y = nI kb) (hz : z = nI k) (h : kb + k < 400) : vp_in (y + z) 400 := by
  rw [eb, hz, nI_add]; exact vp_in_nI h (by decide)
def f_X7_isWord_24 (bs : List Int32) : Nat → qw_St → Int32 → Int32 → Int32
  | 0, S, _, _ => 0
  | n + 1, S, z2, z3 => (if z2 = 0 then z2 else (if (nI bs.length) ≤ z3 then z2 else (f_X7_isWord_24 bs n S (if (S 156 ((S 143 22) + z3).toNatClampNeg) = (ev_ch bs z3) then (1 : Int32) else (0 : Int32)) (z3 + (1 : Int32)))))
def f_X7_isWord (S : qw_St) (bs : List Int32) : Int32 := (f_X7_isWord_24 bs (bs.length + 1) S (if ((S 143 20) - (S 143 22)) = (nI bs.length) then (1 : Int32) else (0 : Int32)) (0 : Int32))
set_option maxHeartbeats 4000000 in
set_option maxRecDepth 100000 in
theorem c_X7_isWord (l : Launch) (D : va_G) {r : Nat → Nat} (c : Nat → ClassId) (g : Nat → Int64) (hr : qw_inj r) (S : qw_St) (bs : List Int32) (w : Nat) (hw : ∃ kb kp : Nat, kb ≤ kp ∧ kp ≤ 400 ∧ S 143 22 = nI kb ∧ S 143 20 = nI kp) (hL : bs.length < 2 ^ 31) : Met l yX7_isWord wsX7_isWord ({ frames := 4, cells := 0, slots := 0, locals := 85 }) (va_Pc [.ref (r 143), .ref w] (fun U => qw_X D r c g S U ∧ ev_E r w bs U)) (qw_Qi D r c g (f_X7_isWord S bs) S) 0 0 (qw_A r) := by
  have hiX7 : ∀ w ∈ wsX70, w ∈ wsX7_isWord := by decide +kernel
  refine wx_ofE (cc := cX7_isWord) (nL := 4) (ret := (some .boolean)) (lvs := [(0, .ref (r 143)), (1, .ref w)]) (by decide) rfl rfl (Nat.le_of_ble_eq_true rfl) ?_
  intro p e s m below meth c0 ls hx hb hret hml hts hown hlk hK hP hS hl hE
  obtain ⟨kb, kp, hkb, hkp, eb, ep⟩ := hw
  have hP : qw_P D r c g S s.heap := hP
  have J_21 : ∀ (v_1 : Int32) (H : Heap) (locs : List Loc) (ls : Array Slot) (ev_1 : v_1 = (if ((S 143 20) - (S 143 22)) = (nI bs.length) then (1 : Int32) else (0 : Int32))), qw_P D r c g S H → va_S (qw_A r) s.heap H locs → lv_has ls 4 [(0, .ref (r 143)), (1, .ref w)] → W p l e ({ frames := 4, cells := 0, slots := 0, locals := 85 }) s m [.ref (r 143), .ref w].toArray below meth c0 H locs 0 0 (MQ below (qw_Qi D r c g (f_X7_isWord S bs) S) [.ref (r 143), .ref w].toArray s 0 0 (qw_A r)) (F0 m 21 ls [.int v_1]) := by
    intro v_1 H locs ls ev_1 hP hS hl
    refine lv_istore_n (lv' := [(2, .int v_1), (0, .ref (r 143)), (1, .ref w)]) hx hb dX7_isWord_21 rfl hl (by decide) rfl (fun ls hl => ?_)
    refine lv_iconst (v := 0) hx hb dX7_isWord_22 (by decide) ?_
    refine lv_istore_n (lv' := [(3, .int (0 : Int32)), (2, .int v_1), (0, .ref (r 143)), (1, .ref w)]) hx hb dX7_isWord_23 rfl hl (by decide) rfl (fun ls hl => ?_)
    have L_24 : ∀ (n : Nat) (k : Nat) (z2 : Int32) (z3 : Int32) (H : Heap) (locs : List Loc) (ls : Array Slot) (hk : k + n = bs.length + 1 ∧ k ≤ bs.length) (hz3 : z3 = nI k) (hw2 : z2 = 0 ∨ kb + bs.length = kp) (hbz : z2 = 0 ∨ z2 = 1) (hf_24 : f_X7_isWord_24 bs n S z2 z3 = (f_X7_isWord S bs)), qw_P D r c g S H → va_S (qw_A r) s.heap H locs → lv_has ls 4 [(3, .int z3), (2, .int z2), (0, .ref (r 143)), (1, .ref w)] → W p l e ({ frames := 4, cells := 0, slots := 0, locals := 85 }) s m [.ref (r 143), .ref w].toArray below meth c0 H locs 0 0 (MQ below (qw_Qi D r c g (f_X7_isWord S bs) S) [.ref (r 143), .ref w].toArray s 0 0 (qw_A r)) (F0 m 24 ls []) := by
      intro n
      induction n with
      | zero =>
        intro k z2 z3 H locs ls hk hz3 hw2 hbz hf_24 hP hS hl
        omega
      | succ n ih_24 =>
        intro k z2 z3 H locs ls hk hz3 hw2 hbz hf_24 hP hS hl
        refine lv_iload_n hx hb dX7_isWord_24 rfl (lv_at hl 1 rfl) ?_
        refine lv_if_eq (tgt := 67) hx hb dX7_isWord_25 (by decide) (fun c_25 => ?_) (fun c_25 => ?_)
        · refine lv_iload_n hx hb dX7_isWord_67 rfl (lv_at hl 1 rfl) ?_
          exact wx_zret hx hb hret hlk hK hP hS (qn_bool hbz) (by subst ev_1; rw [← hf_24, f_X7_isWord_24]; rw [if_pos c_25]) rfl dX7_isWord_68
        · refine lv_iload_n hx hb dX7_isWord_28 rfl (lv_at hl 0 rfl) ?_
          refine lv_aload_n hx hb dX7_isWord_29 rfl (lv_at hl 3 rfl) ?_
          refine wd_iV (b := w) (C := RJ0) (As := []) (rest := [.int z3]) ⟨hx, hb, hml, hown, hts⟩ (c_J0_length l D c g S w bs) (ev_E_bl _ _ _) (hE.at hS) (cwV 0 hts gX7_isWord_J0_length_8abf5 rfl rfl rfl (by decide +kernel) ⟨Nat.le_of_ble_eq_true rfl, Nat.le_of_ble_eq_true rfl⟩) (ev_recv hE.2 hS) hK hP hS (fun _ h => h) rfl hl.1 rfl (lv_room (Nat.le_of_ble_eq_true rfl)) dX7_isWord_30 ⟨Nat.zero_le _, Nat.zero_le _⟩ (fun H locs hP hS => ?_)
          refine lv_icmp_ge (tgt := 67) hx hb dX7_isWord_33 (by decide) (fun c_33 => ?_) (fun c_33 => ?_)
          · refine lv_iload_n hx hb dX7_isWord_67 rfl (lv_at hl 1 rfl) ?_
            exact wx_zret hx hb hret hlk hK hP hS (qn_bool hbz) (by subst ev_1; rw [← hf_24, f_X7_isWord_24]; rw [if_neg c_25, if_pos c_33]) rfl dX7_isWord_68
          · have hk5 : k < bs.length := qi_ltn hz3 (by omega) rfl hL c_33
            have hk6 := hw2.resolve_left c_25
            have J_60 : ∀ (v_2 : Int32) (H : Heap) (locs : List Loc) (ls : Array Slot) (ev_2 : v_2 = (if (S 156 ((S 143 22) + z3).toNatClampNeg) = (ev_ch bs z3) then (1 : Int32) else (0 : Int32))), qw_P D r c g S H → va_S (qw_A r) s.heap H locs → lv_has ls 4 [(3, .int z3), (2, .int z2), (0, .ref (r 143)), (1, .ref w)] → W p l e ({ frames := 4, cells := 0, slots := 0, locals := 85 }) s m [.ref (r 143), .ref w].toArray below meth c0 H locs 0 0 (MQ below (qw_Qi D r c g (f_X7_isWord S bs) S) [.ref (r 143), .ref w].toArray s 0 0 (qw_A r)) (F0 m 60 ls [.int v_2]) := by
              intro v_2 H locs ls ev_2 hP hS hl
              refine lv_istore_n (lv' := [(2, .int v_2), (3, .int z3), (0, .ref (r 143)), (1, .ref w)]) hx hb dX7_isWord_60 rfl hl (by decide) rfl (fun ls hl => ?_)
              obtain ⟨x_3, ex_3⟩ : ∃ y : Int32, y = (z3 + (1 : Int32)) := ⟨_, rfl⟩
              refine lv_iinc (v := x_3) (lv' := [(3, .int x_3), (2, .int v_2), (0, .ref (r 143)), (1, .ref w)]) hx hb dX7_isWord_61 hl (k := 1) rfl (by rw [ex_3]; rfl) (by decide) rfl (fun ls hl => ?_)
              refine lv_goto (tgt := 24) hx hb dX7_isWord_64 (by decide) ?_
              exact ih_24 (k + 1) v_2 x_3 _ _ _ (by omega) (by rw [ex_3]; exact qi_add hz3) (Or.inr (hw2.resolve_left c_25)) (by rw [ev_2]; repeat' (first | split | exact Or.inl rfl | exact Or.inr rfl)) (by subst ex_3; subst ev_2; subst ev_1; rw [← hf_24, f_X7_isWord_24]; rw [if_neg c_25, if_neg c_33]) hP hS (lv_sub hl [0, 1, 2, 3] rfl)
            refine lv_aload_n hx hb dX7_isWord_36 rfl (lv_at hl 2 rfl) ?_
            refine wx_get hx hb hts hiX7 hown hK hP 143 (by decide) qc_143 rfl 18 (by decide) (hts (.fieldLink RX7 46 "PriceEdictModel" "tape" "[B") (by decide +kernel)) rfl dX7_isWord_37 ?_
            refine lv_aload_n hx hb dX7_isWord_40 rfl (lv_at hl 2 rfl) ?_
            refine wx_get hx hb hts hiX7 hown hK hP 143 (by decide) qc_143 rfl 22 (by decide) (hts (.fieldLink RX7 154 "PriceEdictModel" "begin" "I") (by decide +kernel)) rfl dX7_isWord_41 ?_
            refine lv_iload_n hx hb dX7_isWord_44 rfl (lv_at hl 0 rfl) ?_
            refine lv_iadd hx hb dX7_isWord_45 ?_
            refine wx_bld hx hb hK hP 156 (by decide) qc_156 (iw_in eb hz3 (by omega)) dX7_isWord_46 ?_
            refine lv_aload_n hx hb dX7_isWord_47 rfl (lv_at hl 3 rfl) ?_
            refine lv_iload_n hx hb dX7_isWord_48 rfl (lv_at hl 0 rfl) ?_
            refine wd_iV (b := w) (C := RJ0) (As := [.int z3]) (rest := [.int (S 156 ((S 143 22) + z3).toNatClampNeg)]) ⟨hx, hb, hml, hown, hts⟩ (c_J0_charAt l D c g S w bs z3 hL (qi_in hz3 hk5 hL)) (ev_E_bl _ _ _) (hE.at hS) (cwV 1 hts gX7_isWord_J0_charAt_5068e rfl rfl rfl (by decide +kernel) ⟨Nat.le_of_ble_eq_true rfl, Nat.le_of_ble_eq_true rfl⟩) (ev_recv hE.2 hS) hK hP hS (fun _ h => h) rfl hl.1 rfl (lv_room (Nat.le_of_ble_eq_true rfl)) dX7_isWord_49 ⟨Nat.zero_le _, Nat.zero_le _⟩ (fun H locs hP hS => ?_)
            refine lv_icmp_ne (tgt := 59) hx hb dX7_isWord_52 (by decide) (fun c_52 => ?_) (fun c_52 => ?_)
            · refine lv_iconst (v := 0) hx hb dX7_isWord_59 (by decide) ?_
              exact J_60 _ _ _ _ (by rw [if_neg c_52]) hP hS (lv_sub hl [0, 1, 2, 3] rfl)
            · refine lv_iconst (v := 1) hx hb dX7_isWord_55 (by decide) ?_
              refine lv_goto (tgt := 60) hx hb dX7_isWord_56 (by decide) ?_
              exact J_60 _ _ _ _ (by rw [if_pos c_52]) hP hS (lv_sub hl [0, 1, 2, 3] rfl)
    exact L_24 (bs.length + 1) 0 v_1 (0 : Int32) _ _ _ (by omega) nI_0.symm (iw_0 ep eb hkb hkp hL ev_1) (by rw [ev_1]; repeat' (first | split | exact Or.inl rfl | exact Or.inr rfl)) (by subst ev_1; rw [f_X7_isWord]) hP hS (lv_sub hl [0, 1, 2, 3] rfl)
  refine lv_aload_n hx hb dX7_isWord_0 rfl (lv_at hl 0 rfl) ?_
  refine wx_get hx hb hts hiX7 hown hK hP 143 (by decide) qc_143 rfl 20 (by decide) (hts (.fieldLink RX7 144 "PriceEdictModel" "point" "I") (by decide +kernel)) rfl dX7_isWord_1 ?_
  refine lv_aload_n hx hb dX7_isWord_4 rfl (lv_at hl 0 rfl) ?_
  refine wx_get hx hb hts hiX7 hown hK hP 143 (by decide) qc_143 rfl 22 (by decide) (hts (.fieldLink RX7 154 "PriceEdictModel" "begin" "I") (by decide +kernel)) rfl dX7_isWord_5 ?_
  refine lv_isub hx hb dX7_isWord_8 ?_
  refine lv_aload_n hx hb dX7_isWord_9 rfl (lv_at hl 1 rfl) ?_
  refine wd_iV (b := w) (C := RJ0) (As := []) (rest := [.int ((S 143 20) - (S 143 22))]) ⟨hx, hb, hml, hown, hts⟩ (c_J0_length l D c g S w bs) (ev_E_bl _ _ _) (hE.at hS) (cwV 0 hts gX7_isWord_J0_length_8abf5 rfl rfl rfl (by decide +kernel) ⟨Nat.le_of_ble_eq_true rfl, Nat.le_of_ble_eq_true rfl⟩) (ev_recv hE.2 hS) hK hP hS (fun _ h => h) rfl hl.1 rfl (lv_room (Nat.le_of_ble_eq_true rfl)) dX7_isWord_10 ⟨Nat.zero_le _, Nat.zero_le _⟩ (fun H locs hP hS => ?_)
  refine lv_icmp_ne (tgt := 20) hx hb dX7_isWord_13 (by decide) (fun c_13 => ?_) (fun c_13 => ?_)
  · refine lv_iconst (v := 0) hx hb dX7_isWord_20 (by decide) ?_
    exact J_21 _ _ _ _ (by rw [if_neg c_13]) hP hS (lv_sub hl [0, 1] rfl)
  · refine lv_iconst (v := 1) hx hb dX7_isWord_16 (by decide) ?_
    refine lv_goto (tgt := 21) hx hb dX7_isWord_17 (by decide) ?_
    exact J_21 _ _ _ _ (by rw [if_pos c_13]) hP hS (lv_sub hl [0, 1] rfl)
def g_X7_readClause_4 : Nat → qw_St → qw_St
  | 0, S => S
  | n + 1, S => (if (f_X7_isAt S (97 : Int32) (122 : Int32)) = 0 then (if (f_X7_isWord S tx_cap) = 0 then (if (f_X7_isWord S tx_line) = 0 then (if (f_X7_isWord S tx_carriage) = 0 then (if (f_X7_isWord S tx_credit) = 0 then (if (f_X7_isWord S tx_free) = 0 then S else (if 0 ≤ (f_X7_number S (0 : Int32) (7 : Int32)) then (up2 (g_X7_number S (0 : Int32) (7 : Int32)) 153 (20 : Int32).toNatClampNeg (((g_X7_number S (0 : Int32) (7 : Int32)) 153 (20 : Int32).toNatClampNeg) ||| ((1 : Int32) <<< ((f_X7_number S (0 : Int32) (7 : Int32)) &&& 31)))) else (g_X7_number S (0 : Int32) (7 : Int32)))) else (if (f_X7_number S (0 : Int32) (100 : Int32)) < 0 then (up2 (g_X7_number S (0 : Int32) (100 : Int32)) 152 (20 : Int32).toNatClampNeg (f_X7_number S (0 : Int32) (100 : Int32))) else (up2 (g_X7_number S (0 : Int32) (100 : Int32)) 152 (20 : Int32).toNatClampNeg (f_X7_number S (0 : Int32) (100 : Int32))))) else (if (f_X7_number S (0 : Int32) (99 : Int32)) < 0 then (up2 (g_X7_number S (0 : Int32) (99 : Int32)) 151 (20 : Int32).toNatClampNeg (f_X7_number S (0 : Int32) (99 : Int32))) else (up2 (g_X7_number S (0 : Int32) (99 : Int32)) 151 (20 : Int32).toNatClampNeg (f_X7_number S (0 : Int32) (99 : Int32))))) else (if 0 ≤ (f_X7_number S (0 : Int32) (5 : Int32)) then (if 0 ≤ (if (f_X7_isWord S tx_cap) = 0 then (f_X7_number (g_X7_number S (0 : Int32) (5 : Int32)) (0 : Int32) (29 : Int32)) else (f_X7_number (g_X7_number S (0 : Int32) (5 : Int32)) (1 : Int32) (9999 : Int32))) then (up2 (up2 (if (f_X7_isWord S tx_cap) = 0 then (g_X7_number (g_X7_number S (0 : Int32) (5 : Int32)) (0 : Int32) (29 : Int32)) else (g_X7_number (g_X7_number S (0 : Int32) (5 : Int32)) (1 : Int32) (9999 : Int32))) 149 ((120 : Int32) + (f_X7_number S (0 : Int32) (5 : Int32))).toNatClampNeg (if (f_X7_isWord S tx_cap) = 0 then (-1 : Int32) else (if (f_X7_isWord S tx_cap) = 0 then (f_X7_number (g_X7_number S (0 : Int32) (5 : Int32)) (0 : Int32) (29 : Int32)) else (f_X7_number (g_X7_number S (0 : Int32) (5 : Int32)) (1 : Int32) (9999 : Int32))))) 150 ((120 : Int32) + (f_X7_number S (0 : Int32) (5 : Int32))).toNatClampNeg (if (f_X7_isWord S tx_cap) = 0 then (if (f_X7_isWord S tx_cap) = 0 then (f_X7_number (g_X7_number S (0 : Int32) (5 : Int32)) (0 : Int32) (29 : Int32)) else (f_X7_number (g_X7_number S (0 : Int32) (5 : Int32)) (1 : Int32) (9999 : Int32))) else (-1 : Int32))) else (if (f_X7_isWord S tx_cap) = 0 then (g_X7_number (g_X7_number S (0 : Int32) (5 : Int32)) (0 : Int32) (29 : Int32)) else (g_X7_number (g_X7_number S (0 : Int32) (5 : Int32)) (1 : Int32) (9999 : Int32)))) else (g_X7_number S (0 : Int32) (5 : Int32)))) else (if 0 ≤ (f_X7_number S (0 : Int32) (5 : Int32)) then (if 0 ≤ (if (f_X7_isWord S tx_cap) = 0 then (f_X7_number (g_X7_number S (0 : Int32) (5 : Int32)) (0 : Int32) (29 : Int32)) else (f_X7_number (g_X7_number S (0 : Int32) (5 : Int32)) (1 : Int32) (9999 : Int32))) then (up2 (up2 (if (f_X7_isWord S tx_cap) = 0 then (g_X7_number (g_X7_number S (0 : Int32) (5 : Int32)) (0 : Int32) (29 : Int32)) else (g_X7_number (g_X7_number S (0 : Int32) (5 : Int32)) (1 : Int32) (9999 : Int32))) 149 ((120 : Int32) + (f_X7_number S (0 : Int32) (5 : Int32))).toNatClampNeg (if (f_X7_isWord S tx_cap) = 0 then (-1 : Int32) else (if (f_X7_isWord S tx_cap) = 0 then (f_X7_number (g_X7_number S (0 : Int32) (5 : Int32)) (0 : Int32) (29 : Int32)) else (f_X7_number (g_X7_number S (0 : Int32) (5 : Int32)) (1 : Int32) (9999 : Int32))))) 150 ((120 : Int32) + (f_X7_number S (0 : Int32) (5 : Int32))).toNatClampNeg (if (f_X7_isWord S tx_cap) = 0 then (if (f_X7_isWord S tx_cap) = 0 then (f_X7_number (g_X7_number S (0 : Int32) (5 : Int32)) (0 : Int32) (29 : Int32)) else (f_X7_number (g_X7_number S (0 : Int32) (5 : Int32)) (1 : Int32) (9999 : Int32))) else (-1 : Int32))) else (if (f_X7_isWord S tx_cap) = 0 then (g_X7_number (g_X7_number S (0 : Int32) (5 : Int32)) (0 : Int32) (29 : Int32)) else (g_X7_number (g_X7_number S (0 : Int32) (5 : Int32)) (1 : Int32) (9999 : Int32)))) else (g_X7_number S (0 : Int32) (5 : Int32)))) else (g_X7_readClause_4 n (up2 S 143 20 ((S 143 20) + (1 : Int32)))))
def f_X7_readClause_4 : Nat → qw_St → Int32
  | 0, S => 0
  | n + 1, S => (if (f_X7_isAt S (97 : Int32) (122 : Int32)) = 0 then (if (f_X7_isWord S tx_cap) = 0 then (if (f_X7_isWord S tx_line) = 0 then (if (f_X7_isWord S tx_carriage) = 0 then (if (f_X7_isWord S tx_credit) = 0 then (if (f_X7_isWord S tx_free) = 0 then (0 : Int32) else (if 0 ≤ (f_X7_number S (0 : Int32) (7 : Int32)) then (1 : Int32) else (0 : Int32))) else (if (f_X7_number S (0 : Int32) (100 : Int32)) < 0 then (0 : Int32) else (1 : Int32))) else (if (f_X7_number S (0 : Int32) (99 : Int32)) < 0 then (0 : Int32) else (1 : Int32))) else (if 0 ≤ (f_X7_number S (0 : Int32) (5 : Int32)) then (if 0 ≤ (if (f_X7_isWord S tx_cap) = 0 then (f_X7_number (g_X7_number S (0 : Int32) (5 : Int32)) (0 : Int32) (29 : Int32)) else (f_X7_number (g_X7_number S (0 : Int32) (5 : Int32)) (1 : Int32) (9999 : Int32))) then (1 : Int32) else (0 : Int32)) else (0 : Int32))) else (if 0 ≤ (f_X7_number S (0 : Int32) (5 : Int32)) then (if 0 ≤ (if (f_X7_isWord S tx_cap) = 0 then (f_X7_number (g_X7_number S (0 : Int32) (5 : Int32)) (0 : Int32) (29 : Int32)) else (f_X7_number (g_X7_number S (0 : Int32) (5 : Int32)) (1 : Int32) (9999 : Int32))) then (1 : Int32) else (0 : Int32)) else (0 : Int32))) else (f_X7_readClause_4 n (up2 S 143 20 ((S 143 20) + (1 : Int32)))))
def g_X7_readClause (S : qw_St) : qw_St := (g_X7_readClause_4 401 (g_X7_blanks S))
def f_X7_readClause (S : qw_St) : Int32 := (f_X7_readClause_4 401 (g_X7_blanks S))
set_option maxHeartbeats 4000000 in
set_option maxRecDepth 100000 in
theorem c_X7_readClause (l : Launch) (D : va_G) {r : Nat → Nat} (c : Nat → ClassId) (g : Nat → Int64) (hr : qw_inj r) (S : qw_St) (hp : qz (S 143 20) 400) (he : qz (S 143 21) 400) : Met l yX7_readClause wsX7_readClause ({ frames := 5, cells := 0, slots := 0, locals := 108 }) (va_Pc [.ref (r 143)] (fun U => qw_X D r c g S U ∧ EV (qw_A r) U)) (qw_Qi D r c g (f_X7_readClause S) (g_X7_readClause S)) 0 0 (qw_A r) := by
  have hiX7 : ∀ w ∈ wsX70, w ∈ wsX7_readClause := by decide +kernel
  refine wx_ofE (cc := cX7_readClause) (nL := 4) (ret := (some .boolean)) (lvs := [(0, .ref (r 143))]) (by decide) rfl rfl (Nat.le_of_ble_eq_true rfl) ?_
  intro p e s m below meth c0 ls hx hb hret hml hts hown hlk hK hP hS hl hE
  obtain ⟨k0, hk0, ek0⟩ := id hp
  obtain ⟨m1, hm1, em0⟩ := id he
  obtain ⟨kb, hkb, hkb4, eb20, eb22⟩ := blanks_m ek0 em0 hm1 hk0
  have hP : qw_P D r c g S s.heap := hP
  refine lv_aload_n hx hb dX7_readClause_0 rfl (lv_at hl 0 rfl) ?_
  refine wc_vV (k := 143) (C := RX7) (As := []) (rest := []) ⟨hx, hb, hml, hown, hts⟩ (c_X7_blanks l D c g hr S hp he) (cwV 0 hts gX7_readClause_X7_blanks rfl rfl rfl (by decide +kernel) ⟨Nat.le_of_ble_eq_true rfl, Nat.le_of_ble_eq_true rfl⟩) (wx_recv hK hP (by decide) qc_143 rfl) hK hP hS (fun _ h => h) rfl hl.1 rfl (lv_room (Nat.le_of_ble_eq_true rfl)) dX7_readClause_1 ⟨Nat.zero_le _, Nat.zero_le _⟩ (fun H locs hP hS => ?_)
  have L_4 : ∀ (n : Nat) (k : Nat) (S1 : qw_St) (H : Heap) (locs : List Loc) (ls : Array Slot) (hk : kb ≤ k ∧ k ≤ 400 ∧ 401 ≤ k + n) (hp1 : S1 143 20 = nI k) (he1 : S1 143 21 = nI m1) (hb1 : S1 143 22 = nI kb) (hf_4 : f_X7_readClause_4 n S1 = (f_X7_readClause S)) (hg_4 : g_X7_readClause_4 n S1 = (g_X7_readClause S)), qw_P D r c g S1 H → va_S (qw_A r) s.heap H locs → lv_has ls 4 [(0, .ref (r 143))] → W p l e ({ frames := 5, cells := 0, slots := 0, locals := 108 }) s m [.ref (r 143)].toArray below meth c0 H locs 0 0 (MQ below (qw_Qi D r c g (f_X7_readClause S) (g_X7_readClause S)) [.ref (r 143)].toArray s 0 0 (qw_A r)) (F0 m 4 ls []) := by
    intro n
    induction n with
    | zero =>
      intro k S1 H locs ls hk hp1 he1 hb1 hf_4 hg_4 hP hS hl
      omega
    | succ n ih_4 =>
      intro k S1 H locs ls hk hp1 he1 hb1 hf_4 hg_4 hP hS hl
      refine lv_aload_n hx hb dX7_readClause_4 rfl (lv_at hl 0 rfl) ?_
      refine lv_bipush (v := 97) hx hb dX7_readClause_5 (by decide) ?_
      refine lv_bipush (v := 122) hx hb dX7_readClause_7 (by decide) ?_
      refine wc_iV (k := 143) (C := RX7) (As := [.int (97 : Int32), .int (122 : Int32)]) (rest := []) ⟨hx, hb, hml, hown, hts⟩ (c_X7_isAt l D c g hr S1 (97 : Int32) (122 : Int32) ⟨k, by omega, hp1⟩ ⟨m1, hm1, he1⟩) (cwV 2 hts gX7_readClause_X7_isAt rfl rfl rfl (by decide +kernel) ⟨Nat.le_of_ble_eq_true rfl, Nat.le_of_ble_eq_true rfl⟩) (wx_recv hK hP (by decide) qc_143 rfl) hK hP hS (fun _ h => h) rfl hl.1 rfl (lv_room (Nat.le_of_ble_eq_true rfl)) dX7_readClause_9 ⟨Nat.zero_le _, Nat.zero_le _⟩ (fun H locs hP hS => ?_)
      refine lv_if_eq (tgt := 28) hx hb dX7_readClause_12 (by decide) (fun c_12 => ?_) (fun c_12 => ?_)
      · refine lv_aload_n hx hb dX7_readClause_28 rfl (lv_at hl 0 rfl) ?_
        obtain ⟨w_170, hR_170, hs_170⟩ := hE.2.2.2 (RX7, 170, "cap", tx_cap) (by simp [ev_W])
        refine va_ldcS hx hb hown hR_170 dX7_readClause_29 ?_
        refine wd_iV (b := r 143) (C := RX7) (As := [.ref w_170]) (rest := []) ⟨hx, hb, hml, hown, hts⟩ (c_X7_isWord l D c g hr S1 tx_cap w_170 ⟨kb, k, hk.1, hk.2.1, hb1, hp1⟩ (by decide)) (ev_E_bl _ _ _) (fun U hU hW => ⟨hE.to hS (fun _ h => h) hU hW, hs_170.at hS hU hW⟩) (cwV 1 hts gX7_readClause_X7_isWord rfl rfl rfl (by decide +kernel) ⟨Nat.le_of_ble_eq_true rfl, Nat.le_of_ble_eq_true rfl⟩) (wx_recv hK hP (by decide) qc_143 rfl) hK hP hS (fun _ h => h) rfl hl.1 rfl (lv_room (Nat.le_of_ble_eq_true rfl)) dX7_readClause_31 ⟨Nat.zero_le _, Nat.zero_le _⟩ (fun H locs hP hS => ?_)
        refine lv_topi (fun x_1 ex_1 => ?_)
        refine lv_istore_n (lv' := [(1, .int x_1), (0, .ref (r 143))]) hx hb dX7_readClause_34 rfl hl (by decide) rfl (fun ls hl => ?_)
        refine lv_iload_n hx hb dX7_readClause_35 rfl (lv_at hl 0 rfl) ?_
        refine lv_if_ne (tgt := 48) hx hb dX7_readClause_36 (by decide) (fun c_36 => ?_) (fun c_36 => ?_)
        · refine lv_aload_n hx hb dX7_readClause_48 rfl (lv_at hl 1 rfl) ?_
          refine lv_iconst (v := 0) hx hb dX7_readClause_49 (by decide) ?_
          refine lv_iconst (v := 5) hx hb dX7_readClause_50 (by decide) ?_
          refine wc_iV (k := 143) (C := RX7) (As := [.int (0 : Int32), .int (5 : Int32)]) (rest := []) ⟨hx, hb, hml, hown, hts⟩ (c_X7_number l D c g hr S1 (0 : Int32) (5 : Int32) ⟨k, by omega, hp1⟩ ⟨m1, hm1, he1⟩) (cwV 2 hts gX7_readClause_X7_number rfl rfl rfl (by decide +kernel) ⟨Nat.le_of_ble_eq_true rfl, Nat.le_of_ble_eq_true rfl⟩) (wx_recv hK hP (by decide) qc_143 rfl) hK hP hS (fun _ h => h) rfl hl.1 rfl (lv_room (Nat.le_of_ble_eq_true rfl)) dX7_readClause_51 ⟨Nat.zero_le _, Nat.zero_le _⟩ (fun H locs hP hS => ?_)
          refine lv_topi (fun x_2 ex_2 => ?_)
          refine lv_istore_n (lv' := [(2, .int x_2), (1, .int x_1), (0, .ref (r 143))]) hx hb dX7_readClause_54 rfl hl (by decide) rfl (fun ls hl => ?_)
          refine lv_iload_n hx hb dX7_readClause_55 rfl (lv_at hl 0 rfl) ?_
          refine lv_if_ge (tgt := 61) hx hb dX7_readClause_56 (by decide) (fun c_56 => ?_) (fun c_56 => ?_)
          · have hx2 : vp_in x_2 6 := by rw [ex_2]; exact num_in (Or.inl rfl) rfl (by decide) (by rw [← ex_2]; exact c_56)
            have J_83 : ∀ (v_3 : Int32) (S_4 : qw_St) (H : Heap) (locs : List Loc) (ls : Array Slot) (ev_3 : v_3 = (if x_1 = 0 then (f_X7_number (g_X7_number S1 (0 : Int32) (5 : Int32)) (0 : Int32) (29 : Int32)) else (f_X7_number (g_X7_number S1 (0 : Int32) (5 : Int32)) (1 : Int32) (9999 : Int32)))) (eS_4 : S_4 = (if x_1 = 0 then (g_X7_number (g_X7_number S1 (0 : Int32) (5 : Int32)) (0 : Int32) (29 : Int32)) else (g_X7_number (g_X7_number S1 (0 : Int32) (5 : Int32)) (1 : Int32) (9999 : Int32)))), qw_P D r c g S_4 H → va_S (qw_A r) s.heap H locs → lv_has ls 4 [(2, .int x_2), (1, .int x_1), (0, .ref (r 143))] → W p l e ({ frames := 5, cells := 0, slots := 0, locals := 108 }) s m [.ref (r 143)].toArray below meth c0 H locs 0 0 (MQ below (qw_Qi D r c g (f_X7_readClause S) (g_X7_readClause S)) [.ref (r 143)].toArray s 0 0 (qw_A r)) (F0 m 83 ls [.int v_3]) := by
              intro v_3 S_4 H locs ls ev_3 eS_4 hP hS hl
              refine lv_istore_n (lv' := [(3, .int v_3), (2, .int x_2), (1, .int x_1), (0, .ref (r 143))]) hx hb dX7_readClause_83 rfl hl (by decide) rfl (fun ls hl => ?_)
              refine lv_iload_n hx hb dX7_readClause_84 rfl (lv_at hl 0 rfl) ?_
              refine lv_if_ge (tgt := 90) hx hb dX7_readClause_85 (by decide) (fun c_85 => ?_) (fun c_85 => ?_)
              · refine lv_aload_n hx hb dX7_readClause_90 rfl (lv_at hl 3 rfl) ?_
                refine wx_get hx hb hts hiX7 hown hK hP 143 (by decide) qc_143 rfl 9 (by decide) (hts (.fieldLink RX7 25 "PriceEdictModel" "cap" "[I") (by decide +kernel)) rfl dX7_readClause_91 ?_
                refine lv_bipush (v := 120) hx hb dX7_readClause_94 (by decide) ?_
                refine lv_iload_n hx hb dX7_readClause_96 rfl (lv_at hl 1 rfl) ?_
                refine lv_iadd hx hb dX7_readClause_97 ?_
                have J_107 : ∀ (v_5 : Int32) (H : Heap) (locs : List Loc) (ls : Array Slot) (ev_5 : v_5 = (if x_1 = 0 then (-1 : Int32) else v_3)), qw_P D r c g S_4 H → va_S (qw_A r) s.heap H locs → lv_has ls 4 [(3, .int v_3), (2, .int x_2), (1, .int x_1), (0, .ref (r 143))] → W p l e ({ frames := 5, cells := 0, slots := 0, locals := 108 }) s m [.ref (r 143)].toArray below meth c0 H locs 0 0 (MQ below (qw_Qi D r c g (f_X7_readClause S) (g_X7_readClause S)) [.ref (r 143)].toArray s 0 0 (qw_A r)) (F0 m 107 ls [.int v_5, .int ((120 : Int32) + x_2), .ref (r 149)]) := by
                  intro v_5 H locs ls ev_5 hP hS hl
                  refine wx_ist hr hx hb hK hP hS 149 (by decide) qc_149 (rc_120 hx2) dX7_readClause_107 (fun H locs hP hS => ?_)
                  refine lv_aload_n hx hb dX7_readClause_108 rfl (lv_at hl 3 rfl) ?_
                  refine wx_get hx hb hts hiX7 hown hK hP 143 (by decide) qc_143 rfl 10 (by decide) (hts (.fieldLink RX7 28 "PriceEdictModel" "byLine" "[I") (by decide +kernel)) rfl dX7_readClause_109 ?_
                  refine lv_bipush (v := 120) hx hb dX7_readClause_112 (by decide) ?_
                  refine lv_iload_n hx hb dX7_readClause_114 rfl (lv_at hl 1 rfl) ?_
                  refine lv_iadd hx hb dX7_readClause_115 ?_
                  have J_125 : ∀ (v_6 : Int32) (H : Heap) (locs : List Loc) (ls : Array Slot) (ev_6 : v_6 = (if x_1 = 0 then v_3 else (-1 : Int32))), qw_P D r c g (up2 S_4 149 ((120 : Int32) + x_2).toNatClampNeg v_5) H → va_S (qw_A r) s.heap H locs → lv_has ls 4 [(3, .int v_3), (2, .int x_2), (1, .int x_1), (0, .ref (r 143))] → W p l e ({ frames := 5, cells := 0, slots := 0, locals := 108 }) s m [.ref (r 143)].toArray below meth c0 H locs 0 0 (MQ below (qw_Qi D r c g (f_X7_readClause S) (g_X7_readClause S)) [.ref (r 143)].toArray s 0 0 (qw_A r)) (F0 m 125 ls [.int v_6, .int ((120 : Int32) + x_2), .ref (r 150)]) := by
                    intro v_6 H locs ls ev_6 hP hS hl
                    refine wx_ist hr hx hb hK hP hS 150 (by decide) qc_150 (rc_120 hx2) dX7_readClause_125 (fun H locs hP hS => ?_)
                    refine lv_iconst (v := 1) hx hb dX7_readClause_126 (by decide) ?_
                    exact wx_zret hx hb hret hlk hK hP hS rfl (by subst ev_6; subst ev_5; subst eS_4; subst ev_3; subst ex_2; subst ex_1; rw [← hf_4, f_X7_readClause_4]; conv => rhs; rw [if_pos c_12, if_neg c_36, if_pos c_56, if_pos c_85]) (by subst ev_6; subst ev_5; subst eS_4; subst ev_3; subst ex_2; subst ex_1; rw [← hg_4, g_X7_readClause_4]; conv => rhs; rw [if_pos c_12, if_neg c_36, if_pos c_56, if_pos c_85]) dX7_readClause_127
                  refine lv_iload_n hx hb dX7_readClause_116 rfl (lv_at hl 2 rfl) ?_
                  refine lv_if_eq (tgt := 124) hx hb dX7_readClause_117 (by decide) (fun c_117 => ?_) (fun c_117 => ?_)
                  · refine lv_iload_n hx hb dX7_readClause_124 rfl (lv_at hl 0 rfl) ?_
                    exact J_125 _ _ _ _ (by rw [if_pos c_117]) hP hS (lv_sub hl [0, 1, 2, 3] rfl)
                  · refine lv_iconst (v := (-1)) hx hb dX7_readClause_120 (by decide) ?_
                    refine lv_goto (tgt := 125) hx hb dX7_readClause_121 (by decide) ?_
                    exact J_125 _ _ _ _ (by rw [if_neg c_117]) hP hS (lv_sub hl [0, 1, 2, 3] rfl)
                refine lv_iload_n hx hb dX7_readClause_98 rfl (lv_at hl 2 rfl) ?_
                refine lv_if_eq (tgt := 106) hx hb dX7_readClause_99 (by decide) (fun c_99 => ?_) (fun c_99 => ?_)
                · refine lv_iconst (v := (-1)) hx hb dX7_readClause_106 (by decide) ?_
                  exact J_107 _ _ _ _ (by rw [if_pos c_99]) hP hS (lv_sub hl [0, 1, 2, 3] rfl)
                · refine lv_iload_n hx hb dX7_readClause_102 rfl (lv_at hl 0 rfl) ?_
                  refine lv_goto (tgt := 107) hx hb dX7_readClause_103 (by decide) ?_
                  exact J_107 _ _ _ _ (by rw [if_neg c_99]) hP hS (lv_sub hl [0, 1, 2, 3] rfl)
              · refine lv_iconst (v := 0) hx hb dX7_readClause_88 (by decide) ?_
                exact wx_zret hx hb hret hlk hK hP hS rfl (by subst eS_4; subst ev_3; subst ex_2; subst ex_1; rw [← hf_4, f_X7_readClause_4]; conv => rhs; rw [if_pos c_12, if_neg c_36, if_pos c_56, if_neg c_85]) (by subst eS_4; subst ev_3; subst ex_2; subst ex_1; rw [← hg_4, g_X7_readClause_4]; conv => rhs; rw [if_pos c_12, if_neg c_36, if_pos c_56, if_neg c_85]) dX7_readClause_89
            refine lv_iload_n hx hb dX7_readClause_61 rfl (lv_at hl 1 rfl) ?_
            refine lv_if_eq (tgt := 76) hx hb dX7_readClause_62 (by decide) (fun c_62 => ?_) (fun c_62 => ?_)
            · refine lv_aload_n hx hb dX7_readClause_76 rfl (lv_at hl 2 rfl) ?_
              refine lv_iconst (v := 0) hx hb dX7_readClause_77 (by decide) ?_
              refine lv_bipush (v := 29) hx hb dX7_readClause_78 (by decide) ?_
              refine wc_iV (k := 143) (C := RX7) (As := [.int (0 : Int32), .int (29 : Int32)]) (rest := []) ⟨hx, hb, hml, hown, hts⟩ (c_X7_number l D c g hr (g_X7_number S1 (0 : Int32) (5 : Int32)) (0 : Int32) (29 : Int32) (num_p _ _ ⟨k, by omega, hp1⟩ ⟨m1, hm1, he1⟩) (num_e _ _ ⟨m1, hm1, he1⟩)) (cwV 2 hts gX7_readClause_X7_number rfl rfl rfl (by decide +kernel) ⟨Nat.le_of_ble_eq_true rfl, Nat.le_of_ble_eq_true rfl⟩) (wx_recv hK hP (by decide) qc_143 rfl) hK hP hS (fun _ h => h) rfl hl.1 rfl (lv_room (Nat.le_of_ble_eq_true rfl)) dX7_readClause_80 ⟨Nat.zero_le _, Nat.zero_le _⟩ (fun H locs hP hS => ?_)
              exact J_83 _ _ _ _ _ (by rw [if_pos c_62]) (by rw [if_pos c_62]) hP hS (lv_sub hl [0, 1, 2] rfl)
            · refine lv_aload_n hx hb dX7_readClause_65 rfl (lv_at hl 2 rfl) ?_
              refine lv_iconst (v := 1) hx hb dX7_readClause_66 (by decide) ?_
              refine lv_sipush (v := 9999) hx hb dX7_readClause_67 (by decide) ?_
              refine wc_iV (k := 143) (C := RX7) (As := [.int (1 : Int32), .int (9999 : Int32)]) (rest := []) ⟨hx, hb, hml, hown, hts⟩ (c_X7_number l D c g hr (g_X7_number S1 (0 : Int32) (5 : Int32)) (1 : Int32) (9999 : Int32) (num_p _ _ ⟨k, by omega, hp1⟩ ⟨m1, hm1, he1⟩) (num_e _ _ ⟨m1, hm1, he1⟩)) (cwV 2 hts gX7_readClause_X7_number rfl rfl rfl (by decide +kernel) ⟨Nat.le_of_ble_eq_true rfl, Nat.le_of_ble_eq_true rfl⟩) (wx_recv hK hP (by decide) qc_143 rfl) hK hP hS (fun _ h => h) rfl hl.1 rfl (lv_room (Nat.le_of_ble_eq_true rfl)) dX7_readClause_70 ⟨Nat.zero_le _, Nat.zero_le _⟩ (fun H locs hP hS => ?_)
              refine lv_goto (tgt := 83) hx hb dX7_readClause_73 (by decide) ?_
              exact J_83 _ _ _ _ _ (by rw [if_neg c_62]) (by rw [if_neg c_62]) hP hS (lv_sub hl [0, 1, 2] rfl)
          · refine lv_iconst (v := 0) hx hb dX7_readClause_59 (by decide) ?_
            exact wx_zret hx hb hret hlk hK hP hS rfl (by subst ex_2; subst ex_1; rw [← hf_4, f_X7_readClause_4]; conv => rhs; rw [if_pos c_12, if_neg c_36, if_neg c_56]) (by subst ex_2; subst ex_1; rw [← hg_4, g_X7_readClause_4]; conv => rhs; rw [if_pos c_12, if_neg c_36, if_neg c_56]) dX7_readClause_60
        · refine lv_aload_n hx hb dX7_readClause_39 rfl (lv_at hl 1 rfl) ?_
          obtain ⟨w_175, hR_175, hs_175⟩ := hE.2.2.2 (RX7, 175, "line", tx_line) (by simp [ev_W])
          refine va_ldcS hx hb hown hR_175 dX7_readClause_40 ?_
          refine wd_iV (b := r 143) (C := RX7) (As := [.ref w_175]) (rest := []) ⟨hx, hb, hml, hown, hts⟩ (c_X7_isWord l D c g hr S1 tx_line w_175 ⟨kb, k, hk.1, hk.2.1, hb1, hp1⟩ (by decide)) (ev_E_bl _ _ _) (fun U hU hW => ⟨hE.to hS (fun _ h => h) hU hW, hs_175.at hS hU hW⟩) (cwV 1 hts gX7_readClause_X7_isWord rfl rfl rfl (by decide +kernel) ⟨Nat.le_of_ble_eq_true rfl, Nat.le_of_ble_eq_true rfl⟩) (wx_recv hK hP (by decide) qc_143 rfl) hK hP hS (fun _ h => h) rfl hl.1 rfl (lv_room (Nat.le_of_ble_eq_true rfl)) dX7_readClause_42 ⟨Nat.zero_le _, Nat.zero_le _⟩ (fun H locs hP hS => ?_)
          refine lv_if_eq (tgt := 128) hx hb dX7_readClause_45 (by decide) (fun c_45 => ?_) (fun c_45 => ?_)
          · refine lv_aload_n hx hb dX7_readClause_128 rfl (lv_at hl 1 rfl) ?_
            obtain ⟨w_179, hR_179, hs_179⟩ := hE.2.2.2 (RX7, 179, "carriage", tx_carriage) (by simp [ev_W])
            refine va_ldcS hx hb hown hR_179 dX7_readClause_129 ?_
            refine wd_iV (b := r 143) (C := RX7) (As := [.ref w_179]) (rest := []) ⟨hx, hb, hml, hown, hts⟩ (c_X7_isWord l D c g hr S1 tx_carriage w_179 ⟨kb, k, hk.1, hk.2.1, hb1, hp1⟩ (by decide)) (ev_E_bl _ _ _) (fun U hU hW => ⟨hE.to hS (fun _ h => h) hU hW, hs_179.at hS hU hW⟩) (cwV 1 hts gX7_readClause_X7_isWord rfl rfl rfl (by decide +kernel) ⟨Nat.le_of_ble_eq_true rfl, Nat.le_of_ble_eq_true rfl⟩) (wx_recv hK hP (by decide) qc_143 rfl) hK hP hS (fun _ h => h) rfl hl.1 rfl (lv_room (Nat.le_of_ble_eq_true rfl)) dX7_readClause_131 ⟨Nat.zero_le _, Nat.zero_le _⟩ (fun H locs hP hS => ?_)
            refine lv_if_eq (tgt := 167) hx hb dX7_readClause_134 (by decide) (fun c_134 => ?_) (fun c_134 => ?_)
            · refine lv_aload_n hx hb dX7_readClause_167 rfl (lv_at hl 1 rfl) ?_
              obtain ⟨w_180, hR_180, hs_180⟩ := hE.2.2.2 (RX7, 180, "credit", tx_credit) (by simp [ev_W])
              refine va_ldcS hx hb hown hR_180 dX7_readClause_168 ?_
              refine wd_iV (b := r 143) (C := RX7) (As := [.ref w_180]) (rest := []) ⟨hx, hb, hml, hown, hts⟩ (c_X7_isWord l D c g hr S1 tx_credit w_180 ⟨kb, k, hk.1, hk.2.1, hb1, hp1⟩ (by decide)) (ev_E_bl _ _ _) (fun U hU hW => ⟨hE.to hS (fun _ h => h) hU hW, hs_180.at hS hU hW⟩) (cwV 1 hts gX7_readClause_X7_isWord rfl rfl rfl (by decide +kernel) ⟨Nat.le_of_ble_eq_true rfl, Nat.le_of_ble_eq_true rfl⟩) (wx_recv hK hP (by decide) qc_143 rfl) hK hP hS (fun _ h => h) rfl hl.1 rfl (lv_room (Nat.le_of_ble_eq_true rfl)) dX7_readClause_170 ⟨Nat.zero_le _, Nat.zero_le _⟩ (fun H locs hP hS => ?_)
              refine lv_if_eq (tgt := 206) hx hb dX7_readClause_173 (by decide) (fun c_173 => ?_) (fun c_173 => ?_)
              · refine lv_aload_n hx hb dX7_readClause_206 rfl (lv_at hl 1 rfl) ?_
                obtain ⟨w_181, hR_181, hs_181⟩ := hE.2.2.2 (RX7, 181, "free", tx_free) (by simp [ev_W])
                refine va_ldcS hx hb hown hR_181 dX7_readClause_207 ?_
                refine wd_iV (b := r 143) (C := RX7) (As := [.ref w_181]) (rest := []) ⟨hx, hb, hml, hown, hts⟩ (c_X7_isWord l D c g hr S1 tx_free w_181 ⟨kb, k, hk.1, hk.2.1, hb1, hp1⟩ (by decide)) (ev_E_bl _ _ _) (fun U hU hW => ⟨hE.to hS (fun _ h => h) hU hW, hs_181.at hS hU hW⟩) (cwV 1 hts gX7_readClause_X7_isWord rfl rfl rfl (by decide +kernel) ⟨Nat.le_of_ble_eq_true rfl, Nat.le_of_ble_eq_true rfl⟩) (wx_recv hK hP (by decide) qc_143 rfl) hK hP hS (fun _ h => h) rfl hl.1 rfl (lv_room (Nat.le_of_ble_eq_true rfl)) dX7_readClause_209 ⟨Nat.zero_le _, Nat.zero_le _⟩ (fun H locs hP hS => ?_)
                refine lv_if_ne (tgt := 217) hx hb dX7_readClause_212 (by decide) (fun c_212 => ?_) (fun c_212 => ?_)
                · refine lv_aload_n hx hb dX7_readClause_217 rfl (lv_at hl 1 rfl) ?_
                  refine lv_iconst (v := 0) hx hb dX7_readClause_218 (by decide) ?_
                  refine lv_bipush (v := 7) hx hb dX7_readClause_219 (by decide) ?_
                  refine wc_iV (k := 143) (C := RX7) (As := [.int (0 : Int32), .int (7 : Int32)]) (rest := []) ⟨hx, hb, hml, hown, hts⟩ (c_X7_number l D c g hr S1 (0 : Int32) (7 : Int32) ⟨k, by omega, hp1⟩ ⟨m1, hm1, he1⟩) (cwV 2 hts gX7_readClause_X7_number rfl rfl rfl (by decide +kernel) ⟨Nat.le_of_ble_eq_true rfl, Nat.le_of_ble_eq_true rfl⟩) (wx_recv hK hP (by decide) qc_143 rfl) hK hP hS (fun _ h => h) rfl hl.1 rfl (lv_room (Nat.le_of_ble_eq_true rfl)) dX7_readClause_221 ⟨Nat.zero_le _, Nat.zero_le _⟩ (fun H locs hP hS => ?_)
                  refine lv_topi (fun x_7 ex_7 => ?_)
                  refine lv_istore_n (lv' := [(2, .int x_7), (1, .int x_1), (0, .ref (r 143))]) hx hb dX7_readClause_224 rfl hl (by decide) rfl (fun ls hl => ?_)
                  refine lv_iload_n hx hb dX7_readClause_225 rfl (lv_at hl 0 rfl) ?_
                  refine lv_if_ge (tgt := 231) hx hb dX7_readClause_226 (by decide) (fun c_226 => ?_) (fun c_226 => ?_)
                  · refine lv_aload_n hx hb dX7_readClause_231 rfl (lv_at hl 2 rfl) ?_
                    refine wx_get hx hb hts hiX7 hown hK hP 143 (by decide) qc_143 rfl 13 (by decide) (hts (.fieldLink RX7 37 "PriceEdictModel" "free" "[I") (by decide +kernel)) rfl dX7_readClause_232 ?_
                    refine lv_bipush (v := 20) hx hb dX7_readClause_235 (by decide) ?_
                    refine lv_dup2_11 hx hb dX7_readClause_237 rfl rfl ?_
                    refine wx_ild hx hb hK hP 153 (by decide) qc_153 (vp_in_iff.mpr (by decide)) dX7_readClause_238 ?_
                    refine lv_iconst (v := 1) hx hb dX7_readClause_239 (by decide) ?_
                    refine lv_iload_n hx hb dX7_readClause_240 rfl (lv_at hl 0 rfl) ?_
                    refine lv_ishl hx hb dX7_readClause_241 ?_
                    refine lv_ior hx hb dX7_readClause_242 ?_
                    refine wx_ist hr hx hb hK hP hS 153 (by decide) qc_153 (vp_in_iff.mpr (by decide)) dX7_readClause_243 (fun H locs hP hS => ?_)
                    refine lv_iconst (v := 1) hx hb dX7_readClause_244 (by decide) ?_
                    exact wx_zret hx hb hret hlk hK hP hS rfl (by subst ex_7; subst ex_1; rw [← hf_4, f_X7_readClause_4]; conv => rhs; rw [if_pos c_12, if_pos c_36, if_pos c_45, if_pos c_134, if_pos c_173, if_neg c_212, if_pos c_226]) (by subst ex_7; subst ex_1; rw [← hg_4, g_X7_readClause_4]; conv => rhs; rw [if_pos c_12, if_pos c_36, if_pos c_45, if_pos c_134, if_pos c_173, if_neg c_212, if_pos c_226]) dX7_readClause_245
                  · refine lv_iconst (v := 0) hx hb dX7_readClause_229 (by decide) ?_
                    exact wx_zret hx hb hret hlk hK hP hS rfl (by subst ex_7; subst ex_1; rw [← hf_4, f_X7_readClause_4]; conv => rhs; rw [if_pos c_12, if_pos c_36, if_pos c_45, if_pos c_134, if_pos c_173, if_neg c_212, if_neg c_226]) (by subst ex_7; subst ex_1; rw [← hg_4, g_X7_readClause_4]; conv => rhs; rw [if_pos c_12, if_pos c_36, if_pos c_45, if_pos c_134, if_pos c_173, if_neg c_212, if_neg c_226]) dX7_readClause_230
                · refine lv_iconst (v := 0) hx hb dX7_readClause_215 (by decide) ?_
                  exact wx_zret hx hb hret hlk hK hP hS rfl (by subst ex_1; rw [← hf_4, f_X7_readClause_4]; conv => rhs; rw [if_pos c_12, if_pos c_36, if_pos c_45, if_pos c_134, if_pos c_173, if_pos c_212]) (by subst ex_1; rw [← hg_4, g_X7_readClause_4]; conv => rhs; rw [if_pos c_12, if_pos c_36, if_pos c_45, if_pos c_134, if_pos c_173, if_pos c_212]) dX7_readClause_216
              · refine lv_aload_n hx hb dX7_readClause_176 rfl (lv_at hl 1 rfl) ?_
                refine wx_get hx hb hts hiX7 hown hK hP 143 (by decide) qc_143 rfl 12 (by decide) (hts (.fieldLink RX7 34 "PriceEdictModel" "credit" "[I") (by decide +kernel)) rfl dX7_readClause_177 ?_
                refine lv_bipush (v := 20) hx hb dX7_readClause_180 (by decide) ?_
                refine lv_aload_n hx hb dX7_readClause_182 rfl (lv_at hl 1 rfl) ?_
                refine lv_iconst (v := 0) hx hb dX7_readClause_183 (by decide) ?_
                refine lv_bipush (v := 100) hx hb dX7_readClause_184 (by decide) ?_
                refine wc_iV (k := 143) (C := RX7) (As := [.int (0 : Int32), .int (100 : Int32)]) (rest := [.int (20 : Int32), .ref (r 152)]) ⟨hx, hb, hml, hown, hts⟩ (c_X7_number l D c g hr S1 (0 : Int32) (100 : Int32) ⟨k, by omega, hp1⟩ ⟨m1, hm1, he1⟩) (cwV 2 hts gX7_readClause_X7_number rfl rfl rfl (by decide +kernel) ⟨Nat.le_of_ble_eq_true rfl, Nat.le_of_ble_eq_true rfl⟩) (wx_recv hK hP (by decide) qc_143 rfl) hK hP hS (fun _ h => h) rfl hl.1 rfl (lv_room (Nat.le_of_ble_eq_true rfl)) dX7_readClause_186 ⟨Nat.zero_le _, Nat.zero_le _⟩ (fun H locs hP hS => ?_)
                refine wx_ist hr hx hb hK hP hS 152 (by decide) qc_152 (vp_in_iff.mpr (by decide)) dX7_readClause_189 (fun H locs hP hS => ?_)
                refine lv_aload_n hx hb dX7_readClause_190 rfl (lv_at hl 1 rfl) ?_
                refine wx_get hx hb hts hiX7 hown hK hP 143 (by decide) qc_143 rfl 12 (by decide) (hts (.fieldLink RX7 34 "PriceEdictModel" "credit" "[I") (by decide +kernel)) rfl dX7_readClause_191 ?_
                refine lv_bipush (v := 20) hx hb dX7_readClause_194 (by decide) ?_
                refine wx_ild hx hb hK hP 152 (by decide) qc_152 (vp_in_iff.mpr (by decide)) dX7_readClause_196 ?_
                refine lv_tope (f_X7_number S1 (0 : Int32) (100 : Int32)) ((up2_same _ _ _ _)) ?_
                refine lv_if_lt (tgt := 204) hx hb dX7_readClause_197 (by decide) (fun c_197 => ?_) (fun c_197 => ?_)
                · refine lv_iconst (v := 0) hx hb dX7_readClause_204 (by decide) ?_
                  exact wx_zret hx hb hret hlk hK hP hS rfl (by subst ex_1; rw [← hf_4, f_X7_readClause_4]; conv => rhs; rw [if_pos c_12, if_pos c_36, if_pos c_45, if_pos c_134, if_neg c_173, if_pos c_197]) (by subst ex_1; rw [← hg_4, g_X7_readClause_4]; conv => rhs; rw [if_pos c_12, if_pos c_36, if_pos c_45, if_pos c_134, if_neg c_173, if_pos c_197]) dX7_readClause_205
                · refine lv_iconst (v := 1) hx hb dX7_readClause_200 (by decide) ?_
                  refine lv_goto (tgt := 205) hx hb dX7_readClause_201 (by decide) ?_
                  exact wx_zret hx hb hret hlk hK hP hS rfl (by subst ex_1; rw [← hf_4, f_X7_readClause_4]; conv => rhs; rw [if_pos c_12, if_pos c_36, if_pos c_45, if_pos c_134, if_neg c_173, if_neg c_197]) (by subst ex_1; rw [← hg_4, g_X7_readClause_4]; conv => rhs; rw [if_pos c_12, if_pos c_36, if_pos c_45, if_pos c_134, if_neg c_173, if_neg c_197]) dX7_readClause_205
            · refine lv_aload_n hx hb dX7_readClause_137 rfl (lv_at hl 1 rfl) ?_
              refine wx_get hx hb hts hiX7 hown hK hP 143 (by decide) qc_143 rfl 11 (by decide) (hts (.fieldLink RX7 31 "PriceEdictModel" "carriage" "[I") (by decide +kernel)) rfl dX7_readClause_138 ?_
              refine lv_bipush (v := 20) hx hb dX7_readClause_141 (by decide) ?_
              refine lv_aload_n hx hb dX7_readClause_143 rfl (lv_at hl 1 rfl) ?_
              refine lv_iconst (v := 0) hx hb dX7_readClause_144 (by decide) ?_
              refine lv_bipush (v := 99) hx hb dX7_readClause_145 (by decide) ?_
              refine wc_iV (k := 143) (C := RX7) (As := [.int (0 : Int32), .int (99 : Int32)]) (rest := [.int (20 : Int32), .ref (r 151)]) ⟨hx, hb, hml, hown, hts⟩ (c_X7_number l D c g hr S1 (0 : Int32) (99 : Int32) ⟨k, by omega, hp1⟩ ⟨m1, hm1, he1⟩) (cwV 2 hts gX7_readClause_X7_number rfl rfl rfl (by decide +kernel) ⟨Nat.le_of_ble_eq_true rfl, Nat.le_of_ble_eq_true rfl⟩) (wx_recv hK hP (by decide) qc_143 rfl) hK hP hS (fun _ h => h) rfl hl.1 rfl (lv_room (Nat.le_of_ble_eq_true rfl)) dX7_readClause_147 ⟨Nat.zero_le _, Nat.zero_le _⟩ (fun H locs hP hS => ?_)
              refine wx_ist hr hx hb hK hP hS 151 (by decide) qc_151 (vp_in_iff.mpr (by decide)) dX7_readClause_150 (fun H locs hP hS => ?_)
              refine lv_aload_n hx hb dX7_readClause_151 rfl (lv_at hl 1 rfl) ?_
              refine wx_get hx hb hts hiX7 hown hK hP 143 (by decide) qc_143 rfl 11 (by decide) (hts (.fieldLink RX7 31 "PriceEdictModel" "carriage" "[I") (by decide +kernel)) rfl dX7_readClause_152 ?_
              refine lv_bipush (v := 20) hx hb dX7_readClause_155 (by decide) ?_
              refine wx_ild hx hb hK hP 151 (by decide) qc_151 (vp_in_iff.mpr (by decide)) dX7_readClause_157 ?_
              refine lv_tope (f_X7_number S1 (0 : Int32) (99 : Int32)) ((up2_same _ _ _ _)) ?_
              refine lv_if_lt (tgt := 165) hx hb dX7_readClause_158 (by decide) (fun c_158 => ?_) (fun c_158 => ?_)
              · refine lv_iconst (v := 0) hx hb dX7_readClause_165 (by decide) ?_
                exact wx_zret hx hb hret hlk hK hP hS rfl (by subst ex_1; rw [← hf_4, f_X7_readClause_4]; conv => rhs; rw [if_pos c_12, if_pos c_36, if_pos c_45, if_neg c_134, if_pos c_158]) (by subst ex_1; rw [← hg_4, g_X7_readClause_4]; conv => rhs; rw [if_pos c_12, if_pos c_36, if_pos c_45, if_neg c_134, if_pos c_158]) dX7_readClause_166
              · refine lv_iconst (v := 1) hx hb dX7_readClause_161 (by decide) ?_
                refine lv_goto (tgt := 166) hx hb dX7_readClause_162 (by decide) ?_
                exact wx_zret hx hb hret hlk hK hP hS rfl (by subst ex_1; rw [← hf_4, f_X7_readClause_4]; conv => rhs; rw [if_pos c_12, if_pos c_36, if_pos c_45, if_neg c_134, if_neg c_158]) (by subst ex_1; rw [← hg_4, g_X7_readClause_4]; conv => rhs; rw [if_pos c_12, if_pos c_36, if_pos c_45, if_neg c_134, if_neg c_158]) dX7_readClause_166
          · refine lv_aload_n hx hb dX7_readClause_48 rfl (lv_at hl 1 rfl) ?_
            refine lv_iconst (v := 0) hx hb dX7_readClause_49 (by decide) ?_
            refine lv_iconst (v := 5) hx hb dX7_readClause_50 (by decide) ?_
            refine wc_iV (k := 143) (C := RX7) (As := [.int (0 : Int32), .int (5 : Int32)]) (rest := []) ⟨hx, hb, hml, hown, hts⟩ (c_X7_number l D c g hr S1 (0 : Int32) (5 : Int32) ⟨k, by omega, hp1⟩ ⟨m1, hm1, he1⟩) (cwV 2 hts gX7_readClause_X7_number rfl rfl rfl (by decide +kernel) ⟨Nat.le_of_ble_eq_true rfl, Nat.le_of_ble_eq_true rfl⟩) (wx_recv hK hP (by decide) qc_143 rfl) hK hP hS (fun _ h => h) rfl hl.1 rfl (lv_room (Nat.le_of_ble_eq_true rfl)) dX7_readClause_51 ⟨Nat.zero_le _, Nat.zero_le _⟩ (fun H locs hP hS => ?_)
            refine lv_topi (fun x_8 ex_8 => ?_)
            refine lv_istore_n (lv' := [(2, .int x_8), (1, .int x_1), (0, .ref (r 143))]) hx hb dX7_readClause_54 rfl hl (by decide) rfl (fun ls hl => ?_)
            refine lv_iload_n hx hb dX7_readClause_55 rfl (lv_at hl 0 rfl) ?_
            refine lv_if_ge (tgt := 61) hx hb dX7_readClause_56 (by decide) (fun c_56 => ?_) (fun c_56 => ?_)
            · have hx2 : vp_in x_8 6 := by rw [ex_8]; exact num_in (Or.inl rfl) rfl (by decide) (by rw [← ex_8]; exact c_56)
              have J_83 : ∀ (v_9 : Int32) (S_10 : qw_St) (H : Heap) (locs : List Loc) (ls : Array Slot) (ev_9 : v_9 = (if x_1 = 0 then (f_X7_number (g_X7_number S1 (0 : Int32) (5 : Int32)) (0 : Int32) (29 : Int32)) else (f_X7_number (g_X7_number S1 (0 : Int32) (5 : Int32)) (1 : Int32) (9999 : Int32)))) (eS_10 : S_10 = (if x_1 = 0 then (g_X7_number (g_X7_number S1 (0 : Int32) (5 : Int32)) (0 : Int32) (29 : Int32)) else (g_X7_number (g_X7_number S1 (0 : Int32) (5 : Int32)) (1 : Int32) (9999 : Int32)))), qw_P D r c g S_10 H → va_S (qw_A r) s.heap H locs → lv_has ls 4 [(2, .int x_8), (1, .int x_1), (0, .ref (r 143))] → W p l e ({ frames := 5, cells := 0, slots := 0, locals := 108 }) s m [.ref (r 143)].toArray below meth c0 H locs 0 0 (MQ below (qw_Qi D r c g (f_X7_readClause S) (g_X7_readClause S)) [.ref (r 143)].toArray s 0 0 (qw_A r)) (F0 m 83 ls [.int v_9]) := by
                intro v_9 S_10 H locs ls ev_9 eS_10 hP hS hl
                refine lv_istore_n (lv' := [(3, .int v_9), (2, .int x_8), (1, .int x_1), (0, .ref (r 143))]) hx hb dX7_readClause_83 rfl hl (by decide) rfl (fun ls hl => ?_)
                refine lv_iload_n hx hb dX7_readClause_84 rfl (lv_at hl 0 rfl) ?_
                refine lv_if_ge (tgt := 90) hx hb dX7_readClause_85 (by decide) (fun c_85 => ?_) (fun c_85 => ?_)
                · refine lv_aload_n hx hb dX7_readClause_90 rfl (lv_at hl 3 rfl) ?_
                  refine wx_get hx hb hts hiX7 hown hK hP 143 (by decide) qc_143 rfl 9 (by decide) (hts (.fieldLink RX7 25 "PriceEdictModel" "cap" "[I") (by decide +kernel)) rfl dX7_readClause_91 ?_
                  refine lv_bipush (v := 120) hx hb dX7_readClause_94 (by decide) ?_
                  refine lv_iload_n hx hb dX7_readClause_96 rfl (lv_at hl 1 rfl) ?_
                  refine lv_iadd hx hb dX7_readClause_97 ?_
                  have J_107 : ∀ (v_11 : Int32) (H : Heap) (locs : List Loc) (ls : Array Slot) (ev_11 : v_11 = (if x_1 = 0 then (-1 : Int32) else v_9)), qw_P D r c g S_10 H → va_S (qw_A r) s.heap H locs → lv_has ls 4 [(3, .int v_9), (2, .int x_8), (1, .int x_1), (0, .ref (r 143))] → W p l e ({ frames := 5, cells := 0, slots := 0, locals := 108 }) s m [.ref (r 143)].toArray below meth c0 H locs 0 0 (MQ below (qw_Qi D r c g (f_X7_readClause S) (g_X7_readClause S)) [.ref (r 143)].toArray s 0 0 (qw_A r)) (F0 m 107 ls [.int v_11, .int ((120 : Int32) + x_8), .ref (r 149)]) := by
                    intro v_11 H locs ls ev_11 hP hS hl
                    refine wx_ist hr hx hb hK hP hS 149 (by decide) qc_149 (rc_120 hx2) dX7_readClause_107 (fun H locs hP hS => ?_)
                    refine lv_aload_n hx hb dX7_readClause_108 rfl (lv_at hl 3 rfl) ?_
                    refine wx_get hx hb hts hiX7 hown hK hP 143 (by decide) qc_143 rfl 10 (by decide) (hts (.fieldLink RX7 28 "PriceEdictModel" "byLine" "[I") (by decide +kernel)) rfl dX7_readClause_109 ?_
                    refine lv_bipush (v := 120) hx hb dX7_readClause_112 (by decide) ?_
                    refine lv_iload_n hx hb dX7_readClause_114 rfl (lv_at hl 1 rfl) ?_
                    refine lv_iadd hx hb dX7_readClause_115 ?_
                    have J_125 : ∀ (v_12 : Int32) (H : Heap) (locs : List Loc) (ls : Array Slot) (ev_12 : v_12 = (if x_1 = 0 then v_9 else (-1 : Int32))), qw_P D r c g (up2 S_10 149 ((120 : Int32) + x_8).toNatClampNeg v_11) H → va_S (qw_A r) s.heap H locs → lv_has ls 4 [(3, .int v_9), (2, .int x_8), (1, .int x_1), (0, .ref (r 143))] → W p l e ({ frames := 5, cells := 0, slots := 0, locals := 108 }) s m [.ref (r 143)].toArray below meth c0 H locs 0 0 (MQ below (qw_Qi D r c g (f_X7_readClause S) (g_X7_readClause S)) [.ref (r 143)].toArray s 0 0 (qw_A r)) (F0 m 125 ls [.int v_12, .int ((120 : Int32) + x_8), .ref (r 150)]) := by
                      intro v_12 H locs ls ev_12 hP hS hl
                      refine wx_ist hr hx hb hK hP hS 150 (by decide) qc_150 (rc_120 hx2) dX7_readClause_125 (fun H locs hP hS => ?_)
                      refine lv_iconst (v := 1) hx hb dX7_readClause_126 (by decide) ?_
                      exact wx_zret hx hb hret hlk hK hP hS rfl (by subst ev_12; subst ev_11; subst eS_10; subst ev_9; subst ex_8; subst ex_1; rw [← hf_4, f_X7_readClause_4]; conv => rhs; rw [if_pos c_12, if_pos c_36, if_neg c_45, if_pos c_56, if_pos c_85]) (by subst ev_12; subst ev_11; subst eS_10; subst ev_9; subst ex_8; subst ex_1; rw [← hg_4, g_X7_readClause_4]; conv => rhs; rw [if_pos c_12, if_pos c_36, if_neg c_45, if_pos c_56, if_pos c_85]) dX7_readClause_127
                    refine lv_iload_n hx hb dX7_readClause_116 rfl (lv_at hl 2 rfl) ?_
                    refine lv_if_eq (tgt := 124) hx hb dX7_readClause_117 (by decide) (fun c_117 => ?_) (fun c_117 => ?_)
                    · refine lv_iload_n hx hb dX7_readClause_124 rfl (lv_at hl 0 rfl) ?_
                      exact J_125 _ _ _ _ (by rw [if_pos c_117]) hP hS (lv_sub hl [0, 1, 2, 3] rfl)
                    · refine lv_iconst (v := (-1)) hx hb dX7_readClause_120 (by decide) ?_
                      refine lv_goto (tgt := 125) hx hb dX7_readClause_121 (by decide) ?_
                      exact J_125 _ _ _ _ (by rw [if_neg c_117]) hP hS (lv_sub hl [0, 1, 2, 3] rfl)
                  refine lv_iload_n hx hb dX7_readClause_98 rfl (lv_at hl 2 rfl) ?_
                  refine lv_if_eq (tgt := 106) hx hb dX7_readClause_99 (by decide) (fun c_99 => ?_) (fun c_99 => ?_)
                  · refine lv_iconst (v := (-1)) hx hb dX7_readClause_106 (by decide) ?_
                    exact J_107 _ _ _ _ (by rw [if_pos c_99]) hP hS (lv_sub hl [0, 1, 2, 3] rfl)
                  · refine lv_iload_n hx hb dX7_readClause_102 rfl (lv_at hl 0 rfl) ?_
                    refine lv_goto (tgt := 107) hx hb dX7_readClause_103 (by decide) ?_
                    exact J_107 _ _ _ _ (by rw [if_neg c_99]) hP hS (lv_sub hl [0, 1, 2, 3] rfl)
                · refine lv_iconst (v := 0) hx hb dX7_readClause_88 (by decide) ?_
                  exact wx_zret hx hb hret hlk hK hP hS rfl (by subst eS_10; subst ev_9; subst ex_8; subst ex_1; rw [← hf_4, f_X7_readClause_4]; conv => rhs; rw [if_pos c_12, if_pos c_36, if_neg c_45, if_pos c_56, if_neg c_85]) (by subst eS_10; subst ev_9; subst ex_8; subst ex_1; rw [← hg_4, g_X7_readClause_4]; conv => rhs; rw [if_pos c_12, if_pos c_36, if_neg c_45, if_pos c_56, if_neg c_85]) dX7_readClause_89
              refine lv_iload_n hx hb dX7_readClause_61 rfl (lv_at hl 1 rfl) ?_
              refine lv_if_eq (tgt := 76) hx hb dX7_readClause_62 (by decide) (fun c_62 => ?_) (fun c_62 => ?_)
              · refine lv_aload_n hx hb dX7_readClause_76 rfl (lv_at hl 2 rfl) ?_
                refine lv_iconst (v := 0) hx hb dX7_readClause_77 (by decide) ?_
                refine lv_bipush (v := 29) hx hb dX7_readClause_78 (by decide) ?_
                refine wc_iV (k := 143) (C := RX7) (As := [.int (0 : Int32), .int (29 : Int32)]) (rest := []) ⟨hx, hb, hml, hown, hts⟩ (c_X7_number l D c g hr (g_X7_number S1 (0 : Int32) (5 : Int32)) (0 : Int32) (29 : Int32) (num_p _ _ ⟨k, by omega, hp1⟩ ⟨m1, hm1, he1⟩) (num_e _ _ ⟨m1, hm1, he1⟩)) (cwV 2 hts gX7_readClause_X7_number rfl rfl rfl (by decide +kernel) ⟨Nat.le_of_ble_eq_true rfl, Nat.le_of_ble_eq_true rfl⟩) (wx_recv hK hP (by decide) qc_143 rfl) hK hP hS (fun _ h => h) rfl hl.1 rfl (lv_room (Nat.le_of_ble_eq_true rfl)) dX7_readClause_80 ⟨Nat.zero_le _, Nat.zero_le _⟩ (fun H locs hP hS => ?_)
                exact J_83 _ _ _ _ _ (by rw [if_pos c_62]) (by rw [if_pos c_62]) hP hS (lv_sub hl [0, 1, 2] rfl)
              · refine lv_aload_n hx hb dX7_readClause_65 rfl (lv_at hl 2 rfl) ?_
                refine lv_iconst (v := 1) hx hb dX7_readClause_66 (by decide) ?_
                refine lv_sipush (v := 9999) hx hb dX7_readClause_67 (by decide) ?_
                refine wc_iV (k := 143) (C := RX7) (As := [.int (1 : Int32), .int (9999 : Int32)]) (rest := []) ⟨hx, hb, hml, hown, hts⟩ (c_X7_number l D c g hr (g_X7_number S1 (0 : Int32) (5 : Int32)) (1 : Int32) (9999 : Int32) (num_p _ _ ⟨k, by omega, hp1⟩ ⟨m1, hm1, he1⟩) (num_e _ _ ⟨m1, hm1, he1⟩)) (cwV 2 hts gX7_readClause_X7_number rfl rfl rfl (by decide +kernel) ⟨Nat.le_of_ble_eq_true rfl, Nat.le_of_ble_eq_true rfl⟩) (wx_recv hK hP (by decide) qc_143 rfl) hK hP hS (fun _ h => h) rfl hl.1 rfl (lv_room (Nat.le_of_ble_eq_true rfl)) dX7_readClause_70 ⟨Nat.zero_le _, Nat.zero_le _⟩ (fun H locs hP hS => ?_)
                refine lv_goto (tgt := 83) hx hb dX7_readClause_73 (by decide) ?_
                exact J_83 _ _ _ _ _ (by rw [if_neg c_62]) (by rw [if_neg c_62]) hP hS (lv_sub hl [0, 1, 2] rfl)
            · refine lv_iconst (v := 0) hx hb dX7_readClause_59 (by decide) ?_
              exact wx_zret hx hb hret hlk hK hP hS rfl (by subst ex_8; subst ex_1; rw [← hf_4, f_X7_readClause_4]; conv => rhs; rw [if_pos c_12, if_pos c_36, if_neg c_45, if_neg c_56]) (by subst ex_8; subst ex_1; rw [← hg_4, g_X7_readClause_4]; conv => rhs; rw [if_pos c_12, if_pos c_36, if_neg c_45, if_neg c_56]) dX7_readClause_60
      · have hlt : k < m1 := qi_ltn hp1 (by omega) he1 (by omega) (isAt_t c_12)
        refine lv_aload_n hx hb dX7_readClause_15 rfl (lv_at hl 0 rfl) ?_
        refine lv_dup hx hb dX7_readClause_16 rfl ?_
        refine wx_get hx hb hts hiX7 hown hK hP 143 (by decide) qc_143 rfl 20 (by decide) (hts (.fieldLink RX7 144 "PriceEdictModel" "point" "I") (by decide +kernel)) rfl dX7_readClause_17 ?_
        refine lv_iconst (v := 1) hx hb dX7_readClause_20 (by decide) ?_
        refine lv_iadd hx hb dX7_readClause_21 ?_
        refine wx_put hr hx hb hts hiX7 tyX7 tyX7_ok nmX7 hown hK hP hS 143 (by decide) qc_143 rfl 20 (by decide) (hts (.fieldLink RX7 144 "PriceEdictModel" "point" "I") (by decide +kernel)) rfl (by decide +kernel) (fun _ => rfl) (Nat.le_of_ble_eq_true rfl) dX7_readClause_22 (fun H locs hP hS => ?_)
        refine lv_goto (tgt := 4) hx hb dX7_readClause_25 (by decide) ?_
        exact ih_4 (k + 1) (up2 S1 143 20 ((S1 143 20) + (1 : Int32))) _ _ _ (by omega) (by rw [up2_same]; exact qi_add hp1) (by rw [up2_ne _ _ (Or.inr (by decide))]; exact he1) (by rw [up2_ne _ _ (Or.inr (by decide))]; exact hb1) (by rw [← hf_4, f_X7_readClause_4]; conv => rhs; rw [if_neg c_12]) (by rw [← hg_4, g_X7_readClause_4]; conv => rhs; rw [if_neg c_12]) hP hS (lv_sub hl [0] rfl)
  exact L_4 401 kb (g_X7_blanks S) _ _ _ (by omega) eb20 (by rw [fr_X7_blanks _ _ (Or.inr (by decide))]; exact em0) eb22 (by rw [f_X7_readClause]) (by rw [g_X7_readClause]) hP hS (lv_sub hl [0] rfl)
