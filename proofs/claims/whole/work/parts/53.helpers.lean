/-! THE LAW'S HELPERS, one by one (written by program) -/
theorem bo_L_strike {S : qw_St} {a1 v : Int32} (h : f_X6_strike S a1 = .ok v) : v = 0 ∨ v = 1 := by
  unfold f_X6_strike at h
  split at h
  · cases h
  · split at h
    · cases h; exact strikeOut_b _ _ _
    · cases h
theorem bo_L_habit {S : qw_St} {a1 a2 v : Int32} (h : f_X6_habit S a1 a2 = .ok v) : v = 0 ∨ v = 1 := by
  unfold f_X6_habit at h
  split at h
  · split at h
    · split at h
      · cases h
      · cases h; exact confuse_b _ _ _
    · cases h
  · cases h
theorem er_L_stone {S : qw_St} {a1 a2 a3 a4 a5 : Int32} {N : String} (h : f_X6_stone S a1 a2 a3 a4 a5 = .error N) : N = "java/lang/IndexOutOfBoundsException" ∨ N = "java/lang/IllegalArgumentException" ∨ N = "java/lang/UnsupportedOperationException" := by
  unfold f_X6_stone at h
  revert h
  repeat' (first | split | (intro h; cases h; done) | (intro h; cases h; first | exact Or.inl rfl | exact Or.inr (Or.inl rfl) | exact Or.inr (Or.inr (rfl))))
set_option maxHeartbeats 4000000 in
set_option maxRecDepth 100000 in
theorem c_L_stone (l : Launch) (hlT : l.stackTraces = false) (D : va_G) {r : Nat → Nat} (c : Nat → ClassId) (g : Nat → Int64) (hr : qw_inj r) (S : qw_St) (a1 : Int32) (a2 : Int32) (a3 : Int32) (a4 : Int32) (a5 : Int32) (hz : qz (S 3 6) 60) : MH l D r c g yL_stone wsL_stone ({ frames := 8, cells := 6, slots := 36, locals := 129 }) [.ref (r 0), .int a1, .int a2, .int a3, .int a4, .int a5, .ref (r 171)] S (kd tbS (f_X6_stone S a1 a2 a3 a4 a5)) (gd g (f_X6_stone S a1 a2 a3 a4 a5)) (g_X6_stone S a1 a2 a3 a4 a5) 6 36 := by
  refine wx_ofH (cc := cL_stone) (nL := 8) (ret := (some .int)) (hh := [(0, 16, 19, 13), (0, 16, 23, 15), (0, 16, 27, 17)]) (lvs := [(0, .ref (r 0)), (1, .int a1), (2, .int a2), (3, .int a3), (4, .int a4), (5, .int a5), (6, .ref (r 171))]) (by decide) rfl rfl (Nat.le_of_ble_eq_true rfl) ?_
  intro p e s m below meth c0 ls hx hb hret hml hts hown hlk hK hP hS hl hE ht
  refine lv_aload hx hb dL_stone_0 (lv_at hl 6 rfl) ?_
  refine lv_iconst (v := 0) hx hb dL_stone_2 (by decide) ?_
  refine lv_aload_n hx hb dL_stone_3 rfl (lv_at hl 0 rfl) ?_
  refine lv_iload_n hx hb dL_stone_4 rfl (lv_at hl 1 rfl) ?_
  refine lv_iload_n hx hb dL_stone_5 rfl (lv_at hl 2 rfl) ?_
  refine lv_iload_n hx hb dL_stone_6 rfl (lv_at hl 3 rfl) ?_
  refine lv_iload hx hb dL_stone_7 (lv_at hl 4 rfl) ?_
  refine lv_iload hx hb dL_stone_9 (lv_at hl 5 rfl) ?_
  refine wh_iV (b := r 0) (C := RX6) (As := [.int a1, .int a2, .int a3, .int a4, .int a5]) (rest := [.int 0, .ref (r 171)]) ⟨hx, hb, hml, hown, hts⟩ (c_X6_stone l hlT D c g hr S a1 a2 a3 a4 a5 hz) (cwV 5 hts gL_stone_X6_stone rfl rfl rfl (by decide +kernel) ⟨Nat.le_of_ble_eq_true rfl, Nat.le_of_ble_eq_true rfl⟩) (wx_recv hK hP (by decide) qc_0 rfl) hK hP hS hE.1 rfl hl.1 rfl (lv_room (Nat.le_of_ble_eq_true rfl)) dL_stone_11 ⟨Nat.le_of_ble_eq_true rfl, Nat.le_of_ble_eq_true rfl⟩ (fun N ce q H locs hF hP hS h1 h2 h3 => ?_) (fun v H locs hF hP hS => ?_)
  · rcases er_L_stone hF with rfl | rfl | rfl
    · refine wx_caught (own := RL) (name := "java/lang/IndexOutOfBoundsException") hown [] (⟨0, 16, 19, 13⟩ : ExceptionTableEntry) [(⟨0, 16, 23, 15⟩ : ExceptionTableEntry), (⟨0, 16, 27, 17⟩ : ExceptionTableEntry)] (by rw [ht]; rfl) (fun z hz => nomatch hz) (by decide) (by decide) (hts (.classLink RL 13 "java/lang/IndexOutOfBoundsException") (by decide +kernel)) (ew_cast hE.1 (by decide +kernel)) h1 h2 h3 ?_
      refine lv_astore (lv' := [(7, .ref q), (0, .ref (r 0)), (1, .int a1), (2, .int a2), (3, .int a3), (4, .int a4), (5, .int a5), (6, .ref (r 171))]) hx hb dL_stone_19 hl (by decide) rfl (fun ls hl => ?_)
      refine lv_iconst (v := 1) hx hb dL_stone_21 (by decide) ?_
      exact wx_hret (Nat.le_of_ble_eq_true rfl) (Nat.le_of_ble_eq_true rfl) hx hb hret hlk hK hP hS (by rw [hF]; rfl) (by rw [hF]; rfl) rfl dL_stone_22
    · refine wx_caught (own := RL) (name := "java/lang/IllegalArgumentException") hown [(⟨0, 16, 19, 13⟩ : ExceptionTableEntry)] (⟨0, 16, 23, 15⟩ : ExceptionTableEntry) [(⟨0, 16, 27, 17⟩ : ExceptionTableEntry)] (by rw [ht]; rfl) (fun z hz => by
        simp only [List.mem_cons, List.not_mem_nil, or_false] at hz
        rcases hz with rfl
        · exact ⟨by decide, by decide, "java/lang/IndexOutOfBoundsException", hts (.classLink RL 13 "java/lang/IndexOutOfBoundsException") (by decide +kernel), hE.2 ("java/lang/IllegalArgumentException", "java/lang/IndexOutOfBoundsException") (by decide +kernel)⟩) (by decide) (by decide) (hts (.classLink RL 15 "java/lang/IllegalArgumentException") (by decide +kernel)) (ew_cast hE.1 (by decide +kernel)) h1 h2 h3 ?_
      refine lv_astore (lv' := [(7, .ref q), (0, .ref (r 0)), (1, .int a1), (2, .int a2), (3, .int a3), (4, .int a4), (5, .int a5), (6, .ref (r 171))]) hx hb dL_stone_23 hl (by decide) rfl (fun ls hl => ?_)
      refine lv_iconst (v := 2) hx hb dL_stone_25 (by decide) ?_
      exact wx_hret (Nat.le_of_ble_eq_true rfl) (Nat.le_of_ble_eq_true rfl) hx hb hret hlk hK hP hS (by rw [hF]; rfl) (by rw [hF]; rfl) rfl dL_stone_26
    · refine wx_caught (own := RL) (name := "java/lang/UnsupportedOperationException") hown [(⟨0, 16, 19, 13⟩ : ExceptionTableEntry), (⟨0, 16, 23, 15⟩ : ExceptionTableEntry)] (⟨0, 16, 27, 17⟩ : ExceptionTableEntry) [] (by rw [ht]; rfl) (fun z hz => by
        simp only [List.mem_cons, List.not_mem_nil, or_false] at hz
        rcases hz with rfl | rfl
        · exact ⟨by decide, by decide, "java/lang/IndexOutOfBoundsException", hts (.classLink RL 13 "java/lang/IndexOutOfBoundsException") (by decide +kernel), hE.2 ("java/lang/UnsupportedOperationException", "java/lang/IndexOutOfBoundsException") (by decide +kernel)⟩
        · exact ⟨by decide, by decide, "java/lang/IllegalArgumentException", hts (.classLink RL 15 "java/lang/IllegalArgumentException") (by decide +kernel), hE.2 ("java/lang/UnsupportedOperationException", "java/lang/IllegalArgumentException") (by decide +kernel)⟩) (by decide) (by decide) (hts (.classLink RL 17 "java/lang/UnsupportedOperationException") (by decide +kernel)) (ew_cast hE.1 (by decide +kernel)) h1 h2 h3 ?_
      refine lv_astore (lv' := [(7, .ref q), (0, .ref (r 0)), (1, .int a1), (2, .int a2), (3, .int a3), (4, .int a4), (5, .int a5), (6, .ref (r 171))]) hx hb dL_stone_27 hl (by decide) rfl (fun ls hl => ?_)
      refine lv_iconst (v := 3) hx hb dL_stone_29 (by decide) ?_
      exact wx_hret (Nat.le_of_ble_eq_true rfl) (Nat.le_of_ble_eq_true rfl) hx hb hret hlk hK hP hS (by rw [hF]; rfl) (by rw [hF]; rfl) rfl dL_stone_30
  · refine lv_i2l (v := v.toInt64) hx hb dL_stone_14 rfl ?_
    refine wx_lst hr hx hb hK hP hS dL_stone_15 (fun H locs hP hS => ?_)
    refine lv_goto (tgt := 31) hx hb dL_stone_16 (by decide) ?_
    refine lv_iconst (v := 0) hx hb dL_stone_31 (by decide) ?_
    exact wx_hret (Nat.le_of_ble_eq_true rfl) (Nat.le_of_ble_eq_true rfl) hx hb hret hlk hK hP hS (by rw [hF]; rfl) (by rw [hF]; rfl) rfl dL_stone_32
theorem er_L_strike {S : qw_St} {a1 : Int32} {N : String} (h : f_X6_strike S a1 = .error N) : N = "java/lang/IndexOutOfBoundsException" := by
  unfold f_X6_strike at h
  revert h
  repeat' (first | split | (intro h; cases h; done) | (intro h; cases h; first | exact rfl))
set_option maxHeartbeats 4000000 in
set_option maxRecDepth 100000 in
theorem c_L_strike (l : Launch) (hlT : l.stackTraces = false) (D : va_G) {r : Nat → Nat} (c : Nat → ClassId) (g : Nat → Int64) (hr : qw_inj r) (S : qw_St) (a1 : Int32) (hz : qz (S 3 6) 60) : MH l D r c g yL_strike wsL_strike ({ frames := 7, cells := 1, slots := 6, locals := 103 }) [.ref (r 0), .int a1, .ref (r 171)] S (kd tbI (f_X6_strike S a1)) (gd g (f_X6_strike S a1)) (g_X6_strike S a1) 1 6 := by
  refine wx_ofH (cc := cL_strike) (nL := 4) (ret := (some .int)) (hh := [(0, 16, 19, 13)]) (lvs := [(0, .ref (r 0)), (1, .int a1), (2, .ref (r 171))]) (by decide) rfl rfl (Nat.le_of_ble_eq_true rfl) ?_
  intro p e s m below meth c0 ls hx hb hret hml hts hown hlk hK hP hS hl hE ht
  refine lv_aload_n hx hb dL_strike_0 rfl (lv_at hl 2 rfl) ?_
  refine lv_iconst (v := 0) hx hb dL_strike_1 (by decide) ?_
  refine lv_aload_n hx hb dL_strike_2 rfl (lv_at hl 0 rfl) ?_
  refine lv_iload_n hx hb dL_strike_3 rfl (lv_at hl 1 rfl) ?_
  refine wh_iV (b := r 0) (C := RX6) (As := [.int a1]) (rest := [.int 0, .ref (r 171)]) ⟨hx, hb, hml, hown, hts⟩ (c_X6_strike l hlT D c g hr S a1 hz) (cwV 1 hts gL_strike_X6_strike rfl rfl rfl (by decide +kernel) ⟨Nat.le_of_ble_eq_true rfl, Nat.le_of_ble_eq_true rfl⟩) (wx_recv hK hP (by decide) qc_0 rfl) hK hP hS hE.1 rfl hl.1 rfl (lv_room (Nat.le_of_ble_eq_true rfl)) dL_strike_4 ⟨Nat.le_of_ble_eq_true rfl, Nat.le_of_ble_eq_true rfl⟩ (fun N ce q H locs hF hP hS h1 h2 h3 => ?_) (fun v H locs hF hP hS => ?_)
  · obtain rfl := er_L_strike hF
    refine wx_caught (own := RL) (name := "java/lang/IndexOutOfBoundsException") hown [] (⟨0, 16, 19, 13⟩ : ExceptionTableEntry) [] (by rw [ht]; rfl) (fun z hz => nomatch hz) (by decide) (by decide) (hts (.classLink RL 13 "java/lang/IndexOutOfBoundsException") (by decide +kernel)) (ew_cast hE.1 (by decide +kernel)) h1 h2 h3 ?_
    refine lv_astore_n (lv' := [(3, .ref q), (0, .ref (r 0)), (1, .int a1), (2, .ref (r 171))]) hx hb dL_strike_19 rfl hl (by decide) rfl (fun ls hl => ?_)
    refine lv_iconst (v := 1) hx hb dL_strike_20 (by decide) ?_
    exact wx_hret (Nat.le_of_ble_eq_true rfl) (Nat.le_of_ble_eq_true rfl) hx hb hret hlk hK hP hS (by rw [hF]; rfl) (by rw [hF]; rfl) rfl dL_strike_21
  · have hv : v = 0 ∨ v = 1 := bo_L_strike hF
    refine lv_if_eq (tgt := 14) hx hb dL_strike_7 (by decide) (fun cz => ?_) (fun cz => ?_)
    · refine lv_lconst (v := 0) hx hb dL_strike_14 rfl ?_
      refine wx_lst hr hx hb hK hP hS dL_strike_15 (fun H locs hP hS => ?_)
      have ev : v = 0 := cz
      refine lv_goto (tgt := 22) hx hb dL_strike_16 (by decide) ?_
      refine lv_iconst (v := 0) hx hb dL_strike_22 (by decide) ?_
      exact wx_hret (Nat.le_of_ble_eq_true rfl) (Nat.le_of_ble_eq_true rfl) hx hb hret hlk hK hP hS (by rw [hF]; rfl) (by rw [hF, ev]; rfl) rfl dL_strike_23
    · refine lv_lconst (v := 1) hx hb dL_strike_10 rfl ?_
      refine lv_goto (tgt := 15) hx hb dL_strike_11 (by decide) ?_
      refine wx_lst hr hx hb hK hP hS dL_strike_15 (fun H locs hP hS => ?_)
      have ev : v = 1 := hv.resolve_left cz
      refine lv_goto (tgt := 22) hx hb dL_strike_16 (by decide) ?_
      refine lv_iconst (v := 0) hx hb dL_strike_22 (by decide) ?_
      exact wx_hret (Nat.le_of_ble_eq_true rfl) (Nat.le_of_ble_eq_true rfl) hx hb hret hlk hK hP hS (by rw [hF]; rfl) (by rw [hF, ev]; rfl) rfl dL_strike_23
theorem er_L_habit {S : qw_St} {a1 a2 : Int32} {N : String} (h : f_X6_habit S a1 a2 = .error N) : N = "java/lang/IllegalArgumentException" := by
  unfold f_X6_habit at h
  revert h
  repeat' (first | split | (intro h; cases h; done) | (intro h; cases h; first | exact rfl))
set_option maxHeartbeats 4000000 in
set_option maxRecDepth 100000 in
theorem c_L_habit (l : Launch) (hlT : l.stackTraces = false) (D : va_G) {r : Nat → Nat} (c : Nat → ClassId) (g : Nat → Int64) (hr : qw_inj r) (S : qw_St) (a1 : Int32) (a2 : Int32) : MH l D r c g yL_habit wsL_habit ({ frames := 8, cells := 3, slots := 18, locals := 126 }) [.ref (r 0), .int a1, .int a2, .ref (r 171)] S (kd tbA (f_X6_habit S a1 a2)) (gd g (f_X6_habit S a1 a2)) (g_X6_habit S a1 a2) 3 18 := by
  refine wx_ofH (cc := cL_habit) (nL := 5) (ret := (some .int)) (hh := [(0, 17, 20, 15)]) (lvs := [(0, .ref (r 0)), (1, .int a1), (2, .int a2), (3, .ref (r 171))]) (by decide) rfl rfl (Nat.le_of_ble_eq_true rfl) ?_
  intro p e s m below meth c0 ls hx hb hret hml hts hown hlk hK hP hS hl hE ht
  refine lv_aload_n hx hb dL_habit_0 rfl (lv_at hl 3 rfl) ?_
  refine lv_iconst (v := 0) hx hb dL_habit_1 (by decide) ?_
  refine lv_aload_n hx hb dL_habit_2 rfl (lv_at hl 0 rfl) ?_
  refine lv_iload_n hx hb dL_habit_3 rfl (lv_at hl 1 rfl) ?_
  refine lv_iload_n hx hb dL_habit_4 rfl (lv_at hl 2 rfl) ?_
  refine wh_iV (b := r 0) (C := RX6) (As := [.int a1, .int a2]) (rest := [.int 0, .ref (r 171)]) ⟨hx, hb, hml, hown, hts⟩ (c_X6_habit l hlT D c g hr S a1 a2) (cwV 2 hts gL_habit_X6_habit rfl rfl rfl (by decide +kernel) ⟨Nat.le_of_ble_eq_true rfl, Nat.le_of_ble_eq_true rfl⟩) (wx_recv hK hP (by decide) qc_0 rfl) hK hP hS hE.1 rfl hl.1 rfl (lv_room (Nat.le_of_ble_eq_true rfl)) dL_habit_5 ⟨Nat.le_of_ble_eq_true rfl, Nat.le_of_ble_eq_true rfl⟩ (fun N ce q H locs hF hP hS h1 h2 h3 => ?_) (fun v H locs hF hP hS => ?_)
  · obtain rfl := er_L_habit hF
    refine wx_caught (own := RL) (name := "java/lang/IllegalArgumentException") hown [] (⟨0, 17, 20, 15⟩ : ExceptionTableEntry) [] (by rw [ht]; rfl) (fun z hz => nomatch hz) (by decide) (by decide) (hts (.classLink RL 15 "java/lang/IllegalArgumentException") (by decide +kernel)) (ew_cast hE.1 (by decide +kernel)) h1 h2 h3 ?_
    refine lv_astore (lv' := [(4, .ref q), (0, .ref (r 0)), (1, .int a1), (2, .int a2), (3, .ref (r 171))]) hx hb dL_habit_20 hl (by decide) rfl (fun ls hl => ?_)
    refine lv_iconst (v := 1) hx hb dL_habit_22 (by decide) ?_
    exact wx_hret (Nat.le_of_ble_eq_true rfl) (Nat.le_of_ble_eq_true rfl) hx hb hret hlk hK hP hS (by rw [hF]; rfl) (by rw [hF]; rfl) rfl dL_habit_23
  · have hv : v = 0 ∨ v = 1 := bo_L_habit hF
    refine lv_if_eq (tgt := 15) hx hb dL_habit_8 (by decide) (fun cz => ?_) (fun cz => ?_)
    · refine lv_lconst (v := 0) hx hb dL_habit_15 rfl ?_
      refine wx_lst hr hx hb hK hP hS dL_habit_16 (fun H locs hP hS => ?_)
      have ev : v = 0 := cz
      refine lv_goto (tgt := 24) hx hb dL_habit_17 (by decide) ?_
      refine lv_iconst (v := 0) hx hb dL_habit_24 (by decide) ?_
      exact wx_hret (Nat.le_of_ble_eq_true rfl) (Nat.le_of_ble_eq_true rfl) hx hb hret hlk hK hP hS (by rw [hF]; rfl) (by rw [hF, ev]; rfl) rfl dL_habit_25
    · refine lv_lconst (v := 1) hx hb dL_habit_11 rfl ?_
      refine lv_goto (tgt := 16) hx hb dL_habit_12 (by decide) ?_
      refine wx_lst hr hx hb hK hP hS dL_habit_16 (fun H locs hP hS => ?_)
      have ev : v = 1 := hv.resolve_left cz
      refine lv_goto (tgt := 24) hx hb dL_habit_17 (by decide) ?_
      refine lv_iconst (v := 0) hx hb dL_habit_24 (by decide) ?_
      exact wx_hret (Nat.le_of_ble_eq_true rfl) (Nat.le_of_ble_eq_true rfl) hx hb hret hlk hK hP hS (by rw [hF]; rfl) (by rw [hF, ev]; rfl) rfl dL_habit_25
theorem er_L_agree {S : qw_St} {a1 a2 a3 : Int32} {N : String} (h : f_X6_agree S a1 a2 a3 = .error N) : N = "java/lang/IndexOutOfBoundsException" ∨ N = "java/util/NoSuchElementException" := by
  unfold f_X6_agree at h
  revert h
  repeat' (first | split | (intro h; cases h; done) | (intro h; cases h; first | exact Or.inl rfl | exact Or.inr (rfl)))
set_option maxHeartbeats 4000000 in
set_option maxRecDepth 100000 in
theorem c_L_agree (l : Launch) (hlT : l.stackTraces = false) (D : va_G) {r : Nat → Nat} (c : Nat → ClassId) (g : Nat → Int64) (hr : qw_inj r) (S : qw_St) (a1 : Int32) (a2 : Int32) (a3 : Int32) (hz : qz (S 3 6) 60) : MH l D r c g yL_agree wsL_agree ({ frames := 8, cells := 2, slots := 12, locals := 126 }) [.ref (r 0), .int a1, .int a2, .int a3, .ref (r 171)] S (kd tbN (f_X6_agree S a1 a2 a3)) (gd g (f_X6_agree S a1 a2 a3)) (g_X6_agree S a1 a2 a3) 2 12 := by
  refine wx_ofH (cc := cL_agree) (nL := 6) (ret := (some .int)) (hh := [(0, 12, 15, 13), (0, 12, 19, 31)]) (lvs := [(0, .ref (r 0)), (1, .int a1), (2, .int a2), (3, .int a3), (4, .ref (r 171))]) (by decide) rfl rfl (Nat.le_of_ble_eq_true rfl) ?_
  intro p e s m below meth c0 ls hx hb hret hml hts hown hlk hK hP hS hl hE ht
  refine lv_aload hx hb dL_agree_0 (lv_at hl 4 rfl) ?_
  refine lv_iconst (v := 0) hx hb dL_agree_2 (by decide) ?_
  refine lv_aload_n hx hb dL_agree_3 rfl (lv_at hl 0 rfl) ?_
  refine lv_iload_n hx hb dL_agree_4 rfl (lv_at hl 1 rfl) ?_
  refine lv_iload_n hx hb dL_agree_5 rfl (lv_at hl 2 rfl) ?_
  refine lv_iload_n hx hb dL_agree_6 rfl (lv_at hl 3 rfl) ?_
  refine wh_iV (b := r 0) (C := RX6) (As := [.int a1, .int a2, .int a3]) (rest := [.int 0, .ref (r 171)]) ⟨hx, hb, hml, hown, hts⟩ (c_X6_agree l hlT D c g hr S a1 a2 a3 hz) (cwV 3 hts gL_agree_X6_agree rfl rfl rfl (by decide +kernel) ⟨Nat.le_of_ble_eq_true rfl, Nat.le_of_ble_eq_true rfl⟩) (wx_recv hK hP (by decide) qc_0 rfl) hK hP hS hE.1 rfl hl.1 rfl (lv_room (Nat.le_of_ble_eq_true rfl)) dL_agree_7 ⟨Nat.le_of_ble_eq_true rfl, Nat.le_of_ble_eq_true rfl⟩ (fun N ce q H locs hF hP hS h1 h2 h3 => ?_) (fun v H locs hF hP hS => ?_)
  · rcases er_L_agree hF with rfl | rfl
    · refine wx_caught (own := RL) (name := "java/lang/IndexOutOfBoundsException") hown [] (⟨0, 12, 15, 13⟩ : ExceptionTableEntry) [(⟨0, 12, 19, 31⟩ : ExceptionTableEntry)] (by rw [ht]; rfl) (fun z hz => nomatch hz) (by decide) (by decide) (hts (.classLink RL 13 "java/lang/IndexOutOfBoundsException") (by decide +kernel)) (ew_cast hE.1 (by decide +kernel)) h1 h2 h3 ?_
      refine lv_astore (lv' := [(5, .ref q), (0, .ref (r 0)), (1, .int a1), (2, .int a2), (3, .int a3), (4, .ref (r 171))]) hx hb dL_agree_15 hl (by decide) rfl (fun ls hl => ?_)
      refine lv_iconst (v := 1) hx hb dL_agree_17 (by decide) ?_
      exact wx_hret (Nat.le_of_ble_eq_true rfl) (Nat.le_of_ble_eq_true rfl) hx hb hret hlk hK hP hS (by rw [hF]; rfl) (by rw [hF]; rfl) rfl dL_agree_18
    · refine wx_caught (own := RL) (name := "java/util/NoSuchElementException") hown [(⟨0, 12, 15, 13⟩ : ExceptionTableEntry)] (⟨0, 12, 19, 31⟩ : ExceptionTableEntry) [] (by rw [ht]; rfl) (fun z hz => by
        simp only [List.mem_cons, List.not_mem_nil, or_false] at hz
        rcases hz with rfl
        · exact ⟨by decide, by decide, "java/lang/IndexOutOfBoundsException", hts (.classLink RL 13 "java/lang/IndexOutOfBoundsException") (by decide +kernel), hE.2 ("java/util/NoSuchElementException", "java/lang/IndexOutOfBoundsException") (by decide +kernel)⟩) (by decide) (by decide) (hts (.classLink RL 31 "java/util/NoSuchElementException") (by decide +kernel)) (ew_cast hE.1 (by decide +kernel)) h1 h2 h3 ?_
      refine lv_astore (lv' := [(5, .ref q), (0, .ref (r 0)), (1, .int a1), (2, .int a2), (3, .int a3), (4, .ref (r 171))]) hx hb dL_agree_19 hl (by decide) rfl (fun ls hl => ?_)
      refine lv_iconst (v := 2) hx hb dL_agree_21 (by decide) ?_
      exact wx_hret (Nat.le_of_ble_eq_true rfl) (Nat.le_of_ble_eq_true rfl) hx hb hret hlk hK hP hS (by rw [hF]; rfl) (by rw [hF]; rfl) rfl dL_agree_22
  · refine lv_i2l (v := v.toInt64) hx hb dL_agree_10 rfl ?_
    refine wx_lst hr hx hb hK hP hS dL_agree_11 (fun H locs hP hS => ?_)
    refine lv_goto (tgt := 23) hx hb dL_agree_12 (by decide) ?_
    refine lv_iconst (v := 0) hx hb dL_agree_23 (by decide) ?_
    exact wx_hret (Nat.le_of_ble_eq_true rfl) (Nat.le_of_ble_eq_true rfl) hx hb hret hlk hK hP hS (by rw [hF]; rfl) (by rw [hF]; rfl) rfl dL_agree_24
theorem er_L_edict {S : qw_St}  {N : String} (h : f_X6_edict S = .error N) : N = "java/lang/IllegalArgumentException" ∨ N = "java/lang/UnsupportedOperationException" := by
  unfold f_X6_edict at h
  revert h
  repeat' (first | split | (intro h; cases h; done) | (intro h; cases h; first | exact Or.inl rfl | exact Or.inr (rfl)))
set_option maxHeartbeats 4000000 in
set_option maxRecDepth 100000 in
theorem c_L_edict (l : Launch) (hlT : l.stackTraces = false) (D : va_G) {r : Nat → Nat} (c : Nat → ClassId) (g : Nat → Int64) (hr : qw_inj r) (S : qw_St) (hz1 : qz (S 1 1) 400) (hd0 : qz (S 0 6) 20) (hn0 : qz (S 11 2) 40) : MH l D r c g yL_edict wsL_edict ({ frames := 8, cells := 1, slots := 6, locals := 174 }) [.ref (r 0), .ref (r 171)] S (kd tbU (f_X6_edict S)) (gd g (f_X6_edict S)) (g_X6_edict S) 1 6 := by
  refine wx_ofH (cc := cL_edict) (nL := 3) (ret := (some .int)) (hh := [(0, 8, 11, 15), (0, 8, 14, 17)]) (lvs := [(0, .ref (r 0)), (1, .ref (r 171))]) (by decide) rfl rfl (Nat.le_of_ble_eq_true rfl) ?_
  intro p e s m below meth c0 ls hx hb hret hml hts hown hlk hK hP hS hl hE ht
  refine lv_aload_n hx hb dL_edict_0 rfl (lv_at hl 1 rfl) ?_
  refine lv_iconst (v := 0) hx hb dL_edict_1 (by decide) ?_
  refine lv_aload_n hx hb dL_edict_2 rfl (lv_at hl 0 rfl) ?_
  refine wh_iV (b := r 0) (C := RX6) (As := []) (rest := [.int 0, .ref (r 171)]) ⟨hx, hb, hml, hown, hts⟩ (c_X6_edict l hlT D c g hr S hz1 hd0 hn0) (cwV 0 hts gL_edict_X6_edict rfl rfl rfl (by decide +kernel) ⟨Nat.le_of_ble_eq_true rfl, Nat.le_of_ble_eq_true rfl⟩) (wx_recv hK hP (by decide) qc_0 rfl) hK hP hS hE.1 rfl hl.1 rfl (lv_room (Nat.le_of_ble_eq_true rfl)) dL_edict_3 ⟨Nat.le_of_ble_eq_true rfl, Nat.le_of_ble_eq_true rfl⟩ (fun N ce q H locs hF hP hS h1 h2 h3 => ?_) (fun v H locs hF hP hS => ?_)
  · rcases er_L_edict hF with rfl | rfl
    · refine wx_caught (own := RL) (name := "java/lang/IllegalArgumentException") hown [] (⟨0, 8, 11, 15⟩ : ExceptionTableEntry) [(⟨0, 8, 14, 17⟩ : ExceptionTableEntry)] (by rw [ht]; rfl) (fun z hz => nomatch hz) (by decide) (by decide) (hts (.classLink RL 15 "java/lang/IllegalArgumentException") (by decide +kernel)) (ew_cast hE.1 (by decide +kernel)) h1 h2 h3 ?_
      refine lv_astore_n (lv' := [(2, .ref q), (0, .ref (r 0)), (1, .ref (r 171))]) hx hb dL_edict_11 rfl hl (by decide) rfl (fun ls hl => ?_)
      refine lv_iconst (v := 1) hx hb dL_edict_12 (by decide) ?_
      exact wx_hret (Nat.le_of_ble_eq_true rfl) (Nat.le_of_ble_eq_true rfl) hx hb hret hlk hK hP hS (by rw [hF]; rfl) (by rw [hF]; rfl) rfl dL_edict_13
    · refine wx_caught (own := RL) (name := "java/lang/UnsupportedOperationException") hown [(⟨0, 8, 11, 15⟩ : ExceptionTableEntry)] (⟨0, 8, 14, 17⟩ : ExceptionTableEntry) [] (by rw [ht]; rfl) (fun z hz => by
        simp only [List.mem_cons, List.not_mem_nil, or_false] at hz
        rcases hz with rfl
        · exact ⟨by decide, by decide, "java/lang/IllegalArgumentException", hts (.classLink RL 15 "java/lang/IllegalArgumentException") (by decide +kernel), hE.2 ("java/lang/UnsupportedOperationException", "java/lang/IllegalArgumentException") (by decide +kernel)⟩) (by decide) (by decide) (hts (.classLink RL 17 "java/lang/UnsupportedOperationException") (by decide +kernel)) (ew_cast hE.1 (by decide +kernel)) h1 h2 h3 ?_
      refine lv_astore_n (lv' := [(2, .ref q), (0, .ref (r 0)), (1, .ref (r 171))]) hx hb dL_edict_14 rfl hl (by decide) rfl (fun ls hl => ?_)
      refine lv_iconst (v := 2) hx hb dL_edict_15 (by decide) ?_
      exact wx_hret (Nat.le_of_ble_eq_true rfl) (Nat.le_of_ble_eq_true rfl) hx hb hret hlk hK hP hS (by rw [hF]; rfl) (by rw [hF]; rfl) rfl dL_edict_16
  · refine lv_i2l (v := v.toInt64) hx hb dL_edict_6 rfl ?_
    refine wx_lst hr hx hb hK hP hS dL_edict_7 (fun H locs hP hS => ?_)
    refine lv_goto (tgt := 17) hx hb dL_edict_8 (by decide) ?_
    refine lv_iconst (v := 0) hx hb dL_edict_17 (by decide) ?_
    exact wx_hret (Nat.le_of_ble_eq_true rfl) (Nat.le_of_ble_eq_true rfl) hx hb hret hlk hK hP hS (by rw [hF]; rfl) (by rw [hF]; rfl) rfl dL_edict_18
theorem er_L_town {S : qw_St} {a1 : Int32} {N : String} (h : f_X6_town S a1 = .error N) : N = "java/lang/IllegalArgumentException" ∨ N = "java/lang/UnsupportedOperationException" := by
  unfold f_X6_town at h
  revert h
  repeat' (first | split | (intro h; cases h; done) | (intro h; cases h; first | exact Or.inl rfl | exact Or.inr (rfl)))
set_option maxHeartbeats 4000000 in
set_option maxRecDepth 100000 in
theorem c_L_town (l : Launch) (hlT : l.stackTraces = false) (D : va_G) {r : Nat → Nat} (c : Nat → ClassId) (g : Nat → Int64) (hr : qw_inj r) (S : qw_St) (a1 : Int32) (hz : qz (S 0 7) 8) : MH l D r c g yL_town wsL_town ({ frames := 8, cells := 2, slots := 12, locals := 126 }) [.ref (r 0), .int a1, .ref (r 171)] S (kd tbU (f_X6_town S a1)) (gd g (f_X6_town S a1)) (g_X6_town S a1) 2 12 := by
  refine wx_ofH (cc := cL_town) (nL := 4) (ret := (some .int)) (hh := [(0, 9, 12, 15), (0, 9, 15, 17)]) (lvs := [(0, .ref (r 0)), (1, .int a1), (2, .ref (r 171))]) (by decide) rfl rfl (Nat.le_of_ble_eq_true rfl) ?_
  intro p e s m below meth c0 ls hx hb hret hml hts hown hlk hK hP hS hl hE ht
  refine lv_aload_n hx hb dL_town_0 rfl (lv_at hl 2 rfl) ?_
  refine lv_iconst (v := 0) hx hb dL_town_1 (by decide) ?_
  refine lv_aload_n hx hb dL_town_2 rfl (lv_at hl 0 rfl) ?_
  refine lv_iload_n hx hb dL_town_3 rfl (lv_at hl 1 rfl) ?_
  refine wh_iV (b := r 0) (C := RX6) (As := [.int a1]) (rest := [.int 0, .ref (r 171)]) ⟨hx, hb, hml, hown, hts⟩ (c_X6_town l hlT D c g hr S a1 hz) (cwV 1 hts gL_town_X6_town rfl rfl rfl (by decide +kernel) ⟨Nat.le_of_ble_eq_true rfl, Nat.le_of_ble_eq_true rfl⟩) (wx_recv hK hP (by decide) qc_0 rfl) hK hP hS hE.1 rfl hl.1 rfl (lv_room (Nat.le_of_ble_eq_true rfl)) dL_town_4 ⟨Nat.le_of_ble_eq_true rfl, Nat.le_of_ble_eq_true rfl⟩ (fun N ce q H locs hF hP hS h1 h2 h3 => ?_) (fun v H locs hF hP hS => ?_)
  · rcases er_L_town hF with rfl | rfl
    · refine wx_caught (own := RL) (name := "java/lang/IllegalArgumentException") hown [] (⟨0, 9, 12, 15⟩ : ExceptionTableEntry) [(⟨0, 9, 15, 17⟩ : ExceptionTableEntry)] (by rw [ht]; rfl) (fun z hz => nomatch hz) (by decide) (by decide) (hts (.classLink RL 15 "java/lang/IllegalArgumentException") (by decide +kernel)) (ew_cast hE.1 (by decide +kernel)) h1 h2 h3 ?_
      refine lv_astore_n (lv' := [(3, .ref q), (0, .ref (r 0)), (1, .int a1), (2, .ref (r 171))]) hx hb dL_town_12 rfl hl (by decide) rfl (fun ls hl => ?_)
      refine lv_iconst (v := 1) hx hb dL_town_13 (by decide) ?_
      exact wx_hret (Nat.le_of_ble_eq_true rfl) (Nat.le_of_ble_eq_true rfl) hx hb hret hlk hK hP hS (by rw [hF]; rfl) (by rw [hF]; rfl) rfl dL_town_14
    · refine wx_caught (own := RL) (name := "java/lang/UnsupportedOperationException") hown [(⟨0, 9, 12, 15⟩ : ExceptionTableEntry)] (⟨0, 9, 15, 17⟩ : ExceptionTableEntry) [] (by rw [ht]; rfl) (fun z hz => by
        simp only [List.mem_cons, List.not_mem_nil, or_false] at hz
        rcases hz with rfl
        · exact ⟨by decide, by decide, "java/lang/IllegalArgumentException", hts (.classLink RL 15 "java/lang/IllegalArgumentException") (by decide +kernel), hE.2 ("java/lang/UnsupportedOperationException", "java/lang/IllegalArgumentException") (by decide +kernel)⟩) (by decide) (by decide) (hts (.classLink RL 17 "java/lang/UnsupportedOperationException") (by decide +kernel)) (ew_cast hE.1 (by decide +kernel)) h1 h2 h3 ?_
      refine lv_astore_n (lv' := [(3, .ref q), (0, .ref (r 0)), (1, .int a1), (2, .ref (r 171))]) hx hb dL_town_15 rfl hl (by decide) rfl (fun ls hl => ?_)
      refine lv_iconst (v := 2) hx hb dL_town_16 (by decide) ?_
      exact wx_hret (Nat.le_of_ble_eq_true rfl) (Nat.le_of_ble_eq_true rfl) hx hb hret hlk hK hP hS (by rw [hF]; rfl) (by rw [hF]; rfl) rfl dL_town_17
  · refine lv_i2l (v := v.toInt64) hx hb dL_town_7 rfl ?_
    refine wx_lst hr hx hb hK hP hS dL_town_8 (fun H locs hP hS => ?_)
    refine lv_goto (tgt := 18) hx hb dL_town_9 (by decide) ?_
    refine lv_iconst (v := 0) hx hb dL_town_18 (by decide) ?_
    exact wx_hret (Nat.le_of_ble_eq_true rfl) (Nat.le_of_ble_eq_true rfl) hx hb hret hlk hK hP hS (by rw [hF]; rfl) (by rw [hF]; rfl) rfl dL_town_19
theorem er_L_goods {S : qw_St} {a1 a2 a3 a4 a5 a6 : Int32} {N : String} (h : f_X6_goods S a1 a2 a3 a4 a5 a6 = .error N) : N = "java/lang/IndexOutOfBoundsException" ∨ N = "java/lang/IllegalArgumentException" := by
  unfold f_X6_goods at h
  revert h
  repeat' (first | split | (intro h; cases h; done) | (intro h; cases h; first | exact Or.inl rfl | exact Or.inr (rfl)))
set_option maxHeartbeats 4000000 in
set_option maxRecDepth 100000 in
theorem c_L_goods (l : Launch) (hlT : l.stackTraces = false) (D : va_G) {r : Nat → Nat} (c : Nat → ClassId) (g : Nat → Int64) (hr : qw_inj r) (S : qw_St) (a1 : Int32) (a2 : Int32) (a3 : Int32) (a4 : Int32) (a5 : Int32) (a6 : Int32) (hI : InvC S) : MH l D r c g yL_goods wsL_goods ({ frames := 8, cells := 6, slots := 36, locals := 130 }) [.ref (r 0), .int a1, .int a2, .int a3, .int a4, .int a5, .int a6] S (kd tbG (f_X6_goods S a1 a2 a3 a4 a5 a6)) g (g_X6_goods S a1 a2 a3 a4 a5 a6) 6 36 := by
  refine wx_ofH (cc := cL_goods) (nL := 8) (ret := (some .int)) (hh := [(0, 13, 16, 13), (0, 13, 20, 15)]) (lvs := [(0, .ref (r 0)), (1, .int a1), (2, .int a2), (3, .int a3), (4, .int a4), (5, .int a5), (6, .int a6)]) (by decide) rfl rfl (Nat.le_of_ble_eq_true rfl) ?_
  intro p e s m below meth c0 ls hx hb hret hml hts hown hlk hK hP hS hl hE ht
  refine lv_aload_n hx hb dL_goods_0 rfl (lv_at hl 0 rfl) ?_
  refine lv_iload_n hx hb dL_goods_1 rfl (lv_at hl 1 rfl) ?_
  refine lv_iload_n hx hb dL_goods_2 rfl (lv_at hl 2 rfl) ?_
  refine lv_iload_n hx hb dL_goods_3 rfl (lv_at hl 3 rfl) ?_
  refine lv_iload hx hb dL_goods_4 (lv_at hl 4 rfl) ?_
  refine lv_iload hx hb dL_goods_6 (lv_at hl 5 rfl) ?_
  refine lv_iload hx hb dL_goods_8 (lv_at hl 6 rfl) ?_
  refine wh_vV (b := r 0) (C := RX6) (As := [.int a1, .int a2, .int a3, .int a4, .int a5, .int a6]) (rest := []) ⟨hx, hb, hml, hown, hts⟩ (c_X6_goods l hlT D c g hr S a1 a2 a3 a4 a5 a6 hI) (cwV 6 hts gL_goods_X6_goods rfl rfl rfl (by decide +kernel) ⟨Nat.le_of_ble_eq_true rfl, Nat.le_of_ble_eq_true rfl⟩) (wx_recv hK hP (by decide) qc_0 rfl) hK hP hS hE.1 rfl hl.1 rfl (lv_room (Nat.le_of_ble_eq_true rfl)) dL_goods_10 ⟨Nat.le_of_ble_eq_true rfl, Nat.le_of_ble_eq_true rfl⟩ (fun N ce q H locs hF hP hS h1 h2 h3 => ?_) (fun H locs hF hP hS => ?_)
  · rcases er_L_goods hF with rfl | rfl
    · refine wx_caught (own := RL) (name := "java/lang/IndexOutOfBoundsException") hown [] (⟨0, 13, 16, 13⟩ : ExceptionTableEntry) [(⟨0, 13, 20, 15⟩ : ExceptionTableEntry)] (by rw [ht]; rfl) (fun z hz => nomatch hz) (by decide) (by decide) (hts (.classLink RL 13 "java/lang/IndexOutOfBoundsException") (by decide +kernel)) (ew_cast hE.1 (by decide +kernel)) h1 h2 h3 ?_
      refine lv_astore (lv' := [(7, .ref q), (0, .ref (r 0)), (1, .int a1), (2, .int a2), (3, .int a3), (4, .int a4), (5, .int a5), (6, .int a6)]) hx hb dL_goods_16 hl (by decide) rfl (fun ls hl => ?_)
      refine lv_iconst (v := 1) hx hb dL_goods_18 (by decide) ?_
      exact wx_hret (Nat.le_of_ble_eq_true rfl) (Nat.le_of_ble_eq_true rfl) hx hb hret hlk hK hP hS (by rw [hF]; rfl) rfl rfl dL_goods_19
    · refine wx_caught (own := RL) (name := "java/lang/IllegalArgumentException") hown [(⟨0, 13, 16, 13⟩ : ExceptionTableEntry)] (⟨0, 13, 20, 15⟩ : ExceptionTableEntry) [] (by rw [ht]; rfl) (fun z hz => by
        simp only [List.mem_cons, List.not_mem_nil, or_false] at hz
        rcases hz with rfl
        · exact ⟨by decide, by decide, "java/lang/IndexOutOfBoundsException", hts (.classLink RL 13 "java/lang/IndexOutOfBoundsException") (by decide +kernel), hE.2 ("java/lang/IllegalArgumentException", "java/lang/IndexOutOfBoundsException") (by decide +kernel)⟩) (by decide) (by decide) (hts (.classLink RL 15 "java/lang/IllegalArgumentException") (by decide +kernel)) (ew_cast hE.1 (by decide +kernel)) h1 h2 h3 ?_
      refine lv_astore (lv' := [(7, .ref q), (0, .ref (r 0)), (1, .int a1), (2, .int a2), (3, .int a3), (4, .int a4), (5, .int a5), (6, .int a6)]) hx hb dL_goods_20 hl (by decide) rfl (fun ls hl => ?_)
      refine lv_iconst (v := 2) hx hb dL_goods_22 (by decide) ?_
      exact wx_hret (Nat.le_of_ble_eq_true rfl) (Nat.le_of_ble_eq_true rfl) hx hb hret hlk hK hP hS (by rw [hF]; rfl) rfl rfl dL_goods_23
  · skip
    refine lv_goto (tgt := 24) hx hb dL_goods_13 (by decide) ?_
    refine lv_iconst (v := 0) hx hb dL_goods_24 (by decide) ?_
    exact wx_hret (Nat.le_of_ble_eq_true rfl) (Nat.le_of_ble_eq_true rfl) hx hb hret hlk hK hP hS (by rw [hF]; rfl) rfl rfl dL_goods_25
theorem er_L_spoil {a1 a2 : Int32} {N : String} (h : f_X6_spoil a1 a2 = .error N) : N = "java/lang/IndexOutOfBoundsException" ∨ N = "java/lang/IllegalArgumentException" := by
  unfold f_X6_spoil at h
  revert h
  repeat' (first | split | (intro h; cases h; done) | (intro h; cases h; first | exact Or.inl rfl | exact Or.inr (rfl)))
set_option maxHeartbeats 4000000 in
set_option maxRecDepth 100000 in
theorem c_L_spoil (l : Launch) (hlT : l.stackTraces = false) (D : va_G) {r : Nat → Nat} (c : Nat → ClassId) (g : Nat → Int64) (hr : qw_inj r) (S : qw_St) (a1 : Int32) (a2 : Int32) : MH l D r c g yL_spoil wsL_spoil ({ frames := 8, cells := 2, slots := 12, locals := 126 }) [.ref (r 0), .int a1, .int a2] S (kd tbG (f_X6_spoil a1 a2)) g (g_X6_spoil S a1 a2) 2 12 := by
  refine wx_ofH (cc := cL_spoil) (nL := 4) (ret := (some .int)) (hh := [(0, 6, 9, 13), (0, 6, 12, 15)]) (lvs := [(0, .ref (r 0)), (1, .int a1), (2, .int a2)]) (by decide) rfl rfl (Nat.le_of_ble_eq_true rfl) ?_
  intro p e s m below meth c0 ls hx hb hret hml hts hown hlk hK hP hS hl hE ht
  refine lv_aload_n hx hb dL_spoil_0 rfl (lv_at hl 0 rfl) ?_
  refine lv_iload_n hx hb dL_spoil_1 rfl (lv_at hl 1 rfl) ?_
  refine lv_iload_n hx hb dL_spoil_2 rfl (lv_at hl 2 rfl) ?_
  refine wh_vV (b := r 0) (C := RX6) (As := [.int a1, .int a2]) (rest := []) ⟨hx, hb, hml, hown, hts⟩ (c_X6_spoil l hlT D c g hr S a1 a2) (cwV 2 hts gL_spoil_X6_spoil rfl rfl rfl (by decide +kernel) ⟨Nat.le_of_ble_eq_true rfl, Nat.le_of_ble_eq_true rfl⟩) (wx_recv hK hP (by decide) qc_0 rfl) hK hP hS hE.1 rfl hl.1 rfl (lv_room (Nat.le_of_ble_eq_true rfl)) dL_spoil_3 ⟨Nat.le_of_ble_eq_true rfl, Nat.le_of_ble_eq_true rfl⟩ (fun N ce q H locs hF hP hS h1 h2 h3 => ?_) (fun H locs hF hP hS => ?_)
  · rcases er_L_spoil hF with rfl | rfl
    · refine wx_caught (own := RL) (name := "java/lang/IndexOutOfBoundsException") hown [] (⟨0, 6, 9, 13⟩ : ExceptionTableEntry) [(⟨0, 6, 12, 15⟩ : ExceptionTableEntry)] (by rw [ht]; rfl) (fun z hz => nomatch hz) (by decide) (by decide) (hts (.classLink RL 13 "java/lang/IndexOutOfBoundsException") (by decide +kernel)) (ew_cast hE.1 (by decide +kernel)) h1 h2 h3 ?_
      refine lv_astore_n (lv' := [(3, .ref q), (0, .ref (r 0)), (1, .int a1), (2, .int a2)]) hx hb dL_spoil_9 rfl hl (by decide) rfl (fun ls hl => ?_)
      refine lv_iconst (v := 1) hx hb dL_spoil_10 (by decide) ?_
      exact wx_hret (Nat.le_of_ble_eq_true rfl) (Nat.le_of_ble_eq_true rfl) hx hb hret hlk hK hP hS (by rw [hF]; rfl) rfl rfl dL_spoil_11
    · refine wx_caught (own := RL) (name := "java/lang/IllegalArgumentException") hown [(⟨0, 6, 9, 13⟩ : ExceptionTableEntry)] (⟨0, 6, 12, 15⟩ : ExceptionTableEntry) [] (by rw [ht]; rfl) (fun z hz => by
        simp only [List.mem_cons, List.not_mem_nil, or_false] at hz
        rcases hz with rfl
        · exact ⟨by decide, by decide, "java/lang/IndexOutOfBoundsException", hts (.classLink RL 13 "java/lang/IndexOutOfBoundsException") (by decide +kernel), hE.2 ("java/lang/IllegalArgumentException", "java/lang/IndexOutOfBoundsException") (by decide +kernel)⟩) (by decide) (by decide) (hts (.classLink RL 15 "java/lang/IllegalArgumentException") (by decide +kernel)) (ew_cast hE.1 (by decide +kernel)) h1 h2 h3 ?_
      refine lv_astore_n (lv' := [(3, .ref q), (0, .ref (r 0)), (1, .int a1), (2, .int a2)]) hx hb dL_spoil_12 rfl hl (by decide) rfl (fun ls hl => ?_)
      refine lv_iconst (v := 2) hx hb dL_spoil_13 (by decide) ?_
      exact wx_hret (Nat.le_of_ble_eq_true rfl) (Nat.le_of_ble_eq_true rfl) hx hb hret hlk hK hP hS (by rw [hF]; rfl) rfl rfl dL_spoil_14
  · skip
    refine lv_goto (tgt := 15) hx hb dL_spoil_6 (by decide) ?_
    refine lv_iconst (v := 0) hx hb dL_spoil_15 (by decide) ?_
    exact wx_hret (Nat.le_of_ble_eq_true rfl) (Nat.le_of_ble_eq_true rfl) hx hb hret hlk hK hP hS (by rw [hF]; rfl) rfl rfl dL_spoil_16
theorem er_L_carry {a1 : Int32} {N : String} (h : f_X6_carry a1 = .error N) : N = "java/lang/IllegalArgumentException" := by
  unfold f_X6_carry at h
  revert h
  repeat' (first | split | (intro h; cases h; done) | (intro h; cases h; first | exact rfl))
set_option maxHeartbeats 4000000 in
set_option maxRecDepth 100000 in
theorem c_L_carry (l : Launch) (hlT : l.stackTraces = false) (D : va_G) {r : Nat → Nat} (c : Nat → ClassId) (g : Nat → Int64) (hr : qw_inj r) (S : qw_St) (a1 : Int32) : MH l D r c g yL_carry wsL_carry ({ frames := 8, cells := 1, slots := 6, locals := 125 }) [.ref (r 0), .int a1] S (kd tbA (f_X6_carry a1)) g (g_X6_carry S a1) 1 6 := by
  refine wx_ofH (cc := cL_carry) (nL := 3) (ret := (some .int)) (hh := [(0, 5, 8, 15)]) (lvs := [(0, .ref (r 0)), (1, .int a1)]) (by decide) rfl rfl (Nat.le_of_ble_eq_true rfl) ?_
  intro p e s m below meth c0 ls hx hb hret hml hts hown hlk hK hP hS hl hE ht
  refine lv_aload_n hx hb dL_carry_0 rfl (lv_at hl 0 rfl) ?_
  refine lv_iload_n hx hb dL_carry_1 rfl (lv_at hl 1 rfl) ?_
  refine wh_vV (b := r 0) (C := RX6) (As := [.int a1]) (rest := []) ⟨hx, hb, hml, hown, hts⟩ (c_X6_carry l hlT D c g hr S a1) (cwV 1 hts gL_carry_X6_carry rfl rfl rfl (by decide +kernel) ⟨Nat.le_of_ble_eq_true rfl, Nat.le_of_ble_eq_true rfl⟩) (wx_recv hK hP (by decide) qc_0 rfl) hK hP hS hE.1 rfl hl.1 rfl (lv_room (Nat.le_of_ble_eq_true rfl)) dL_carry_2 ⟨Nat.le_of_ble_eq_true rfl, Nat.le_of_ble_eq_true rfl⟩ (fun N ce q H locs hF hP hS h1 h2 h3 => ?_) (fun H locs hF hP hS => ?_)
  · obtain rfl := er_L_carry hF
    refine wx_caught (own := RL) (name := "java/lang/IllegalArgumentException") hown [] (⟨0, 5, 8, 15⟩ : ExceptionTableEntry) [] (by rw [ht]; rfl) (fun z hz => nomatch hz) (by decide) (by decide) (hts (.classLink RL 15 "java/lang/IllegalArgumentException") (by decide +kernel)) (ew_cast hE.1 (by decide +kernel)) h1 h2 h3 ?_
    refine lv_astore_n (lv' := [(2, .ref q), (0, .ref (r 0)), (1, .int a1)]) hx hb dL_carry_8 rfl hl (by decide) rfl (fun ls hl => ?_)
    refine lv_iconst (v := 1) hx hb dL_carry_9 (by decide) ?_
    exact wx_hret (Nat.le_of_ble_eq_true rfl) (Nat.le_of_ble_eq_true rfl) hx hb hret hlk hK hP hS (by rw [hF]; rfl) rfl rfl dL_carry_10
  · skip
    refine lv_goto (tgt := 11) hx hb dL_carry_5 (by decide) ?_
    refine lv_iconst (v := 0) hx hb dL_carry_11 (by decide) ?_
    exact wx_hret (Nat.le_of_ble_eq_true rfl) (Nat.le_of_ble_eq_true rfl) hx hb hret hlk hK hP hS (by rw [hF]; rfl) rfl rfl dL_carry_12
theorem wk_ok (a1 : Int32) : ∀ (n : Nat) (S : qw_St) (z : Int32), ∃ v, f_X6_weeks_9 a1 n S z = .ok v := by
  intro n
  induction n with
  | zero => intro S z; exact ⟨_, rfl⟩
  | succ n ih =>
    intro S z
    rw [f_X6_weeks_9]
    repeat' (first | split | exact ⟨_, rfl⟩ | exact ih _ _)
theorem er_L_weeks {S : qw_St} {a1 : Int32} {N : String} (h : f_X6_weeks S a1 = .error N) : N = "java/lang/IllegalArgumentException" := by
  unfold f_X6_weeks at h
  split at h
  · obtain ⟨v, e⟩ := wk_ok a1 51 S 0
    rw [e] at h; cases h
  · cases h; rfl
set_option maxHeartbeats 4000000 in
set_option maxRecDepth 100000 in
theorem c_L_weeks (l : Launch) (hlT : l.stackTraces = false) (D : va_G) {r : Nat → Nat} (c : Nat → ClassId) (g : Nat → Int64) (hr : qw_inj r) (S : qw_St) (a1 : Int32) (hI : InvC S) : MH l D r c g yL_weeks wsL_weeks ({ frames := 8, cells := 1, slots := 6, locals := 186 }) [.ref (r 0), .int a1, .ref (r 171)] S (kd tbA (f_X6_weeks S a1)) (gd g (f_X6_weeks S a1)) (g_X6_weeks S a1) 1 6 := by
  refine wx_ofH (cc := cL_weeks) (nL := 4) (ret := (some .int)) (hh := [(0, 9, 12, 15)]) (lvs := [(0, .ref (r 0)), (1, .int a1), (2, .ref (r 171))]) (by decide) rfl rfl (Nat.le_of_ble_eq_true rfl) ?_
  intro p e s m below meth c0 ls hx hb hret hml hts hown hlk hK hP hS hl hE ht
  refine lv_aload_n hx hb dL_weeks_0 rfl (lv_at hl 2 rfl) ?_
  refine lv_iconst (v := 0) hx hb dL_weeks_1 (by decide) ?_
  refine lv_aload_n hx hb dL_weeks_2 rfl (lv_at hl 0 rfl) ?_
  refine lv_iload_n hx hb dL_weeks_3 rfl (lv_at hl 1 rfl) ?_
  refine wh_iV (b := r 0) (C := RX6) (As := [.int a1]) (rest := [.int 0, .ref (r 171)]) ⟨hx, hb, hml, hown, hts⟩ (c_X6_weeks l hlT D c g hr S a1 hI) (cwV 1 hts gL_weeks_X6_weeks rfl rfl rfl (by decide +kernel) ⟨Nat.le_of_ble_eq_true rfl, Nat.le_of_ble_eq_true rfl⟩) (wx_recv hK hP (by decide) qc_0 rfl) hK hP hS hE.1 rfl hl.1 rfl (lv_room (Nat.le_of_ble_eq_true rfl)) dL_weeks_4 ⟨Nat.le_of_ble_eq_true rfl, Nat.le_of_ble_eq_true rfl⟩ (fun N ce q H locs hF hP hS h1 h2 h3 => ?_) (fun v H locs hF hP hS => ?_)
  · obtain rfl := er_L_weeks hF
    refine wx_caught (own := RL) (name := "java/lang/IllegalArgumentException") hown [] (⟨0, 9, 12, 15⟩ : ExceptionTableEntry) [] (by rw [ht]; rfl) (fun z hz => nomatch hz) (by decide) (by decide) (hts (.classLink RL 15 "java/lang/IllegalArgumentException") (by decide +kernel)) (ew_cast hE.1 (by decide +kernel)) h1 h2 h3 ?_
    refine lv_astore_n (lv' := [(3, .ref q), (0, .ref (r 0)), (1, .int a1), (2, .ref (r 171))]) hx hb dL_weeks_12 rfl hl (by decide) rfl (fun ls hl => ?_)
    refine lv_iconst (v := 1) hx hb dL_weeks_13 (by decide) ?_
    exact wx_hret (Nat.le_of_ble_eq_true rfl) (Nat.le_of_ble_eq_true rfl) hx hb hret hlk hK hP hS (by rw [hF]; rfl) (by rw [hF]; rfl) rfl dL_weeks_14
  · refine lv_i2l (v := v.toInt64) hx hb dL_weeks_7 rfl ?_
    refine wx_lst hr hx hb hK hP hS dL_weeks_8 (fun H locs hP hS => ?_)
    refine lv_goto (tgt := 15) hx hb dL_weeks_9 (by decide) ?_
    refine lv_iconst (v := 0) hx hb dL_weeks_15 (by decide) ?_
    exact wx_hret (Nat.le_of_ble_eq_true rfl) (Nat.le_of_ble_eq_true rfl) hx hb hret hlk hK hP hS (by rw [hF]; rfl) (by rw [hF]; rfl) rfl dL_weeks_16
theorem er_L_days {S : qw_St} {a1 : Int32} {N : String} (h : f_X6_days S a1 = .error N) : N = "java/lang/IllegalArgumentException" := by
  unfold f_X6_days at h
  revert h
  repeat' (first | split | (intro h; cases h; done) | (intro h; cases h; first | exact rfl))
set_option maxHeartbeats 4000000 in
set_option maxRecDepth 100000 in
theorem c_L_days (l : Launch) (hlT : l.stackTraces = false) (D : va_G) {r : Nat → Nat} (c : Nat → ClassId) (g : Nat → Int64) (hr : qw_inj r) (S : qw_St) (a1 : Int32) : MH l D r c g yL_days wsL_days ({ frames := 8, cells := 1, slots := 6, locals := 125 }) [.ref (r 0), .int a1, .ref (r 171)] S (kd tbA (f_X6_days S a1)) (gd g (f_X6_days S a1)) (g_X6_days S a1) 1 6 := by
  refine wx_ofH (cc := cL_days) (nL := 4) (ret := (some .int)) (hh := [(0, 9, 12, 15)]) (lvs := [(0, .ref (r 0)), (1, .int a1), (2, .ref (r 171))]) (by decide) rfl rfl (Nat.le_of_ble_eq_true rfl) ?_
  intro p e s m below meth c0 ls hx hb hret hml hts hown hlk hK hP hS hl hE ht
  refine lv_aload_n hx hb dL_days_0 rfl (lv_at hl 2 rfl) ?_
  refine lv_iconst (v := 0) hx hb dL_days_1 (by decide) ?_
  refine lv_aload_n hx hb dL_days_2 rfl (lv_at hl 0 rfl) ?_
  refine lv_iload_n hx hb dL_days_3 rfl (lv_at hl 1 rfl) ?_
  refine wh_iV (b := r 0) (C := RX6) (As := [.int a1]) (rest := [.int 0, .ref (r 171)]) ⟨hx, hb, hml, hown, hts⟩ (c_X6_days l hlT D c g hr S a1) (cwV 1 hts gL_days_X6_days rfl rfl rfl (by decide +kernel) ⟨Nat.le_of_ble_eq_true rfl, Nat.le_of_ble_eq_true rfl⟩) (wx_recv hK hP (by decide) qc_0 rfl) hK hP hS hE.1 rfl hl.1 rfl (lv_room (Nat.le_of_ble_eq_true rfl)) dL_days_4 ⟨Nat.le_of_ble_eq_true rfl, Nat.le_of_ble_eq_true rfl⟩ (fun N ce q H locs hF hP hS h1 h2 h3 => ?_) (fun v H locs hF hP hS => ?_)
  · obtain rfl := er_L_days hF
    refine wx_caught (own := RL) (name := "java/lang/IllegalArgumentException") hown [] (⟨0, 9, 12, 15⟩ : ExceptionTableEntry) [] (by rw [ht]; rfl) (fun z hz => nomatch hz) (by decide) (by decide) (hts (.classLink RL 15 "java/lang/IllegalArgumentException") (by decide +kernel)) (ew_cast hE.1 (by decide +kernel)) h1 h2 h3 ?_
    refine lv_astore_n (lv' := [(3, .ref q), (0, .ref (r 0)), (1, .int a1), (2, .ref (r 171))]) hx hb dL_days_12 rfl hl (by decide) rfl (fun ls hl => ?_)
    refine lv_iconst (v := 1) hx hb dL_days_13 (by decide) ?_
    exact wx_hret (Nat.le_of_ble_eq_true rfl) (Nat.le_of_ble_eq_true rfl) hx hb hret hlk hK hP hS (by rw [hF]; rfl) (by rw [hF]; rfl) rfl dL_days_14
  · refine lv_i2l (v := v.toInt64) hx hb dL_days_7 rfl ?_
    refine wx_lst hr hx hb hK hP hS dL_days_8 (fun H locs hP hS => ?_)
    refine lv_goto (tgt := 15) hx hb dL_days_9 (by decide) ?_
    refine lv_iconst (v := 0) hx hb dL_days_15 (by decide) ?_
    exact wx_hret (Nat.le_of_ble_eq_true rfl) (Nat.le_of_ble_eq_true rfl) hx hb hret hlk hK hP hS (by rw [hF]; rfl) (by rw [hF]; rfl) rfl dL_days_16
theorem er_L_force {S : qw_St} {a1 a2 : Int32} {N : String} (h : f_X6_force S a1 a2 = .error N) : N = "java/lang/IndexOutOfBoundsException" := by
  unfold f_X6_force at h
  revert h
  repeat' (first | split | (intro h; cases h; done) | (intro h; cases h; first | exact rfl))
set_option maxHeartbeats 4000000 in
set_option maxRecDepth 100000 in
theorem c_L_force (l : Launch) (hlT : l.stackTraces = false) (D : va_G) {r : Nat → Nat} (c : Nat → ClassId) (g : Nat → Int64) (hr : qw_inj r) (S : qw_St) (a1 : Int32) (a2 : Int32) (hI : InvC S) : MH l D r c g yL_force wsL_force ({ frames := 8, cells := 1, slots := 6, locals := 125 }) [.ref (r 0), .int a1, .int a2, .ref (r 171)] S (kd tbI (f_X6_force S a1 a2)) (gd g (f_X6_force S a1 a2)) S 1 6 := by
  refine wx_ofH (cc := cL_force) (nL := 5) (ret := (some .int)) (hh := [(0, 10, 13, 13)]) (lvs := [(0, .ref (r 0)), (1, .int a1), (2, .int a2), (3, .ref (r 171))]) (by decide) rfl rfl (Nat.le_of_ble_eq_true rfl) ?_
  intro p e s m below meth c0 ls hx hb hret hml hts hown hlk hK hP hS hl hE ht
  refine lv_aload_n hx hb dL_force_0 rfl (lv_at hl 3 rfl) ?_
  refine lv_iconst (v := 0) hx hb dL_force_1 (by decide) ?_
  refine lv_aload_n hx hb dL_force_2 rfl (lv_at hl 0 rfl) ?_
  refine lv_iload_n hx hb dL_force_3 rfl (lv_at hl 1 rfl) ?_
  refine lv_iload_n hx hb dL_force_4 rfl (lv_at hl 2 rfl) ?_
  refine wh_iV (b := r 0) (C := RX6) (As := [.int a1, .int a2]) (rest := [.int 0, .ref (r 171)]) ⟨hx, hb, hml, hown, hts⟩ (c_X6_force l hlT D c g hr S a1 a2 hI) (cwV 2 hts gL_force_X6_force rfl rfl rfl (by decide +kernel) ⟨Nat.le_of_ble_eq_true rfl, Nat.le_of_ble_eq_true rfl⟩) (wx_recv hK hP (by decide) qc_0 rfl) hK hP hS hE.1 rfl hl.1 rfl (lv_room (Nat.le_of_ble_eq_true rfl)) dL_force_5 ⟨Nat.le_of_ble_eq_true rfl, Nat.le_of_ble_eq_true rfl⟩ (fun N ce q H locs hF hP hS h1 h2 h3 => ?_) (fun v H locs hF hP hS => ?_)
  · obtain rfl := er_L_force hF
    refine wx_caught (own := RL) (name := "java/lang/IndexOutOfBoundsException") hown [] (⟨0, 10, 13, 13⟩ : ExceptionTableEntry) [] (by rw [ht]; rfl) (fun z hz => nomatch hz) (by decide) (by decide) (hts (.classLink RL 13 "java/lang/IndexOutOfBoundsException") (by decide +kernel)) (ew_cast hE.1 (by decide +kernel)) h1 h2 h3 ?_
    refine lv_astore (lv' := [(4, .ref q), (0, .ref (r 0)), (1, .int a1), (2, .int a2), (3, .ref (r 171))]) hx hb dL_force_13 hl (by decide) rfl (fun ls hl => ?_)
    refine lv_iconst (v := 1) hx hb dL_force_15 (by decide) ?_
    exact wx_hret (Nat.le_of_ble_eq_true rfl) (Nat.le_of_ble_eq_true rfl) hx hb hret hlk hK hP hS (by rw [hF]; rfl) (by rw [hF]; rfl) rfl dL_force_16
  · refine lv_i2l (v := v.toInt64) hx hb dL_force_8 rfl ?_
    refine wx_lst hr hx hb hK hP hS dL_force_9 (fun H locs hP hS => ?_)
    refine lv_goto (tgt := 17) hx hb dL_force_10 (by decide) ?_
    refine lv_iconst (v := 0) hx hb dL_force_17 (by decide) ?_
    exact wx_hret (Nat.le_of_ble_eq_true rfl) (Nat.le_of_ble_eq_true rfl) hx hb hret hlk hK hP hS (by rw [hF]; rfl) (by rw [hF]; rfl) rfl dL_force_18
theorem er_L_cap {S : qw_St} {a1 a2 a3 a4 : Int32} {N : String} (h : f_X6_cap S a1 a2 a3 a4 = .error N) : N = "java/lang/IndexOutOfBoundsException" := by
  unfold f_X6_cap at h
  revert h
  repeat' (first | split | (intro h; cases h; done) | (intro h; cases h; first | exact rfl))
set_option maxHeartbeats 4000000 in
set_option maxRecDepth 100000 in
theorem c_L_cap (l : Launch) (hlT : l.stackTraces = false) (D : va_G) {r : Nat → Nat} (c : Nat → ClassId) (g : Nat → Int64) (hr : qw_inj r) (S : qw_St) (a1 : Int32) (a2 : Int32) (a3 : Int32) (a4 : Int32) (hI : InvC S) : MH l D r c g yL_cap wsL_cap ({ frames := 8, cells := 2, slots := 12, locals := 140 }) [.ref (r 0), .int a1, .int a2, .int a3, .int a4, .ref (r 171)] S (kd tbI (f_X6_cap S a1 a2 a3 a4)) (gd g (f_X6_cap S a1 a2 a3 a4)) (g_X6_cap S a1 a2 a3 a4) 2 12 := by
  refine wx_ofH (cc := cL_cap) (nL := 7) (ret := (some .int)) (hh := [(0, 14, 17, 13)]) (lvs := [(0, .ref (r 0)), (1, .int a1), (2, .int a2), (3, .int a3), (4, .int a4), (5, .ref (r 171))]) (by decide) rfl rfl (Nat.le_of_ble_eq_true rfl) ?_
  intro p e s m below meth c0 ls hx hb hret hml hts hown hlk hK hP hS hl hE ht
  refine lv_aload hx hb dL_cap_0 (lv_at hl 5 rfl) ?_
  refine lv_iconst (v := 0) hx hb dL_cap_2 (by decide) ?_
  refine lv_aload_n hx hb dL_cap_3 rfl (lv_at hl 0 rfl) ?_
  refine lv_iload_n hx hb dL_cap_4 rfl (lv_at hl 1 rfl) ?_
  refine lv_iload_n hx hb dL_cap_5 rfl (lv_at hl 2 rfl) ?_
  refine lv_iload_n hx hb dL_cap_6 rfl (lv_at hl 3 rfl) ?_
  refine lv_iload hx hb dL_cap_7 (lv_at hl 4 rfl) ?_
  refine wh_iV (b := r 0) (C := RX6) (As := [.int a1, .int a2, .int a3, .int a4]) (rest := [.int 0, .ref (r 171)]) ⟨hx, hb, hml, hown, hts⟩ (c_X6_cap l hlT D c g hr S a1 a2 a3 a4 hI) (cwV 4 hts gL_cap_X6_cap rfl rfl rfl (by decide +kernel) ⟨Nat.le_of_ble_eq_true rfl, Nat.le_of_ble_eq_true rfl⟩) (wx_recv hK hP (by decide) qc_0 rfl) hK hP hS hE.1 rfl hl.1 rfl (lv_room (Nat.le_of_ble_eq_true rfl)) dL_cap_9 ⟨Nat.le_of_ble_eq_true rfl, Nat.le_of_ble_eq_true rfl⟩ (fun N ce q H locs hF hP hS h1 h2 h3 => ?_) (fun v H locs hF hP hS => ?_)
  · obtain rfl := er_L_cap hF
    refine wx_caught (own := RL) (name := "java/lang/IndexOutOfBoundsException") hown [] (⟨0, 14, 17, 13⟩ : ExceptionTableEntry) [] (by rw [ht]; rfl) (fun z hz => nomatch hz) (by decide) (by decide) (hts (.classLink RL 13 "java/lang/IndexOutOfBoundsException") (by decide +kernel)) (ew_cast hE.1 (by decide +kernel)) h1 h2 h3 ?_
    refine lv_astore (lv' := [(6, .ref q), (0, .ref (r 0)), (1, .int a1), (2, .int a2), (3, .int a3), (4, .int a4), (5, .ref (r 171))]) hx hb dL_cap_17 hl (by decide) rfl (fun ls hl => ?_)
    refine lv_iconst (v := 1) hx hb dL_cap_19 (by decide) ?_
    exact wx_hret (Nat.le_of_ble_eq_true rfl) (Nat.le_of_ble_eq_true rfl) hx hb hret hlk hK hP hS (by rw [hF]; rfl) (by rw [hF]; rfl) rfl dL_cap_20
  · refine lv_i2l (v := v.toInt64) hx hb dL_cap_12 rfl ?_
    refine wx_lst hr hx hb hK hP hS dL_cap_13 (fun H locs hP hS => ?_)
    refine lv_goto (tgt := 21) hx hb dL_cap_14 (by decide) ?_
    refine lv_iconst (v := 0) hx hb dL_cap_21 (by decide) ?_
    exact wx_hret (Nat.le_of_ble_eq_true rfl) (Nat.le_of_ble_eq_true rfl) hx hb hret hlk hK hP hS (by rw [hF]; rfl) (by rw [hF]; rfl) rfl dL_cap_22
theorem er_L_judge {S : qw_St} {a1 a2 a3 a4 a5 : Int32} {N : String} (h : f_X6_judge S a1 a2 a3 a4 a5 = .error N) : N = "java/lang/IndexOutOfBoundsException" ∨ N = "java/lang/IllegalArgumentException" := by
  unfold f_X6_judge at h
  revert h
  repeat' (first | split | (intro h; cases h; done) | (intro h; cases h; first | exact Or.inl rfl | exact Or.inr (rfl)))
set_option maxHeartbeats 4000000 in
set_option maxRecDepth 100000 in
theorem c_L_judge (l : Launch) (hlT : l.stackTraces = false) (D : va_G) {r : Nat → Nat} (c : Nat → ClassId) (g : Nat → Int64) (hr : qw_inj r) (S : qw_St) (a1 : Int32) (a2 : Int32) (a3 : Int32) (a4 : Int32) (a5 : Int32) (hI : InvC S) : MH l D r c g yL_judge wsL_judge ({ frames := 8, cells := 3, slots := 18, locals := 142 }) [.ref (r 0), .int a1, .int a2, .int a3, .int a4, .int a5, .ref (r 171)] S (kd tbG (f_X6_judge S a1 a2 a3 a4 a5)) (gd g (f_X6_judge S a1 a2 a3 a4 a5)) (g_X6_judge S a1 a2 a3 a4 a5) 3 18 := by
  refine wx_ofH (cc := cL_judge) (nL := 8) (ret := (some .int)) (hh := [(0, 16, 19, 13), (0, 16, 23, 15)]) (lvs := [(0, .ref (r 0)), (1, .int a1), (2, .int a2), (3, .int a3), (4, .int a4), (5, .int a5), (6, .ref (r 171))]) (by decide) rfl rfl (Nat.le_of_ble_eq_true rfl) ?_
  intro p e s m below meth c0 ls hx hb hret hml hts hown hlk hK hP hS hl hE ht
  refine lv_aload hx hb dL_judge_0 (lv_at hl 6 rfl) ?_
  refine lv_iconst (v := 0) hx hb dL_judge_2 (by decide) ?_
  refine lv_aload_n hx hb dL_judge_3 rfl (lv_at hl 0 rfl) ?_
  refine lv_iload_n hx hb dL_judge_4 rfl (lv_at hl 1 rfl) ?_
  refine lv_iload_n hx hb dL_judge_5 rfl (lv_at hl 2 rfl) ?_
  refine lv_iload_n hx hb dL_judge_6 rfl (lv_at hl 3 rfl) ?_
  refine lv_iload hx hb dL_judge_7 (lv_at hl 4 rfl) ?_
  refine lv_iload hx hb dL_judge_9 (lv_at hl 5 rfl) ?_
  refine wh_iV (b := r 0) (C := RX6) (As := [.int a1, .int a2, .int a3, .int a4, .int a5]) (rest := [.int 0, .ref (r 171)]) ⟨hx, hb, hml, hown, hts⟩ (c_X6_judge l hlT D c g hr S a1 a2 a3 a4 a5 hI) (cwV 5 hts gL_judge_X6_judge rfl rfl rfl (by decide +kernel) ⟨Nat.le_of_ble_eq_true rfl, Nat.le_of_ble_eq_true rfl⟩) (wx_recv hK hP (by decide) qc_0 rfl) hK hP hS hE.1 rfl hl.1 rfl (lv_room (Nat.le_of_ble_eq_true rfl)) dL_judge_11 ⟨Nat.le_of_ble_eq_true rfl, Nat.le_of_ble_eq_true rfl⟩ (fun N ce q H locs hF hP hS h1 h2 h3 => ?_) (fun v H locs hF hP hS => ?_)
  · rcases er_L_judge hF with rfl | rfl
    · refine wx_caught (own := RL) (name := "java/lang/IndexOutOfBoundsException") hown [] (⟨0, 16, 19, 13⟩ : ExceptionTableEntry) [(⟨0, 16, 23, 15⟩ : ExceptionTableEntry)] (by rw [ht]; rfl) (fun z hz => nomatch hz) (by decide) (by decide) (hts (.classLink RL 13 "java/lang/IndexOutOfBoundsException") (by decide +kernel)) (ew_cast hE.1 (by decide +kernel)) h1 h2 h3 ?_
      refine lv_astore (lv' := [(7, .ref q), (0, .ref (r 0)), (1, .int a1), (2, .int a2), (3, .int a3), (4, .int a4), (5, .int a5), (6, .ref (r 171))]) hx hb dL_judge_19 hl (by decide) rfl (fun ls hl => ?_)
      refine lv_iconst (v := 1) hx hb dL_judge_21 (by decide) ?_
      exact wx_hret (Nat.le_of_ble_eq_true rfl) (Nat.le_of_ble_eq_true rfl) hx hb hret hlk hK hP hS (by rw [hF]; rfl) (by rw [hF]; rfl) rfl dL_judge_22
    · refine wx_caught (own := RL) (name := "java/lang/IllegalArgumentException") hown [(⟨0, 16, 19, 13⟩ : ExceptionTableEntry)] (⟨0, 16, 23, 15⟩ : ExceptionTableEntry) [] (by rw [ht]; rfl) (fun z hz => by
        simp only [List.mem_cons, List.not_mem_nil, or_false] at hz
        rcases hz with rfl
        · exact ⟨by decide, by decide, "java/lang/IndexOutOfBoundsException", hts (.classLink RL 13 "java/lang/IndexOutOfBoundsException") (by decide +kernel), hE.2 ("java/lang/IllegalArgumentException", "java/lang/IndexOutOfBoundsException") (by decide +kernel)⟩) (by decide) (by decide) (hts (.classLink RL 15 "java/lang/IllegalArgumentException") (by decide +kernel)) (ew_cast hE.1 (by decide +kernel)) h1 h2 h3 ?_
      refine lv_astore (lv' := [(7, .ref q), (0, .ref (r 0)), (1, .int a1), (2, .int a2), (3, .int a3), (4, .int a4), (5, .int a5), (6, .ref (r 171))]) hx hb dL_judge_23 hl (by decide) rfl (fun ls hl => ?_)
      refine lv_iconst (v := 2) hx hb dL_judge_25 (by decide) ?_
      exact wx_hret (Nat.le_of_ble_eq_true rfl) (Nat.le_of_ble_eq_true rfl) hx hb hret hlk hK hP hS (by rw [hF]; rfl) (by rw [hF]; rfl) rfl dL_judge_26
  · refine lv_i2l (v := v.toInt64) hx hb dL_judge_14 rfl ?_
    refine wx_lst hr hx hb hK hP hS dL_judge_15 (fun H locs hP hS => ?_)
    refine lv_goto (tgt := 27) hx hb dL_judge_16 (by decide) ?_
    refine lv_iconst (v := 0) hx hb dL_judge_27 (by decide) ?_
    exact wx_hret (Nat.le_of_ble_eq_true rfl) (Nat.le_of_ble_eq_true rfl) hx hb hret hlk hK hP hS (by rw [hF]; rfl) (by rw [hF]; rfl) rfl dL_judge_28
theorem er_L_look {S : qw_St} {a1 a2 a3 : Int32} {N : String} (h : f_X6_look S a1 a2 a3 = .error N) : N = "java/lang/IndexOutOfBoundsException" ∨ N = "java/util/NoSuchElementException" := by
  unfold f_X6_look at h
  revert h
  repeat' (first | split | (intro h; cases h; done) | (intro h; cases h; first | exact Or.inl rfl | exact Or.inr (rfl)))
set_option maxHeartbeats 4000000 in
set_option maxRecDepth 100000 in
theorem c_L_look (l : Launch) (hlT : l.stackTraces = false) (D : va_G) {r : Nat → Nat} (c : Nat → ClassId) (g : Nat → Int64) (hr : qw_inj r) (S : qw_St) (a1 : Int32) (a2 : Int32) (a3 : Int32) (hI : InvC S) : MH l D r c g yL_look wsL_look ({ frames := 8, cells := 3, slots := 18, locals := 164 }) [.ref (r 0), .int a1, .int a2, .int a3, .ref (r 171)] S (kd tbN (f_X6_look S a1 a2 a3)) (gd g (f_X6_look S a1 a2 a3)) (g_X6_look S a1 a2 a3) 3 18 := by
  refine wx_ofH (cc := cL_look) (nL := 6) (ret := (some .int)) (hh := [(0, 12, 15, 13), (0, 12, 19, 31)]) (lvs := [(0, .ref (r 0)), (1, .int a1), (2, .int a2), (3, .int a3), (4, .ref (r 171))]) (by decide) rfl rfl (Nat.le_of_ble_eq_true rfl) ?_
  intro p e s m below meth c0 ls hx hb hret hml hts hown hlk hK hP hS hl hE ht
  refine lv_aload hx hb dL_look_0 (lv_at hl 4 rfl) ?_
  refine lv_iconst (v := 0) hx hb dL_look_2 (by decide) ?_
  refine lv_aload_n hx hb dL_look_3 rfl (lv_at hl 0 rfl) ?_
  refine lv_iload_n hx hb dL_look_4 rfl (lv_at hl 1 rfl) ?_
  refine lv_iload_n hx hb dL_look_5 rfl (lv_at hl 2 rfl) ?_
  refine lv_iload_n hx hb dL_look_6 rfl (lv_at hl 3 rfl) ?_
  refine wh_iV (b := r 0) (C := RX6) (As := [.int a1, .int a2, .int a3]) (rest := [.int 0, .ref (r 171)]) ⟨hx, hb, hml, hown, hts⟩ (c_X6_look l hlT D c g hr S a1 a2 a3 hI) (cwV 3 hts gL_look_X6_look rfl rfl rfl (by decide +kernel) ⟨Nat.le_of_ble_eq_true rfl, Nat.le_of_ble_eq_true rfl⟩) (wx_recv hK hP (by decide) qc_0 rfl) hK hP hS hE.1 rfl hl.1 rfl (lv_room (Nat.le_of_ble_eq_true rfl)) dL_look_7 ⟨Nat.le_of_ble_eq_true rfl, Nat.le_of_ble_eq_true rfl⟩ (fun N ce q H locs hF hP hS h1 h2 h3 => ?_) (fun v H locs hF hP hS => ?_)
  · rcases er_L_look hF with rfl | rfl
    · refine wx_caught (own := RL) (name := "java/lang/IndexOutOfBoundsException") hown [] (⟨0, 12, 15, 13⟩ : ExceptionTableEntry) [(⟨0, 12, 19, 31⟩ : ExceptionTableEntry)] (by rw [ht]; rfl) (fun z hz => nomatch hz) (by decide) (by decide) (hts (.classLink RL 13 "java/lang/IndexOutOfBoundsException") (by decide +kernel)) (ew_cast hE.1 (by decide +kernel)) h1 h2 h3 ?_
      refine lv_astore (lv' := [(5, .ref q), (0, .ref (r 0)), (1, .int a1), (2, .int a2), (3, .int a3), (4, .ref (r 171))]) hx hb dL_look_15 hl (by decide) rfl (fun ls hl => ?_)
      refine lv_iconst (v := 1) hx hb dL_look_17 (by decide) ?_
      exact wx_hret (Nat.le_of_ble_eq_true rfl) (Nat.le_of_ble_eq_true rfl) hx hb hret hlk hK hP hS (by rw [hF]; rfl) (by rw [hF]; rfl) rfl dL_look_18
    · refine wx_caught (own := RL) (name := "java/util/NoSuchElementException") hown [(⟨0, 12, 15, 13⟩ : ExceptionTableEntry)] (⟨0, 12, 19, 31⟩ : ExceptionTableEntry) [] (by rw [ht]; rfl) (fun z hz => by
        simp only [List.mem_cons, List.not_mem_nil, or_false] at hz
        rcases hz with rfl
        · exact ⟨by decide, by decide, "java/lang/IndexOutOfBoundsException", hts (.classLink RL 13 "java/lang/IndexOutOfBoundsException") (by decide +kernel), hE.2 ("java/util/NoSuchElementException", "java/lang/IndexOutOfBoundsException") (by decide +kernel)⟩) (by decide) (by decide) (hts (.classLink RL 31 "java/util/NoSuchElementException") (by decide +kernel)) (ew_cast hE.1 (by decide +kernel)) h1 h2 h3 ?_
      refine lv_astore (lv' := [(5, .ref q), (0, .ref (r 0)), (1, .int a1), (2, .int a2), (3, .int a3), (4, .ref (r 171))]) hx hb dL_look_19 hl (by decide) rfl (fun ls hl => ?_)
      refine lv_iconst (v := 2) hx hb dL_look_21 (by decide) ?_
      exact wx_hret (Nat.le_of_ble_eq_true rfl) (Nat.le_of_ble_eq_true rfl) hx hb hret hlk hK hP hS (by rw [hF]; rfl) (by rw [hF]; rfl) rfl dL_look_22
  · refine lv_i2l (v := v.toInt64) hx hb dL_look_10 rfl ?_
    refine wx_lst hr hx hb hK hP hS dL_look_11 (fun H locs hP hS => ?_)
    refine lv_goto (tgt := 23) hx hb dL_look_12 (by decide) ?_
    refine lv_iconst (v := 0) hx hb dL_look_23 (by decide) ?_
    exact wx_hret (Nat.le_of_ble_eq_true rfl) (Nat.le_of_ble_eq_true rfl) hx hb hret hlk hK hP hS (by rw [hF]; rfl) (by rw [hF]; rfl) rfl dL_look_24
theorem er_L_buys {S : qw_St} {a1 a2 a3 : Int32} {N : String} (h : f_X6_buys S a1 a2 a3 = .error N) : N = "java/lang/IndexOutOfBoundsException" ∨ N = "java/lang/IllegalArgumentException" := by
  unfold f_X6_buys at h
  revert h
  repeat' (first | split | (intro h; cases h; done) | (intro h; cases h; first | exact Or.inl rfl | exact Or.inr (rfl)))
set_option maxHeartbeats 4000000 in
set_option maxRecDepth 100000 in
theorem c_L_buys (l : Launch) (hlT : l.stackTraces = false) (D : va_G) {r : Nat → Nat} (c : Nat → ClassId) (g : Nat → Int64) (hr : qw_inj r) (S : qw_St) (a1 : Int32) (a2 : Int32) (a3 : Int32) (hI : InvC S) : MH l D r c g yL_buys wsL_buys ({ frames := 8, cells := 3, slots := 18, locals := 165 }) [.ref (r 0), .int a1, .int a2, .int a3, .ref (r 171)] S (kd tbG (f_X6_buys S a1 a2 a3)) (gd g (f_X6_buys S a1 a2 a3)) (g_X6_buys S a1 a2 a3) 3 18 := by
  refine wx_ofH (cc := cL_buys) (nL := 6) (ret := (some .int)) (hh := [(0, 12, 15, 13), (0, 12, 19, 15)]) (lvs := [(0, .ref (r 0)), (1, .int a1), (2, .int a2), (3, .int a3), (4, .ref (r 171))]) (by decide) rfl rfl (Nat.le_of_ble_eq_true rfl) ?_
  intro p e s m below meth c0 ls hx hb hret hml hts hown hlk hK hP hS hl hE ht
  refine lv_aload hx hb dL_buys_0 (lv_at hl 4 rfl) ?_
  refine lv_iconst (v := 0) hx hb dL_buys_2 (by decide) ?_
  refine lv_aload_n hx hb dL_buys_3 rfl (lv_at hl 0 rfl) ?_
  refine lv_iload_n hx hb dL_buys_4 rfl (lv_at hl 1 rfl) ?_
  refine lv_iload_n hx hb dL_buys_5 rfl (lv_at hl 2 rfl) ?_
  refine lv_iload_n hx hb dL_buys_6 rfl (lv_at hl 3 rfl) ?_
  refine wh_iV (b := r 0) (C := RX6) (As := [.int a1, .int a2, .int a3]) (rest := [.int 0, .ref (r 171)]) ⟨hx, hb, hml, hown, hts⟩ (c_X6_buys l hlT D c g hr S a1 a2 a3 hI) (cwV 3 hts gL_buys_X6_buys rfl rfl rfl (by decide +kernel) ⟨Nat.le_of_ble_eq_true rfl, Nat.le_of_ble_eq_true rfl⟩) (wx_recv hK hP (by decide) qc_0 rfl) hK hP hS hE.1 rfl hl.1 rfl (lv_room (Nat.le_of_ble_eq_true rfl)) dL_buys_7 ⟨Nat.le_of_ble_eq_true rfl, Nat.le_of_ble_eq_true rfl⟩ (fun N ce q H locs hF hP hS h1 h2 h3 => ?_) (fun v H locs hF hP hS => ?_)
  · rcases er_L_buys hF with rfl | rfl
    · refine wx_caught (own := RL) (name := "java/lang/IndexOutOfBoundsException") hown [] (⟨0, 12, 15, 13⟩ : ExceptionTableEntry) [(⟨0, 12, 19, 15⟩ : ExceptionTableEntry)] (by rw [ht]; rfl) (fun z hz => nomatch hz) (by decide) (by decide) (hts (.classLink RL 13 "java/lang/IndexOutOfBoundsException") (by decide +kernel)) (ew_cast hE.1 (by decide +kernel)) h1 h2 h3 ?_
      refine lv_astore (lv' := [(5, .ref q), (0, .ref (r 0)), (1, .int a1), (2, .int a2), (3, .int a3), (4, .ref (r 171))]) hx hb dL_buys_15 hl (by decide) rfl (fun ls hl => ?_)
      refine lv_iconst (v := 1) hx hb dL_buys_17 (by decide) ?_
      exact wx_hret (Nat.le_of_ble_eq_true rfl) (Nat.le_of_ble_eq_true rfl) hx hb hret hlk hK hP hS (by rw [hF]; rfl) (by rw [hF]; rfl) rfl dL_buys_18
    · refine wx_caught (own := RL) (name := "java/lang/IllegalArgumentException") hown [(⟨0, 12, 15, 13⟩ : ExceptionTableEntry)] (⟨0, 12, 19, 15⟩ : ExceptionTableEntry) [] (by rw [ht]; rfl) (fun z hz => by
        simp only [List.mem_cons, List.not_mem_nil, or_false] at hz
        rcases hz with rfl
        · exact ⟨by decide, by decide, "java/lang/IndexOutOfBoundsException", hts (.classLink RL 13 "java/lang/IndexOutOfBoundsException") (by decide +kernel), hE.2 ("java/lang/IllegalArgumentException", "java/lang/IndexOutOfBoundsException") (by decide +kernel)⟩) (by decide) (by decide) (hts (.classLink RL 15 "java/lang/IllegalArgumentException") (by decide +kernel)) (ew_cast hE.1 (by decide +kernel)) h1 h2 h3 ?_
      refine lv_astore (lv' := [(5, .ref q), (0, .ref (r 0)), (1, .int a1), (2, .int a2), (3, .int a3), (4, .ref (r 171))]) hx hb dL_buys_19 hl (by decide) rfl (fun ls hl => ?_)
      refine lv_iconst (v := 2) hx hb dL_buys_21 (by decide) ?_
      exact wx_hret (Nat.le_of_ble_eq_true rfl) (Nat.le_of_ble_eq_true rfl) hx hb hret hlk hK hP hS (by rw [hF]; rfl) (by rw [hF]; rfl) rfl dL_buys_22
  · refine lv_i2l (v := v.toInt64) hx hb dL_buys_10 rfl ?_
    refine wx_lst hr hx hb hK hP hS dL_buys_11 (fun H locs hP hS => ?_)
    refine lv_goto (tgt := 23) hx hb dL_buys_12 (by decide) ?_
    refine lv_iconst (v := 0) hx hb dL_buys_23 (by decide) ?_
    exact wx_hret (Nat.le_of_ble_eq_true rfl) (Nat.le_of_ble_eq_true rfl) hx hb hret hlk hK hP hS (by rw [hF]; rfl) (by rw [hF]; rfl) rfl dL_buys_24
