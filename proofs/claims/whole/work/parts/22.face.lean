theorem er_X6_needLine {a0 : Int32} {N : String} (h : f_X6_needLine a0 = .error N) : ¬ ok_X6_needLine a0 = true ∧ N = "java/lang/IndexOutOfBoundsException" := by
  unfold f_X6_needLine at h
  split at h
  · cases h
  · next q => cases h; exact ⟨q, rfl⟩
theorem od_X6_needLine {a0 : Int32} (h : f_X6_needLine a0 = .ok 0) : ok_X6_needLine a0 = true := by
  unfold f_X6_needLine at h
  split at h
  · assumption
  · cases h
theorem er_X6_needThing {a0 : Int32} {N : String} (h : f_X6_needThing a0 = .error N) : ¬ ok_X6_needThing a0 = true ∧ N = "java/lang/IndexOutOfBoundsException" := by
  unfold f_X6_needThing at h
  split at h
  · cases h
  · next q => cases h; exact ⟨q, rfl⟩
theorem od_X6_needThing {a0 : Int32} (h : f_X6_needThing a0 = .ok 0) : ok_X6_needThing a0 = true := by
  unfold f_X6_needThing at h
  split at h
  · assumption
  · cases h
theorem er_X6_needTown {S : qw_St} {a1 : Int32} {N : String} (h : f_X6_needTown S a1 = .error N) : ¬ ok_X6_needTown S a1 = true ∧ N = "java/lang/IndexOutOfBoundsException" := by
  unfold f_X6_needTown at h
  split at h
  · cases h
  · next q => cases h; exact ⟨q, rfl⟩
theorem od_X6_needTown {S : qw_St} {a1 : Int32} (h : f_X6_needTown S a1 = .ok 0) : ok_X6_needTown S a1 = true := by
  unfold f_X6_needTown at h
  split at h
  · assumption
  · cases h
theorem er_X6_needWithin {a0 a1 a2 : Int32} {N : String} (h : f_X6_needWithin a0 a1 a2 = .error N) : ¬ ok_X6_needWithin a0 a1 a2 = true ∧ N = "java/lang/IllegalArgumentException" := by
  unfold f_X6_needWithin at h
  split at h
  · cases h
  · next q => cases h; exact ⟨q, rfl⟩
theorem od_X6_needWithin {a0 a1 a2 : Int32} (h : f_X6_needWithin a0 a1 a2 = .ok 0) : ok_X6_needWithin a0 a1 a2 = true := by
  unfold f_X6_needWithin at h
  split at h
  · assumption
  · cases h
theorem er_X6_needWhat {a0 a1 : Int32} {N : String} (h : f_X6_needWhat a0 a1 = .error N) : ¬ ok_X6_needWhat a0 a1 = true ∧ N = "java/util/NoSuchElementException" := by
  unfold f_X6_needWhat at h
  split at h
  · cases h
  · next q => cases h; exact ⟨q, rfl⟩
theorem od_X6_needWhat {a0 a1 : Int32} (h : f_X6_needWhat a0 a1 = .ok 0) : ok_X6_needWhat a0 a1 = true := by
  unfold f_X6_needWhat at h
  split at h
  · assumption
  · cases h
theorem nd_line {a : Int32} : ok_X6_needLine a = true ↔ ¬ a < 0 ∧ a < 30 := by simp [ok_X6_needLine]
theorem nd_thing {a : Int32} : ok_X6_needThing a = true ↔ ¬ a < 0 ∧ a < 6 := by simp [ok_X6_needThing]
theorem nd_town {S : qw_St} {a : Int32} : ok_X6_needTown S a = true ↔ ¬ a < 0 ∧ a < S 0 7 := by simp [ok_X6_needTown]
theorem nd_within {a b c : Int32} : ok_X6_needWithin a b c = true ↔ ¬ a < b ∧ a ≤ c := by simp [ok_X6_needWithin]
theorem nd_what {a b : Int32} : ok_X6_needWhat a b = true ↔ ¬ a < 0 ∧ a ≤ b := by simp [ok_X6_needWhat]
theorem qi_in4 {x y : Int32} {N : Nat} (h0 : ¬ x < 0) (h : x < y) (hy : qz y N) (hN : N < 2 ^ 31) : vp_in x N := qi_in3 h0 (Int32.not_le.mpr h) hy hN
theorem nd_thing_in {a : Int32} (h : ok_X6_needThing a = true) : vp_in a 6 := qi_in4 (nd_thing.mp h).1 (nd_thing.mp h).2 ⟨6, by omega, rfl⟩ (by decide)
theorem nd_town_in {S : qw_St} {a : Int32} (hz : qz (S 0 7) 8) (h : ok_X6_needTown S a = true) : vp_in a 8 := qi_in4 (nd_town.mp h).1 (nd_town.mp h).2 hz (by decide)
theorem nd_within_qz {a c : Int32} {N : Nat} (hc : c = nI N) (hN : N + 1 < 2 ^ 31) (h : ok_X6_needWithin a 0 c = true) : qz a N := by
  have h1 := nd_within.mp h
  rw [Int32.lt_iff_toInt_lt, Int32.le_iff_toInt_le, hc, nI_toInt (by omega)] at h1
  have h9 : (0 : Int32).toInt = 0 := rfl
  have hi : vp_in a (N + 1) := by rw [vp_in_iff]; omega
  obtain ⟨j, hj, e⟩ := vp_in_of hi (by omega)
  exact ⟨j, by omega, e⟩
theorem qz_nlt {x y : Int32} {N : Nat} (h : qz x N) (hN : N < 2 ^ 31) (hy : y = nI N) : ¬ y < x := by obtain ⟨k, hk, e⟩ := h; rw [Int32.lt_iff_toInt_lt, hy, e, nI_toInt hN, nI_toInt (by omega)]; omega
theorem qz_in {x : Int32} {N M : Nat} (h : qz x N) (hM : N < M) (hB : M < 2 ^ 31) : vp_in x M := by obtain ⟨k, hk, e⟩ := h; exact qi_in e (by omega) hB
theorem strikeOut_b (S : qw_St) (a1 a2 : Int32) : f_X2_strikeOut S a1 a2 = 0 ∨ f_X2_strikeOut S a1 a2 = 1 := by unfold f_X2_strikeOut; repeat' (first | split | exact Or.inl rfl | exact Or.inr rfl)
theorem confuse_b (S : qw_St) (a1 a2 : Int32) : f_X2_confuse S a1 a2 = 0 ∨ f_X2_confuse S a1 a2 = 1 := by unfold f_X2_confuse; repeat' (first | split | exact Or.inl rfl | exact Or.inr rfl)
theorem ap_len_3 (a1 : Int32) : ∀ (n : Nat) (S : qw_St) (z : Int32), qz (S 1 1) 400 → qz (g_X3_append_3 a1 n S z 1 1) 400 := by
  intro n
  induction n with
  | zero => intro S z h; exact h
  | succ n ih =>
    intro S z h
    rw [g_X3_append_3]
    split
    · exact h
    · split
      · exact h
      · next c => exact ih _ _ (by rw [up2_same]; exact qz_succ h (by decide) (M := 400) rfl c)
theorem ap_len {S : qw_St} (a1 : Int32) (h : qz (S 1 1) 400) : qz (g_X3_append S a1 1 1) 400 := ap_len_3 a1 _ _ _ h
theorem fr_X3_readCap (S : qw_St) (d : Nat) {k : Nat} (j : Nat) (h : k ≠ 1 ∨ (j ≠ 2 ∧ j ≠ 3)) (h2 : k < 16 + 3 * d ∨ 18 + 3 * d < k) : g_X3_readCap S d k j = S k j := by
  unfold g_X3_readCap
  split
  · rw [fr_X0_capByPrice _ _ _ _ _ (by omega) (by omega), fr_X3_readNumber _ _ _ _ h, fr_X3_readNumber _ _ _ _ h]
  · rw [fr_X3_readNumber _ _ _ _ h, fr_X3_readNumber _ _ _ _ h]
theorem fr_X3_readLine (S : qw_St) (d : Nat) {k : Nat} (j : Nat) (h : k ≠ 1 ∨ (j ≠ 2 ∧ j ≠ 3)) (h2 : k < 16 + 3 * d ∨ 18 + 3 * d < k) : g_X3_readLine S d k j = S k j := by
  unfold g_X3_readLine
  split
  · rw [fr_X0_capByLine _ _ _ _ _ (by omega) (by omega), fr_X3_readNumber _ _ _ _ h, fr_X3_readNumber _ _ _ _ h]
  · rw [fr_X3_readNumber _ _ _ _ h, fr_X3_readNumber _ _ _ _ h]
theorem fr_X3_readCarriage (S : qw_St) (d : Nat) {k : Nat} (j : Nat) (h : k ≠ 1 ∨ (j ≠ 2 ∧ j ≠ 3)) (h2 : k < 16 + 3 * d ∨ 18 + 3 * d < k) : g_X3_readCarriage S d k j = S k j := by
  unfold g_X3_readCarriage
  split
  · rw [up2_ne _ _ (Or.inl (by omega)), fr_X3_readNumber _ _ _ _ h]
  · rw [fr_X3_readNumber _ _ _ _ h]
theorem fr_X3_readCredit (S : qw_St) (d : Nat) {k : Nat} (j : Nat) (h : k ≠ 1 ∨ (j ≠ 2 ∧ j ≠ 3)) (h2 : k < 16 + 3 * d ∨ 18 + 3 * d < k) : g_X3_readCredit S d k j = S k j := by
  unfold g_X3_readCredit
  split
  · rw [up2_ne _ _ (Or.inl (by omega)), fr_X3_readNumber _ _ _ _ h]
  · rw [fr_X3_readNumber _ _ _ _ h]
theorem fr_X3_readFree (S : qw_St) (d : Nat) {k : Nat} (j : Nat) (h : k ≠ 1 ∨ (j ≠ 2 ∧ j ≠ 3)) (h2 : k < 16 + 3 * d ∨ 18 + 3 * d < k) : g_X3_readFree S d k j = S k j := by
  unfold g_X3_readFree g_X0_setFree
  split
  · rw [up2_ne _ _ (Or.inl (by omega)), fr_X3_readNumber _ _ _ _ h]
  · rw [fr_X3_readNumber _ _ _ _ h]
theorem fr_X3_readClause (S : qw_St) (d : Nat) {k : Nat} (j : Nat) (h : k ≠ 1 ∨ (j ≠ 2 ∧ j ≠ 3)) (h2 : k < 16 + 3 * d ∨ 18 + 3 * d < k) : g_X3_readClause S d k j = S k j := by
  have e : g_X3_skipWord (g_X3_skipBlanks S) k j = S k j := by rw [fr_X3_skipWord _ _ (h.imp id (fun q => q.1)), fr_X3_skipBlanks _ _ (h.imp id (fun q => q.1))]
  unfold g_X3_readClause
  rw [← e]
  generalize g_X3_skipWord (g_X3_skipBlanks S) = S2
  split
  · split
    · split
      · split
        · split
          · exact up2_ne _ _ (h.imp id (fun q => q.2))
          · exact fr_X3_readFree _ _ _ h h2
        · exact fr_X3_readCredit _ _ _ h h2
      · exact fr_X3_readCarriage _ _ _ h h2
    · exact fr_X3_readLine _ _ _ h h2
  · exact fr_X3_readCap _ _ _ h h2
theorem fr_X3_readSemicolon (S : qw_St) {k : Nat} (j : Nat) (h : k ≠ 1 ∨ (j ≠ 2 ∧ j ≠ 3)) : g_X3_readSemicolon S k j = S k j := by
  have e : g_X3_skipBlanks S k j = S k j := fr_X3_skipBlanks _ _ (h.imp id (fun q => q.1))
  unfold g_X3_readSemicolon
  split
  · split
    · split
      · rw [up2_ne _ _ (h.imp id (fun q => q.1)), e]
      · rw [up2_ne _ _ (h.imp id (fun q => q.2)), e]
    · exact e
  · rfl
theorem fr_X3_readInto_18 (d : Nat) : ∀ (n : Nat) (S : qw_St) (z2 z3 : Int32) (k j : Nat), (k ≠ 1 ∨ (j ≠ 2 ∧ j ≠ 3)) → (k < 16 + 3 * d ∨ 18 + 3 * d < k) → g_X3_readInto_18 d n S z2 z3 k j = S k j := by
  intro n
  induction n with
  | zero => intro S z2 z3 k j h h2; rfl
  | succ n ih =>
    intro S z2 z3 k j h h2
    rw [g_X3_readInto_18]
    split
    · rfl
    · split
      · rfl
      · rw [ih _ _ _ _ _ h h2, fr_X3_readSemicolon _ _ h, fr_X3_readClause _ _ _ h h2]
theorem fs_X3_readInto (S : qw_St) (d : Nat) {k : Nat} (j : Nat) (h : k ≠ 1 ∨ (j ≠ 2 ∧ j ≠ 3)) (h2 : k < 16 + 3 * d ∨ 18 + 3 * d < k) : g_X3_readInto S d k j = S k j := by
  rw [g_X3_readInto, fr_X3_readInto_18 _ _ _ _ _ _ _ h h2, up2_ne _ _ (h.imp id (fun q => q.2)), up2_ne _ _ (h.imp id (fun q => q.1)), fr_X0_clear _ _ _ h2]
theorem fr_X3_readInto (S : qw_St) (d : Nat) {k : Nat} (j : Nat) (h : k ≠ 1 ∨ (j ≠ 2 ∧ j ≠ 3)) (h2 : k < 16) : g_X3_readInto S d k j = S k j := fs_X3_readInto S d j h (by omega)
theorem InvC.hold_30 (y1 y2 : Int32) (K : qw_St → Int32 → qw_St) (hK : ∀ S z, InvC S → InvC (K S z)) : ∀ (n : Nat) (S : qw_St) (z : Int32), InvC S → InvC (g_X6_holdMarkets_30 y1 y2 K n S z) := by
  intro n
  induction n with
  | zero => intro S z h; exact h
  | succ n ih =>
    intro S z h
    rw [g_X6_holdMarkets_30]
    split
    · exact hK _ _ h
    · exact ih _ _ (InvC.week (InvC.price h _ _) _ _ _ _ _)
theorem InvC.hold_2 : ∀ (n : Nat) (S : qw_St) (z : Int32), InvC S → InvC (g_X6_holdMarkets_2 n S z) := by
  intro n
  induction n with
  | zero => intro S z h; exact h
  | succ n ih =>
    intro S z h
    rw [g_X6_holdMarkets_2]
    split
    · exact h
    · exact InvC.hold_30 _ _ _ (fun S z h => ih S _ h) _ _ _ h
theorem InvC.hold {S : qw_St} (h : InvC S) : InvC (g_X6_holdMarkets S) := InvC.hold_2 _ _ _ h
theorem InvC.slot0 {S : qw_St} (h : InvC S) {j : Nat} (hj : 7 ≠ j) (v : Int32) : InvC (up2 S 0 j v) := h.cong (up2_ne _ _ (Or.inl (by decide))) (up2_ne _ _ (Or.inl (by decide))) (fun _ => up2_ne _ _ (Or.inl (by decide))) (up2_ne _ _ (Or.inr hj))
def g_X6_feed (S : qw_St) (a1 : Int32) (a2 : Int32) (a3 : Int32) (a4 : Int32) (a5 : Int32) : qw_St := (if ((S 1 1) + (20 : Int32)) ≤ (400 : Int32) then (g_X3_append (g_X3_append (g_X3_append (g_X3_append (g_X3_append S a1) a2) a3) a4) a5) else S)
def f_X6_feed (S : qw_St) (a1 : Int32) (a2 : Int32) (a3 : Int32) (a4 : Int32) (a5 : Int32) : Int32 := (if ((S 1 1) + (20 : Int32)) ≤ (400 : Int32) then ((g_X3_append (g_X3_append (g_X3_append (g_X3_append (g_X3_append S a1) a2) a3) a4) a5) 1 1) else (-1 : Int32))
set_option maxHeartbeats 4000000 in
set_option maxRecDepth 100000 in
theorem c_X6_feed (l : Launch) (D : va_G) {r : Nat → Nat} (c : Nat → ClassId) (g : Nat → Int64) (hr : qw_inj r) (S : qw_St) (a1 : Int32) (a2 : Int32) (a3 : Int32) (a4 : Int32) (a5 : Int32) (hz : qz (S 1 1) 400) : MI l D r c g yX6_feed wsX6_feed ({ frames := 1, cells := 0, slots := 0, locals := 22 }) [.ref (r 0), .int a1, .int a2, .int a3, .int a4, .int a5] S (f_X6_feed S a1 a2 a3 a4 a5) (g_X6_feed S a1 a2 a3 a4 a5) := by
  have hiX3 : ∀ w ∈ wsX30, w ∈ wsX6_feed := by decide +kernel
  have hiX6 : ∀ w ∈ wsX60, w ∈ wsX6_feed := by decide +kernel
  refine wx_of (cc := cX6_feed) (nL := 6) (ret := (some .int)) (lvs := [(0, .ref (r 0)), (1, .int a1), (2, .int a2), (3, .int a3), (4, .int a4), (5, .int a5)]) (by decide) rfl rfl (Nat.le_of_ble_eq_true rfl) ?_
  intro p e s m below meth c0 ls hx hb hret hml hts hown hlk hK hP hS hl
  have hP : qw_P D r c g S s.heap := hP
  refine lv_aload_n hx hb dX6_feed_0 rfl (lv_at hl 0 rfl) ?_
  refine wx_get hx hb hts hiX6 hown hK hP 0 (by decide) qc_0 rfl 0 (by decide) (hts (.fieldLink RX6 10 "PriceEdict" "tape" "LPriceEdict$Tape;") (by decide +kernel)) rfl dX6_feed_1 ?_
  refine wx_get hx hb hts hiX3 hown hK hP 1 (by decide) qc_1 rfl 1 (by decide) (hts (.fieldLink RX6 64 "PriceEdict$Tape" "length" "I") (by decide +kernel)) rfl dX6_feed_4 ?_
  refine lv_bipush (v := 20) hx hb dX6_feed_7 (by decide) ?_
  refine lv_iadd hx hb dX6_feed_9 ?_
  refine lv_sipush (v := 400) hx hb dX6_feed_10 (by decide) ?_
  refine lv_icmp_le (tgt := 18) hx hb dX6_feed_13 (by decide) (fun c_13 => ?_) (fun c_13 => ?_)
  · refine lv_aload_n hx hb dX6_feed_18 rfl (lv_at hl 0 rfl) ?_
    refine wx_get hx hb hts hiX6 hown hK hP 0 (by decide) qc_0 rfl 0 (by decide) (hts (.fieldLink RX6 10 "PriceEdict" "tape" "LPriceEdict$Tape;") (by decide +kernel)) rfl dX6_feed_19 ?_
    refine lv_iload_n hx hb dX6_feed_22 rfl (lv_at hl 1 rfl) ?_
    refine wc_vV (k := 1) (C := RX3) (As := [.int a1]) (rest := []) ⟨hx, hb, hml, hown, hts⟩ (c_X3_append l D c g hr S a1 (by first | exact hz | exact ap_len _ hz | exact ap_len _ (ap_len _ hz) | exact ap_len _ (ap_len _ (ap_len _ hz)) | exact ap_len _ (ap_len _ (ap_len _ (ap_len _ hz))))) (cwV 1 hts gX6_feed_X3_append rfl rfl rfl (by decide +kernel) ⟨Nat.le_of_ble_eq_true rfl, Nat.le_of_ble_eq_true rfl⟩) (wx_recv hK hP (by decide) qc_1 rfl) hK hP hS (fun _ h => h) rfl hl.1 rfl (lv_room (Nat.le_of_ble_eq_true rfl)) dX6_feed_23 ⟨Nat.zero_le _, Nat.zero_le _⟩ (fun H locs hP hS => ?_)
    refine lv_aload_n hx hb dX6_feed_26 rfl (lv_at hl 0 rfl) ?_
    refine wx_get hx hb hts hiX6 hown hK hP 0 (by decide) qc_0 rfl 0 (by decide) (hts (.fieldLink RX6 10 "PriceEdict" "tape" "LPriceEdict$Tape;") (by decide +kernel)) rfl dX6_feed_27 ?_
    refine lv_iload_n hx hb dX6_feed_30 rfl (lv_at hl 2 rfl) ?_
    refine wc_vV (k := 1) (C := RX3) (As := [.int a2]) (rest := []) ⟨hx, hb, hml, hown, hts⟩ (c_X3_append l D c g hr (g_X3_append S a1) a2 (by first | exact hz | exact ap_len _ hz | exact ap_len _ (ap_len _ hz) | exact ap_len _ (ap_len _ (ap_len _ hz)) | exact ap_len _ (ap_len _ (ap_len _ (ap_len _ hz))))) (cwV 1 hts gX6_feed_X3_append rfl rfl rfl (by decide +kernel) ⟨Nat.le_of_ble_eq_true rfl, Nat.le_of_ble_eq_true rfl⟩) (wx_recv hK hP (by decide) qc_1 rfl) hK hP hS (fun _ h => h) rfl hl.1 rfl (lv_room (Nat.le_of_ble_eq_true rfl)) dX6_feed_31 ⟨Nat.zero_le _, Nat.zero_le _⟩ (fun H locs hP hS => ?_)
    refine lv_aload_n hx hb dX6_feed_34 rfl (lv_at hl 0 rfl) ?_
    refine wx_get hx hb hts hiX6 hown hK hP 0 (by decide) qc_0 rfl 0 (by decide) (hts (.fieldLink RX6 10 "PriceEdict" "tape" "LPriceEdict$Tape;") (by decide +kernel)) rfl dX6_feed_35 ?_
    refine lv_iload_n hx hb dX6_feed_38 rfl (lv_at hl 3 rfl) ?_
    refine wc_vV (k := 1) (C := RX3) (As := [.int a3]) (rest := []) ⟨hx, hb, hml, hown, hts⟩ (c_X3_append l D c g hr (g_X3_append (g_X3_append S a1) a2) a3 (by first | exact hz | exact ap_len _ hz | exact ap_len _ (ap_len _ hz) | exact ap_len _ (ap_len _ (ap_len _ hz)) | exact ap_len _ (ap_len _ (ap_len _ (ap_len _ hz))))) (cwV 1 hts gX6_feed_X3_append rfl rfl rfl (by decide +kernel) ⟨Nat.le_of_ble_eq_true rfl, Nat.le_of_ble_eq_true rfl⟩) (wx_recv hK hP (by decide) qc_1 rfl) hK hP hS (fun _ h => h) rfl hl.1 rfl (lv_room (Nat.le_of_ble_eq_true rfl)) dX6_feed_39 ⟨Nat.zero_le _, Nat.zero_le _⟩ (fun H locs hP hS => ?_)
    refine lv_aload_n hx hb dX6_feed_42 rfl (lv_at hl 0 rfl) ?_
    refine wx_get hx hb hts hiX6 hown hK hP 0 (by decide) qc_0 rfl 0 (by decide) (hts (.fieldLink RX6 10 "PriceEdict" "tape" "LPriceEdict$Tape;") (by decide +kernel)) rfl dX6_feed_43 ?_
    refine lv_iload hx hb dX6_feed_46 (lv_at hl 4 rfl) ?_
    refine wc_vV (k := 1) (C := RX3) (As := [.int a4]) (rest := []) ⟨hx, hb, hml, hown, hts⟩ (c_X3_append l D c g hr (g_X3_append (g_X3_append (g_X3_append S a1) a2) a3) a4 (by first | exact hz | exact ap_len _ hz | exact ap_len _ (ap_len _ hz) | exact ap_len _ (ap_len _ (ap_len _ hz)) | exact ap_len _ (ap_len _ (ap_len _ (ap_len _ hz))))) (cwV 1 hts gX6_feed_X3_append rfl rfl rfl (by decide +kernel) ⟨Nat.le_of_ble_eq_true rfl, Nat.le_of_ble_eq_true rfl⟩) (wx_recv hK hP (by decide) qc_1 rfl) hK hP hS (fun _ h => h) rfl hl.1 rfl (lv_room (Nat.le_of_ble_eq_true rfl)) dX6_feed_48 ⟨Nat.zero_le _, Nat.zero_le _⟩ (fun H locs hP hS => ?_)
    refine lv_aload_n hx hb dX6_feed_51 rfl (lv_at hl 0 rfl) ?_
    refine wx_get hx hb hts hiX6 hown hK hP 0 (by decide) qc_0 rfl 0 (by decide) (hts (.fieldLink RX6 10 "PriceEdict" "tape" "LPriceEdict$Tape;") (by decide +kernel)) rfl dX6_feed_52 ?_
    refine lv_iload hx hb dX6_feed_55 (lv_at hl 5 rfl) ?_
    refine wc_vV (k := 1) (C := RX3) (As := [.int a5]) (rest := []) ⟨hx, hb, hml, hown, hts⟩ (c_X3_append l D c g hr (g_X3_append (g_X3_append (g_X3_append (g_X3_append S a1) a2) a3) a4) a5 (by first | exact hz | exact ap_len _ hz | exact ap_len _ (ap_len _ hz) | exact ap_len _ (ap_len _ (ap_len _ hz)) | exact ap_len _ (ap_len _ (ap_len _ (ap_len _ hz))))) (cwV 1 hts gX6_feed_X3_append rfl rfl rfl (by decide +kernel) ⟨Nat.le_of_ble_eq_true rfl, Nat.le_of_ble_eq_true rfl⟩) (wx_recv hK hP (by decide) qc_1 rfl) hK hP hS (fun _ h => h) rfl hl.1 rfl (lv_room (Nat.le_of_ble_eq_true rfl)) dX6_feed_57 ⟨Nat.zero_le _, Nat.zero_le _⟩ (fun H locs hP hS => ?_)
    refine lv_aload_n hx hb dX6_feed_60 rfl (lv_at hl 0 rfl) ?_
    refine wx_get hx hb hts hiX6 hown hK hP 0 (by decide) qc_0 rfl 0 (by decide) (hts (.fieldLink RX6 10 "PriceEdict" "tape" "LPriceEdict$Tape;") (by decide +kernel)) rfl dX6_feed_61 ?_
    refine wx_get hx hb hts hiX3 hown hK hP 1 (by decide) qc_1 rfl 1 (by decide) (hts (.fieldLink RX6 64 "PriceEdict$Tape" "length" "I") (by decide +kernel)) rfl dX6_feed_64 ?_
    exact wx_iret hx hb hret hlk hK hP hS (by unfold f_X6_feed; rw [if_pos c_13]) (by unfold g_X6_feed; rw [if_pos c_13]) dX6_feed_67
  · refine lv_iconst (v := (-1)) hx hb dX6_feed_16 (by decide) ?_
    exact wx_iret hx hb hret hlk hK hP hS (by unfold f_X6_feed; rw [if_neg c_13]) (by unfold g_X6_feed; rw [if_neg c_13]) dX6_feed_17
def g_X6_end (S : qw_St) (a1 : Int32) : qw_St := (if a1 < 0 then S else (if a1 ≤ (S 1 1) then (up2 S 1 1 a1) else S))
def f_X6_end (S : qw_St) (a1 : Int32) : Int32 := (if a1 < 0 then (0 : Int32) else (if a1 ≤ (S 1 1) then (1 : Int32) else (0 : Int32)))
set_option maxHeartbeats 4000000 in
set_option maxRecDepth 100000 in
theorem c_X6_end (l : Launch) (D : va_G) {r : Nat → Nat} (c : Nat → ClassId) (g : Nat → Int64) (hr : qw_inj r) (S : qw_St) (a1 : Int32) : MI l D r c g yX6_end wsX6_end ({ frames := 0, cells := 0, slots := 0, locals := 0 }) [.ref (r 0), .int a1] S (f_X6_end S a1) (g_X6_end S a1) := by
  have hiX3 : ∀ w ∈ wsX30, w ∈ wsX6_end := by decide +kernel
  have hiX6 : ∀ w ∈ wsX60, w ∈ wsX6_end := by decide +kernel
  refine wx_of (cc := cX6_end) (nL := 2) (ret := (some .boolean)) (lvs := [(0, .ref (r 0)), (1, .int a1)]) (by decide) rfl rfl (Nat.le_of_ble_eq_true rfl) ?_
  intro p e s m below meth c0 ls hx hb hret hml hts hown hlk hK hP hS hl
  have hP : qw_P D r c g S s.heap := hP
  refine lv_iload_n hx hb dX6_end_0 rfl (lv_at hl 1 rfl) ?_
  refine lv_if_lt (tgt := 15) hx hb dX6_end_1 (by decide) (fun c_1 => ?_) (fun c_1 => ?_)
  · refine lv_iconst (v := 0) hx hb dX6_end_15 (by decide) ?_
    exact wx_zret hx hb hret hlk hK hP hS rfl (by unfold f_X6_end; rw [if_pos c_1]) (by unfold g_X6_end; rw [if_pos c_1]) dX6_end_16
  · refine lv_iload_n hx hb dX6_end_4 rfl (lv_at hl 1 rfl) ?_
    refine lv_aload_n hx hb dX6_end_5 rfl (lv_at hl 0 rfl) ?_
    refine wx_get hx hb hts hiX6 hown hK hP 0 (by decide) qc_0 rfl 0 (by decide) (hts (.fieldLink RX6 10 "PriceEdict" "tape" "LPriceEdict$Tape;") (by decide +kernel)) rfl dX6_end_6 ?_
    refine wx_get hx hb hts hiX3 hown hK hP 1 (by decide) qc_1 rfl 1 (by decide) (hts (.fieldLink RX6 64 "PriceEdict$Tape" "length" "I") (by decide +kernel)) rfl dX6_end_9 ?_
    refine lv_icmp_le (tgt := 17) hx hb dX6_end_12 (by decide) (fun c_12 => ?_) (fun c_12 => ?_)
    · refine lv_aload_n hx hb dX6_end_17 rfl (lv_at hl 0 rfl) ?_
      refine wx_get hx hb hts hiX6 hown hK hP 0 (by decide) qc_0 rfl 0 (by decide) (hts (.fieldLink RX6 10 "PriceEdict" "tape" "LPriceEdict$Tape;") (by decide +kernel)) rfl dX6_end_18 ?_
      refine lv_iload_n hx hb dX6_end_21 rfl (lv_at hl 1 rfl) ?_
      refine wx_put hr hx hb hts hiX3 tyX3 tyX3_ok nmX3 hown hK hP hS 1 (by decide) qc_1 rfl 1 (by decide) (hts (.fieldLink RX6 64 "PriceEdict$Tape" "length" "I") (by decide +kernel)) rfl (by decide +kernel) (fun _ => rfl) (Nat.le_of_ble_eq_true rfl) dX6_end_22 (fun H locs hP hS => ?_)
      refine lv_iconst (v := 1) hx hb dX6_end_25 (by decide) ?_
      exact wx_zret hx hb hret hlk hK hP hS rfl (by unfold f_X6_end; rw [if_neg c_1, if_pos c_12]) (by unfold g_X6_end; rw [if_neg c_1, if_pos c_12]) dX6_end_26
    · refine lv_iconst (v := 0) hx hb dX6_end_15 (by decide) ?_
      exact wx_zret hx hb hret hlk hK hP hS rfl (by unfold f_X6_end; rw [if_neg c_1, if_neg c_12]) (by unfold g_X6_end; rw [if_neg c_1, if_neg c_12]) dX6_end_16
def f_X6_fault (S : qw_St) : Int32 := (S 0 10)
set_option maxHeartbeats 4000000 in
set_option maxRecDepth 100000 in
theorem c_X6_fault (l : Launch) (D : va_G) {r : Nat → Nat} (c : Nat → ClassId) (g : Nat → Int64) (hr : qw_inj r) (S : qw_St) : MI l D r c g yX6_fault wsX6_fault ({ frames := 0, cells := 0, slots := 0, locals := 0 }) [.ref (r 0)] S (f_X6_fault S) S := by
  have hiX6 : ∀ w ∈ wsX60, w ∈ wsX6_fault := by decide +kernel
  refine wx_of (cc := cX6_fault) (nL := 1) (ret := (some .int)) (lvs := [(0, .ref (r 0))]) (by decide) rfl rfl (Nat.le_of_ble_eq_true rfl) ?_
  intro p e s m below meth c0 ls hx hb hret hml hts hown hlk hK hP hS hl
  have hP : qw_P D r c g S s.heap := hP
  refine lv_aload_n hx hb dX6_fault_0 rfl (lv_at hl 0 rfl) ?_
  refine wx_get hx hb hts hiX6 hown hK hP 0 (by decide) qc_0 rfl 10 (by decide) (hts (.fieldLink RX6 59 "PriceEdict" "wrongByte" "I") (by decide +kernel)) rfl dX6_fault_1 ?_
  exact wx_iret hx hb hret hlk hK hP hS (by unfold f_X6_fault; exact rfl) rfl dX6_fault_4
def g_X6_undo (S : qw_St) : qw_St := (if (f_X1_latest S) = (-1 : Int32) then S else (g_X1_tell S (S 0 9) (-1 : Int32)))
def f_X6_undo (S : qw_St) : Int32 := (if (f_X1_latest S) = (-1 : Int32) then (0 : Int32) else (1 : Int32))
set_option maxHeartbeats 4000000 in
set_option maxRecDepth 100000 in
theorem c_X6_undo (l : Launch) (D : va_G) {r : Nat → Nat} (c : Nat → ClassId) (g : Nat → Int64) (hr : qw_inj r) (S : qw_St) (hz : qz (S 11 2) 40) : MI l D r c g yX6_undo wsX6_undo ({ frames := 1, cells := 0, slots := 0, locals := 22 }) [.ref (r 0)] S (f_X6_undo S) (g_X6_undo S) := by
  have hiX6 : ∀ w ∈ wsX60, w ∈ wsX6_undo := by decide +kernel
  refine wx_of (cc := cX6_undo) (nL := 1) (ret := (some .boolean)) (lvs := [(0, .ref (r 0))]) (by decide) rfl rfl (Nat.le_of_ble_eq_true rfl) ?_
  intro p e s m below meth c0 ls hx hb hret hml hts hown hlk hK hP hS hl
  have hP : qw_P D r c g S s.heap := hP
  refine lv_aload_n hx hb dX6_undo_0 rfl (lv_at hl 0 rfl) ?_
  refine wx_get hx hb hts hiX6 hown hK hP 0 (by decide) qc_0 rfl 3 (by decide) (hts (.fieldLink RX6 32 "PriceEdict" "news" "LPriceEdict$News;") (by decide +kernel)) rfl dX6_undo_1 ?_
  refine wc_iV (k := 11) (C := RX1) (As := []) (rest := []) ⟨hx, hb, hml, hown, hts⟩ (c_X1_latest l D c g hr S (by first | assumption | omega)) (cwV 0 hts gX6_undo_X1_latest rfl rfl rfl (by decide +kernel) ⟨Nat.le_of_ble_eq_true rfl, Nat.le_of_ble_eq_true rfl⟩) (wx_recv hK hP (by decide) qc_11 rfl) hK hP hS (fun _ h => h) rfl hl.1 rfl (lv_room (Nat.le_of_ble_eq_true rfl)) dX6_undo_4 ⟨Nat.zero_le _, Nat.zero_le _⟩ (fun H locs hP hS => ?_)
  refine lv_iconst (v := (-1)) hx hb dX6_undo_7 (by decide) ?_
  refine lv_icmp_ne (tgt := 13) hx hb dX6_undo_8 (by decide) (fun c_8 => ?_) (fun c_8 => ?_)
  · refine lv_aload_n hx hb dX6_undo_13 rfl (lv_at hl 0 rfl) ?_
    refine wx_get hx hb hts hiX6 hown hK hP 0 (by decide) qc_0 rfl 3 (by decide) (hts (.fieldLink RX6 32 "PriceEdict" "news" "LPriceEdict$News;") (by decide +kernel)) rfl dX6_undo_14 ?_
    refine lv_aload_n hx hb dX6_undo_17 rfl (lv_at hl 0 rfl) ?_
    refine wx_get hx hb hts hiX6 hown hK hP 0 (by decide) qc_0 rfl 9 (by decide) (hts (.fieldLink RX6 56 "PriceEdict" "today" "I") (by decide +kernel)) rfl dX6_undo_18 ?_
    refine lv_iconst (v := (-1)) hx hb dX6_undo_21 (by decide) ?_
    refine wc_vV (k := 11) (C := RX1) (As := [.int (S 0 9), .int (-1 : Int32)]) (rest := []) ⟨hx, hb, hml, hown, hts⟩ (c_X1_tell l D c g hr S (S 0 9) (-1 : Int32) (by first | assumption | omega)) (cwV 2 hts gX6_undo_X1_tell rfl rfl rfl (by decide +kernel) ⟨Nat.le_of_ble_eq_true rfl, Nat.le_of_ble_eq_true rfl⟩) (wx_recv hK hP (by decide) qc_11 rfl) hK hP hS (fun _ h => h) rfl hl.1 rfl (lv_room (Nat.le_of_ble_eq_true rfl)) dX6_undo_22 ⟨Nat.zero_le _, Nat.zero_le _⟩ (fun H locs hP hS => ?_)
    refine lv_iconst (v := 1) hx hb dX6_undo_25 (by decide) ?_
    exact wx_zret hx hb hret hlk hK hP hS rfl (by unfold f_X6_undo; rw [if_neg c_8]) (by unfold g_X6_undo; rw [if_neg c_8]) dX6_undo_26
  · refine lv_iconst (v := 0) hx hb dX6_undo_11 (by decide) ?_
    exact wx_zret hx hb hret hlk hK hP hS rfl (by unfold f_X6_undo; rw [if_pos c_8]) (by unfold g_X6_undo; rw [if_pos c_8]) dX6_undo_12
def g_X6_count (S : qw_St) (a1 : Int32) : qw_St := (if a1 = 0 then S else (if a1 = 1 then S else (if a1 = 2 then S else (if a1 = 3 then S else (if a1 = 4 then S else (if a1 = 5 then S else (if a1 = 6 then S else (if a1 = 7 then S else (if a1 = 8 then (g_X6_settledLines S) else S)))))))))
def f_X6_count (S : qw_St) (a1 : Int32) : Int32 := (if a1 = 0 then (S 0 9) else (if a1 = 1 then (S 3 6) else (if a1 = 2 then ((S 3 6) - (S 3 7)) else (if a1 = 3 then (S 3 8) else (if a1 = 4 then (S 0 6) else (if a1 = 5 then (S 0 7) else (if a1 = 6 then (f_X6_stockOfAll S) else (if a1 = 7 then (f_X6_hiddenOfAll S) else (if a1 = 8 then (f_X6_settledLines S) else (-1 : Int32))))))))))
set_option maxHeartbeats 4000000 in
set_option maxRecDepth 100000 in
theorem c_X6_count (l : Launch) (D : va_G) {r : Nat → Nat} (c : Nat → ClassId) (g : Nat → Int64) (hr : qw_inj r) (S : qw_St) (a1 : Int32) (hI : InvC S) : MI l D r c g yX6_count wsX6_count ({ frames := 3, cells := 0, slots := 0, locals := 68 }) [.ref (r 0), .int a1] S (f_X6_count S a1) (g_X6_count S a1) := by
  have hiX2 : ∀ w ∈ wsX20, w ∈ wsX6_count := by decide +kernel
  have hiX6 : ∀ w ∈ wsX60, w ∈ wsX6_count := by decide +kernel
  refine wx_of (cc := cX6_count) (nL := 2) (ret := (some .int)) (lvs := [(0, .ref (r 0)), (1, .int a1)]) (by decide) rfl rfl (Nat.le_of_ble_eq_true rfl) ?_
  intro p e s m below meth c0 ls hx hb hret hml hts hown hlk hK hP hS hl
  have hP : qw_P D r c g S s.heap := hP
  refine lv_iload_n hx hb dX6_count_0 rfl (lv_at hl 1 rfl) ?_
  by_cases c_1_0 : a1 = 0
  · refine lv_tableIn (tgt := 52) hx hb dX6_count_1 (by rw [c_1_0]; decide) (by rw [c_1_0]; decide) (by rw [c_1_0]; rfl) (by decide) ?_
    refine lv_aload_n hx hb dX6_count_52 rfl (lv_at hl 0 rfl) ?_
    refine wx_get hx hb hts hiX6 hown hK hP 0 (by decide) qc_0 rfl 9 (by decide) (hts (.fieldLink RX6 56 "PriceEdict" "today" "I") (by decide +kernel)) rfl dX6_count_53 ?_
    exact wx_iret hx hb hret hlk hK hP hS (by unfold f_X6_count; rw [if_pos c_1_0]) (by unfold g_X6_count; rw [if_pos c_1_0]) dX6_count_56
  by_cases c_1_1 : a1 = 1
  · refine lv_tableIn (tgt := 57) hx hb dX6_count_1 (by rw [c_1_1]; decide) (by rw [c_1_1]; decide) (by rw [c_1_1]; rfl) (by decide) ?_
    refine lv_aload_n hx hb dX6_count_57 rfl (lv_at hl 0 rfl) ?_
    refine wx_get hx hb hts hiX6 hown hK hP 0 (by decide) qc_0 rfl 1 (by decide) (hts (.fieldLink RX6 19 "PriceEdict" "stones" "LPriceEdict$Stones;") (by decide +kernel)) rfl dX6_count_58 ?_
    refine wx_get hx hb hts hiX2 hown hK hP 3 (by decide) qc_3 rfl 6 (by decide) (hts (.fieldLink RX6 78 "PriceEdict$Stones" "size" "I") (by decide +kernel)) rfl dX6_count_61 ?_
    exact wx_iret hx hb hret hlk hK hP hS (by unfold f_X6_count; rw [if_neg c_1_0, if_pos c_1_1]) (by unfold g_X6_count; rw [if_neg c_1_0, if_pos c_1_1]) dX6_count_64
  by_cases c_1_2 : a1 = 2
  · refine lv_tableIn (tgt := 65) hx hb dX6_count_1 (by rw [c_1_2]; decide) (by rw [c_1_2]; decide) (by rw [c_1_2]; rfl) (by decide) ?_
    refine lv_aload_n hx hb dX6_count_65 rfl (lv_at hl 0 rfl) ?_
    refine wx_get hx hb hts hiX6 hown hK hP 0 (by decide) qc_0 rfl 1 (by decide) (hts (.fieldLink RX6 19 "PriceEdict" "stones" "LPriceEdict$Stones;") (by decide +kernel)) rfl dX6_count_66 ?_
    refine wx_get hx hb hts hiX2 hown hK hP 3 (by decide) qc_3 rfl 6 (by decide) (hts (.fieldLink RX6 78 "PriceEdict$Stones" "size" "I") (by decide +kernel)) rfl dX6_count_69 ?_
    refine lv_aload_n hx hb dX6_count_72 rfl (lv_at hl 0 rfl) ?_
    refine wx_get hx hb hts hiX6 hown hK hP 0 (by decide) qc_0 rfl 1 (by decide) (hts (.fieldLink RX6 19 "PriceEdict" "stones" "LPriceEdict$Stones;") (by decide +kernel)) rfl dX6_count_73 ?_
    refine wx_get hx hb hts hiX2 hown hK hP 3 (by decide) qc_3 rfl 7 (by decide) (hts (.fieldLink RX6 204 "PriceEdict$Stones" "struckOut" "I") (by decide +kernel)) rfl dX6_count_76 ?_
    refine lv_isub hx hb dX6_count_79 ?_
    exact wx_iret hx hb hret hlk hK hP hS (by unfold f_X6_count; rw [if_neg c_1_0, if_neg c_1_1, if_pos c_1_2]) (by unfold g_X6_count; rw [if_neg c_1_0, if_neg c_1_1, if_pos c_1_2]) dX6_count_80
  by_cases c_1_3 : a1 = 3
  · refine lv_tableIn (tgt := 81) hx hb dX6_count_1 (by rw [c_1_3]; decide) (by rw [c_1_3]; decide) (by rw [c_1_3]; rfl) (by decide) ?_
    refine lv_aload_n hx hb dX6_count_81 rfl (lv_at hl 0 rfl) ?_
    refine wx_get hx hb hts hiX6 hown hK hP 0 (by decide) qc_0 rfl 1 (by decide) (hts (.fieldLink RX6 19 "PriceEdict" "stones" "LPriceEdict$Stones;") (by decide +kernel)) rfl dX6_count_82 ?_
    refine wx_get hx hb hts hiX2 hown hK hP 3 (by decide) qc_3 rfl 8 (by decide) (hts (.fieldLink RX6 207 "PriceEdict$Stones" "habits" "I") (by decide +kernel)) rfl dX6_count_85 ?_
    exact wx_iret hx hb hret hlk hK hP hS (by unfold f_X6_count; rw [if_neg c_1_0, if_neg c_1_1, if_neg c_1_2, if_pos c_1_3]) (by unfold g_X6_count; rw [if_neg c_1_0, if_neg c_1_1, if_neg c_1_2, if_pos c_1_3]) dX6_count_88
  by_cases c_1_4 : a1 = 4
  · refine lv_tableIn (tgt := 89) hx hb dX6_count_1 (by rw [c_1_4]; decide) (by rw [c_1_4]; decide) (by rw [c_1_4]; rfl) (by decide) ?_
    refine lv_aload_n hx hb dX6_count_89 rfl (lv_at hl 0 rfl) ?_
    refine wx_get hx hb hts hiX6 hown hK hP 0 (by decide) qc_0 rfl 6 (by decide) (hts (.fieldLink RX6 46 "PriceEdict" "decreeCount" "I") (by decide +kernel)) rfl dX6_count_90 ?_
    exact wx_iret hx hb hret hlk hK hP hS (by unfold f_X6_count; rw [if_neg c_1_0, if_neg c_1_1, if_neg c_1_2, if_neg c_1_3, if_pos c_1_4]) (by unfold g_X6_count; rw [if_neg c_1_0, if_neg c_1_1, if_neg c_1_2, if_neg c_1_3, if_pos c_1_4]) dX6_count_93
  by_cases c_1_5 : a1 = 5
  · refine lv_tableIn (tgt := 94) hx hb dX6_count_1 (by rw [c_1_5]; decide) (by rw [c_1_5]; decide) (by rw [c_1_5]; rfl) (by decide) ?_
    refine lv_aload_n hx hb dX6_count_94 rfl (lv_at hl 0 rfl) ?_
    refine wx_get hx hb hts hiX6 hown hK hP 0 (by decide) qc_0 rfl 7 (by decide) (hts (.fieldLink RX6 50 "PriceEdict" "townCount" "I") (by decide +kernel)) rfl dX6_count_95 ?_
    exact wx_iret hx hb hret hlk hK hP hS (by unfold f_X6_count; rw [if_neg c_1_0, if_neg c_1_1, if_neg c_1_2, if_neg c_1_3, if_neg c_1_4, if_pos c_1_5]) (by unfold g_X6_count; rw [if_neg c_1_0, if_neg c_1_1, if_neg c_1_2, if_neg c_1_3, if_neg c_1_4, if_pos c_1_5]) dX6_count_98
  by_cases c_1_6 : a1 = 6
  · refine lv_tableIn (tgt := 99) hx hb dX6_count_1 (by rw [c_1_6]; decide) (by rw [c_1_6]; decide) (by rw [c_1_6]; rfl) (by decide) ?_
    refine lv_aload_n hx hb dX6_count_99 rfl (lv_at hl 0 rfl) ?_
    refine wc_iV (k := 0) (C := RX6) (As := []) (rest := []) ⟨hx, hb, hml, hown, hts⟩ (c_X6_stockOfAll l D c g hr S (by first | assumption | omega)) (cwV 0 hts gX6_count_X6_stockOfAll rfl rfl rfl (by decide +kernel) ⟨Nat.le_of_ble_eq_true rfl, Nat.le_of_ble_eq_true rfl⟩) (wx_recv hK hP (by decide) qc_0 rfl) hK hP hS (fun _ h => h) rfl hl.1 rfl (lv_room (Nat.le_of_ble_eq_true rfl)) dX6_count_100 ⟨Nat.zero_le _, Nat.zero_le _⟩ (fun H locs hP hS => ?_)
    exact wx_iret hx hb hret hlk hK hP hS (by unfold f_X6_count; rw [if_neg c_1_0, if_neg c_1_1, if_neg c_1_2, if_neg c_1_3, if_neg c_1_4, if_neg c_1_5, if_pos c_1_6]) (by unfold g_X6_count; rw [if_neg c_1_0, if_neg c_1_1, if_neg c_1_2, if_neg c_1_3, if_neg c_1_4, if_neg c_1_5, if_pos c_1_6]) dX6_count_103
  by_cases c_1_7 : a1 = 7
  · refine lv_tableIn (tgt := 104) hx hb dX6_count_1 (by rw [c_1_7]; decide) (by rw [c_1_7]; decide) (by rw [c_1_7]; rfl) (by decide) ?_
    refine lv_aload_n hx hb dX6_count_104 rfl (lv_at hl 0 rfl) ?_
    refine wc_iV (k := 0) (C := RX6) (As := []) (rest := []) ⟨hx, hb, hml, hown, hts⟩ (c_X6_hiddenOfAll l D c g hr S (by first | assumption | omega)) (cwV 0 hts gX6_count_X6_hiddenOfAll rfl rfl rfl (by decide +kernel) ⟨Nat.le_of_ble_eq_true rfl, Nat.le_of_ble_eq_true rfl⟩) (wx_recv hK hP (by decide) qc_0 rfl) hK hP hS (fun _ h => h) rfl hl.1 rfl (lv_room (Nat.le_of_ble_eq_true rfl)) dX6_count_105 ⟨Nat.zero_le _, Nat.zero_le _⟩ (fun H locs hP hS => ?_)
    exact wx_iret hx hb hret hlk hK hP hS (by unfold f_X6_count; rw [if_neg c_1_0, if_neg c_1_1, if_neg c_1_2, if_neg c_1_3, if_neg c_1_4, if_neg c_1_5, if_neg c_1_6, if_pos c_1_7]) (by unfold g_X6_count; rw [if_neg c_1_0, if_neg c_1_1, if_neg c_1_2, if_neg c_1_3, if_neg c_1_4, if_neg c_1_5, if_neg c_1_6, if_pos c_1_7]) dX6_count_108
  by_cases c_1_8 : a1 = 8
  · refine lv_tableIn (tgt := 109) hx hb dX6_count_1 (by rw [c_1_8]; decide) (by rw [c_1_8]; decide) (by rw [c_1_8]; rfl) (by decide) ?_
    refine lv_aload_n hx hb dX6_count_109 rfl (lv_at hl 0 rfl) ?_
    refine wc_iV (k := 0) (C := RX6) (As := []) (rest := []) ⟨hx, hb, hml, hown, hts⟩ (c_X6_settledLines l D c g hr S (by first | assumption | omega)) (cwV 0 hts gX6_count_X6_settledLines rfl rfl rfl (by decide +kernel) ⟨Nat.le_of_ble_eq_true rfl, Nat.le_of_ble_eq_true rfl⟩) (wx_recv hK hP (by decide) qc_0 rfl) hK hP hS (fun _ h => h) rfl hl.1 rfl (lv_room (Nat.le_of_ble_eq_true rfl)) dX6_count_110 ⟨Nat.zero_le _, Nat.zero_le _⟩ (fun H locs hP hS => ?_)
    exact wx_iret hx hb hret hlk hK hP hS (by unfold f_X6_count; rw [if_neg c_1_0, if_neg c_1_1, if_neg c_1_2, if_neg c_1_3, if_neg c_1_4, if_neg c_1_5, if_neg c_1_6, if_neg c_1_7, if_pos c_1_8]) (by unfold g_X6_count; rw [if_neg c_1_0, if_neg c_1_1, if_neg c_1_2, if_neg c_1_3, if_neg c_1_4, if_neg c_1_5, if_neg c_1_6, if_neg c_1_7, if_pos c_1_8]) dX6_count_113
  refine lv_tableOut (tgt := 114) hx hb dX6_count_1 (sw_out8 c_1_0 c_1_1 c_1_2 c_1_3 c_1_4 c_1_5 c_1_6 c_1_7 c_1_8) (by decide) ?_
  refine lv_iconst (v := (-1)) hx hb dX6_count_114 (by decide) ?_
  exact wx_iret hx hb hret hlk hK hP hS (by unfold f_X6_count; rw [if_neg c_1_0, if_neg c_1_1, if_neg c_1_2, if_neg c_1_3, if_neg c_1_4, if_neg c_1_5, if_neg c_1_6, if_neg c_1_7, if_neg c_1_8]) (by unfold g_X6_count; rw [if_neg c_1_0, if_neg c_1_1, if_neg c_1_2, if_neg c_1_3, if_neg c_1_4, if_neg c_1_5, if_neg c_1_6, if_neg c_1_7, if_neg c_1_8]) dX6_count_115
def g_X6_stone (S : qw_St) (a1 : Int32) (a2 : Int32) (a3 : Int32) (a4 : Int32) (a5 : Int32) : qw_St := (if ok_X6_needLine a1 = true then (if ok_X6_needWithin a2 (-1 : Int32) (9 : Int32) = true then (if ok_X6_needWithin a3 (-1 : Int32) (9 : Int32) = true then (if ok_X6_needWithin a4 (-1 : Int32) (9 : Int32) = true then (if ok_X6_needWithin a5 (-1 : Int32) (9 : Int32) = true then (if (S 3 6) < (60 : Int32) then (g_X2_lay S a1 (S 0 9) a2 a3 a4 a5) else S) else S) else S) else S) else S) else S)
def f_X6_stone (S : qw_St) (a1 : Int32) (a2 : Int32) (a3 : Int32) (a4 : Int32) (a5 : Int32) : Except String Int32 := (if ok_X6_needLine a1 = true then (if ok_X6_needWithin a2 (-1 : Int32) (9 : Int32) = true then (if ok_X6_needWithin a3 (-1 : Int32) (9 : Int32) = true then (if ok_X6_needWithin a4 (-1 : Int32) (9 : Int32) = true then (if ok_X6_needWithin a5 (-1 : Int32) (9 : Int32) = true then (if (S 3 6) < (60 : Int32) then (.ok (f_X2_lay S a1 (S 0 9) a2 a3 a4 a5)) else (.error "java/lang/UnsupportedOperationException")) else (.error "java/lang/IllegalArgumentException")) else (.error "java/lang/IllegalArgumentException")) else (.error "java/lang/IllegalArgumentException")) else (.error "java/lang/IllegalArgumentException")) else (.error "java/lang/IndexOutOfBoundsException"))
set_option maxHeartbeats 4000000 in
set_option maxRecDepth 100000 in
theorem c_X6_stone (l : Launch) (hlT : l.stackTraces = false) (D : va_G) {r : Nat → Nat} (c : Nat → ClassId) (g : Nat → Int64) (hr : qw_inj r) (S : qw_St) (a1 : Int32) (a2 : Int32) (a3 : Int32) (a4 : Int32) (a5 : Int32) (hz : qz (S 3 6) 60) : MXi l D r c g yX6_stone wsX6_stone ({ frames := 7, cells := 6, slots := 36, locals := 104 }) [.ref (r 0), .int a1, .int a2, .int a3, .int a4, .int a5] S (f_X6_stone S a1 a2 a3 a4 a5) (g_X6_stone S a1 a2 a3 a4 a5) 6 36 := by
  have hiX2 : ∀ w ∈ wsX20, w ∈ wsX6_stone := by decide +kernel
  have hiX6 : ∀ w ∈ wsX60, w ∈ wsX6_stone := by decide +kernel
  refine wx_ofX (cc := cX6_stone) (nL := 6) (ret := (some .int)) (lvs := [(0, .ref (r 0)), (1, .int a1), (2, .int a2), (3, .int a3), (4, .int a4), (5, .int a5)]) (by decide) rfl rfl (Nat.le_of_ble_eq_true rfl) ?_
  intro p e s m below meth c0 ls hx hb hret hml hts hown hlk hK hP hS hl hE hnt
  have hP : qw_P D r c g S s.heap := hP
  refine lv_iload_n hx hb dX6_stone_0 rfl (lv_at hl 1 rfl) ?_
  refine we_vS (As := [.int a1]) (rest := []) ⟨hx, hb, hml, hown, hts⟩ (c_X6_needLine l hlT D c g hr S a1) (va_cwS 1 hts gX6_stone_X6_needLine rfl rfl rfl (by decide +kernel) ⟨Nat.le_of_ble_eq_true rfl, Nat.le_of_ble_eq_true rfl⟩) hK hP hS hE rfl hl.1 rfl (lv_room (Nat.le_of_ble_eq_true rfl)) dX6_stone_1 ⟨Nat.le_of_ble_eq_true rfl, Nat.le_of_ble_eq_true rfl⟩ hnt hlk (Nat.le_of_ble_eq_true rfl) (Nat.le_of_ble_eq_true rfl) (fun N hN => ?_) (fun hk H locs hP hS => ?_)
  · obtain ⟨n_1, eN⟩ := er_X6_needLine hN
    subst eN
    exact ⟨Eq.symm (by unfold f_X6_stone; rw [if_neg n_1]), (by unfold g_X6_stone; rw [if_neg n_1])⟩
  have n_1 := od_X6_needLine hk
  refine lv_iload_n hx hb dX6_stone_4 rfl (lv_at hl 2 rfl) ?_
  refine lv_iconst (v := (-1)) hx hb dX6_stone_5 (by decide) ?_
  refine lv_bipush (v := 9) hx hb dX6_stone_6 (by decide) ?_
  refine we_vS (As := [.int a2, .int (-1 : Int32), .int (9 : Int32)]) (rest := []) ⟨hx, hb, hml, hown, hts⟩ (c_X6_needWithin l hlT D c g hr S a2 (-1 : Int32) (9 : Int32)) (va_cwS 3 hts gX6_stone_X6_needWithin rfl rfl rfl (by decide +kernel) ⟨Nat.le_of_ble_eq_true rfl, Nat.le_of_ble_eq_true rfl⟩) hK hP hS hE rfl hl.1 rfl (lv_room (Nat.le_of_ble_eq_true rfl)) dX6_stone_8 ⟨Nat.le_of_ble_eq_true rfl, Nat.le_of_ble_eq_true rfl⟩ hnt hlk (Nat.le_of_ble_eq_true rfl) (Nat.le_of_ble_eq_true rfl) (fun N hN => ?_) (fun hk H locs hP hS => ?_)
  · obtain ⟨n_8, eN⟩ := er_X6_needWithin hN
    subst eN
    exact ⟨Eq.symm (by unfold f_X6_stone; rw [if_pos n_1, if_neg n_8]), (by unfold g_X6_stone; rw [if_pos n_1, if_neg n_8])⟩
  have n_8 := od_X6_needWithin hk
  refine lv_iload_n hx hb dX6_stone_11 rfl (lv_at hl 3 rfl) ?_
  refine lv_iconst (v := (-1)) hx hb dX6_stone_12 (by decide) ?_
  refine lv_bipush (v := 9) hx hb dX6_stone_13 (by decide) ?_
  refine we_vS (As := [.int a3, .int (-1 : Int32), .int (9 : Int32)]) (rest := []) ⟨hx, hb, hml, hown, hts⟩ (c_X6_needWithin l hlT D c g hr S a3 (-1 : Int32) (9 : Int32)) (va_cwS 3 hts gX6_stone_X6_needWithin rfl rfl rfl (by decide +kernel) ⟨Nat.le_of_ble_eq_true rfl, Nat.le_of_ble_eq_true rfl⟩) hK hP hS hE rfl hl.1 rfl (lv_room (Nat.le_of_ble_eq_true rfl)) dX6_stone_15 ⟨Nat.le_of_ble_eq_true rfl, Nat.le_of_ble_eq_true rfl⟩ hnt hlk (Nat.le_of_ble_eq_true rfl) (Nat.le_of_ble_eq_true rfl) (fun N hN => ?_) (fun hk H locs hP hS => ?_)
  · obtain ⟨n_15, eN⟩ := er_X6_needWithin hN
    subst eN
    exact ⟨Eq.symm (by unfold f_X6_stone; rw [if_pos n_1, if_pos n_8, if_neg n_15]), (by unfold g_X6_stone; rw [if_pos n_1, if_pos n_8, if_neg n_15])⟩
  have n_15 := od_X6_needWithin hk
  refine lv_iload hx hb dX6_stone_18 (lv_at hl 4 rfl) ?_
  refine lv_iconst (v := (-1)) hx hb dX6_stone_20 (by decide) ?_
  refine lv_bipush (v := 9) hx hb dX6_stone_21 (by decide) ?_
  refine we_vS (As := [.int a4, .int (-1 : Int32), .int (9 : Int32)]) (rest := []) ⟨hx, hb, hml, hown, hts⟩ (c_X6_needWithin l hlT D c g hr S a4 (-1 : Int32) (9 : Int32)) (va_cwS 3 hts gX6_stone_X6_needWithin rfl rfl rfl (by decide +kernel) ⟨Nat.le_of_ble_eq_true rfl, Nat.le_of_ble_eq_true rfl⟩) hK hP hS hE rfl hl.1 rfl (lv_room (Nat.le_of_ble_eq_true rfl)) dX6_stone_23 ⟨Nat.le_of_ble_eq_true rfl, Nat.le_of_ble_eq_true rfl⟩ hnt hlk (Nat.le_of_ble_eq_true rfl) (Nat.le_of_ble_eq_true rfl) (fun N hN => ?_) (fun hk H locs hP hS => ?_)
  · obtain ⟨n_23, eN⟩ := er_X6_needWithin hN
    subst eN
    exact ⟨Eq.symm (by unfold f_X6_stone; rw [if_pos n_1, if_pos n_8, if_pos n_15, if_neg n_23]), (by unfold g_X6_stone; rw [if_pos n_1, if_pos n_8, if_pos n_15, if_neg n_23])⟩
  have n_23 := od_X6_needWithin hk
  refine lv_iload hx hb dX6_stone_26 (lv_at hl 5 rfl) ?_
  refine lv_iconst (v := (-1)) hx hb dX6_stone_28 (by decide) ?_
  refine lv_bipush (v := 9) hx hb dX6_stone_29 (by decide) ?_
  refine we_vS (As := [.int a5, .int (-1 : Int32), .int (9 : Int32)]) (rest := []) ⟨hx, hb, hml, hown, hts⟩ (c_X6_needWithin l hlT D c g hr S a5 (-1 : Int32) (9 : Int32)) (va_cwS 3 hts gX6_stone_X6_needWithin rfl rfl rfl (by decide +kernel) ⟨Nat.le_of_ble_eq_true rfl, Nat.le_of_ble_eq_true rfl⟩) hK hP hS hE rfl hl.1 rfl (lv_room (Nat.le_of_ble_eq_true rfl)) dX6_stone_31 ⟨Nat.le_of_ble_eq_true rfl, Nat.le_of_ble_eq_true rfl⟩ hnt hlk (Nat.le_of_ble_eq_true rfl) (Nat.le_of_ble_eq_true rfl) (fun N hN => ?_) (fun hk H locs hP hS => ?_)
  · obtain ⟨n_31, eN⟩ := er_X6_needWithin hN
    subst eN
    exact ⟨Eq.symm (by unfold f_X6_stone; rw [if_pos n_1, if_pos n_8, if_pos n_15, if_pos n_23, if_neg n_31]), (by unfold g_X6_stone; rw [if_pos n_1, if_pos n_8, if_pos n_15, if_pos n_23, if_neg n_31])⟩
  have n_31 := od_X6_needWithin hk
  refine lv_aload_n hx hb dX6_stone_34 rfl (lv_at hl 0 rfl) ?_
  refine wx_get hx hb hts hiX6 hown hK hP 0 (by decide) qc_0 rfl 1 (by decide) (hts (.fieldLink RX6 19 "PriceEdict" "stones" "LPriceEdict$Stones;") (by decide +kernel)) rfl dX6_stone_35 ?_
  refine wx_get hx hb hts hiX2 hown hK hP 3 (by decide) qc_3 rfl 6 (by decide) (hts (.fieldLink RX6 78 "PriceEdict$Stones" "size" "I") (by decide +kernel)) rfl dX6_stone_38 ?_
  refine lv_bipush (v := 60) hx hb dX6_stone_41 (by decide) ?_
  refine lv_icmp_lt (tgt := 56) hx hb dX6_stone_43 (by decide) (fun c_43 => ?_) (fun c_43 => ?_)
  · refine lv_aload_n hx hb dX6_stone_56 rfl (lv_at hl 0 rfl) ?_
    refine wx_get hx hb hts hiX6 hown hK hP 0 (by decide) qc_0 rfl 1 (by decide) (hts (.fieldLink RX6 19 "PriceEdict" "stones" "LPriceEdict$Stones;") (by decide +kernel)) rfl dX6_stone_57 ?_
    refine lv_iload_n hx hb dX6_stone_60 rfl (lv_at hl 1 rfl) ?_
    refine lv_aload_n hx hb dX6_stone_61 rfl (lv_at hl 0 rfl) ?_
    refine wx_get hx hb hts hiX6 hown hK hP 0 (by decide) qc_0 rfl 9 (by decide) (hts (.fieldLink RX6 56 "PriceEdict" "today" "I") (by decide +kernel)) rfl dX6_stone_62 ?_
    refine lv_iload_n hx hb dX6_stone_65 rfl (lv_at hl 2 rfl) ?_
    refine lv_iload_n hx hb dX6_stone_66 rfl (lv_at hl 3 rfl) ?_
    refine lv_iload hx hb dX6_stone_67 (lv_at hl 4 rfl) ?_
    refine lv_iload hx hb dX6_stone_69 (lv_at hl 5 rfl) ?_
    refine wc_iV (k := 3) (C := RX2) (As := [.int a1, .int (S 0 9), .int a2, .int a3, .int a4, .int a5]) (rest := []) ⟨hx, hb, hml, hown, hts⟩ (c_X2_lay l D c g hr S a1 (S 0 9) a2 a3 a4 a5 (by first | assumption | omega)) (cwV 6 hts gX6_stone_X2_lay rfl rfl rfl (by decide +kernel) ⟨Nat.le_of_ble_eq_true rfl, Nat.le_of_ble_eq_true rfl⟩) (wx_recv hK hP (by decide) qc_3 rfl) hK hP hS (fun _ h => h) rfl hl.1 rfl (lv_room (Nat.le_of_ble_eq_true rfl)) dX6_stone_71 ⟨Nat.le_of_ble_eq_true rfl, Nat.le_of_ble_eq_true rfl⟩ (fun H locs hP hS => ?_)
    exact wx_xiret (Nat.le_of_ble_eq_true rfl) (Nat.le_of_ble_eq_true rfl) hx hb hret hlk hK hP hS (Eq.symm (by unfold f_X6_stone; rw [if_pos n_1, if_pos n_8, if_pos n_15, if_pos n_23, if_pos n_31, if_pos c_43])) (by unfold g_X6_stone; rw [if_pos n_1, if_pos n_8, if_pos n_15, if_pos n_23, if_pos n_31, if_pos c_43]) dX6_stone_74
  · exact wx_throw (own := RX6) (cls := "java/lang/UnsupportedOperationException") (ik := 81) (ic := 85) (is := 83) (text := "there are 60 STONES") hx hb hlT hts hown (by decide +kernel) (by decide +kernel) (by decide +kernel) (by decide +kernel) (by decide +kernel) (by decide +kernel) (by decide +kernel) hK hP hS hE (hl.1.trans hml.symm) dX6_stone_46 dX6_stone_49 dX6_stone_50 dX6_stone_52 dX6_stone_55 hnt (by decide) (Nat.le_of_ble_eq_true rfl) (Nat.le_of_ble_eq_true rfl) (Nat.le_of_ble_eq_true rfl) hlk (Eq.symm (by unfold f_X6_stone; rw [if_pos n_1, if_pos n_8, if_pos n_15, if_pos n_23, if_pos n_31, if_neg c_43])) (by unfold g_X6_stone; rw [if_pos n_1, if_pos n_8, if_pos n_15, if_pos n_23, if_pos n_31, if_neg c_43]) (Nat.le_of_ble_eq_true rfl) (Nat.le_of_ble_eq_true rfl)
def g_X6_strike (S : qw_St) (a1 : Int32) : qw_St := (if a1 < 0 then S else (if a1 < (S 3 6) then (g_X2_strikeOut S a1 (S 0 9)) else S))
def f_X6_strike (S : qw_St) (a1 : Int32) : Except String Int32 := (if a1 < 0 then (.error "java/lang/IndexOutOfBoundsException") else (if a1 < (S 3 6) then (.ok (f_X2_strikeOut S a1 (S 0 9))) else (.error "java/lang/IndexOutOfBoundsException")))
set_option maxHeartbeats 4000000 in
set_option maxRecDepth 100000 in
theorem c_X6_strike (l : Launch) (hlT : l.stackTraces = false) (D : va_G) {r : Nat → Nat} (c : Nat → ClassId) (g : Nat → Int64) (hr : qw_inj r) (S : qw_St) (a1 : Int32) (hz : qz (S 3 6) 60) : MXi l D r c g yX6_strike wsX6_strike ({ frames := 6, cells := 1, slots := 6, locals := 82 }) [.ref (r 0), .int a1] S (f_X6_strike S a1) (g_X6_strike S a1) 1 6 := by
  have hiX2 : ∀ w ∈ wsX20, w ∈ wsX6_strike := by decide +kernel
  have hiX6 : ∀ w ∈ wsX60, w ∈ wsX6_strike := by decide +kernel
  refine wx_ofX (cc := cX6_strike) (nL := 2) (ret := (some .boolean)) (lvs := [(0, .ref (r 0)), (1, .int a1)]) (by decide) rfl rfl (Nat.le_of_ble_eq_true rfl) ?_
  intro p e s m below meth c0 ls hx hb hret hml hts hown hlk hK hP hS hl hE hnt
  have hP : qw_P D r c g S s.heap := hP
  refine lv_iload_n hx hb dX6_strike_0 rfl (lv_at hl 1 rfl) ?_
  refine lv_if_lt (tgt := 15) hx hb dX6_strike_1 (by decide) (fun c_1 => ?_) (fun c_1 => ?_)
  · exact wx_throw (own := RX6) (cls := "java/lang/IndexOutOfBoundsException") (ik := 92) (ic := 96) (is := 94) (text := "there is no such STONE") hx hb hlT hts hown (by decide +kernel) (by decide +kernel) (by decide +kernel) (by decide +kernel) (by decide +kernel) (by decide +kernel) (by decide +kernel) hK hP hS hE (hl.1.trans hml.symm) dX6_strike_15 dX6_strike_18 dX6_strike_19 dX6_strike_21 dX6_strike_24 hnt (by decide) (Nat.le_of_ble_eq_true rfl) (Nat.le_of_ble_eq_true rfl) (Nat.le_of_ble_eq_true rfl) hlk (Eq.symm (by unfold f_X6_strike; rw [if_pos c_1])) (by unfold g_X6_strike; rw [if_pos c_1]) (Nat.le_of_ble_eq_true rfl) (Nat.le_of_ble_eq_true rfl)
  · refine lv_iload_n hx hb dX6_strike_4 rfl (lv_at hl 1 rfl) ?_
    refine lv_aload_n hx hb dX6_strike_5 rfl (lv_at hl 0 rfl) ?_
    refine wx_get hx hb hts hiX6 hown hK hP 0 (by decide) qc_0 rfl 1 (by decide) (hts (.fieldLink RX6 19 "PriceEdict" "stones" "LPriceEdict$Stones;") (by decide +kernel)) rfl dX6_strike_6 ?_
    refine wx_get hx hb hts hiX2 hown hK hP 3 (by decide) qc_3 rfl 6 (by decide) (hts (.fieldLink RX6 78 "PriceEdict$Stones" "size" "I") (by decide +kernel)) rfl dX6_strike_9 ?_
    refine lv_icmp_lt (tgt := 25) hx hb dX6_strike_12 (by decide) (fun c_12 => ?_) (fun c_12 => ?_)
    · refine lv_aload_n hx hb dX6_strike_25 rfl (lv_at hl 0 rfl) ?_
      refine wx_get hx hb hts hiX6 hown hK hP 0 (by decide) qc_0 rfl 1 (by decide) (hts (.fieldLink RX6 19 "PriceEdict" "stones" "LPriceEdict$Stones;") (by decide +kernel)) rfl dX6_strike_26 ?_
      refine lv_iload_n hx hb dX6_strike_29 rfl (lv_at hl 1 rfl) ?_
      refine lv_aload_n hx hb dX6_strike_30 rfl (lv_at hl 0 rfl) ?_
      refine wx_get hx hb hts hiX6 hown hK hP 0 (by decide) qc_0 rfl 9 (by decide) (hts (.fieldLink RX6 56 "PriceEdict" "today" "I") (by decide +kernel)) rfl dX6_strike_31 ?_
      refine wc_iV (k := 3) (C := RX2) (As := [.int a1, .int (S 0 9)]) (rest := []) ⟨hx, hb, hml, hown, hts⟩ (c_X2_strikeOut l D c g hr S a1 (S 0 9) (qi_in4 c_1 c_12 hz (by decide))) (cwV 2 hts gX6_strike_X2_strikeOut rfl rfl rfl (by decide +kernel) ⟨Nat.le_of_ble_eq_true rfl, Nat.le_of_ble_eq_true rfl⟩) (wx_recv hK hP (by decide) qc_3 rfl) hK hP hS (fun _ h => h) rfl hl.1 rfl (lv_room (Nat.le_of_ble_eq_true rfl)) dX6_strike_34 ⟨Nat.le_of_ble_eq_true rfl, Nat.le_of_ble_eq_true rfl⟩ (fun H locs hP hS => ?_)
      exact wx_xzret (Nat.le_of_ble_eq_true rfl) (Nat.le_of_ble_eq_true rfl) hx hb hret hlk hK hP hS (qn_bool (strikeOut_b _ _ _)) (Eq.symm (by unfold f_X6_strike; rw [if_neg c_1, if_pos c_12])) (by unfold g_X6_strike; rw [if_neg c_1, if_pos c_12]) dX6_strike_37
    · exact wx_throw (own := RX6) (cls := "java/lang/IndexOutOfBoundsException") (ik := 92) (ic := 96) (is := 94) (text := "there is no such STONE") hx hb hlT hts hown (by decide +kernel) (by decide +kernel) (by decide +kernel) (by decide +kernel) (by decide +kernel) (by decide +kernel) (by decide +kernel) hK hP hS hE (hl.1.trans hml.symm) dX6_strike_15 dX6_strike_18 dX6_strike_19 dX6_strike_21 dX6_strike_24 hnt (by decide) (Nat.le_of_ble_eq_true rfl) (Nat.le_of_ble_eq_true rfl) (Nat.le_of_ble_eq_true rfl) hlk (Eq.symm (by unfold f_X6_strike; rw [if_neg c_1, if_neg c_12])) (by unfold g_X6_strike; rw [if_neg c_1, if_neg c_12]) (Nat.le_of_ble_eq_true rfl) (Nat.le_of_ble_eq_true rfl)
def g_X6_habit (S : qw_St) (a1 : Int32) (a2 : Int32) : qw_St := (if ok_X6_needWithin a1 (0 : Int32) (9 : Int32) = true then (if ok_X6_needWithin a2 (0 : Int32) (9 : Int32) = true then (if a1 = a2 then S else (g_X2_confuse S a1 a2)) else S) else S)
def f_X6_habit (S : qw_St) (a1 : Int32) (a2 : Int32) : Except String Int32 := (if ok_X6_needWithin a1 (0 : Int32) (9 : Int32) = true then (if ok_X6_needWithin a2 (0 : Int32) (9 : Int32) = true then (if a1 = a2 then (.error "java/lang/IllegalArgumentException") else (.ok (f_X2_confuse S a1 a2))) else (.error "java/lang/IllegalArgumentException")) else (.error "java/lang/IllegalArgumentException"))
set_option maxHeartbeats 4000000 in
set_option maxRecDepth 100000 in
theorem c_X6_habit (l : Launch) (hlT : l.stackTraces = false) (D : va_G) {r : Nat → Nat} (c : Nat → ClassId) (g : Nat → Int64) (hr : qw_inj r) (S : qw_St) (a1 : Int32) (a2 : Int32) : MXi l D r c g yX6_habit wsX6_habit ({ frames := 7, cells := 3, slots := 18, locals := 104 }) [.ref (r 0), .int a1, .int a2] S (f_X6_habit S a1 a2) (g_X6_habit S a1 a2) 3 18 := by
  have hiX6 : ∀ w ∈ wsX60, w ∈ wsX6_habit := by decide +kernel
  refine wx_ofX (cc := cX6_habit) (nL := 3) (ret := (some .boolean)) (lvs := [(0, .ref (r 0)), (1, .int a1), (2, .int a2)]) (by decide) rfl rfl (Nat.le_of_ble_eq_true rfl) ?_
  intro p e s m below meth c0 ls hx hb hret hml hts hown hlk hK hP hS hl hE hnt
  have hP : qw_P D r c g S s.heap := hP
  refine lv_iload_n hx hb dX6_habit_0 rfl (lv_at hl 1 rfl) ?_
  refine lv_iconst (v := 0) hx hb dX6_habit_1 (by decide) ?_
  refine lv_bipush (v := 9) hx hb dX6_habit_2 (by decide) ?_
  refine we_vS (As := [.int a1, .int (0 : Int32), .int (9 : Int32)]) (rest := []) ⟨hx, hb, hml, hown, hts⟩ (c_X6_needWithin l hlT D c g hr S a1 (0 : Int32) (9 : Int32)) (va_cwS 3 hts gX6_habit_X6_needWithin rfl rfl rfl (by decide +kernel) ⟨Nat.le_of_ble_eq_true rfl, Nat.le_of_ble_eq_true rfl⟩) hK hP hS hE rfl hl.1 rfl (lv_room (Nat.le_of_ble_eq_true rfl)) dX6_habit_4 ⟨Nat.le_of_ble_eq_true rfl, Nat.le_of_ble_eq_true rfl⟩ hnt hlk (Nat.le_of_ble_eq_true rfl) (Nat.le_of_ble_eq_true rfl) (fun N hN => ?_) (fun hk H locs hP hS => ?_)
  · obtain ⟨n_4, eN⟩ := er_X6_needWithin hN
    subst eN
    exact ⟨Eq.symm (by unfold f_X6_habit; rw [if_neg n_4]), (by unfold g_X6_habit; rw [if_neg n_4])⟩
  have n_4 := od_X6_needWithin hk
  refine lv_iload_n hx hb dX6_habit_7 rfl (lv_at hl 2 rfl) ?_
  refine lv_iconst (v := 0) hx hb dX6_habit_8 (by decide) ?_
  refine lv_bipush (v := 9) hx hb dX6_habit_9 (by decide) ?_
  refine we_vS (As := [.int a2, .int (0 : Int32), .int (9 : Int32)]) (rest := []) ⟨hx, hb, hml, hown, hts⟩ (c_X6_needWithin l hlT D c g hr S a2 (0 : Int32) (9 : Int32)) (va_cwS 3 hts gX6_habit_X6_needWithin rfl rfl rfl (by decide +kernel) ⟨Nat.le_of_ble_eq_true rfl, Nat.le_of_ble_eq_true rfl⟩) hK hP hS hE rfl hl.1 rfl (lv_room (Nat.le_of_ble_eq_true rfl)) dX6_habit_11 ⟨Nat.le_of_ble_eq_true rfl, Nat.le_of_ble_eq_true rfl⟩ hnt hlk (Nat.le_of_ble_eq_true rfl) (Nat.le_of_ble_eq_true rfl) (fun N hN => ?_) (fun hk H locs hP hS => ?_)
  · obtain ⟨n_11, eN⟩ := er_X6_needWithin hN
    subst eN
    exact ⟨Eq.symm (by unfold f_X6_habit; rw [if_pos n_4, if_neg n_11]), (by unfold g_X6_habit; rw [if_pos n_4, if_neg n_11])⟩
  have n_11 := od_X6_needWithin hk
  refine lv_iload_n hx hb dX6_habit_14 rfl (lv_at hl 1 rfl) ?_
  refine lv_iload_n hx hb dX6_habit_15 rfl (lv_at hl 2 rfl) ?_
  refine lv_icmp_ne (tgt := 29) hx hb dX6_habit_16 (by decide) (fun c_16 => ?_) (fun c_16 => ?_)
  · refine lv_aload_n hx hb dX6_habit_29 rfl (lv_at hl 0 rfl) ?_
    refine wx_get hx hb hts hiX6 hown hK hP 0 (by decide) qc_0 rfl 1 (by decide) (hts (.fieldLink RX6 19 "PriceEdict" "stones" "LPriceEdict$Stones;") (by decide +kernel)) rfl dX6_habit_30 ?_
    refine lv_iload_n hx hb dX6_habit_33 rfl (lv_at hl 1 rfl) ?_
    refine lv_iload_n hx hb dX6_habit_34 rfl (lv_at hl 2 rfl) ?_
    refine wc_iV (k := 3) (C := RX2) (As := [.int a1, .int a2]) (rest := []) ⟨hx, hb, hml, hown, hts⟩ (c_X2_confuse l D c g hr S a1 a2 (qz_in (nd_within_qz (N := 9) rfl (by decide) n_4) (by decide) (by decide)) (qz_in (nd_within_qz (N := 9) rfl (by decide) n_11) (by decide) (by decide))) (cwV 2 hts gX6_habit_X2_confuse rfl rfl rfl (by decide +kernel) ⟨Nat.le_of_ble_eq_true rfl, Nat.le_of_ble_eq_true rfl⟩) (wx_recv hK hP (by decide) qc_3 rfl) hK hP hS (fun _ h => h) rfl hl.1 rfl (lv_room (Nat.le_of_ble_eq_true rfl)) dX6_habit_35 ⟨Nat.le_of_ble_eq_true rfl, Nat.le_of_ble_eq_true rfl⟩ (fun H locs hP hS => ?_)
    exact wx_xzret (Nat.le_of_ble_eq_true rfl) (Nat.le_of_ble_eq_true rfl) hx hb hret hlk hK hP hS (qn_bool (confuse_b _ _ _)) (Eq.symm (by unfold f_X6_habit; rw [if_pos n_4, if_pos n_11, if_neg c_16])) (by unfold g_X6_habit; rw [if_pos n_4, if_pos n_11, if_neg c_16]) dX6_habit_38
  · exact wx_throw (own := RX6) (cls := "java/lang/IllegalArgumentException") (ik := 101) (ic := 105) (is := 103) (text := "the figures are one") hx hb hlT hts hown (by decide +kernel) (by decide +kernel) (by decide +kernel) (by decide +kernel) (by decide +kernel) (by decide +kernel) (by decide +kernel) hK hP hS hE (hl.1.trans hml.symm) dX6_habit_19 dX6_habit_22 dX6_habit_23 dX6_habit_25 dX6_habit_28 hnt (by decide) (Nat.le_of_ble_eq_true rfl) (Nat.le_of_ble_eq_true rfl) (Nat.le_of_ble_eq_true rfl) hlk (Eq.symm (by unfold f_X6_habit; rw [if_pos n_4, if_pos n_11, if_pos c_16])) (by unfold g_X6_habit; rw [if_pos n_4, if_pos n_11, if_pos c_16]) (Nat.le_of_ble_eq_true rfl) (Nat.le_of_ble_eq_true rfl)
def g_X6_agree (S : qw_St) (a1 : Int32) (a2 : Int32) (a3 : Int32) : qw_St := (if ok_X6_needLine a1 = true then (if ok_X6_needWhat a3 (3 : Int32) = true then (if a3 = 0 then (g_X2_compare S a1 a2) else (if a3 = 1 then (g_X2_compare S a1 a2) else (if a3 = 2 then (g_X2_compare S a1 a2) else (if (f_X2_agreeing (g_X2_compare S a1 a2)) = (1 : Int32) then (g_X2_compare S a1 a2) else (g_X2_compare S a1 a2))))) else S) else S)
def f_X6_agree (S : qw_St) (a1 : Int32) (a2 : Int32) (a3 : Int32) : Except String Int32 := (if ok_X6_needLine a1 = true then (if ok_X6_needWhat a3 (3 : Int32) = true then (if a3 = 0 then (.ok (f_X2_agreeing (g_X2_compare S a1 a2))) else (if a3 = 1 then (.ok (f_X2_least (g_X2_compare S a1 a2))) else (if a3 = 2 then (.ok (f_X2_greatest (g_X2_compare S a1 a2))) else (if (f_X2_agreeing (g_X2_compare S a1 a2)) = (1 : Int32) then (.ok (1 : Int32)) else (.ok (0 : Int32)))))) else (.error "java/util/NoSuchElementException")) else (.error "java/lang/IndexOutOfBoundsException"))
set_option maxHeartbeats 4000000 in
set_option maxRecDepth 100000 in
theorem c_X6_agree (l : Launch) (hlT : l.stackTraces = false) (D : va_G) {r : Nat → Nat} (c : Nat → ClassId) (g : Nat → Int64) (hr : qw_inj r) (S : qw_St) (a1 : Int32) (a2 : Int32) (a3 : Int32) (hz : qz (S 3 6) 60) : MXi l D r c g yX6_agree wsX6_agree ({ frames := 7, cells := 2, slots := 12, locals := 103 }) [.ref (r 0), .int a1, .int a2, .int a3] S (f_X6_agree S a1 a2 a3) (g_X6_agree S a1 a2 a3) 2 12 := by
  have hiX6 : ∀ w ∈ wsX60, w ∈ wsX6_agree := by decide +kernel
  refine wx_ofX (cc := cX6_agree) (nL := 4) (ret := (some .int)) (lvs := [(0, .ref (r 0)), (1, .int a1), (2, .int a2), (3, .int a3)]) (by decide) rfl rfl (Nat.le_of_ble_eq_true rfl) ?_
  intro p e s m below meth c0 ls hx hb hret hml hts hown hlk hK hP hS hl hE hnt
  have hP : qw_P D r c g S s.heap := hP
  refine lv_iload_n hx hb dX6_agree_0 rfl (lv_at hl 1 rfl) ?_
  refine we_vS (As := [.int a1]) (rest := []) ⟨hx, hb, hml, hown, hts⟩ (c_X6_needLine l hlT D c g hr S a1) (va_cwS 1 hts gX6_agree_X6_needLine rfl rfl rfl (by decide +kernel) ⟨Nat.le_of_ble_eq_true rfl, Nat.le_of_ble_eq_true rfl⟩) hK hP hS hE rfl hl.1 rfl (lv_room (Nat.le_of_ble_eq_true rfl)) dX6_agree_1 ⟨Nat.le_of_ble_eq_true rfl, Nat.le_of_ble_eq_true rfl⟩ hnt hlk (Nat.le_of_ble_eq_true rfl) (Nat.le_of_ble_eq_true rfl) (fun N hN => ?_) (fun hk H locs hP hS => ?_)
  · obtain ⟨n_1, eN⟩ := er_X6_needLine hN
    subst eN
    exact ⟨Eq.symm (by unfold f_X6_agree; rw [if_neg n_1]), (by unfold g_X6_agree; rw [if_neg n_1])⟩
  have n_1 := od_X6_needLine hk
  refine lv_iload_n hx hb dX6_agree_4 rfl (lv_at hl 3 rfl) ?_
  refine lv_iconst (v := 3) hx hb dX6_agree_5 (by decide) ?_
  refine we_vS (As := [.int a3, .int (3 : Int32)]) (rest := []) ⟨hx, hb, hml, hown, hts⟩ (c_X6_needWhat l hlT D c g hr S a3 (3 : Int32)) (va_cwS 2 hts gX6_agree_X6_needWhat rfl rfl rfl (by decide +kernel) ⟨Nat.le_of_ble_eq_true rfl, Nat.le_of_ble_eq_true rfl⟩) hK hP hS hE rfl hl.1 rfl (lv_room (Nat.le_of_ble_eq_true rfl)) dX6_agree_6 ⟨Nat.le_of_ble_eq_true rfl, Nat.le_of_ble_eq_true rfl⟩ hnt hlk (Nat.le_of_ble_eq_true rfl) (Nat.le_of_ble_eq_true rfl) (fun N hN => ?_) (fun hk H locs hP hS => ?_)
  · obtain ⟨n_6, eN⟩ := er_X6_needWhat hN
    subst eN
    exact ⟨Eq.symm (by unfold f_X6_agree; rw [if_pos n_1, if_neg n_6]), (by unfold g_X6_agree; rw [if_pos n_1, if_neg n_6])⟩
  have n_6 := od_X6_needWhat hk
  refine lv_aload_n hx hb dX6_agree_9 rfl (lv_at hl 0 rfl) ?_
  refine wx_get hx hb hts hiX6 hown hK hP 0 (by decide) qc_0 rfl 1 (by decide) (hts (.fieldLink RX6 19 "PriceEdict" "stones" "LPriceEdict$Stones;") (by decide +kernel)) rfl dX6_agree_10 ?_
  refine lv_iload_n hx hb dX6_agree_13 rfl (lv_at hl 1 rfl) ?_
  refine lv_iload_n hx hb dX6_agree_14 rfl (lv_at hl 2 rfl) ?_
  refine wc_vV (k := 3) (C := RX2) (As := [.int a1, .int a2]) (rest := []) ⟨hx, hb, hml, hown, hts⟩ (c_X2_compare l D c g hr S a1 a2 (by first | assumption | omega)) (cwV 2 hts gX6_agree_X2_compare rfl rfl rfl (by decide +kernel) ⟨Nat.le_of_ble_eq_true rfl, Nat.le_of_ble_eq_true rfl⟩) (wx_recv hK hP (by decide) qc_3 rfl) hK hP hS (fun _ h => h) rfl hl.1 rfl (lv_room (Nat.le_of_ble_eq_true rfl)) dX6_agree_15 ⟨Nat.le_of_ble_eq_true rfl, Nat.le_of_ble_eq_true rfl⟩ (fun H locs hP hS => ?_)
  refine lv_iload_n hx hb dX6_agree_18 rfl (lv_at hl 3 rfl) ?_
  by_cases c_19_0 : a3 = 0
  · refine lv_tableIn (tgt := 44) hx hb dX6_agree_19 (by rw [c_19_0]; decide) (by rw [c_19_0]; decide) (by rw [c_19_0]; rfl) (by decide) ?_
    refine lv_aload_n hx hb dX6_agree_44 rfl (lv_at hl 0 rfl) ?_
    refine wx_get hx hb hts hiX6 hown hK hP 0 (by decide) qc_0 rfl 1 (by decide) (hts (.fieldLink RX6 19 "PriceEdict" "stones" "LPriceEdict$Stones;") (by decide +kernel)) rfl dX6_agree_45 ?_
    refine wc_iV (k := 3) (C := RX2) (As := []) (rest := []) ⟨hx, hb, hml, hown, hts⟩ (c_X2_agreeing l D c g hr (g_X2_compare S a1 a2)) (cwV 0 hts gX6_agree_X2_agreeing rfl rfl rfl (by decide +kernel) ⟨Nat.le_of_ble_eq_true rfl, Nat.le_of_ble_eq_true rfl⟩) (wx_recv hK hP (by decide) qc_3 rfl) hK hP hS (fun _ h => h) rfl hl.1 rfl (lv_room (Nat.le_of_ble_eq_true rfl)) dX6_agree_48 ⟨Nat.le_of_ble_eq_true rfl, Nat.le_of_ble_eq_true rfl⟩ (fun H locs hP hS => ?_)
    exact wx_xiret (Nat.le_of_ble_eq_true rfl) (Nat.le_of_ble_eq_true rfl) hx hb hret hlk hK hP hS (Eq.symm (by unfold f_X6_agree; rw [if_pos n_1, if_pos n_6, if_pos c_19_0])) (by unfold g_X6_agree; rw [if_pos n_1, if_pos n_6, if_pos c_19_0]) dX6_agree_51
  by_cases c_19_1 : a3 = 1
  · refine lv_tableIn (tgt := 52) hx hb dX6_agree_19 (by rw [c_19_1]; decide) (by rw [c_19_1]; decide) (by rw [c_19_1]; rfl) (by decide) ?_
    refine lv_aload_n hx hb dX6_agree_52 rfl (lv_at hl 0 rfl) ?_
    refine wx_get hx hb hts hiX6 hown hK hP 0 (by decide) qc_0 rfl 1 (by decide) (hts (.fieldLink RX6 19 "PriceEdict" "stones" "LPriceEdict$Stones;") (by decide +kernel)) rfl dX6_agree_53 ?_
    refine wc_iV (k := 3) (C := RX2) (As := []) (rest := []) ⟨hx, hb, hml, hown, hts⟩ (c_X2_least l D c g hr (g_X2_compare S a1 a2)) (cwV 0 hts gX6_agree_X2_least rfl rfl rfl (by decide +kernel) ⟨Nat.le_of_ble_eq_true rfl, Nat.le_of_ble_eq_true rfl⟩) (wx_recv hK hP (by decide) qc_3 rfl) hK hP hS (fun _ h => h) rfl hl.1 rfl (lv_room (Nat.le_of_ble_eq_true rfl)) dX6_agree_56 ⟨Nat.le_of_ble_eq_true rfl, Nat.le_of_ble_eq_true rfl⟩ (fun H locs hP hS => ?_)
    exact wx_xiret (Nat.le_of_ble_eq_true rfl) (Nat.le_of_ble_eq_true rfl) hx hb hret hlk hK hP hS (Eq.symm (by unfold f_X6_agree; rw [if_pos n_1, if_pos n_6, if_neg c_19_0, if_pos c_19_1])) (by unfold g_X6_agree; rw [if_pos n_1, if_pos n_6, if_neg c_19_0, if_pos c_19_1]) dX6_agree_59
  by_cases c_19_2 : a3 = 2
  · refine lv_tableIn (tgt := 60) hx hb dX6_agree_19 (by rw [c_19_2]; decide) (by rw [c_19_2]; decide) (by rw [c_19_2]; rfl) (by decide) ?_
    refine lv_aload_n hx hb dX6_agree_60 rfl (lv_at hl 0 rfl) ?_
    refine wx_get hx hb hts hiX6 hown hK hP 0 (by decide) qc_0 rfl 1 (by decide) (hts (.fieldLink RX6 19 "PriceEdict" "stones" "LPriceEdict$Stones;") (by decide +kernel)) rfl dX6_agree_61 ?_
    refine wc_iV (k := 3) (C := RX2) (As := []) (rest := []) ⟨hx, hb, hml, hown, hts⟩ (c_X2_greatest l D c g hr (g_X2_compare S a1 a2)) (cwV 0 hts gX6_agree_X2_greatest rfl rfl rfl (by decide +kernel) ⟨Nat.le_of_ble_eq_true rfl, Nat.le_of_ble_eq_true rfl⟩) (wx_recv hK hP (by decide) qc_3 rfl) hK hP hS (fun _ h => h) rfl hl.1 rfl (lv_room (Nat.le_of_ble_eq_true rfl)) dX6_agree_64 ⟨Nat.le_of_ble_eq_true rfl, Nat.le_of_ble_eq_true rfl⟩ (fun H locs hP hS => ?_)
    exact wx_xiret (Nat.le_of_ble_eq_true rfl) (Nat.le_of_ble_eq_true rfl) hx hb hret hlk hK hP hS (Eq.symm (by unfold f_X6_agree; rw [if_pos n_1, if_pos n_6, if_neg c_19_0, if_neg c_19_1, if_pos c_19_2])) (by unfold g_X6_agree; rw [if_pos n_1, if_pos n_6, if_neg c_19_0, if_neg c_19_1, if_pos c_19_2]) dX6_agree_67
  refine lv_tableOut (tgt := 68) hx hb dX6_agree_19 (sw_out2 c_19_0 c_19_1 c_19_2) (by decide) ?_
  refine lv_aload_n hx hb dX6_agree_68 rfl (lv_at hl 0 rfl) ?_
  refine wx_get hx hb hts hiX6 hown hK hP 0 (by decide) qc_0 rfl 1 (by decide) (hts (.fieldLink RX6 19 "PriceEdict" "stones" "LPriceEdict$Stones;") (by decide +kernel)) rfl dX6_agree_69 ?_
  refine wc_iV (k := 3) (C := RX2) (As := []) (rest := []) ⟨hx, hb, hml, hown, hts⟩ (c_X2_agreeing l D c g hr (g_X2_compare S a1 a2)) (cwV 0 hts gX6_agree_X2_agreeing rfl rfl rfl (by decide +kernel) ⟨Nat.le_of_ble_eq_true rfl, Nat.le_of_ble_eq_true rfl⟩) (wx_recv hK hP (by decide) qc_3 rfl) hK hP hS (fun _ h => h) rfl hl.1 rfl (lv_room (Nat.le_of_ble_eq_true rfl)) dX6_agree_72 ⟨Nat.le_of_ble_eq_true rfl, Nat.le_of_ble_eq_true rfl⟩ (fun H locs hP hS => ?_)
  refine lv_iconst (v := 1) hx hb dX6_agree_75 (by decide) ?_
  refine lv_icmp_ne (tgt := 83) hx hb dX6_agree_76 (by decide) (fun c_76 => ?_) (fun c_76 => ?_)
  · refine lv_iconst (v := 0) hx hb dX6_agree_83 (by decide) ?_
    exact wx_xiret (Nat.le_of_ble_eq_true rfl) (Nat.le_of_ble_eq_true rfl) hx hb hret hlk hK hP hS (Eq.symm (by unfold f_X6_agree; rw [if_pos n_1, if_pos n_6, if_neg c_19_0, if_neg c_19_1, if_neg c_19_2, if_neg c_76])) (by unfold g_X6_agree; rw [if_pos n_1, if_pos n_6, if_neg c_19_0, if_neg c_19_1, if_neg c_19_2, if_neg c_76]) dX6_agree_84
  · refine lv_iconst (v := 1) hx hb dX6_agree_79 (by decide) ?_
    refine lv_goto (tgt := 84) hx hb dX6_agree_80 (by decide) ?_
    exact wx_xiret (Nat.le_of_ble_eq_true rfl) (Nat.le_of_ble_eq_true rfl) hx hb hret hlk hK hP hS (Eq.symm (by unfold f_X6_agree; rw [if_pos n_1, if_pos n_6, if_neg c_19_0, if_neg c_19_1, if_neg c_19_2, if_pos c_76])) (by unfold g_X6_agree; rw [if_pos n_1, if_pos n_6, if_neg c_19_0, if_neg c_19_1, if_neg c_19_2, if_pos c_76]) dX6_agree_84
def s_X6_edict_33 (S : qw_St) : qw_St := (up2 (up2 (g_X3_readInto S ((S 0 6).toNatClampNeg)) 0 10 (f_X3_readInto S ((S 0 6).toNatClampNeg))) 1 1 (0 : Int32))
def g_X6_edict (S : qw_St) : qw_St := (if ((s_X6_edict_33 S) 0 10) = (-1 : Int32) then (if ((s_X6_edict_33 S) 0 6) < (20 : Int32) then (up2 (g_X1_tell (s_X6_edict_33 S) ((s_X6_edict_33 S) 0 9) ((s_X6_edict_33 S) 0 6)) 0 6 (((g_X1_tell (s_X6_edict_33 S) ((s_X6_edict_33 S) 0 9) ((s_X6_edict_33 S) 0 6)) 0 6) + (1 : Int32))) else (s_X6_edict_33 S)) else (s_X6_edict_33 S))
def f_X6_edict (S : qw_St) : Except String Int32 := (if ((s_X6_edict_33 S) 0 10) = (-1 : Int32) then (if ((s_X6_edict_33 S) 0 6) < (20 : Int32) then (.ok ((s_X6_edict_33 S) 0 6)) else (.error "java/lang/UnsupportedOperationException")) else (.error "java/lang/IllegalArgumentException"))
set_option maxHeartbeats 4000000 in
set_option maxRecDepth 100000 in
theorem c_X6_edict (l : Launch) (hlT : l.stackTraces = false) (D : va_G) {r : Nat → Nat} (c : Nat → ClassId) (g : Nat → Int64) (hr : qw_inj r) (S : qw_St) (hz1 : qz (S 1 1) 400) (hd0 : qz (S 0 6) 20) (hn0 : qz (S 11 2) 40) : MXi l D r c g yX6_edict wsX6_edict ({ frames := 7, cells := 1, slots := 6, locals := 153 }) [.ref (r 0)] S (f_X6_edict S) (g_X6_edict S) 1 6 := by
  have hiX3 : ∀ w ∈ wsX30, w ∈ wsX6_edict := by decide +kernel
  have hiX6 : ∀ w ∈ wsX60, w ∈ wsX6_edict := by decide +kernel
  refine wx_ofX (cc := cX6_edict) (nL := 2) (ret := (some .int)) (lvs := [(0, .ref (r 0))]) (by decide) rfl rfl (Nat.le_of_ble_eq_true rfl) ?_
  intro p e s m below meth c0 ls hx hb hret hml hts hown hlk hK hP hS hl hE hnt
  have hP : qw_P D r c g S s.heap := hP
  refine lv_aload_n hx hb dX6_edict_0 rfl (lv_at hl 0 rfl) ?_
  refine lv_aload_n hx hb dX6_edict_1 rfl (lv_at hl 0 rfl) ?_
  refine wx_get hx hb hts hiX6 hown hK hP 0 (by decide) qc_0 rfl 0 (by decide) (hts (.fieldLink RX6 10 "PriceEdict" "tape" "LPriceEdict$Tape;") (by decide +kernel)) rfl dX6_edict_2 ?_
  refine lv_aload_n hx hb dX6_edict_5 rfl (lv_at hl 0 rfl) ?_
  refine wx_get hx hb hts hiX6 hown hK hP 0 (by decide) qc_0 rfl 2 (by decide) (hts (.fieldLink RX6 25 "PriceEdict" "decrees" "[LPriceEdict$Decree;") (by decide +kernel)) rfl dX6_edict_6 ?_
  refine lv_aload_n hx hb dX6_edict_9 rfl (lv_at hl 0 rfl) ?_
  refine wx_get hx hb hts hiX6 hown hK hP 0 (by decide) qc_0 rfl 6 (by decide) (hts (.fieldLink RX6 46 "PriceEdict" "decreeCount" "I") (by decide +kernel)) rfl dX6_edict_10 ?_
  refine lv_bipush (v := 20) hx hb dX6_edict_13 (by decide) ?_
  refine va_mmin hx hb (hml.trans hl.1.symm) hown (hts (.methodLink RX6 126 Lib.Math.min.name) (by decide +kernel)) (hts (.static Lib.Math.min.name) (by decide +kernel)) (hts (.initialized "java/lang/Math") (by decide +kernel)) (hts (.code Lib.Math.min.name Lib.Math.min.code 2 (some .int)) (by decide +kernel)) (Nat.le_of_ble_eq_true rfl) (Nat.le_of_ble_eq_true rfl) (Nat.le_of_ble_eq_true rfl) (Nat.le_of_ble_eq_true rfl) dX6_edict_15 ?_
  refine lv_topi (fun xm exm => ?_)
  have em : xm = (S 0 6) := exm.trans (if_neg (qz_nlt hd0 (by decide) rfl))
  clear exm
  subst em
  have h_18 : (S 0 6).toNatClampNeg < 21 := vp_lt (qz_in hd0 (by decide) (by decide))
  refine wx_ald hx hb hK hP 2 rfl 10 (by decide) qc_10 (qz_in hd0 (by decide) (by decide)) dX6_edict_18 ?_
  refine wd_iV (b := r 1) (C := RX3) (As := [.ref (r (16 + 3 * (S 0 6).toNatClampNeg))]) (rest := [.ref (r 0)]) ⟨hx, hb, hml, hown, hts⟩ (c_X3_readInto l D c g hr S ((S 0 6).toNatClampNeg) h_18 hz1) (ev_bl _) (fun U hU hW => hE.to hS (fun _ h => h) hU hW) (cwV 1 hts gX6_edict_X3_readInto rfl rfl rfl (by decide +kernel) ⟨Nat.le_of_ble_eq_true rfl, Nat.le_of_ble_eq_true rfl⟩) (wx_recv hK hP (by decide) qc_1 rfl) hK hP hS (fun _ h => h) rfl hl.1 rfl (lv_room (Nat.le_of_ble_eq_true rfl)) dX6_edict_19 ⟨Nat.le_of_ble_eq_true rfl, Nat.le_of_ble_eq_true rfl⟩ (fun H locs hP hS => ?_)
  refine lv_topi (fun x_1 ex_1 => ?_)
  refine wx_put hr hx hb hts hiX6 tyX6 tyX6_ok nmX6 hown hK hP hS 0 (by decide) qc_0 rfl 10 (by decide) (hts (.fieldLink RX6 59 "PriceEdict" "wrongByte" "I") (by decide +kernel)) rfl (by decide +kernel) (fun _ => rfl) (Nat.le_of_ble_eq_true rfl) dX6_edict_22 (fun H locs hP hS => ?_)
  refine lv_aload_n hx hb dX6_edict_25 rfl (lv_at hl 0 rfl) ?_
  refine wx_get hx hb hts hiX6 hown hK hP 0 (by decide) qc_0 rfl 0 (by decide) (hts (.fieldLink RX6 10 "PriceEdict" "tape" "LPriceEdict$Tape;") (by decide +kernel)) rfl dX6_edict_26 ?_
  refine lv_iconst (v := 0) hx hb dX6_edict_29 (by decide) ?_
  refine wx_put hr hx hb hts hiX3 tyX3 tyX3_ok nmX3 hown hK hP hS 1 (by decide) qc_1 rfl 1 (by decide) (hts (.fieldLink RX6 64 "PriceEdict$Tape" "length" "I") (by decide +kernel)) rfl (by decide +kernel) (fun _ => rfl) (Nat.le_of_ble_eq_true rfl) dX6_edict_30 (fun H locs hP hS => ?_)
  rw [ex_1] at hP
  have hP : qw_P D r c g (s_X6_edict_33 S) _ := hP
  obtain ⟨S_2, eS_2⟩ : ∃ z : qw_St, z = (s_X6_edict_33 S) := ⟨_, rfl⟩
  rw [← eS_2] at hP
  have hl := lv_sub (l' := [(0, .ref (r 0))]) hl [0] rfl
  have h11 : qz (S_2 11 2) 40 := by rw [eS_2]; unfold s_X6_edict_33; rw [up2_ne _ _ (Or.inl (by decide)), up2_ne _ _ (Or.inl (by decide)), fr_X3_readInto _ _ _ (Or.inl (by decide)) (by decide)]; exact hn0
  refine lv_aload_n hx hb dX6_edict_33 rfl (lv_at hl 0 rfl) ?_
  refine wx_get hx hb hts hiX6 hown hK hP 0 (by decide) qc_0 rfl 10 (by decide) (hts (.fieldLink RX6 59 "PriceEdict" "wrongByte" "I") (by decide +kernel)) rfl dX6_edict_34 ?_
  refine lv_iconst (v := (-1)) hx hb dX6_edict_37 (by decide) ?_
  refine lv_icmp_eq (tgt := 51) hx hb dX6_edict_38 (by decide) (fun c_38 => ?_) (fun c_38 => ?_)
  · refine lv_aload_n hx hb dX6_edict_51 rfl (lv_at hl 0 rfl) ?_
    refine wx_get hx hb hts hiX6 hown hK hP 0 (by decide) qc_0 rfl 6 (by decide) (hts (.fieldLink RX6 46 "PriceEdict" "decreeCount" "I") (by decide +kernel)) rfl dX6_edict_52 ?_
    refine lv_bipush (v := 20) hx hb dX6_edict_55 (by decide) ?_
    refine lv_icmp_lt (tgt := 70) hx hb dX6_edict_57 (by decide) (fun c_57 => ?_) (fun c_57 => ?_)
    · refine lv_aload_n hx hb dX6_edict_70 rfl (lv_at hl 0 rfl) ?_
      refine wx_get hx hb hts hiX6 hown hK hP 0 (by decide) qc_0 rfl 6 (by decide) (hts (.fieldLink RX6 46 "PriceEdict" "decreeCount" "I") (by decide +kernel)) rfl dX6_edict_71 ?_
      refine lv_topi (fun x_3 ex_3 => ?_)
      refine lv_istore_n (lv' := [(1, .int x_3), (0, .ref (r 0))]) hx hb dX6_edict_74 rfl hl (by decide) rfl (fun ls hl => ?_)
      refine lv_aload_n hx hb dX6_edict_75 rfl (lv_at hl 1 rfl) ?_
      refine wx_get hx hb hts hiX6 hown hK hP 0 (by decide) qc_0 rfl 3 (by decide) (hts (.fieldLink RX6 32 "PriceEdict" "news" "LPriceEdict$News;") (by decide +kernel)) rfl dX6_edict_76 ?_
      refine lv_aload_n hx hb dX6_edict_79 rfl (lv_at hl 1 rfl) ?_
      refine wx_get hx hb hts hiX6 hown hK hP 0 (by decide) qc_0 rfl 9 (by decide) (hts (.fieldLink RX6 56 "PriceEdict" "today" "I") (by decide +kernel)) rfl dX6_edict_80 ?_
      refine lv_iload_n hx hb dX6_edict_83 rfl (lv_at hl 0 rfl) ?_
      refine wc_vV (k := 11) (C := RX1) (As := [.int (S_2 0 9), .int x_3]) (rest := []) ⟨hx, hb, hml, hown, hts⟩ (c_X1_tell l D c g hr S_2 (S_2 0 9) x_3 h11) (cwV 2 hts gX6_edict_X1_tell rfl rfl rfl (by decide +kernel) ⟨Nat.le_of_ble_eq_true rfl, Nat.le_of_ble_eq_true rfl⟩) (wx_recv hK hP (by decide) qc_11 rfl) hK hP hS (fun _ h => h) rfl hl.1 rfl (lv_room (Nat.le_of_ble_eq_true rfl)) dX6_edict_84 ⟨Nat.le_of_ble_eq_true rfl, Nat.le_of_ble_eq_true rfl⟩ (fun H locs hP hS => ?_)
      refine lv_aload_n hx hb dX6_edict_87 rfl (lv_at hl 1 rfl) ?_
      refine lv_dup hx hb dX6_edict_88 rfl ?_
      refine wx_get hx hb hts hiX6 hown hK hP 0 (by decide) qc_0 rfl 6 (by decide) (hts (.fieldLink RX6 46 "PriceEdict" "decreeCount" "I") (by decide +kernel)) rfl dX6_edict_89 ?_
      refine lv_iconst (v := 1) hx hb dX6_edict_92 (by decide) ?_
      refine lv_iadd hx hb dX6_edict_93 ?_
      refine wx_put hr hx hb hts hiX6 tyX6 tyX6_ok nmX6 hown hK hP hS 0 (by decide) qc_0 rfl 6 (by decide) (hts (.fieldLink RX6 46 "PriceEdict" "decreeCount" "I") (by decide +kernel)) rfl (by decide +kernel) (fun _ => rfl) (Nat.le_of_ble_eq_true rfl) dX6_edict_94 (fun H locs hP hS => ?_)
      refine lv_iload_n hx hb dX6_edict_97 rfl (lv_at hl 0 rfl) ?_
      exact wx_xiret (Nat.le_of_ble_eq_true rfl) (Nat.le_of_ble_eq_true rfl) hx hb hret hlk hK hP hS (Eq.symm (by subst ex_3; subst eS_2; unfold f_X6_edict; rw [if_pos c_38, if_pos c_57])) (by subst ex_3; subst eS_2; unfold g_X6_edict; rw [if_pos c_38, if_pos c_57]) dX6_edict_98
    · exact wx_throw (own := RX6) (cls := "java/lang/UnsupportedOperationException") (ik := 81) (ic := 85) (is := 138) (text := "there are 20 EDICTS") hx hb hlT hts hown (by decide +kernel) (by decide +kernel) (by decide +kernel) (by decide +kernel) (by decide +kernel) (by decide +kernel) (by decide +kernel) hK hP hS hE (hl.1.trans hml.symm) dX6_edict_60 dX6_edict_63 dX6_edict_64 dX6_edict_66 dX6_edict_69 hnt (by decide) (Nat.le_of_ble_eq_true rfl) (Nat.le_of_ble_eq_true rfl) (Nat.le_of_ble_eq_true rfl) hlk (Eq.symm (by subst eS_2; unfold f_X6_edict; rw [if_pos c_38, if_neg c_57])) (by subst eS_2; unfold g_X6_edict; rw [if_pos c_38, if_neg c_57]) (Nat.le_of_ble_eq_true rfl) (Nat.le_of_ble_eq_true rfl)
  · exact wx_throw (own := RX6) (cls := "java/lang/IllegalArgumentException") (ik := 101) (ic := 105) (is := 136) (text := "the text is wrong") hx hb hlT hts hown (by decide +kernel) (by decide +kernel) (by decide +kernel) (by decide +kernel) (by decide +kernel) (by decide +kernel) (by decide +kernel) hK hP hS hE (hl.1.trans hml.symm) dX6_edict_41 dX6_edict_44 dX6_edict_45 dX6_edict_47 dX6_edict_50 hnt (by decide) (Nat.le_of_ble_eq_true rfl) (Nat.le_of_ble_eq_true rfl) (Nat.le_of_ble_eq_true rfl) hlk (Eq.symm (by subst eS_2; unfold f_X6_edict; rw [if_neg c_38])) (by subst eS_2; unfold g_X6_edict; rw [if_neg c_38]) (Nat.le_of_ble_eq_true rfl) (Nat.le_of_ble_eq_true rfl)
def f_X6_force (S : qw_St) (a1 : Int32) (a2 : Int32) : Except String Int32 := (if ok_X6_needTown S a1 = true then (.ok (f_X6_inForce S a1 a2)) else (.error "java/lang/IndexOutOfBoundsException"))
set_option maxHeartbeats 4000000 in
set_option maxRecDepth 100000 in
theorem c_X6_force (l : Launch) (hlT : l.stackTraces = false) (D : va_G) {r : Nat → Nat} (c : Nat → ClassId) (g : Nat → Int64) (hr : qw_inj r) (S : qw_St) (a1 : Int32) (a2 : Int32) (hI : InvC S) : MXi l D r c g yX6_force wsX6_force ({ frames := 7, cells := 1, slots := 6, locals := 103 }) [.ref (r 0), .int a1, .int a2] S (f_X6_force S a1 a2) S 1 6 := by
  refine wx_ofX (cc := cX6_force) (nL := 3) (ret := (some .int)) (lvs := [(0, .ref (r 0)), (1, .int a1), (2, .int a2)]) (by decide) rfl rfl (Nat.le_of_ble_eq_true rfl) ?_
  intro p e s m below meth c0 ls hx hb hret hml hts hown hlk hK hP hS hl hE hnt
  have hP : qw_P D r c g S s.heap := hP
  refine lv_aload_n hx hb dX6_force_0 rfl (lv_at hl 0 rfl) ?_
  refine lv_iload_n hx hb dX6_force_1 rfl (lv_at hl 1 rfl) ?_
  refine we_vV (b := r 0) (C := RX6) (As := [.int a1]) (rest := []) ⟨hx, hb, hml, hown, hts⟩ (c_X6_needTown l hlT D c g hr S a1) (cwV 1 hts gX6_force_X6_needTown rfl rfl rfl (by decide +kernel) ⟨Nat.le_of_ble_eq_true rfl, Nat.le_of_ble_eq_true rfl⟩) (wx_recv hK hP (by decide) qc_0 rfl) hK hP hS hE rfl hl.1 rfl (lv_room (Nat.le_of_ble_eq_true rfl)) dX6_force_2 ⟨Nat.le_of_ble_eq_true rfl, Nat.le_of_ble_eq_true rfl⟩ hnt hlk (Nat.le_of_ble_eq_true rfl) (Nat.le_of_ble_eq_true rfl) (fun N hN => ?_) (fun hk H locs hP hS => ?_)
  · obtain ⟨n_2, eN⟩ := er_X6_needTown hN
    subst eN
    exact ⟨Eq.symm (by unfold f_X6_force; rw [if_neg n_2]), rfl⟩
  have n_2 := od_X6_needTown hk
  refine lv_aload_n hx hb dX6_force_5 rfl (lv_at hl 0 rfl) ?_
  refine lv_iload_n hx hb dX6_force_6 rfl (lv_at hl 1 rfl) ?_
  refine lv_iload_n hx hb dX6_force_7 rfl (lv_at hl 2 rfl) ?_
  refine wc_iV (k := 0) (C := RX6) (As := [.int a1, .int a2]) (rest := []) ⟨hx, hb, hml, hown, hts⟩ (c_X6_inForce l D c g hr S a1 a2 (nd_town_in hI.2.2.2 n_2) (by first | assumption | omega)) (cwV 2 hts gX6_force_X6_inForce rfl rfl rfl (by decide +kernel) ⟨Nat.le_of_ble_eq_true rfl, Nat.le_of_ble_eq_true rfl⟩) (wx_recv hK hP (by decide) qc_0 rfl) hK hP hS (fun _ h => h) rfl hl.1 rfl (lv_room (Nat.le_of_ble_eq_true rfl)) dX6_force_8 ⟨Nat.le_of_ble_eq_true rfl, Nat.le_of_ble_eq_true rfl⟩ (fun H locs hP hS => ?_)
  exact wx_xiret (Nat.le_of_ble_eq_true rfl) (Nat.le_of_ble_eq_true rfl) hx hb hret hlk hK hP hS (Eq.symm (by unfold f_X6_force; rw [if_pos n_2])) rfl dX6_force_11
def g_X6_cap (S : qw_St) (a1 : Int32) (a2 : Int32) (a3 : Int32) (a4 : Int32) : qw_St := (if ok_X6_needTown S a1 = true then (if ok_X6_needThing a2 = true then (g_X6_highest S a1 a2 a3 a4) else S) else S)
def f_X6_cap (S : qw_St) (a1 : Int32) (a2 : Int32) (a3 : Int32) (a4 : Int32) : Except String Int32 := (if ok_X6_needTown S a1 = true then (if ok_X6_needThing a2 = true then (.ok (f_X6_highest S a1 a2 a3 a4)) else (.error "java/lang/IndexOutOfBoundsException")) else (.error "java/lang/IndexOutOfBoundsException"))
set_option maxHeartbeats 4000000 in
set_option maxRecDepth 100000 in
theorem c_X6_cap (l : Launch) (hlT : l.stackTraces = false) (D : va_G) {r : Nat → Nat} (c : Nat → ClassId) (g : Nat → Int64) (hr : qw_inj r) (S : qw_St) (a1 : Int32) (a2 : Int32) (a3 : Int32) (a4 : Int32) (hI : InvC S) : MXi l D r c g yX6_cap wsX6_cap ({ frames := 7, cells := 2, slots := 12, locals := 116 }) [.ref (r 0), .int a1, .int a2, .int a3, .int a4] S (f_X6_cap S a1 a2 a3 a4) (g_X6_cap S a1 a2 a3 a4) 2 12 := by
  refine wx_ofX (cc := cX6_cap) (nL := 5) (ret := (some .int)) (lvs := [(0, .ref (r 0)), (1, .int a1), (2, .int a2), (3, .int a3), (4, .int a4)]) (by decide) rfl rfl (Nat.le_of_ble_eq_true rfl) ?_
  intro p e s m below meth c0 ls hx hb hret hml hts hown hlk hK hP hS hl hE hnt
  have hP : qw_P D r c g S s.heap := hP
  refine lv_aload_n hx hb dX6_cap_0 rfl (lv_at hl 0 rfl) ?_
  refine lv_iload_n hx hb dX6_cap_1 rfl (lv_at hl 1 rfl) ?_
  refine we_vV (b := r 0) (C := RX6) (As := [.int a1]) (rest := []) ⟨hx, hb, hml, hown, hts⟩ (c_X6_needTown l hlT D c g hr S a1) (cwV 1 hts gX6_cap_X6_needTown rfl rfl rfl (by decide +kernel) ⟨Nat.le_of_ble_eq_true rfl, Nat.le_of_ble_eq_true rfl⟩) (wx_recv hK hP (by decide) qc_0 rfl) hK hP hS hE rfl hl.1 rfl (lv_room (Nat.le_of_ble_eq_true rfl)) dX6_cap_2 ⟨Nat.le_of_ble_eq_true rfl, Nat.le_of_ble_eq_true rfl⟩ hnt hlk (Nat.le_of_ble_eq_true rfl) (Nat.le_of_ble_eq_true rfl) (fun N hN => ?_) (fun hk H locs hP hS => ?_)
  · obtain ⟨n_2, eN⟩ := er_X6_needTown hN
    subst eN
    exact ⟨Eq.symm (by unfold f_X6_cap; rw [if_neg n_2]), (by unfold g_X6_cap; rw [if_neg n_2])⟩
  have n_2 := od_X6_needTown hk
  refine lv_iload_n hx hb dX6_cap_5 rfl (lv_at hl 2 rfl) ?_
  refine we_vS (As := [.int a2]) (rest := []) ⟨hx, hb, hml, hown, hts⟩ (c_X6_needThing l hlT D c g hr S a2) (va_cwS 1 hts gX6_cap_X6_needThing rfl rfl rfl (by decide +kernel) ⟨Nat.le_of_ble_eq_true rfl, Nat.le_of_ble_eq_true rfl⟩) hK hP hS hE rfl hl.1 rfl (lv_room (Nat.le_of_ble_eq_true rfl)) dX6_cap_6 ⟨Nat.le_of_ble_eq_true rfl, Nat.le_of_ble_eq_true rfl⟩ hnt hlk (Nat.le_of_ble_eq_true rfl) (Nat.le_of_ble_eq_true rfl) (fun N hN => ?_) (fun hk H locs hP hS => ?_)
  · obtain ⟨n_6, eN⟩ := er_X6_needThing hN
    subst eN
    exact ⟨Eq.symm (by unfold f_X6_cap; rw [if_pos n_2, if_neg n_6]), (by unfold g_X6_cap; rw [if_pos n_2, if_neg n_6])⟩
  have n_6 := od_X6_needThing hk
  refine lv_aload_n hx hb dX6_cap_9 rfl (lv_at hl 0 rfl) ?_
  refine lv_iload_n hx hb dX6_cap_10 rfl (lv_at hl 1 rfl) ?_
  refine lv_iload_n hx hb dX6_cap_11 rfl (lv_at hl 2 rfl) ?_
  refine lv_iload_n hx hb dX6_cap_12 rfl (lv_at hl 3 rfl) ?_
  refine lv_iload hx hb dX6_cap_13 (lv_at hl 4 rfl) ?_
  refine wc_iV (k := 0) (C := RX6) (As := [.int a1, .int a2, .int a3, .int a4]) (rest := []) ⟨hx, hb, hml, hown, hts⟩ (c_X6_highest l D c g hr S a1 a2 a3 a4 (nd_town_in hI.2.2.2 n_2) (nd_thing_in n_6) (by first | assumption | omega)) (cwV 4 hts gX6_cap_X6_highest rfl rfl rfl (by decide +kernel) ⟨Nat.le_of_ble_eq_true rfl, Nat.le_of_ble_eq_true rfl⟩) (wx_recv hK hP (by decide) qc_0 rfl) hK hP hS (fun _ h => h) rfl hl.1 rfl (lv_room (Nat.le_of_ble_eq_true rfl)) dX6_cap_15 ⟨Nat.le_of_ble_eq_true rfl, Nat.le_of_ble_eq_true rfl⟩ (fun H locs hP hS => ?_)
  exact wx_xiret (Nat.le_of_ble_eq_true rfl) (Nat.le_of_ble_eq_true rfl) hx hb hret hlk hK hP hS (Eq.symm (by unfold f_X6_cap; rw [if_pos n_2, if_pos n_6])) (by unfold g_X6_cap; rw [if_pos n_2, if_pos n_6]) dX6_cap_18
def g_X6_judge (S : qw_St) (a1 : Int32) (a2 : Int32) (a3 : Int32) (a4 : Int32) (a5 : Int32) : qw_St := (if ok_X6_needTown S a1 = true then (if ok_X6_needThing a2 = true then (if 0 ≤ a3 then (if (f_X6_highest S a1 a2 a4 a5) = (-1 : Int32) then (g_X6_highest S a1 a2 a4 a5) else (if a3 ≤ (f_X6_highest S a1 a2 a4 a5) then (g_X6_highest S a1 a2 a4 a5) else (g_X6_highest S a1 a2 a4 a5))) else S) else S) else S)
def f_X6_judge (S : qw_St) (a1 : Int32) (a2 : Int32) (a3 : Int32) (a4 : Int32) (a5 : Int32) : Except String Int32 := (if ok_X6_needTown S a1 = true then (if ok_X6_needThing a2 = true then (if 0 ≤ a3 then (if (f_X6_highest S a1 a2 a4 a5) = (-1 : Int32) then (.ok (0 : Int32)) else (if a3 ≤ (f_X6_highest S a1 a2 a4 a5) then (.ok (0 : Int32)) else (.ok (1 : Int32)))) else (.error "java/lang/IllegalArgumentException")) else (.error "java/lang/IndexOutOfBoundsException")) else (.error "java/lang/IndexOutOfBoundsException"))
set_option maxHeartbeats 4000000 in
set_option maxRecDepth 100000 in
theorem c_X6_judge (l : Launch) (hlT : l.stackTraces = false) (D : va_G) {r : Nat → Nat} (c : Nat → ClassId) (g : Nat → Int64) (hr : qw_inj r) (S : qw_St) (a1 : Int32) (a2 : Int32) (a3 : Int32) (a4 : Int32) (a5 : Int32) (hI : InvC S) : MXi l D r c g yX6_judge wsX6_judge ({ frames := 7, cells := 3, slots := 18, locals := 116 }) [.ref (r 0), .int a1, .int a2, .int a3, .int a4, .int a5] S (f_X6_judge S a1 a2 a3 a4 a5) (g_X6_judge S a1 a2 a3 a4 a5) 3 18 := by
  refine wx_ofX (cc := cX6_judge) (nL := 7) (ret := (some .int)) (lvs := [(0, .ref (r 0)), (1, .int a1), (2, .int a2), (3, .int a3), (4, .int a4), (5, .int a5)]) (by decide) rfl rfl (Nat.le_of_ble_eq_true rfl) ?_
  intro p e s m below meth c0 ls hx hb hret hml hts hown hlk hK hP hS hl hE hnt
  have hP : qw_P D r c g S s.heap := hP
  refine lv_aload_n hx hb dX6_judge_0 rfl (lv_at hl 0 rfl) ?_
  refine lv_iload_n hx hb dX6_judge_1 rfl (lv_at hl 1 rfl) ?_
  refine we_vV (b := r 0) (C := RX6) (As := [.int a1]) (rest := []) ⟨hx, hb, hml, hown, hts⟩ (c_X6_needTown l hlT D c g hr S a1) (cwV 1 hts gX6_judge_X6_needTown rfl rfl rfl (by decide +kernel) ⟨Nat.le_of_ble_eq_true rfl, Nat.le_of_ble_eq_true rfl⟩) (wx_recv hK hP (by decide) qc_0 rfl) hK hP hS hE rfl hl.1 rfl (lv_room (Nat.le_of_ble_eq_true rfl)) dX6_judge_2 ⟨Nat.le_of_ble_eq_true rfl, Nat.le_of_ble_eq_true rfl⟩ hnt hlk (Nat.le_of_ble_eq_true rfl) (Nat.le_of_ble_eq_true rfl) (fun N hN => ?_) (fun hk H locs hP hS => ?_)
  · obtain ⟨n_2, eN⟩ := er_X6_needTown hN
    subst eN
    exact ⟨Eq.symm (by unfold f_X6_judge; rw [if_neg n_2]), (by unfold g_X6_judge; rw [if_neg n_2])⟩
  have n_2 := od_X6_needTown hk
  refine lv_iload_n hx hb dX6_judge_5 rfl (lv_at hl 2 rfl) ?_
  refine we_vS (As := [.int a2]) (rest := []) ⟨hx, hb, hml, hown, hts⟩ (c_X6_needThing l hlT D c g hr S a2) (va_cwS 1 hts gX6_judge_X6_needThing rfl rfl rfl (by decide +kernel) ⟨Nat.le_of_ble_eq_true rfl, Nat.le_of_ble_eq_true rfl⟩) hK hP hS hE rfl hl.1 rfl (lv_room (Nat.le_of_ble_eq_true rfl)) dX6_judge_6 ⟨Nat.le_of_ble_eq_true rfl, Nat.le_of_ble_eq_true rfl⟩ hnt hlk (Nat.le_of_ble_eq_true rfl) (Nat.le_of_ble_eq_true rfl) (fun N hN => ?_) (fun hk H locs hP hS => ?_)
  · obtain ⟨n_6, eN⟩ := er_X6_needThing hN
    subst eN
    exact ⟨Eq.symm (by unfold f_X6_judge; rw [if_pos n_2, if_neg n_6]), (by unfold g_X6_judge; rw [if_pos n_2, if_neg n_6])⟩
  have n_6 := od_X6_needThing hk
  refine lv_iload_n hx hb dX6_judge_9 rfl (lv_at hl 3 rfl) ?_
  refine lv_if_ge (tgt := 23) hx hb dX6_judge_10 (by decide) (fun c_10 => ?_) (fun c_10 => ?_)
  · refine lv_aload_n hx hb dX6_judge_23 rfl (lv_at hl 0 rfl) ?_
    refine lv_iload_n hx hb dX6_judge_24 rfl (lv_at hl 1 rfl) ?_
    refine lv_iload_n hx hb dX6_judge_25 rfl (lv_at hl 2 rfl) ?_
    refine lv_iload hx hb dX6_judge_26 (lv_at hl 4 rfl) ?_
    refine lv_iload hx hb dX6_judge_28 (lv_at hl 5 rfl) ?_
    refine wc_iV (k := 0) (C := RX6) (As := [.int a1, .int a2, .int a4, .int a5]) (rest := []) ⟨hx, hb, hml, hown, hts⟩ (c_X6_highest l D c g hr S a1 a2 a4 a5 (nd_town_in hI.2.2.2 n_2) (nd_thing_in n_6) (by first | assumption | omega)) (cwV 4 hts gX6_judge_X6_highest rfl rfl rfl (by decide +kernel) ⟨Nat.le_of_ble_eq_true rfl, Nat.le_of_ble_eq_true rfl⟩) (wx_recv hK hP (by decide) qc_0 rfl) hK hP hS (fun _ h => h) rfl hl.1 rfl (lv_room (Nat.le_of_ble_eq_true rfl)) dX6_judge_30 ⟨Nat.le_of_ble_eq_true rfl, Nat.le_of_ble_eq_true rfl⟩ (fun H locs hP hS => ?_)
    refine lv_topi (fun x_1 ex_1 => ?_)
    refine lv_istore (lv' := [(6, .int x_1), (0, .ref (r 0)), (1, .int a1), (2, .int a2), (3, .int a3), (4, .int a4), (5, .int a5)]) hx hb dX6_judge_33 hl (by decide) rfl (fun ls hl => ?_)
    refine lv_iload hx hb dX6_judge_35 (lv_at hl 0 rfl) ?_
    refine lv_iconst (v := (-1)) hx hb dX6_judge_37 (by decide) ?_
    refine lv_icmp_eq (tgt := 51) hx hb dX6_judge_38 (by decide) (fun c_38 => ?_) (fun c_38 => ?_)
    · refine lv_iconst (v := 0) hx hb dX6_judge_51 (by decide) ?_
      exact wx_xiret (Nat.le_of_ble_eq_true rfl) (Nat.le_of_ble_eq_true rfl) hx hb hret hlk hK hP hS (Eq.symm (by subst ex_1; unfold f_X6_judge; rw [if_pos n_2, if_pos n_6, if_pos c_10, if_pos c_38])) (by subst ex_1; unfold g_X6_judge; rw [if_pos n_2, if_pos n_6, if_pos c_10, if_pos c_38]) dX6_judge_52
    · refine lv_iload_n hx hb dX6_judge_41 rfl (lv_at hl 4 rfl) ?_
      refine lv_iload hx hb dX6_judge_42 (lv_at hl 0 rfl) ?_
      refine lv_icmp_le (tgt := 51) hx hb dX6_judge_44 (by decide) (fun c_44 => ?_) (fun c_44 => ?_)
      · refine lv_iconst (v := 0) hx hb dX6_judge_51 (by decide) ?_
        exact wx_xiret (Nat.le_of_ble_eq_true rfl) (Nat.le_of_ble_eq_true rfl) hx hb hret hlk hK hP hS (Eq.symm (by subst ex_1; unfold f_X6_judge; rw [if_pos n_2, if_pos n_6, if_pos c_10, if_neg c_38, if_pos c_44])) (by subst ex_1; unfold g_X6_judge; rw [if_pos n_2, if_pos n_6, if_pos c_10, if_neg c_38, if_pos c_44]) dX6_judge_52
      · refine lv_iconst (v := 1) hx hb dX6_judge_47 (by decide) ?_
        refine lv_goto (tgt := 52) hx hb dX6_judge_48 (by decide) ?_
        exact wx_xiret (Nat.le_of_ble_eq_true rfl) (Nat.le_of_ble_eq_true rfl) hx hb hret hlk hK hP hS (Eq.symm (by subst ex_1; unfold f_X6_judge; rw [if_pos n_2, if_pos n_6, if_pos c_10, if_neg c_38, if_neg c_44])) (by subst ex_1; unfold g_X6_judge; rw [if_pos n_2, if_pos n_6, if_pos c_10, if_neg c_38, if_neg c_44]) dX6_judge_52
  · exact wx_throw (own := RX6) (cls := "java/lang/IllegalArgumentException") (ik := 101) (ic := 105) (is := 159) (text := "the price is below 0") hx hb hlT hts hown (by decide +kernel) (by decide +kernel) (by decide +kernel) (by decide +kernel) (by decide +kernel) (by decide +kernel) (by decide +kernel) hK hP hS hE (hl.1.trans hml.symm) dX6_judge_13 dX6_judge_16 dX6_judge_17 dX6_judge_19 dX6_judge_22 hnt (by decide) (Nat.le_of_ble_eq_true rfl) (Nat.le_of_ble_eq_true rfl) (Nat.le_of_ble_eq_true rfl) hlk (Eq.symm (by unfold f_X6_judge; rw [if_pos n_2, if_pos n_6, if_neg c_10])) (by unfold g_X6_judge; rw [if_pos n_2, if_pos n_6, if_neg c_10]) (Nat.le_of_ble_eq_true rfl) (Nat.le_of_ble_eq_true rfl)
def g_X6_town (S : qw_St) (a1 : Int32) : qw_St := (if ok_X6_needWithin a1 (0 : Int32) (2000 : Int32) = true then (if (S 0 7) < (8 : Int32) then (up2 (up2 S (79 + 8 * (S 0 7).toNatClampNeg) 1 a1) 0 7 ((S 0 7) + (1 : Int32))) else S) else S)
def f_X6_town (S : qw_St) (a1 : Int32) : Except String Int32 := (if ok_X6_needWithin a1 (0 : Int32) (2000 : Int32) = true then (if (S 0 7) < (8 : Int32) then (.ok (S 0 7)) else (.error "java/lang/UnsupportedOperationException")) else (.error "java/lang/IllegalArgumentException"))
set_option maxHeartbeats 4000000 in
set_option maxRecDepth 100000 in
theorem c_X6_town (l : Launch) (hlT : l.stackTraces = false) (D : va_G) {r : Nat → Nat} (c : Nat → ClassId) (g : Nat → Int64) (hr : qw_inj r) (S : qw_St) (a1 : Int32) (hz : qz (S 0 7) 8) : MXi l D r c g yX6_town wsX6_town ({ frames := 7, cells := 2, slots := 12, locals := 104 }) [.ref (r 0), .int a1] S (f_X6_town S a1) (g_X6_town S a1) 2 12 := by
  have hiX4 : ∀ w ∈ wsX40, w ∈ wsX6_town := by decide +kernel
  have hiX6 : ∀ w ∈ wsX60, w ∈ wsX6_town := by decide +kernel
  refine wx_ofX (cc := cX6_town) (nL := 3) (ret := (some .int)) (lvs := [(0, .ref (r 0)), (1, .int a1)]) (by decide) rfl rfl (Nat.le_of_ble_eq_true rfl) ?_
  intro p e s m below meth c0 ls hx hb hret hml hts hown hlk hK hP hS hl hE hnt
  have hP : qw_P D r c g S s.heap := hP
  refine lv_iload_n hx hb dX6_town_0 rfl (lv_at hl 1 rfl) ?_
  refine lv_iconst (v := 0) hx hb dX6_town_1 (by decide) ?_
  refine lv_sipush (v := 2000) hx hb dX6_town_2 (by decide) ?_
  refine we_vS (As := [.int a1, .int (0 : Int32), .int (2000 : Int32)]) (rest := []) ⟨hx, hb, hml, hown, hts⟩ (c_X6_needWithin l hlT D c g hr S a1 (0 : Int32) (2000 : Int32)) (va_cwS 3 hts gX6_town_X6_needWithin rfl rfl rfl (by decide +kernel) ⟨Nat.le_of_ble_eq_true rfl, Nat.le_of_ble_eq_true rfl⟩) hK hP hS hE rfl hl.1 rfl (lv_room (Nat.le_of_ble_eq_true rfl)) dX6_town_5 ⟨Nat.le_of_ble_eq_true rfl, Nat.le_of_ble_eq_true rfl⟩ hnt hlk (Nat.le_of_ble_eq_true rfl) (Nat.le_of_ble_eq_true rfl) (fun N hN => ?_) (fun hk H locs hP hS => ?_)
  · obtain ⟨n_5, eN⟩ := er_X6_needWithin hN
    subst eN
    exact ⟨Eq.symm (by unfold f_X6_town; rw [if_neg n_5]), (by unfold g_X6_town; rw [if_neg n_5])⟩
  have n_5 := od_X6_needWithin hk
  refine lv_aload_n hx hb dX6_town_8 rfl (lv_at hl 0 rfl) ?_
  refine wx_get hx hb hts hiX6 hown hK hP 0 (by decide) qc_0 rfl 7 (by decide) (hts (.fieldLink RX6 50 "PriceEdict" "townCount" "I") (by decide +kernel)) rfl dX6_town_9 ?_
  refine lv_bipush (v := 8) hx hb dX6_town_12 (by decide) ?_
  refine lv_icmp_lt (tgt := 27) hx hb dX6_town_14 (by decide) (fun c_14 => ?_) (fun c_14 => ?_)
  · refine lv_aload_n hx hb dX6_town_27 rfl (lv_at hl 0 rfl) ?_
    refine wx_get hx hb hts hiX6 hown hK hP 0 (by decide) qc_0 rfl 7 (by decide) (hts (.fieldLink RX6 50 "PriceEdict" "townCount" "I") (by decide +kernel)) rfl dX6_town_28 ?_
    refine lv_topi (fun x_1 ex_1 => ?_)
    refine lv_istore_n (lv' := [(2, .int x_1), (0, .ref (r 0)), (1, .int a1)]) hx hb dX6_town_31 rfl hl (by decide) rfl (fun ls hl => ?_)
    refine lv_aload_n hx hb dX6_town_32 rfl (lv_at hl 1 rfl) ?_
    refine wx_get hx hb hts hiX6 hown hK hP 0 (by decide) qc_0 rfl 4 (by decide) (hts (.fieldLink RX6 38 "PriceEdict" "towns" "[LPriceEdict$Town;") (by decide +kernel)) rfl dX6_town_33 ?_
    refine lv_iload_n hx hb dX6_town_36 rfl (lv_at hl 0 rfl) ?_
    have h_37 : x_1.toNatClampNeg < 8 := vp_lt (by rw [ex_1]; exact qi_sz hz (by decide) (M := 8) (n := 8) rfl (Int32.not_le.mpr c_14))
    refine wx_ald hx hb hK hP 3 rfl 14 (by decide) qc_14 (by rw [ex_1]; exact qi_sz hz (by decide) (M := 8) (n := 8) rfl (Int32.not_le.mpr c_14)) dX6_town_37 ?_
    refine lv_iload_n hx hb dX6_town_38 rfl (lv_at hl 2 rfl) ?_
    refine wx_put hr hx hb hts hiX4 tyX4 tyX4_ok nmX4 hown hK hP hS (79 + 8 * x_1.toNatClampNeg) (by omega) (qc_town h_37) rfl 1 (by decide) (hts (.fieldLink RX6 163 "PriceEdict$Town" "miles" "I") (by decide +kernel)) rfl (by decide +kernel) (fun _ => rfl) (Nat.le_of_ble_eq_true rfl) dX6_town_39 (fun H locs hP hS => ?_)
    refine lv_aload_n hx hb dX6_town_42 rfl (lv_at hl 1 rfl) ?_
    refine lv_dup hx hb dX6_town_43 rfl ?_
    refine wx_get hx hb hts hiX6 hown hK hP 0 (by decide) qc_0 rfl 7 (by decide) (hts (.fieldLink RX6 50 "PriceEdict" "townCount" "I") (by decide +kernel)) rfl dX6_town_44 ?_
    refine lv_tope (S 0 7) ((up2_ne _ _ (Or.inl (by omega)))) ?_
    refine lv_iconst (v := 1) hx hb dX6_town_47 (by decide) ?_
    refine lv_iadd hx hb dX6_town_48 ?_
    refine wx_put hr hx hb hts hiX6 tyX6 tyX6_ok nmX6 hown hK hP hS 0 (by decide) qc_0 rfl 7 (by decide) (hts (.fieldLink RX6 50 "PriceEdict" "townCount" "I") (by decide +kernel)) rfl (by decide +kernel) (fun _ => rfl) (Nat.le_of_ble_eq_true rfl) dX6_town_49 (fun H locs hP hS => ?_)
    refine lv_iload_n hx hb dX6_town_52 rfl (lv_at hl 0 rfl) ?_
    exact wx_xiret (Nat.le_of_ble_eq_true rfl) (Nat.le_of_ble_eq_true rfl) hx hb hret hlk hK hP hS (Eq.symm (by subst ex_1; unfold f_X6_town; rw [if_pos n_5, if_pos c_14])) (by subst ex_1; unfold g_X6_town; rw [if_pos n_5, if_pos c_14]) dX6_town_53
  · exact wx_throw (own := RX6) (cls := "java/lang/UnsupportedOperationException") (ik := 81) (ic := 85) (is := 161) (text := "there are 8 TOWNS") hx hb hlT hts hown (by decide +kernel) (by decide +kernel) (by decide +kernel) (by decide +kernel) (by decide +kernel) (by decide +kernel) (by decide +kernel) hK hP hS hE (hl.1.trans hml.symm) dX6_town_17 dX6_town_20 dX6_town_21 dX6_town_23 dX6_town_26 hnt (by decide) (Nat.le_of_ble_eq_true rfl) (Nat.le_of_ble_eq_true rfl) (Nat.le_of_ble_eq_true rfl) hlk (Eq.symm (by unfold f_X6_town; rw [if_pos n_5, if_neg c_14])) (by unfold g_X6_town; rw [if_pos n_5, if_neg c_14]) (Nat.le_of_ble_eq_true rfl) (Nat.le_of_ble_eq_true rfl)
def g_X6_goods (S : qw_St) (a1 : Int32) (a2 : Int32) (a3 : Int32) (a4 : Int32) (a5 : Int32) (a6 : Int32) : qw_St := (if ok_X6_needTown S a1 = true then (if ok_X6_needThing a2 = true then (if ok_X6_needWithin a3 (0 : Int32) (9999 : Int32) = true then (if ok_X6_needWithin a4 (0 : Int32) (9999 : Int32) = true then (if ok_X6_needWithin a5 (0 : Int32) (1000 : Int32) = true then (if ok_X6_needWithin a6 (0 : Int32) (1000 : Int32) = true then (g_X5_arrange S a1.toNatClampNeg a2.toNatClampNeg a3 a4 a5 a6) else S) else S) else S) else S) else S) else S)
def f_X6_goods (S : qw_St) (a1 : Int32) (a2 : Int32) (a3 : Int32) (a4 : Int32) (a5 : Int32) (a6 : Int32) : Except String Int32 := (if ok_X6_needTown S a1 = true then (if ok_X6_needThing a2 = true then (if ok_X6_needWithin a3 (0 : Int32) (9999 : Int32) = true then (if ok_X6_needWithin a4 (0 : Int32) (9999 : Int32) = true then (if ok_X6_needWithin a5 (0 : Int32) (1000 : Int32) = true then (if ok_X6_needWithin a6 (0 : Int32) (1000 : Int32) = true then (.ok 0) else (.error "java/lang/IllegalArgumentException")) else (.error "java/lang/IllegalArgumentException")) else (.error "java/lang/IllegalArgumentException")) else (.error "java/lang/IllegalArgumentException")) else (.error "java/lang/IndexOutOfBoundsException")) else (.error "java/lang/IndexOutOfBoundsException"))
set_option maxHeartbeats 4000000 in
set_option maxRecDepth 100000 in
theorem c_X6_goods (l : Launch) (hlT : l.stackTraces = false) (D : va_G) {r : Nat → Nat} (c : Nat → ClassId) (g : Nat → Int64) (hr : qw_inj r) (S : qw_St) (a1 : Int32) (a2 : Int32) (a3 : Int32) (a4 : Int32) (a5 : Int32) (a6 : Int32) (hI : InvC S) : MXv l D r c g yX6_goods wsX6_goods ({ frames := 7, cells := 6, slots := 36, locals := 104 }) [.ref (r 0), .int a1, .int a2, .int a3, .int a4, .int a5, .int a6] S (f_X6_goods S a1 a2 a3 a4 a5 a6) (g_X6_goods S a1 a2 a3 a4 a5 a6) 6 36 := by
  have hiX4 : ∀ w ∈ wsX40, w ∈ wsX6_goods := by decide +kernel
  have hiX6 : ∀ w ∈ wsX60, w ∈ wsX6_goods := by decide +kernel
  refine wx_ofX (cc := cX6_goods) (nL := 7) (ret := none) (lvs := [(0, .ref (r 0)), (1, .int a1), (2, .int a2), (3, .int a3), (4, .int a4), (5, .int a5), (6, .int a6)]) (by decide) rfl rfl (Nat.le_of_ble_eq_true rfl) ?_
  intro p e s m below meth c0 ls hx hb hret hml hts hown hlk hK hP hS hl hE hnt
  have hP : qw_P D r c g S s.heap := hP
  refine lv_aload_n hx hb dX6_goods_0 rfl (lv_at hl 0 rfl) ?_
  refine lv_iload_n hx hb dX6_goods_1 rfl (lv_at hl 1 rfl) ?_
  refine we_vV (b := r 0) (C := RX6) (As := [.int a1]) (rest := []) ⟨hx, hb, hml, hown, hts⟩ (c_X6_needTown l hlT D c g hr S a1) (cwV 1 hts gX6_goods_X6_needTown rfl rfl rfl (by decide +kernel) ⟨Nat.le_of_ble_eq_true rfl, Nat.le_of_ble_eq_true rfl⟩) (wx_recv hK hP (by decide) qc_0 rfl) hK hP hS hE rfl hl.1 rfl (lv_room (Nat.le_of_ble_eq_true rfl)) dX6_goods_2 ⟨Nat.le_of_ble_eq_true rfl, Nat.le_of_ble_eq_true rfl⟩ hnt hlk (Nat.le_of_ble_eq_true rfl) (Nat.le_of_ble_eq_true rfl) (fun N hN => ?_) (fun hk H locs hP hS => ?_)
  · obtain ⟨n_2, eN⟩ := er_X6_needTown hN
    subst eN
    exact ⟨Eq.symm (by unfold f_X6_goods; rw [if_neg n_2]), (by unfold g_X6_goods; rw [if_neg n_2])⟩
  have n_2 := od_X6_needTown hk
  refine lv_iload_n hx hb dX6_goods_5 rfl (lv_at hl 2 rfl) ?_
  refine we_vS (As := [.int a2]) (rest := []) ⟨hx, hb, hml, hown, hts⟩ (c_X6_needThing l hlT D c g hr S a2) (va_cwS 1 hts gX6_goods_X6_needThing rfl rfl rfl (by decide +kernel) ⟨Nat.le_of_ble_eq_true rfl, Nat.le_of_ble_eq_true rfl⟩) hK hP hS hE rfl hl.1 rfl (lv_room (Nat.le_of_ble_eq_true rfl)) dX6_goods_6 ⟨Nat.le_of_ble_eq_true rfl, Nat.le_of_ble_eq_true rfl⟩ hnt hlk (Nat.le_of_ble_eq_true rfl) (Nat.le_of_ble_eq_true rfl) (fun N hN => ?_) (fun hk H locs hP hS => ?_)
  · obtain ⟨n_6, eN⟩ := er_X6_needThing hN
    subst eN
    exact ⟨Eq.symm (by unfold f_X6_goods; rw [if_pos n_2, if_neg n_6]), (by unfold g_X6_goods; rw [if_pos n_2, if_neg n_6])⟩
  have n_6 := od_X6_needThing hk
  refine lv_iload_n hx hb dX6_goods_9 rfl (lv_at hl 3 rfl) ?_
  refine lv_iconst (v := 0) hx hb dX6_goods_10 (by decide) ?_
  refine lv_sipush (v := 9999) hx hb dX6_goods_11 (by decide) ?_
  refine we_vS (As := [.int a3, .int (0 : Int32), .int (9999 : Int32)]) (rest := []) ⟨hx, hb, hml, hown, hts⟩ (c_X6_needWithin l hlT D c g hr S a3 (0 : Int32) (9999 : Int32)) (va_cwS 3 hts gX6_goods_X6_needWithin rfl rfl rfl (by decide +kernel) ⟨Nat.le_of_ble_eq_true rfl, Nat.le_of_ble_eq_true rfl⟩) hK hP hS hE rfl hl.1 rfl (lv_room (Nat.le_of_ble_eq_true rfl)) dX6_goods_14 ⟨Nat.le_of_ble_eq_true rfl, Nat.le_of_ble_eq_true rfl⟩ hnt hlk (Nat.le_of_ble_eq_true rfl) (Nat.le_of_ble_eq_true rfl) (fun N hN => ?_) (fun hk H locs hP hS => ?_)
  · obtain ⟨n_14, eN⟩ := er_X6_needWithin hN
    subst eN
    exact ⟨Eq.symm (by unfold f_X6_goods; rw [if_pos n_2, if_pos n_6, if_neg n_14]), (by unfold g_X6_goods; rw [if_pos n_2, if_pos n_6, if_neg n_14])⟩
  have n_14 := od_X6_needWithin hk
  refine lv_iload hx hb dX6_goods_17 (lv_at hl 4 rfl) ?_
  refine lv_iconst (v := 0) hx hb dX6_goods_19 (by decide) ?_
  refine lv_sipush (v := 9999) hx hb dX6_goods_20 (by decide) ?_
  refine we_vS (As := [.int a4, .int (0 : Int32), .int (9999 : Int32)]) (rest := []) ⟨hx, hb, hml, hown, hts⟩ (c_X6_needWithin l hlT D c g hr S a4 (0 : Int32) (9999 : Int32)) (va_cwS 3 hts gX6_goods_X6_needWithin rfl rfl rfl (by decide +kernel) ⟨Nat.le_of_ble_eq_true rfl, Nat.le_of_ble_eq_true rfl⟩) hK hP hS hE rfl hl.1 rfl (lv_room (Nat.le_of_ble_eq_true rfl)) dX6_goods_23 ⟨Nat.le_of_ble_eq_true rfl, Nat.le_of_ble_eq_true rfl⟩ hnt hlk (Nat.le_of_ble_eq_true rfl) (Nat.le_of_ble_eq_true rfl) (fun N hN => ?_) (fun hk H locs hP hS => ?_)
  · obtain ⟨n_23, eN⟩ := er_X6_needWithin hN
    subst eN
    exact ⟨Eq.symm (by unfold f_X6_goods; rw [if_pos n_2, if_pos n_6, if_pos n_14, if_neg n_23]), (by unfold g_X6_goods; rw [if_pos n_2, if_pos n_6, if_pos n_14, if_neg n_23])⟩
  have n_23 := od_X6_needWithin hk
  refine lv_iload hx hb dX6_goods_26 (lv_at hl 5 rfl) ?_
  refine lv_iconst (v := 0) hx hb dX6_goods_28 (by decide) ?_
  refine lv_sipush (v := 1000) hx hb dX6_goods_29 (by decide) ?_
  refine we_vS (As := [.int a5, .int (0 : Int32), .int (1000 : Int32)]) (rest := []) ⟨hx, hb, hml, hown, hts⟩ (c_X6_needWithin l hlT D c g hr S a5 (0 : Int32) (1000 : Int32)) (va_cwS 3 hts gX6_goods_X6_needWithin rfl rfl rfl (by decide +kernel) ⟨Nat.le_of_ble_eq_true rfl, Nat.le_of_ble_eq_true rfl⟩) hK hP hS hE rfl hl.1 rfl (lv_room (Nat.le_of_ble_eq_true rfl)) dX6_goods_32 ⟨Nat.le_of_ble_eq_true rfl, Nat.le_of_ble_eq_true rfl⟩ hnt hlk (Nat.le_of_ble_eq_true rfl) (Nat.le_of_ble_eq_true rfl) (fun N hN => ?_) (fun hk H locs hP hS => ?_)
  · obtain ⟨n_32, eN⟩ := er_X6_needWithin hN
    subst eN
    exact ⟨Eq.symm (by unfold f_X6_goods; rw [if_pos n_2, if_pos n_6, if_pos n_14, if_pos n_23, if_neg n_32]), (by unfold g_X6_goods; rw [if_pos n_2, if_pos n_6, if_pos n_14, if_pos n_23, if_neg n_32])⟩
  have n_32 := od_X6_needWithin hk
  refine lv_iload hx hb dX6_goods_35 (lv_at hl 6 rfl) ?_
  refine lv_iconst (v := 0) hx hb dX6_goods_37 (by decide) ?_
  refine lv_sipush (v := 1000) hx hb dX6_goods_38 (by decide) ?_
  refine we_vS (As := [.int a6, .int (0 : Int32), .int (1000 : Int32)]) (rest := []) ⟨hx, hb, hml, hown, hts⟩ (c_X6_needWithin l hlT D c g hr S a6 (0 : Int32) (1000 : Int32)) (va_cwS 3 hts gX6_goods_X6_needWithin rfl rfl rfl (by decide +kernel) ⟨Nat.le_of_ble_eq_true rfl, Nat.le_of_ble_eq_true rfl⟩) hK hP hS hE rfl hl.1 rfl (lv_room (Nat.le_of_ble_eq_true rfl)) dX6_goods_41 ⟨Nat.le_of_ble_eq_true rfl, Nat.le_of_ble_eq_true rfl⟩ hnt hlk (Nat.le_of_ble_eq_true rfl) (Nat.le_of_ble_eq_true rfl) (fun N hN => ?_) (fun hk H locs hP hS => ?_)
  · obtain ⟨n_41, eN⟩ := er_X6_needWithin hN
    subst eN
    exact ⟨Eq.symm (by unfold f_X6_goods; rw [if_pos n_2, if_pos n_6, if_pos n_14, if_pos n_23, if_pos n_32, if_neg n_41]), (by unfold g_X6_goods; rw [if_pos n_2, if_pos n_6, if_pos n_14, if_pos n_23, if_pos n_32, if_neg n_41])⟩
  have n_41 := od_X6_needWithin hk
  refine lv_aload_n hx hb dX6_goods_44 rfl (lv_at hl 0 rfl) ?_
  refine wx_get hx hb hts hiX6 hown hK hP 0 (by decide) qc_0 rfl 4 (by decide) (hts (.fieldLink RX6 38 "PriceEdict" "towns" "[LPriceEdict$Town;") (by decide +kernel)) rfl dX6_goods_45 ?_
  refine lv_iload_n hx hb dX6_goods_48 rfl (lv_at hl 1 rfl) ?_
  have h_49 : a1.toNatClampNeg < 8 := vp_lt (nd_town_in hI.2.2.2 n_2)
  refine wx_ald hx hb hK hP 3 rfl 14 (by decide) qc_14 (nd_town_in hI.2.2.2 n_2) dX6_goods_49 ?_
  refine wx_get hx hb hts hiX4 hown hK hP (79 + 8 * a1.toNatClampNeg) (by omega) (qc_town h_49) rfl 0 (by decide) (hts (.fieldLink RX6 166 "PriceEdict$Town" "wares" "[LPriceEdict$Wares;") (by decide +kernel)) rfl dX6_goods_50 ?_
  refine lv_iload_n hx hb dX6_goods_53 rfl (lv_at hl 2 rfl) ?_
  have h_54 : a2.toNatClampNeg < 6 := vp_lt (nd_thing_in n_6)
  refine wx_ald hx hb hK hP 4 rfl (80 + 8 * a1.toNatClampNeg) (by omega) (qc_warr h_49) (nd_thing_in n_6) dX6_goods_54 ?_
  refine lv_iload_n hx hb dX6_goods_55 rfl (lv_at hl 3 rfl) ?_
  refine lv_iload hx hb dX6_goods_56 (lv_at hl 4 rfl) ?_
  refine lv_iload hx hb dX6_goods_58 (lv_at hl 5 rfl) ?_
  refine lv_iload hx hb dX6_goods_60 (lv_at hl 6 rfl) ?_
  refine wc_vV (k := (81 + 8 * a1.toNatClampNeg + a2.toNatClampNeg)) (C := RX5) (As := [.int a3, .int a4, .int a5, .int a6]) (rest := []) ⟨hx, hb, hml, hown, hts⟩ (c_X5_arrange l D c g hr S a1.toNatClampNeg a2.toNatClampNeg a3 a4 a5 a6 h_49 h_54) (cwV 4 hts gX6_goods_X5_arrange rfl rfl rfl (by decide +kernel) ⟨Nat.le_of_ble_eq_true rfl, Nat.le_of_ble_eq_true rfl⟩) (wx_recv hK hP (by omega) (qc_wares h_49 h_54) rfl) hK hP hS (fun _ h => h) rfl hl.1 rfl (lv_room (Nat.le_of_ble_eq_true rfl)) dX6_goods_62 ⟨Nat.le_of_ble_eq_true rfl, Nat.le_of_ble_eq_true rfl⟩ (fun H locs hP hS => ?_)
  exact wx_xvret (Nat.le_of_ble_eq_true rfl) (Nat.le_of_ble_eq_true rfl) hx hb hret hlk hK hP hS (Eq.symm (by unfold f_X6_goods; rw [if_pos n_2, if_pos n_6, if_pos n_14, if_pos n_23, if_pos n_32, if_pos n_41])) (by unfold g_X6_goods; rw [if_pos n_2, if_pos n_6, if_pos n_14, if_pos n_23, if_pos n_32, if_pos n_41]) dX6_goods_65
def g_X6_spoil (S : qw_St) (a1 : Int32) (a2 : Int32) : qw_St := (if ok_X6_needThing a1 = true then (if ok_X6_needWithin a2 (0 : Int32) (100 : Int32) = true then (up2 S 15 a1.toNatClampNeg a2) else S) else S)
def f_X6_spoil (a1 : Int32) (a2 : Int32) : Except String Int32 := (if ok_X6_needThing a1 = true then (if ok_X6_needWithin a2 (0 : Int32) (100 : Int32) = true then (.ok 0) else (.error "java/lang/IllegalArgumentException")) else (.error "java/lang/IndexOutOfBoundsException"))
set_option maxHeartbeats 4000000 in
set_option maxRecDepth 100000 in
theorem c_X6_spoil (l : Launch) (hlT : l.stackTraces = false) (D : va_G) {r : Nat → Nat} (c : Nat → ClassId) (g : Nat → Int64) (hr : qw_inj r) (S : qw_St) (a1 : Int32) (a2 : Int32) : MXv l D r c g yX6_spoil wsX6_spoil ({ frames := 7, cells := 2, slots := 12, locals := 104 }) [.ref (r 0), .int a1, .int a2] S (f_X6_spoil a1 a2) (g_X6_spoil S a1 a2) 2 12 := by
  have hiX6 : ∀ w ∈ wsX60, w ∈ wsX6_spoil := by decide +kernel
  refine wx_ofX (cc := cX6_spoil) (nL := 3) (ret := none) (lvs := [(0, .ref (r 0)), (1, .int a1), (2, .int a2)]) (by decide) rfl rfl (Nat.le_of_ble_eq_true rfl) ?_
  intro p e s m below meth c0 ls hx hb hret hml hts hown hlk hK hP hS hl hE hnt
  have hP : qw_P D r c g S s.heap := hP
  refine lv_iload_n hx hb dX6_spoil_0 rfl (lv_at hl 1 rfl) ?_
  refine we_vS (As := [.int a1]) (rest := []) ⟨hx, hb, hml, hown, hts⟩ (c_X6_needThing l hlT D c g hr S a1) (va_cwS 1 hts gX6_spoil_X6_needThing rfl rfl rfl (by decide +kernel) ⟨Nat.le_of_ble_eq_true rfl, Nat.le_of_ble_eq_true rfl⟩) hK hP hS hE rfl hl.1 rfl (lv_room (Nat.le_of_ble_eq_true rfl)) dX6_spoil_1 ⟨Nat.le_of_ble_eq_true rfl, Nat.le_of_ble_eq_true rfl⟩ hnt hlk (Nat.le_of_ble_eq_true rfl) (Nat.le_of_ble_eq_true rfl) (fun N hN => ?_) (fun hk H locs hP hS => ?_)
  · obtain ⟨n_1, eN⟩ := er_X6_needThing hN
    subst eN
    exact ⟨Eq.symm (by unfold f_X6_spoil; rw [if_neg n_1]), (by unfold g_X6_spoil; rw [if_neg n_1])⟩
  have n_1 := od_X6_needThing hk
  refine lv_iload_n hx hb dX6_spoil_4 rfl (lv_at hl 2 rfl) ?_
  refine lv_iconst (v := 0) hx hb dX6_spoil_5 (by decide) ?_
  refine lv_bipush (v := 100) hx hb dX6_spoil_6 (by decide) ?_
  refine we_vS (As := [.int a2, .int (0 : Int32), .int (100 : Int32)]) (rest := []) ⟨hx, hb, hml, hown, hts⟩ (c_X6_needWithin l hlT D c g hr S a2 (0 : Int32) (100 : Int32)) (va_cwS 3 hts gX6_spoil_X6_needWithin rfl rfl rfl (by decide +kernel) ⟨Nat.le_of_ble_eq_true rfl, Nat.le_of_ble_eq_true rfl⟩) hK hP hS hE rfl hl.1 rfl (lv_room (Nat.le_of_ble_eq_true rfl)) dX6_spoil_8 ⟨Nat.le_of_ble_eq_true rfl, Nat.le_of_ble_eq_true rfl⟩ hnt hlk (Nat.le_of_ble_eq_true rfl) (Nat.le_of_ble_eq_true rfl) (fun N hN => ?_) (fun hk H locs hP hS => ?_)
  · obtain ⟨n_8, eN⟩ := er_X6_needWithin hN
    subst eN
    exact ⟨Eq.symm (by unfold f_X6_spoil; rw [if_pos n_1, if_neg n_8]), (by unfold g_X6_spoil; rw [if_pos n_1, if_neg n_8])⟩
  have n_8 := od_X6_needWithin hk
  refine lv_aload_n hx hb dX6_spoil_11 rfl (lv_at hl 0 rfl) ?_
  refine wx_get hx hb hts hiX6 hown hK hP 0 (by decide) qc_0 rfl 5 (by decide) (hts (.fieldLink RX6 42 "PriceEdict" "spoilRates" "[I") (by decide +kernel)) rfl dX6_spoil_12 ?_
  refine lv_iload_n hx hb dX6_spoil_15 rfl (lv_at hl 1 rfl) ?_
  refine lv_iload_n hx hb dX6_spoil_16 rfl (lv_at hl 2 rfl) ?_
  refine wx_ist hr hx hb hK hP hS 15 (by decide) qc_15 (nd_thing_in n_1) dX6_spoil_17 (fun H locs hP hS => ?_)
  exact wx_xvret (Nat.le_of_ble_eq_true rfl) (Nat.le_of_ble_eq_true rfl) hx hb hret hlk hK hP hS (Eq.symm (by unfold f_X6_spoil; rw [if_pos n_1, if_pos n_8])) (by unfold g_X6_spoil; rw [if_pos n_1, if_pos n_8]) dX6_spoil_18
def g_X6_carry (S : qw_St) (a1 : Int32) : qw_St := (if ok_X6_needWithin a1 (0 : Int32) (99 : Int32) = true then (up2 S 0 8 a1) else S)
def f_X6_carry (a1 : Int32) : Except String Int32 := (if ok_X6_needWithin a1 (0 : Int32) (99 : Int32) = true then (.ok 0) else (.error "java/lang/IllegalArgumentException"))
set_option maxHeartbeats 4000000 in
set_option maxRecDepth 100000 in
theorem c_X6_carry (l : Launch) (hlT : l.stackTraces = false) (D : va_G) {r : Nat → Nat} (c : Nat → ClassId) (g : Nat → Int64) (hr : qw_inj r) (S : qw_St) (a1 : Int32) : MXv l D r c g yX6_carry wsX6_carry ({ frames := 7, cells := 1, slots := 6, locals := 104 }) [.ref (r 0), .int a1] S (f_X6_carry a1) (g_X6_carry S a1) 1 6 := by
  have hiX6 : ∀ w ∈ wsX60, w ∈ wsX6_carry := by decide +kernel
  refine wx_ofX (cc := cX6_carry) (nL := 2) (ret := none) (lvs := [(0, .ref (r 0)), (1, .int a1)]) (by decide) rfl rfl (Nat.le_of_ble_eq_true rfl) ?_
  intro p e s m below meth c0 ls hx hb hret hml hts hown hlk hK hP hS hl hE hnt
  have hP : qw_P D r c g S s.heap := hP
  refine lv_iload_n hx hb dX6_carry_0 rfl (lv_at hl 1 rfl) ?_
  refine lv_iconst (v := 0) hx hb dX6_carry_1 (by decide) ?_
  refine lv_bipush (v := 99) hx hb dX6_carry_2 (by decide) ?_
  refine we_vS (As := [.int a1, .int (0 : Int32), .int (99 : Int32)]) (rest := []) ⟨hx, hb, hml, hown, hts⟩ (c_X6_needWithin l hlT D c g hr S a1 (0 : Int32) (99 : Int32)) (va_cwS 3 hts gX6_carry_X6_needWithin rfl rfl rfl (by decide +kernel) ⟨Nat.le_of_ble_eq_true rfl, Nat.le_of_ble_eq_true rfl⟩) hK hP hS hE rfl hl.1 rfl (lv_room (Nat.le_of_ble_eq_true rfl)) dX6_carry_4 ⟨Nat.le_of_ble_eq_true rfl, Nat.le_of_ble_eq_true rfl⟩ hnt hlk (Nat.le_of_ble_eq_true rfl) (Nat.le_of_ble_eq_true rfl) (fun N hN => ?_) (fun hk H locs hP hS => ?_)
  · obtain ⟨n_4, eN⟩ := er_X6_needWithin hN
    subst eN
    exact ⟨Eq.symm (by unfold f_X6_carry; rw [if_neg n_4]), (by unfold g_X6_carry; rw [if_neg n_4])⟩
  have n_4 := od_X6_needWithin hk
  refine lv_aload_n hx hb dX6_carry_7 rfl (lv_at hl 0 rfl) ?_
  refine lv_iload_n hx hb dX6_carry_8 rfl (lv_at hl 1 rfl) ?_
  refine wx_put hr hx hb hts hiX6 tyX6 tyX6_ok nmX6 hown hK hP hS 0 (by decide) qc_0 rfl 8 (by decide) (hts (.fieldLink RX6 53 "PriceEdict" "carryRate" "I") (by decide +kernel)) rfl (by decide +kernel) (fun _ => rfl) (Nat.le_of_ble_eq_true rfl) dX6_carry_9 (fun H locs hP hS => ?_)
  exact wx_xvret (Nat.le_of_ble_eq_true rfl) (Nat.le_of_ble_eq_true rfl) hx hb hret hlk hK hP hS (Eq.symm (by unfold f_X6_carry; rw [if_pos n_4])) (by unfold g_X6_carry; rw [if_pos n_4]) dX6_carry_12
def g_X6_weeks_9 (a1 : Int32) : Nat → qw_St → Int32 → qw_St
  | 0, S, _ => S
  | n + 1, S, z2 => (if a1 ≤ z2 then S else (if (5000 : Int32) < ((S 0 9) + (7 : Int32)) then S else (g_X6_weeks_9 a1 n (g_X6_holdMarkets (up2 S 0 9 ((S 0 9) + (7 : Int32)))) (z2 + (1 : Int32)))))
def f_X6_weeks_9 (a1 : Int32) : Nat → qw_St → Int32 → Except String Int32
  | 0, S, _ => .ok 0
  | n + 1, S, z2 => (if a1 ≤ z2 then (.ok (S 0 9)) else (if (5000 : Int32) < ((S 0 9) + (7 : Int32)) then (.ok (S 0 9)) else (f_X6_weeks_9 a1 n (g_X6_holdMarkets (up2 S 0 9 ((S 0 9) + (7 : Int32)))) (z2 + (1 : Int32)))))
def g_X6_weeks (S : qw_St) (a1 : Int32) : qw_St := (if ok_X6_needWithin a1 (0 : Int32) (50 : Int32) = true then (g_X6_weeks_9 a1 51 S (0 : Int32)) else S)
def f_X6_weeks (S : qw_St) (a1 : Int32) : Except String Int32 := (if ok_X6_needWithin a1 (0 : Int32) (50 : Int32) = true then (f_X6_weeks_9 a1 51 S (0 : Int32)) else (.error "java/lang/IllegalArgumentException"))
set_option maxHeartbeats 4000000 in
set_option maxRecDepth 100000 in
theorem c_X6_weeks (l : Launch) (hlT : l.stackTraces = false) (D : va_G) {r : Nat → Nat} (c : Nat → ClassId) (g : Nat → Int64) (hr : qw_inj r) (S : qw_St) (a1 : Int32) (hI : InvC S) : MXi l D r c g yX6_weeks wsX6_weeks ({ frames := 7, cells := 1, slots := 6, locals := 164 }) [.ref (r 0), .int a1] S (f_X6_weeks S a1) (g_X6_weeks S a1) 1 6 := by
  have hiX6 : ∀ w ∈ wsX60, w ∈ wsX6_weeks := by decide +kernel
  refine wx_ofX (cc := cX6_weeks) (nL := 3) (ret := (some .int)) (lvs := [(0, .ref (r 0)), (1, .int a1)]) (by decide) rfl rfl (Nat.le_of_ble_eq_true rfl) ?_
  intro p e s m below meth c0 ls hx hb hret hml hts hown hlk hK hP hS hl hE hnt
  have hP : qw_P D r c g S s.heap := hP
  refine lv_iload_n hx hb dX6_weeks_0 rfl (lv_at hl 1 rfl) ?_
  refine lv_iconst (v := 0) hx hb dX6_weeks_1 (by decide) ?_
  refine lv_bipush (v := 50) hx hb dX6_weeks_2 (by decide) ?_
  refine we_vS (As := [.int a1, .int (0 : Int32), .int (50 : Int32)]) (rest := []) ⟨hx, hb, hml, hown, hts⟩ (c_X6_needWithin l hlT D c g hr S a1 (0 : Int32) (50 : Int32)) (va_cwS 3 hts gX6_weeks_X6_needWithin rfl rfl rfl (by decide +kernel) ⟨Nat.le_of_ble_eq_true rfl, Nat.le_of_ble_eq_true rfl⟩) hK hP hS hE rfl hl.1 rfl (lv_room (Nat.le_of_ble_eq_true rfl)) dX6_weeks_4 ⟨Nat.le_of_ble_eq_true rfl, Nat.le_of_ble_eq_true rfl⟩ hnt hlk (Nat.le_of_ble_eq_true rfl) (Nat.le_of_ble_eq_true rfl) (fun N hN => ?_) (fun hk H locs hP hS => ?_)
  · obtain ⟨n_4, eN⟩ := er_X6_needWithin hN
    subst eN
    exact ⟨Eq.symm (by unfold f_X6_weeks; rw [if_neg n_4]), (by unfold g_X6_weeks; rw [if_neg n_4])⟩
  have n_4 := od_X6_needWithin hk
  obtain ⟨m0, hm0, em0⟩ := nd_within_qz (N := 50) rfl (by decide) n_4
  refine lv_iconst (v := 0) hx hb dX6_weeks_7 (by decide) ?_
  refine lv_istore_n (lv' := [(2, .int (0 : Int32)), (0, .ref (r 0)), (1, .int a1)]) hx hb dX6_weeks_8 rfl hl (by decide) rfl (fun ls hl => ?_)
  have L_9 : ∀ (n : Nat) (k : Nat) (z2 : Int32) (S1 : qw_St) (H : Heap) (locs : List Loc) (ls : Array Slot) (hk : k + n = 51 ∧ k ≤ m0) (hz2 : z2 = nI k) (hI1 : InvC S1) (hf_9 : f_X6_weeks_9 a1 n S1 z2 = (f_X6_weeks S a1)) (hg_9 : g_X6_weeks_9 a1 n S1 z2 = (g_X6_weeks S a1)), qw_P D r c g S1 H → va_S (qw_A r) s.heap H locs → lv_has ls 3 [(2, .int z2), (0, .ref (r 0)), (1, .int a1)] → W p l e ({ frames := 7, cells := 1, slots := 6, locals := 164 }) s m [.ref (r 0), .int a1].toArray below meth c0 H locs 1 6 (vx_MQ below (qw_XQi D r c g (f_X6_weeks S a1) (g_X6_weeks S a1)) (qw_XX D r c g (f_X6_weeks S a1) (g_X6_weeks S a1)) [.ref (r 0), .int a1].toArray s 1 6 (qw_A r)) (F0 m 9 ls []) := by
    intro n
    induction n with
    | zero =>
      intro k z2 S1 H locs ls hk hz2 hI1 hf_9 hg_9 hP hS hl
      omega
    | succ n ih_9 =>
      intro k z2 S1 H locs ls hk hz2 hI1 hf_9 hg_9 hP hS hl
      refine lv_iload_n hx hb dX6_weeks_9 rfl (lv_at hl 0 rfl) ?_
      refine lv_iload_n hx hb dX6_weeks_10 rfl (lv_at hl 2 rfl) ?_
      refine lv_icmp_ge (tgt := 48) hx hb dX6_weeks_11 (by decide) (fun c_11 => ?_) (fun c_11 => ?_)
      · refine lv_aload_n hx hb dX6_weeks_48 rfl (lv_at hl 1 rfl) ?_
        refine wx_get hx hb hts hiX6 hown hK hP 0 (by decide) qc_0 rfl 9 (by decide) (hts (.fieldLink RX6 56 "PriceEdict" "today" "I") (by decide +kernel)) rfl dX6_weeks_49 ?_
        exact wx_xiret (Nat.le_of_ble_eq_true rfl) (Nat.le_of_ble_eq_true rfl) hx hb hret hlk hK hP hS (Eq.symm (by rw [← hf_9, f_X6_weeks_9]; rw [if_pos c_11])) (by rw [← hg_9, g_X6_weeks_9]; rw [if_pos c_11]) dX6_weeks_52
      · have hk5 : k < m0 := qi_ltn hz2 (by omega) em0 (by omega) c_11
        refine lv_aload_n hx hb dX6_weeks_14 rfl (lv_at hl 1 rfl) ?_
        refine wx_get hx hb hts hiX6 hown hK hP 0 (by decide) qc_0 rfl 9 (by decide) (hts (.fieldLink RX6 56 "PriceEdict" "today" "I") (by decide +kernel)) rfl dX6_weeks_15 ?_
        refine lv_bipush (v := 7) hx hb dX6_weeks_18 (by decide) ?_
        refine lv_iadd hx hb dX6_weeks_20 ?_
        refine lv_sipush (v := 5000) hx hb dX6_weeks_21 (by decide) ?_
        refine lv_icmp_gt (tgt := 48) hx hb dX6_weeks_24 (by decide) (fun c_24 => ?_) (fun c_24 => ?_)
        · refine lv_aload_n hx hb dX6_weeks_48 rfl (lv_at hl 1 rfl) ?_
          refine wx_get hx hb hts hiX6 hown hK hP 0 (by decide) qc_0 rfl 9 (by decide) (hts (.fieldLink RX6 56 "PriceEdict" "today" "I") (by decide +kernel)) rfl dX6_weeks_49 ?_
          exact wx_xiret (Nat.le_of_ble_eq_true rfl) (Nat.le_of_ble_eq_true rfl) hx hb hret hlk hK hP hS (Eq.symm (by rw [← hf_9, f_X6_weeks_9]; rw [if_neg c_11, if_pos c_24])) (by rw [← hg_9, g_X6_weeks_9]; rw [if_neg c_11, if_pos c_24]) dX6_weeks_52
        · refine lv_aload_n hx hb dX6_weeks_27 rfl (lv_at hl 1 rfl) ?_
          refine lv_dup hx hb dX6_weeks_28 rfl ?_
          refine wx_get hx hb hts hiX6 hown hK hP 0 (by decide) qc_0 rfl 9 (by decide) (hts (.fieldLink RX6 56 "PriceEdict" "today" "I") (by decide +kernel)) rfl dX6_weeks_29 ?_
          refine lv_bipush (v := 7) hx hb dX6_weeks_32 (by decide) ?_
          refine lv_iadd hx hb dX6_weeks_34 ?_
          refine wx_put hr hx hb hts hiX6 tyX6 tyX6_ok nmX6 hown hK hP hS 0 (by decide) qc_0 rfl 9 (by decide) (hts (.fieldLink RX6 56 "PriceEdict" "today" "I") (by decide +kernel)) rfl (by decide +kernel) (fun _ => rfl) (Nat.le_of_ble_eq_true rfl) dX6_weeks_35 (fun H locs hP hS => ?_)
          refine lv_aload_n hx hb dX6_weeks_38 rfl (lv_at hl 1 rfl) ?_
          refine wc_vV (k := 0) (C := RX6) (As := []) (rest := []) ⟨hx, hb, hml, hown, hts⟩ (c_X6_holdMarkets l D c g hr (up2 S1 0 9 ((S1 0 9) + (7 : Int32))) (InvC.slot0 hI1 (by decide) _)) (cwV 0 hts gX6_weeks_X6_holdMarkets rfl rfl rfl (by decide +kernel) ⟨Nat.le_of_ble_eq_true rfl, Nat.le_of_ble_eq_true rfl⟩) (wx_recv hK hP (by decide) qc_0 rfl) hK hP hS (fun _ h => h) rfl hl.1 rfl (lv_room (Nat.le_of_ble_eq_true rfl)) dX6_weeks_39 ⟨Nat.le_of_ble_eq_true rfl, Nat.le_of_ble_eq_true rfl⟩ (fun H locs hP hS => ?_)
          obtain ⟨x_1, ex_1⟩ : ∃ y : Int32, y = (z2 + (1 : Int32)) := ⟨_, rfl⟩
          refine lv_iinc (v := x_1) (lv' := [(2, .int x_1), (0, .ref (r 0)), (1, .int a1)]) hx hb dX6_weeks_42 hl (k := 0) rfl (by rw [ex_1]; rfl) (by decide) rfl (fun ls hl => ?_)
          refine lv_goto (tgt := 9) hx hb dX6_weeks_45 (by decide) ?_
          exact ih_9 (k + 1) x_1 (g_X6_holdMarkets (up2 S1 0 9 ((S1 0 9) + (7 : Int32)))) _ _ _ (by omega) (by rw [ex_1]; exact qi_add hz2) (InvC.hold (InvC.slot0 hI1 (by decide) _)) (by subst ex_1; rw [← hf_9, f_X6_weeks_9]; rw [if_neg c_11, if_neg c_24]) (by subst ex_1; rw [← hg_9, g_X6_weeks_9]; rw [if_neg c_11, if_neg c_24]) hP hS (lv_sub hl [0, 1, 2] rfl)
  exact L_9 51 0 (0 : Int32) S _ _ _ (by omega) nI_0.symm hI (by unfold f_X6_weeks; rw [if_pos n_4]) (by unfold g_X6_weeks; rw [if_pos n_4]) hP hS (lv_sub hl [0, 1, 2] rfl)
def g_X6_days (S : qw_St) (a1 : Int32) : qw_St := (if ok_X6_needWithin a1 (0 : Int32) (100 : Int32) = true then (up2 S 0 9 (if (5000 : Int32) < ((S 0 9) + a1) then (5000 : Int32) else ((S 0 9) + a1))) else S)
def f_X6_days (S : qw_St) (a1 : Int32) : Except String Int32 := (if ok_X6_needWithin a1 (0 : Int32) (100 : Int32) = true then (.ok (if (5000 : Int32) < ((S 0 9) + a1) then (5000 : Int32) else ((S 0 9) + a1))) else (.error "java/lang/IllegalArgumentException"))
set_option maxHeartbeats 4000000 in
set_option maxRecDepth 100000 in
theorem c_X6_days (l : Launch) (hlT : l.stackTraces = false) (D : va_G) {r : Nat → Nat} (c : Nat → ClassId) (g : Nat → Int64) (hr : qw_inj r) (S : qw_St) (a1 : Int32) : MXi l D r c g yX6_days wsX6_days ({ frames := 7, cells := 1, slots := 6, locals := 104 }) [.ref (r 0), .int a1] S (f_X6_days S a1) (g_X6_days S a1) 1 6 := by
  have hiX6 : ∀ w ∈ wsX60, w ∈ wsX6_days := by decide +kernel
  refine wx_ofX (cc := cX6_days) (nL := 2) (ret := (some .int)) (lvs := [(0, .ref (r 0)), (1, .int a1)]) (by decide) rfl rfl (Nat.le_of_ble_eq_true rfl) ?_
  intro p e s m below meth c0 ls hx hb hret hml hts hown hlk hK hP hS hl hE hnt
  have hP : qw_P D r c g S s.heap := hP
  refine lv_iload_n hx hb dX6_days_0 rfl (lv_at hl 1 rfl) ?_
  refine lv_iconst (v := 0) hx hb dX6_days_1 (by decide) ?_
  refine lv_bipush (v := 100) hx hb dX6_days_2 (by decide) ?_
  refine we_vS (As := [.int a1, .int (0 : Int32), .int (100 : Int32)]) (rest := []) ⟨hx, hb, hml, hown, hts⟩ (c_X6_needWithin l hlT D c g hr S a1 (0 : Int32) (100 : Int32)) (va_cwS 3 hts gX6_days_X6_needWithin rfl rfl rfl (by decide +kernel) ⟨Nat.le_of_ble_eq_true rfl, Nat.le_of_ble_eq_true rfl⟩) hK hP hS hE rfl hl.1 rfl (lv_room (Nat.le_of_ble_eq_true rfl)) dX6_days_4 ⟨Nat.le_of_ble_eq_true rfl, Nat.le_of_ble_eq_true rfl⟩ hnt hlk (Nat.le_of_ble_eq_true rfl) (Nat.le_of_ble_eq_true rfl) (fun N hN => ?_) (fun hk H locs hP hS => ?_)
  · obtain ⟨n_4, eN⟩ := er_X6_needWithin hN
    subst eN
    exact ⟨Eq.symm (by unfold f_X6_days; rw [if_neg n_4]), (by unfold g_X6_days; rw [if_neg n_4])⟩
  have n_4 := od_X6_needWithin hk
  refine lv_aload_n hx hb dX6_days_7 rfl (lv_at hl 0 rfl) ?_
  refine lv_aload_n hx hb dX6_days_8 rfl (lv_at hl 0 rfl) ?_
  refine wx_get hx hb hts hiX6 hown hK hP 0 (by decide) qc_0 rfl 9 (by decide) (hts (.fieldLink RX6 56 "PriceEdict" "today" "I") (by decide +kernel)) rfl dX6_days_9 ?_
  refine lv_iload_n hx hb dX6_days_12 rfl (lv_at hl 1 rfl) ?_
  refine lv_iadd hx hb dX6_days_13 ?_
  refine lv_sipush (v := 5000) hx hb dX6_days_14 (by decide) ?_
  refine va_mmin hx hb (hml.trans hl.1.symm) hown (hts (.methodLink RX6 126 Lib.Math.min.name) (by decide +kernel)) (hts (.static Lib.Math.min.name) (by decide +kernel)) (hts (.initialized "java/lang/Math") (by decide +kernel)) (hts (.code Lib.Math.min.name Lib.Math.min.code 2 (some .int)) (by decide +kernel)) (Nat.le_of_ble_eq_true rfl) (Nat.le_of_ble_eq_true rfl) (Nat.le_of_ble_eq_true rfl) (Nat.le_of_ble_eq_true rfl) dX6_days_17 ?_
  refine wx_put hr hx hb hts hiX6 tyX6 tyX6_ok nmX6 hown hK hP hS 0 (by decide) qc_0 rfl 9 (by decide) (hts (.fieldLink RX6 56 "PriceEdict" "today" "I") (by decide +kernel)) rfl (by decide +kernel) (fun _ => rfl) (Nat.le_of_ble_eq_true rfl) dX6_days_20 (fun H locs hP hS => ?_)
  refine lv_aload_n hx hb dX6_days_23 rfl (lv_at hl 0 rfl) ?_
  refine wx_get hx hb hts hiX6 hown hK hP 0 (by decide) qc_0 rfl 9 (by decide) (hts (.fieldLink RX6 56 "PriceEdict" "today" "I") (by decide +kernel)) rfl dX6_days_24 ?_
  refine lv_tope (if (5000 : Int32) < ((S 0 9) + a1) then (5000 : Int32) else ((S 0 9) + a1)) ((up2_same _ _ _ _)) ?_
  exact wx_xiret (Nat.le_of_ble_eq_true rfl) (Nat.le_of_ble_eq_true rfl) hx hb hret hlk hK hP hS (Eq.symm (by unfold f_X6_days; rw [if_pos n_4])) (by unfold g_X6_days; rw [if_pos n_4]) dX6_days_27
def g_X6_look (S : qw_St) (a1 : Int32) (a2 : Int32) (a3 : Int32) : qw_St := (if ok_X6_needTown S a1 = true then (if ok_X6_needThing a2 = true then (if ok_X6_needWhat a3 (7 : Int32) = true then (if a3 = 0 then S else (if a3 = 1 then S else (if a3 = 2 then S else (if a3 = 3 then S else (if a3 = 4 then S else (if a3 = 5 then S else (if a3 = 6 then S else (g_X6_priceToday S a1 a2)))))))) else S) else S) else S)
def f_X6_look (S : qw_St) (a1 : Int32) (a2 : Int32) (a3 : Int32) : Except String Int32 := (if ok_X6_needTown S a1 = true then (if ok_X6_needThing a2 = true then (if ok_X6_needWhat a3 (7 : Int32) = true then (if a3 = 0 then (.ok (S (81 + 8 * a1.toNatClampNeg + a2.toNatClampNeg) 4)) else (if a3 = 1 then (.ok (S (81 + 8 * a1.toNatClampNeg + a2.toNatClampNeg) 5)) else (if a3 = 2 then (.ok (S (81 + 8 * a1.toNatClampNeg + a2.toNatClampNeg) 6)) else (if a3 = 3 then (.ok (S (81 + 8 * a1.toNatClampNeg + a2.toNatClampNeg) 7)) else (if a3 = 4 then (.ok (S (81 + 8 * a1.toNatClampNeg + a2.toNatClampNeg) 8)) else (if a3 = 5 then (.ok (S (81 + 8 * a1.toNatClampNeg + a2.toNatClampNeg) 9)) else (if a3 = 6 then (.ok (S (81 + 8 * a1.toNatClampNeg + a2.toNatClampNeg) 10)) else (.ok (f_X6_priceToday S a1 a2))))))))) else (.error "java/util/NoSuchElementException")) else (.error "java/lang/IndexOutOfBoundsException")) else (.error "java/lang/IndexOutOfBoundsException"))
set_option maxHeartbeats 4000000 in
set_option maxRecDepth 100000 in
theorem c_X6_look (l : Launch) (hlT : l.stackTraces = false) (D : va_G) {r : Nat → Nat} (c : Nat → ClassId) (g : Nat → Int64) (hr : qw_inj r) (S : qw_St) (a1 : Int32) (a2 : Int32) (a3 : Int32) (hI : InvC S) : MXi l D r c g yX6_look wsX6_look ({ frames := 7, cells := 3, slots := 18, locals := 140 }) [.ref (r 0), .int a1, .int a2, .int a3] S (f_X6_look S a1 a2 a3) (g_X6_look S a1 a2 a3) 3 18 := by
  have hiX4 : ∀ w ∈ wsX40, w ∈ wsX6_look := by decide +kernel
  have hiX5 : ∀ w ∈ wsX50, w ∈ wsX6_look := by decide +kernel
  have hiX6 : ∀ w ∈ wsX60, w ∈ wsX6_look := by decide +kernel
  refine wx_ofX (cc := cX6_look) (nL := 5) (ret := (some .int)) (lvs := [(0, .ref (r 0)), (1, .int a1), (2, .int a2), (3, .int a3)]) (by decide) rfl rfl (Nat.le_of_ble_eq_true rfl) ?_
  intro p e s m below meth c0 ls hx hb hret hml hts hown hlk hK hP hS hl hE hnt
  have hP : qw_P D r c g S s.heap := hP
  refine lv_aload_n hx hb dX6_look_0 rfl (lv_at hl 0 rfl) ?_
  refine lv_iload_n hx hb dX6_look_1 rfl (lv_at hl 1 rfl) ?_
  refine we_vV (b := r 0) (C := RX6) (As := [.int a1]) (rest := []) ⟨hx, hb, hml, hown, hts⟩ (c_X6_needTown l hlT D c g hr S a1) (cwV 1 hts gX6_look_X6_needTown rfl rfl rfl (by decide +kernel) ⟨Nat.le_of_ble_eq_true rfl, Nat.le_of_ble_eq_true rfl⟩) (wx_recv hK hP (by decide) qc_0 rfl) hK hP hS hE rfl hl.1 rfl (lv_room (Nat.le_of_ble_eq_true rfl)) dX6_look_2 ⟨Nat.le_of_ble_eq_true rfl, Nat.le_of_ble_eq_true rfl⟩ hnt hlk (Nat.le_of_ble_eq_true rfl) (Nat.le_of_ble_eq_true rfl) (fun N hN => ?_) (fun hk H locs hP hS => ?_)
  · obtain ⟨n_2, eN⟩ := er_X6_needTown hN
    subst eN
    exact ⟨Eq.symm (by unfold f_X6_look; rw [if_neg n_2]), (by unfold g_X6_look; rw [if_neg n_2])⟩
  have n_2 := od_X6_needTown hk
  refine lv_iload_n hx hb dX6_look_5 rfl (lv_at hl 2 rfl) ?_
  refine we_vS (As := [.int a2]) (rest := []) ⟨hx, hb, hml, hown, hts⟩ (c_X6_needThing l hlT D c g hr S a2) (va_cwS 1 hts gX6_look_X6_needThing rfl rfl rfl (by decide +kernel) ⟨Nat.le_of_ble_eq_true rfl, Nat.le_of_ble_eq_true rfl⟩) hK hP hS hE rfl hl.1 rfl (lv_room (Nat.le_of_ble_eq_true rfl)) dX6_look_6 ⟨Nat.le_of_ble_eq_true rfl, Nat.le_of_ble_eq_true rfl⟩ hnt hlk (Nat.le_of_ble_eq_true rfl) (Nat.le_of_ble_eq_true rfl) (fun N hN => ?_) (fun hk H locs hP hS => ?_)
  · obtain ⟨n_6, eN⟩ := er_X6_needThing hN
    subst eN
    exact ⟨Eq.symm (by unfold f_X6_look; rw [if_pos n_2, if_neg n_6]), (by unfold g_X6_look; rw [if_pos n_2, if_neg n_6])⟩
  have n_6 := od_X6_needThing hk
  refine lv_iload_n hx hb dX6_look_9 rfl (lv_at hl 3 rfl) ?_
  refine lv_bipush (v := 7) hx hb dX6_look_10 (by decide) ?_
  refine we_vS (As := [.int a3, .int (7 : Int32)]) (rest := []) ⟨hx, hb, hml, hown, hts⟩ (c_X6_needWhat l hlT D c g hr S a3 (7 : Int32)) (va_cwS 2 hts gX6_look_X6_needWhat rfl rfl rfl (by decide +kernel) ⟨Nat.le_of_ble_eq_true rfl, Nat.le_of_ble_eq_true rfl⟩) hK hP hS hE rfl hl.1 rfl (lv_room (Nat.le_of_ble_eq_true rfl)) dX6_look_12 ⟨Nat.le_of_ble_eq_true rfl, Nat.le_of_ble_eq_true rfl⟩ hnt hlk (Nat.le_of_ble_eq_true rfl) (Nat.le_of_ble_eq_true rfl) (fun N hN => ?_) (fun hk H locs hP hS => ?_)
  · obtain ⟨n_12, eN⟩ := er_X6_needWhat hN
    subst eN
    exact ⟨Eq.symm (by unfold f_X6_look; rw [if_pos n_2, if_pos n_6, if_neg n_12]), (by unfold g_X6_look; rw [if_pos n_2, if_pos n_6, if_neg n_12])⟩
  have n_12 := od_X6_needWhat hk
  refine lv_aload_n hx hb dX6_look_15 rfl (lv_at hl 0 rfl) ?_
  refine wx_get hx hb hts hiX6 hown hK hP 0 (by decide) qc_0 rfl 4 (by decide) (hts (.fieldLink RX6 38 "PriceEdict" "towns" "[LPriceEdict$Town;") (by decide +kernel)) rfl dX6_look_16 ?_
  refine lv_iload_n hx hb dX6_look_19 rfl (lv_at hl 1 rfl) ?_
  have h_20 : a1.toNatClampNeg < 8 := vp_lt (nd_town_in hI.2.2.2 n_2)
  refine wx_ald hx hb hK hP 3 rfl 14 (by decide) qc_14 (nd_town_in hI.2.2.2 n_2) dX6_look_20 ?_
  refine wx_get hx hb hts hiX4 hown hK hP (79 + 8 * a1.toNatClampNeg) (by omega) (qc_town h_20) rfl 0 (by decide) (hts (.fieldLink RX6 166 "PriceEdict$Town" "wares" "[LPriceEdict$Wares;") (by decide +kernel)) rfl dX6_look_21 ?_
  refine lv_iload_n hx hb dX6_look_24 rfl (lv_at hl 2 rfl) ?_
  have h_25 : a2.toNatClampNeg < 6 := vp_lt (nd_thing_in n_6)
  refine wx_ald hx hb hK hP 4 rfl (80 + 8 * a1.toNatClampNeg) (by omega) (qc_warr h_20) (nd_thing_in n_6) dX6_look_25 ?_
  refine lv_astore (lv' := [(4, .ref (r (81 + 8 * a1.toNatClampNeg + a2.toNatClampNeg))), (0, .ref (r 0)), (1, .int a1), (2, .int a2), (3, .int a3)]) hx hb dX6_look_26 hl (by decide) rfl (fun ls hl => ?_)
  refine lv_iload_n hx hb dX6_look_28 rfl (lv_at hl 4 rfl) ?_
  by_cases c_29_0 : a3 = 0
  · refine lv_tableIn (tgt := 72) hx hb dX6_look_29 (by rw [c_29_0]; decide) (by rw [c_29_0]; decide) (by rw [c_29_0]; rfl) (by decide) ?_
    refine lv_aload hx hb dX6_look_72 (lv_at hl 0 rfl) ?_
    refine wx_get hx hb hts hiX5 hown hK hP (81 + 8 * a1.toNatClampNeg + a2.toNatClampNeg) (by omega) (qc_wares h_20 h_25) rfl 4 (by decide) (hts (.fieldLink RX6 179 "PriceEdict$Wares" "stock" "I") (by decide +kernel)) rfl dX6_look_74 ?_
    exact wx_xiret (Nat.le_of_ble_eq_true rfl) (Nat.le_of_ble_eq_true rfl) hx hb hret hlk hK hP hS (Eq.symm (by unfold f_X6_look; rw [if_pos n_2, if_pos n_6, if_pos n_12, if_pos c_29_0])) (by unfold g_X6_look; rw [if_pos n_2, if_pos n_6, if_pos n_12, if_pos c_29_0]) dX6_look_77
  by_cases c_29_1 : a3 = 1
  · refine lv_tableIn (tgt := 78) hx hb dX6_look_29 (by rw [c_29_1]; decide) (by rw [c_29_1]; decide) (by rw [c_29_1]; rfl) (by decide) ?_
    refine lv_aload hx hb dX6_look_78 (lv_at hl 0 rfl) ?_
    refine wx_get hx hb hts hiX5 hown hK hP (81 + 8 * a1.toNatClampNeg + a2.toNatClampNeg) (by omega) (qc_wares h_20 h_25) rfl 5 (by decide) (hts (.fieldLink RX6 182 "PriceEdict$Wares" "hidden" "I") (by decide +kernel)) rfl dX6_look_80 ?_
    exact wx_xiret (Nat.le_of_ble_eq_true rfl) (Nat.le_of_ble_eq_true rfl) hx hb hret hlk hK hP hS (Eq.symm (by unfold f_X6_look; rw [if_pos n_2, if_pos n_6, if_pos n_12, if_neg c_29_0, if_pos c_29_1])) (by unfold g_X6_look; rw [if_pos n_2, if_pos n_6, if_pos n_12, if_neg c_29_0, if_pos c_29_1]) dX6_look_83
  by_cases c_29_2 : a3 = 2
  · refine lv_tableIn (tgt := 84) hx hb dX6_look_29 (by rw [c_29_2]; decide) (by rw [c_29_2]; decide) (by rw [c_29_2]; rfl) (by decide) ?_
    refine lv_aload hx hb dX6_look_84 (lv_at hl 0 rfl) ?_
    refine wx_get hx hb hts hiX5 hown hK hP (81 + 8 * a1.toNatClampNeg + a2.toNatClampNeg) (by omega) (qc_wares h_20 h_25) rfl 6 (by decide) (hts (.fieldLink RX6 185 "PriceEdict$Wares" "brought" "I") (by decide +kernel)) rfl dX6_look_86 ?_
    exact wx_xiret (Nat.le_of_ble_eq_true rfl) (Nat.le_of_ble_eq_true rfl) hx hb hret hlk hK hP hS (Eq.symm (by unfold f_X6_look; rw [if_pos n_2, if_pos n_6, if_pos n_12, if_neg c_29_0, if_neg c_29_1, if_pos c_29_2])) (by unfold g_X6_look; rw [if_pos n_2, if_pos n_6, if_pos n_12, if_neg c_29_0, if_neg c_29_1, if_pos c_29_2]) dX6_look_89
  by_cases c_29_3 : a3 = 3
  · refine lv_tableIn (tgt := 90) hx hb dX6_look_29 (by rw [c_29_3]; decide) (by rw [c_29_3]; decide) (by rw [c_29_3]; rfl) (by decide) ?_
    refine lv_aload hx hb dX6_look_90 (lv_at hl 0 rfl) ?_
    refine wx_get hx hb hts hiX5 hown hK hP (81 + 8 * a1.toNatClampNeg + a2.toNatClampNeg) (by omega) (qc_wares h_20 h_25) rfl 7 (by decide) (hts (.fieldLink RX6 188 "PriceEdict$Wares" "sold" "I") (by decide +kernel)) rfl dX6_look_92 ?_
    exact wx_xiret (Nat.le_of_ble_eq_true rfl) (Nat.le_of_ble_eq_true rfl) hx hb hret hlk hK hP hS (Eq.symm (by unfold f_X6_look; rw [if_pos n_2, if_pos n_6, if_pos n_12, if_neg c_29_0, if_neg c_29_1, if_neg c_29_2, if_pos c_29_3])) (by unfold g_X6_look; rw [if_pos n_2, if_pos n_6, if_pos n_12, if_neg c_29_0, if_neg c_29_1, if_neg c_29_2, if_pos c_29_3]) dX6_look_95
  by_cases c_29_4 : a3 = 4
  · refine lv_tableIn (tgt := 96) hx hb dX6_look_29 (by rw [c_29_4]; decide) (by rw [c_29_4]; decide) (by rw [c_29_4]; rfl) (by decide) ?_
    refine lv_aload hx hb dX6_look_96 (lv_at hl 0 rfl) ?_
    refine wx_get hx hb hts hiX5 hown hK hP (81 + 8 * a1.toNatClampNeg + a2.toNatClampNeg) (by omega) (qc_wares h_20 h_25) rfl 8 (by decide) (hts (.fieldLink RX6 191 "PriceEdict$Wares" "spoilt" "I") (by decide +kernel)) rfl dX6_look_98 ?_
    exact wx_xiret (Nat.le_of_ble_eq_true rfl) (Nat.le_of_ble_eq_true rfl) hx hb hret hlk hK hP hS (Eq.symm (by unfold f_X6_look; rw [if_pos n_2, if_pos n_6, if_pos n_12, if_neg c_29_0, if_neg c_29_1, if_neg c_29_2, if_neg c_29_3, if_pos c_29_4])) (by unfold g_X6_look; rw [if_pos n_2, if_pos n_6, if_pos n_12, if_neg c_29_0, if_neg c_29_1, if_neg c_29_2, if_neg c_29_3, if_pos c_29_4]) dX6_look_101
  by_cases c_29_5 : a3 = 5
  · refine lv_tableIn (tgt := 102) hx hb dX6_look_29 (by rw [c_29_5]; decide) (by rw [c_29_5]; decide) (by rw [c_29_5]; rfl) (by decide) ?_
    refine lv_aload hx hb dX6_look_102 (lv_at hl 0 rfl) ?_
    refine wx_get hx hb hts hiX5 hown hK hP (81 + 8 * a1.toNatClampNeg + a2.toNatClampNeg) (by omega) (qc_wares h_20 h_25) rfl 9 (by decide) (hts (.fieldLink RX6 194 "PriceEdict$Wares" "paid" "I") (by decide +kernel)) rfl dX6_look_104 ?_
    exact wx_xiret (Nat.le_of_ble_eq_true rfl) (Nat.le_of_ble_eq_true rfl) hx hb hret hlk hK hP hS (Eq.symm (by unfold f_X6_look; rw [if_pos n_2, if_pos n_6, if_pos n_12, if_neg c_29_0, if_neg c_29_1, if_neg c_29_2, if_neg c_29_3, if_neg c_29_4, if_pos c_29_5])) (by unfold g_X6_look; rw [if_pos n_2, if_pos n_6, if_pos n_12, if_neg c_29_0, if_neg c_29_1, if_neg c_29_2, if_neg c_29_3, if_neg c_29_4, if_pos c_29_5]) dX6_look_107
  by_cases c_29_6 : a3 = 6
  · refine lv_tableIn (tgt := 108) hx hb dX6_look_29 (by rw [c_29_6]; decide) (by rw [c_29_6]; decide) (by rw [c_29_6]; rfl) (by decide) ?_
    refine lv_aload hx hb dX6_look_108 (lv_at hl 0 rfl) ?_
    refine wx_get hx hb hts hiX5 hown hK hP (81 + 8 * a1.toNatClampNeg + a2.toNatClampNeg) (by omega) (qc_wares h_20 h_25) rfl 10 (by decide) (hts (.fieldLink RX6 197 "PriceEdict$Wares" "weight" "I") (by decide +kernel)) rfl dX6_look_110 ?_
    exact wx_xiret (Nat.le_of_ble_eq_true rfl) (Nat.le_of_ble_eq_true rfl) hx hb hret hlk hK hP hS (Eq.symm (by unfold f_X6_look; rw [if_pos n_2, if_pos n_6, if_pos n_12, if_neg c_29_0, if_neg c_29_1, if_neg c_29_2, if_neg c_29_3, if_neg c_29_4, if_neg c_29_5, if_pos c_29_6])) (by unfold g_X6_look; rw [if_pos n_2, if_pos n_6, if_pos n_12, if_neg c_29_0, if_neg c_29_1, if_neg c_29_2, if_neg c_29_3, if_neg c_29_4, if_neg c_29_5, if_pos c_29_6]) dX6_look_113
  refine lv_tableOut (tgt := 114) hx hb dX6_look_29 (sw_out6 c_29_0 c_29_1 c_29_2 c_29_3 c_29_4 c_29_5 c_29_6) (by decide) ?_
  refine lv_aload_n hx hb dX6_look_114 rfl (lv_at hl 1 rfl) ?_
  refine lv_iload_n hx hb dX6_look_115 rfl (lv_at hl 2 rfl) ?_
  refine lv_iload_n hx hb dX6_look_116 rfl (lv_at hl 3 rfl) ?_
  refine wc_iV (k := 0) (C := RX6) (As := [.int a1, .int a2]) (rest := []) ⟨hx, hb, hml, hown, hts⟩ (c_X6_priceToday l D c g hr S a1 a2 (nd_town_in hI.2.2.2 n_2) (nd_thing_in n_6) (by first | assumption | omega)) (cwV 2 hts gX6_look_X6_priceToday rfl rfl rfl (by decide +kernel) ⟨Nat.le_of_ble_eq_true rfl, Nat.le_of_ble_eq_true rfl⟩) (wx_recv hK hP (by decide) qc_0 rfl) hK hP hS (fun _ h => h) rfl hl.1 rfl (lv_room (Nat.le_of_ble_eq_true rfl)) dX6_look_117 ⟨Nat.le_of_ble_eq_true rfl, Nat.le_of_ble_eq_true rfl⟩ (fun H locs hP hS => ?_)
  exact wx_xiret (Nat.le_of_ble_eq_true rfl) (Nat.le_of_ble_eq_true rfl) hx hb hret hlk hK hP hS (Eq.symm (by unfold f_X6_look; rw [if_pos n_2, if_pos n_6, if_pos n_12, if_neg c_29_0, if_neg c_29_1, if_neg c_29_2, if_neg c_29_3, if_neg c_29_4, if_neg c_29_5, if_neg c_29_6])) (by unfold g_X6_look; rw [if_pos n_2, if_pos n_6, if_pos n_12, if_neg c_29_0, if_neg c_29_1, if_neg c_29_2, if_neg c_29_3, if_neg c_29_4, if_neg c_29_5, if_neg c_29_6]) dX6_look_120
def g_X6_buys (S : qw_St) (a1 : Int32) (a2 : Int32) (a3 : Int32) : qw_St := (if ok_X6_needTown S a1 = true then (if ok_X6_needThing a2 = true then (if ok_X6_needWithin a3 (0 : Int32) (100000 : Int32) = true then (if (f_X6_priceToday S a1 a2) ≤ 0 then (g_X6_priceToday S a1 a2) else (g_X6_priceToday S a1 a2)) else S) else S) else S)
def f_X6_buys (S : qw_St) (a1 : Int32) (a2 : Int32) (a3 : Int32) : Except String Int32 := (if ok_X6_needTown S a1 = true then (if ok_X6_needThing a2 = true then (if ok_X6_needWithin a3 (0 : Int32) (100000 : Int32) = true then (if (f_X6_priceToday S a1 a2) ≤ 0 then (.ok (S (81 + 8 * a1.toNatClampNeg + a2.toNatClampNeg) 4)) else (.ok (if (S (81 + 8 * a1.toNatClampNeg + a2.toNatClampNeg) 4) < (a3 / (f_X6_priceToday S a1 a2)) then (S (81 + 8 * a1.toNatClampNeg + a2.toNatClampNeg) 4) else (a3 / (f_X6_priceToday S a1 a2))))) else (.error "java/lang/IllegalArgumentException")) else (.error "java/lang/IndexOutOfBoundsException")) else (.error "java/lang/IndexOutOfBoundsException"))
set_option maxHeartbeats 4000000 in
set_option maxRecDepth 100000 in
theorem c_X6_buys (l : Launch) (hlT : l.stackTraces = false) (D : va_G) {r : Nat → Nat} (c : Nat → ClassId) (g : Nat → Int64) (hr : qw_inj r) (S : qw_St) (a1 : Int32) (a2 : Int32) (a3 : Int32) (hI : InvC S) : MXi l D r c g yX6_buys wsX6_buys ({ frames := 7, cells := 3, slots := 18, locals := 140 }) [.ref (r 0), .int a1, .int a2, .int a3] S (f_X6_buys S a1 a2 a3) (g_X6_buys S a1 a2 a3) 3 18 := by
  have hiX4 : ∀ w ∈ wsX40, w ∈ wsX6_buys := by decide +kernel
  have hiX5 : ∀ w ∈ wsX50, w ∈ wsX6_buys := by decide +kernel
  have hiX6 : ∀ w ∈ wsX60, w ∈ wsX6_buys := by decide +kernel
  refine wx_ofX (cc := cX6_buys) (nL := 6) (ret := (some .int)) (lvs := [(0, .ref (r 0)), (1, .int a1), (2, .int a2), (3, .int a3)]) (by decide) rfl rfl (Nat.le_of_ble_eq_true rfl) ?_
  intro p e s m below meth c0 ls hx hb hret hml hts hown hlk hK hP hS hl hE hnt
  have hP : qw_P D r c g S s.heap := hP
  refine lv_aload_n hx hb dX6_buys_0 rfl (lv_at hl 0 rfl) ?_
  refine lv_iload_n hx hb dX6_buys_1 rfl (lv_at hl 1 rfl) ?_
  refine we_vV (b := r 0) (C := RX6) (As := [.int a1]) (rest := []) ⟨hx, hb, hml, hown, hts⟩ (c_X6_needTown l hlT D c g hr S a1) (cwV 1 hts gX6_buys_X6_needTown rfl rfl rfl (by decide +kernel) ⟨Nat.le_of_ble_eq_true rfl, Nat.le_of_ble_eq_true rfl⟩) (wx_recv hK hP (by decide) qc_0 rfl) hK hP hS hE rfl hl.1 rfl (lv_room (Nat.le_of_ble_eq_true rfl)) dX6_buys_2 ⟨Nat.le_of_ble_eq_true rfl, Nat.le_of_ble_eq_true rfl⟩ hnt hlk (Nat.le_of_ble_eq_true rfl) (Nat.le_of_ble_eq_true rfl) (fun N hN => ?_) (fun hk H locs hP hS => ?_)
  · obtain ⟨n_2, eN⟩ := er_X6_needTown hN
    subst eN
    exact ⟨Eq.symm (by unfold f_X6_buys; rw [if_neg n_2]), (by unfold g_X6_buys; rw [if_neg n_2])⟩
  have n_2 := od_X6_needTown hk
  refine lv_iload_n hx hb dX6_buys_5 rfl (lv_at hl 2 rfl) ?_
  refine we_vS (As := [.int a2]) (rest := []) ⟨hx, hb, hml, hown, hts⟩ (c_X6_needThing l hlT D c g hr S a2) (va_cwS 1 hts gX6_buys_X6_needThing rfl rfl rfl (by decide +kernel) ⟨Nat.le_of_ble_eq_true rfl, Nat.le_of_ble_eq_true rfl⟩) hK hP hS hE rfl hl.1 rfl (lv_room (Nat.le_of_ble_eq_true rfl)) dX6_buys_6 ⟨Nat.le_of_ble_eq_true rfl, Nat.le_of_ble_eq_true rfl⟩ hnt hlk (Nat.le_of_ble_eq_true rfl) (Nat.le_of_ble_eq_true rfl) (fun N hN => ?_) (fun hk H locs hP hS => ?_)
  · obtain ⟨n_6, eN⟩ := er_X6_needThing hN
    subst eN
    exact ⟨Eq.symm (by unfold f_X6_buys; rw [if_pos n_2, if_neg n_6]), (by unfold g_X6_buys; rw [if_pos n_2, if_neg n_6])⟩
  have n_6 := od_X6_needThing hk
  refine lv_iload_n hx hb dX6_buys_9 rfl (lv_at hl 3 rfl) ?_
  refine lv_iconst (v := 0) hx hb dX6_buys_10 (by decide) ?_
  refine lv_ldc hx hb hown (hts (.constant RX6 203 (100000)) (by decide +kernel)) dX6_buys_11 ?_
  refine we_vS (As := [.int a3, .int (0 : Int32), .int (100000 : Int32)]) (rest := []) ⟨hx, hb, hml, hown, hts⟩ (c_X6_needWithin l hlT D c g hr S a3 (0 : Int32) (100000 : Int32)) (va_cwS 3 hts gX6_buys_X6_needWithin rfl rfl rfl (by decide +kernel) ⟨Nat.le_of_ble_eq_true rfl, Nat.le_of_ble_eq_true rfl⟩) hK hP hS hE rfl hl.1 rfl (lv_room (Nat.le_of_ble_eq_true rfl)) dX6_buys_13 ⟨Nat.le_of_ble_eq_true rfl, Nat.le_of_ble_eq_true rfl⟩ hnt hlk (Nat.le_of_ble_eq_true rfl) (Nat.le_of_ble_eq_true rfl) (fun N hN => ?_) (fun hk H locs hP hS => ?_)
  · obtain ⟨n_13, eN⟩ := er_X6_needWithin hN
    subst eN
    exact ⟨Eq.symm (by unfold f_X6_buys; rw [if_pos n_2, if_pos n_6, if_neg n_13]), (by unfold g_X6_buys; rw [if_pos n_2, if_pos n_6, if_neg n_13])⟩
  have n_13 := od_X6_needWithin hk
  refine lv_aload_n hx hb dX6_buys_16 rfl (lv_at hl 0 rfl) ?_
  refine wx_get hx hb hts hiX6 hown hK hP 0 (by decide) qc_0 rfl 4 (by decide) (hts (.fieldLink RX6 38 "PriceEdict" "towns" "[LPriceEdict$Town;") (by decide +kernel)) rfl dX6_buys_17 ?_
  refine lv_iload_n hx hb dX6_buys_20 rfl (lv_at hl 1 rfl) ?_
  have h_21 : a1.toNatClampNeg < 8 := vp_lt (nd_town_in hI.2.2.2 n_2)
  refine wx_ald hx hb hK hP 3 rfl 14 (by decide) qc_14 (nd_town_in hI.2.2.2 n_2) dX6_buys_21 ?_
  refine wx_get hx hb hts hiX4 hown hK hP (79 + 8 * a1.toNatClampNeg) (by omega) (qc_town h_21) rfl 0 (by decide) (hts (.fieldLink RX6 166 "PriceEdict$Town" "wares" "[LPriceEdict$Wares;") (by decide +kernel)) rfl dX6_buys_22 ?_
  refine lv_iload_n hx hb dX6_buys_25 rfl (lv_at hl 2 rfl) ?_
  have h_26 : a2.toNatClampNeg < 6 := vp_lt (nd_thing_in n_6)
  refine wx_ald hx hb hK hP 4 rfl (80 + 8 * a1.toNatClampNeg) (by omega) (qc_warr h_21) (nd_thing_in n_6) dX6_buys_26 ?_
  refine wx_get hx hb hts hiX5 hown hK hP (81 + 8 * a1.toNatClampNeg + a2.toNatClampNeg) (by omega) (qc_wares h_21 h_26) rfl 4 (by decide) (hts (.fieldLink RX6 179 "PriceEdict$Wares" "stock" "I") (by decide +kernel)) rfl dX6_buys_27 ?_
  refine lv_topi (fun x_1 ex_1 => ?_)
  refine lv_istore (lv' := [(4, .int x_1), (0, .ref (r 0)), (1, .int a1), (2, .int a2), (3, .int a3)]) hx hb dX6_buys_30 hl (by decide) rfl (fun ls hl => ?_)
  refine lv_aload_n hx hb dX6_buys_32 rfl (lv_at hl 1 rfl) ?_
  refine lv_iload_n hx hb dX6_buys_33 rfl (lv_at hl 2 rfl) ?_
  refine lv_iload_n hx hb dX6_buys_34 rfl (lv_at hl 3 rfl) ?_
  refine wc_iV (k := 0) (C := RX6) (As := [.int a1, .int a2]) (rest := []) ⟨hx, hb, hml, hown, hts⟩ (c_X6_priceToday l D c g hr S a1 a2 (nd_town_in hI.2.2.2 n_2) (nd_thing_in n_6) (by first | assumption | omega)) (cwV 2 hts gX6_buys_X6_priceToday rfl rfl rfl (by decide +kernel) ⟨Nat.le_of_ble_eq_true rfl, Nat.le_of_ble_eq_true rfl⟩) (wx_recv hK hP (by decide) qc_0 rfl) hK hP hS (fun _ h => h) rfl hl.1 rfl (lv_room (Nat.le_of_ble_eq_true rfl)) dX6_buys_35 ⟨Nat.le_of_ble_eq_true rfl, Nat.le_of_ble_eq_true rfl⟩ (fun H locs hP hS => ?_)
  refine lv_topi (fun x_2 ex_2 => ?_)
  refine lv_istore (lv' := [(5, .int x_2), (4, .int x_1), (0, .ref (r 0)), (1, .int a1), (2, .int a2), (3, .int a3)]) hx hb dX6_buys_38 hl (by decide) rfl (fun ls hl => ?_)
  refine lv_iload hx hb dX6_buys_40 (lv_at hl 0 rfl) ?_
  refine lv_if_le (tgt := 57) hx hb dX6_buys_42 (by decide) (fun c_42 => ?_) (fun c_42 => ?_)
  · refine lv_iload hx hb dX6_buys_57 (lv_at hl 1 rfl) ?_
    exact wx_xiret (Nat.le_of_ble_eq_true rfl) (Nat.le_of_ble_eq_true rfl) hx hb hret hlk hK hP hS (Eq.symm (by subst ex_2; subst ex_1; unfold f_X6_buys; rw [if_pos n_2, if_pos n_6, if_pos n_13, if_pos c_42])) (by subst ex_2; subst ex_1; unfold g_X6_buys; rw [if_pos n_2, if_pos n_6, if_pos n_13, if_pos c_42]) dX6_buys_59
  · refine lv_iload_n hx hb dX6_buys_45 rfl (lv_at hl 5 rfl) ?_
    refine lv_iload hx hb dX6_buys_46 (lv_at hl 0 rfl) ?_
    refine lv_idiv hx hb dX6_buys_48 (qi_ne0 c_42) ?_
    refine lv_iload hx hb dX6_buys_49 (lv_at hl 1 rfl) ?_
    refine va_mmin hx hb (hml.trans hl.1.symm) hown (hts (.methodLink RX6 126 Lib.Math.min.name) (by decide +kernel)) (hts (.static Lib.Math.min.name) (by decide +kernel)) (hts (.initialized "java/lang/Math") (by decide +kernel)) (hts (.code Lib.Math.min.name Lib.Math.min.code 2 (some .int)) (by decide +kernel)) (Nat.le_of_ble_eq_true rfl) (Nat.le_of_ble_eq_true rfl) (Nat.le_of_ble_eq_true rfl) (Nat.le_of_ble_eq_true rfl) dX6_buys_51 ?_
    refine lv_goto (tgt := 59) hx hb dX6_buys_54 (by decide) ?_
    exact wx_xiret (Nat.le_of_ble_eq_true rfl) (Nat.le_of_ble_eq_true rfl) hx hb hret hlk hK hP hS (Eq.symm (by subst ex_2; subst ex_1; unfold f_X6_buys; rw [if_pos n_2, if_pos n_6, if_pos n_13, if_neg c_42])) (by subst ex_2; subst ex_1; unfold g_X6_buys; rw [if_pos n_2, if_pos n_6, if_pos n_13, if_neg c_42]) dX6_buys_59
