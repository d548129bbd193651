/-! WHAT A CALL LEAVES ALONE: the class's calls the reference's cells, the reference's calls the class's -/
theorem fa_append_3 (a : Int32) : ∀ (n : Nat) (S : qw_St) (z : Int32) (k j : Nat), k ≠ 2 → k ≠ 1 → g_X3_append_3 a n S z k j = S k j := by
  intro n
  induction n with
  | zero => intro S z k j h1 h2; rfl
  | succ n ih =>
    intro S z k j h1 h2
    rw [g_X3_append_3]
    split
    · rfl
    · split
      · rfl
      · rw [ih _ _ _ _ h1 h2, up2_ne _ _ (Or.inl h2), up2_ne _ _ (Or.inl h1)]
theorem fa_append (S : qw_St) (a : Int32) {k : Nat} (j : Nat) (h1 : k ≠ 2) (h2 : k ≠ 1) : g_X3_append S a k j = S k j := fa_append_3 a _ _ _ _ _ h1 h2
theorem fC_feed (S : qw_St) (a1 a2 a3 a4 a5 : Int32) {k : Nat} (j : Nat) (h : 143 ≤ k) : g_X6_feed S a1 a2 a3 a4 a5 k j = S k j := by
  unfold g_X6_feed
  split
  · rw [fa_append _ _ _ (by omega) (by omega), fa_append _ _ _ (by omega) (by omega), fa_append _ _ _ (by omega) (by omega), fa_append _ _ _ (by omega) (by omega), fa_append _ _ _ (by omega) (by omega)]
  · rfl
theorem fC_end (S : qw_St) (a1 : Int32) {k : Nat} (j : Nat) (h : 143 ≤ k) : g_X6_end S a1 k j = S k j := by
  unfold g_X6_end
  repeat' (first | rfl | rw [up2_ne _ _ (Or.inl (by omega))] | split)
theorem fC_tell (S : qw_St) (a1 a2 : Int32) {k : Nat} (j : Nat) (h : 143 ≤ k) : g_X1_tell S a1 a2 k j = S k j := by
  unfold g_X1_tell
  split
  · rfl
  · rw [up2_ne _ _ (Or.inl (by omega)), up2_ne _ _ (Or.inl (by omega)), up2_ne _ _ (Or.inl (by omega))]
theorem fC_undo (S : qw_St) {k : Nat} (j : Nat) (h : 143 ≤ k) : g_X6_undo S k j = S k j := by
  unfold g_X6_undo
  split
  · rfl
  · exact fC_tell _ _ _ _ h
theorem fC_count (S : qw_St) (a1 : Int32) {k : Nat} (j : Nat) (h : 143 ≤ k) : g_X6_count S a1 k j = S k j := by
  unfold g_X6_count g_X6_settledLines
  repeat' (first | rfl | exact fr_set_4 _ _ _ _ _ _ (by omega) | split)
theorem fC_stone (S : qw_St) (a1 a2 a3 a4 a5 : Int32) {k : Nat} (j : Nat) (h : 143 ≤ k) : g_X6_stone S a1 a2 a3 a4 a5 k j = S k j := by
  have hl : ∀ (a b c d e f : Int32), g_X2_lay S a b c d e f k j = S k j := fun a b c d e f => by
    unfold g_X2_lay
    split
    · rw [up2_ne _ _ (Or.inl (by omega)), up2_ne _ _ (Or.inl (by omega)), up2_ne _ _ (Or.inl (by omega)), up2_ne _ _ (Or.inl (by omega)), up2_ne _ _ (Or.inl (by omega)), up2_ne _ _ (Or.inl (by omega)), up2_ne _ _ (Or.inl (by omega)), up2_ne _ _ (Or.inl (by omega))]
    · rfl
  unfold g_X6_stone
  repeat' (first | rfl | (rw [hl]; done) | split)
theorem fC_strike (S : qw_St) (a1 : Int32) {k : Nat} (j : Nat) (h : 143 ≤ k) : g_X6_strike S a1 k j = S k j := by
  unfold g_X6_strike g_X2_strikeOut
  repeat' (first | rfl | (rw [up2_ne _ _ (Or.inl (by omega)), up2_ne _ _ (Or.inl (by omega))]; done) | split)
theorem fC_habit (S : qw_St) (a1 a2 : Int32) {k : Nat} (j : Nat) (h : 143 ≤ k) : g_X6_habit S a1 a2 k j = S k j := by
  unfold g_X6_habit g_X2_confuse
  repeat' (first | rfl | (rw [up2_ne _ _ (Or.inl (by omega)), up2_ne _ _ (Or.inl (by omega)), up2_ne _ _ (Or.inl (by omega))]; done) | split)
theorem fC_agree (S : qw_St) (a1 a2 a3 : Int32) {k : Nat} (j : Nat) (h : 143 ≤ k) : g_X6_agree S a1 a2 a3 k j = S k j := by
  unfold g_X6_agree
  repeat' (first | rfl | exact fr_X2_compare _ _ _ _ (by omega) | split)
theorem fC_edict (S : qw_St) (hd : qz (S 0 6) 20) {k : Nat} (j : Nat) (h : 143 ≤ k) : g_X6_edict S k j = S k j := by
  obtain ⟨E, hE, eE⟩ := hd
  have dc : (S 0 6).toNatClampNeg = E := by rw [eE]; exact nI_clamp (by omega)
  have hs : s_X6_edict_33 S k j = S k j := by
    unfold s_X6_edict_33
    rw [up2_ne _ _ (Or.inl (by omega)), up2_ne _ _ (Or.inl (by omega)), dc]
    exact fs_X3_readInto _ _ _ (Or.inl (by omega)) (by omega)
  unfold g_X6_edict
  generalize s_X6_edict_33 S = S2 at *
  split
  · split
    · rw [up2_ne _ _ (Or.inl (by omega)), fC_tell _ _ _ _ h]; exact hs
    · exact hs
  · exact hs
theorem fC_cap (S : qw_St) (a1 a2 a3 a4 : Int32) {k : Nat} (j : Nat) (h : 143 ≤ k) : g_X6_cap S a1 a2 a3 a4 k j = S k j := by
  unfold g_X6_cap
  repeat' (first | rfl | exact fr_X6_highest _ _ _ _ _ _ (by omega) | split)
theorem fC_judge (S : qw_St) (a1 a2 a3 a4 a5 : Int32) {k : Nat} (j : Nat) (h : 143 ≤ k) : g_X6_judge S a1 a2 a3 a4 a5 k j = S k j := by
  unfold g_X6_judge
  repeat' (first | rfl | exact fr_X6_highest _ _ _ _ _ _ (by omega) | split)
theorem fC_town (S : qw_St) (hz : qz (S 0 7) 8) (a1 : Int32) {k : Nat} (j : Nat) (h : 143 ≤ k) : g_X6_town S a1 k j = S k j := by
  unfold g_X6_town
  split
  · split
    · next c =>
      obtain ⟨n, hn, en⟩ := hz
      have : (S 0 7).toNatClampNeg < 8 := by rw [en] at c ⊢; rw [nI_clamp (by omega)]; exact (nI_ltI (a := n) (b := 8) (by omega) (by omega)).mp c
      rw [up2_ne _ _ (Or.inl (by omega)), up2_ne _ _ (Or.inl (by omega))]
    · rfl
  · rfl
theorem fC_goods (S : qw_St) (hz : qz (S 0 7) 8) (a1 a2 a3 a4 a5 a6 : Int32) {k : Nat} (j : Nat) (h : 143 ≤ k) : g_X6_goods S a1 a2 a3 a4 a5 a6 k j = S k j := by
  unfold g_X6_goods
  split
  · next c1 =>
    split
    · next c2 =>
      have h1 := vp_lt (nd_town_in hz c1)
      have h2 := vp_lt (nd_thing_in c2)
      repeat' (first | rfl | exact fr_X5_arrange _ _ _ _ _ _ _ _ (by omega) | split)
    · rfl
  · rfl
theorem fC_spoil (S : qw_St) (a1 a2 : Int32) {k : Nat} (j : Nat) (h : 143 ≤ k) : g_X6_spoil S a1 a2 k j = S k j := by
  unfold g_X6_spoil
  repeat' (first | rfl | (rw [up2_ne _ _ (Or.inl (by omega))]; done) | split)
theorem fC_carry (S : qw_St) (a1 : Int32) {k : Nat} (j : Nat) (h : 143 ≤ k) : g_X6_carry S a1 k j = S k j := by
  unfold g_X6_carry
  repeat' (first | rfl | (rw [up2_ne _ _ (Or.inl (by omega))]; done) | split)
theorem fC_days (S : qw_St) (a1 : Int32) {k : Nat} (j : Nat) (h : 143 ≤ k) : g_X6_days S a1 k j = S k j := by
  unfold g_X6_days
  split
  · rw [up2_ne _ _ (Or.inl (by omega))]
  · rfl
theorem fC_look (S : qw_St) (a1 a2 a3 : Int32) {k : Nat} (j : Nat) (h : 143 ≤ k) : g_X6_look S a1 a2 a3 k j = S k j := by
  unfold g_X6_look
  repeat' (first | rfl | exact fr_X6_priceToday _ _ _ _ (by omega) | split)
theorem fC_buys (S : qw_St) (a1 a2 a3 : Int32) {k : Nat} (j : Nat) (h : 143 ≤ k) : g_X6_buys S a1 a2 a3 k j = S k j := by
  unfold g_X6_buys
  repeat' (first | rfl | exact fr_X6_priceToday _ _ _ _ (by omega) | split)
theorem fC_30 {t N : Nat} (ht : t < 8) (y2 : Int32) {k j : Nat} (h : 143 ≤ k ∨ (k = 0 ∧ j = 7)) (K : qw_St → Int32 → qw_St) (hK : ∀ S : qw_St, S 0 7 = nI N → K S (nI t + 1) k j = S k j) : ∀ (n i : Nat) (S : qw_St), S 0 7 = nI N → i + n = 7 → i ≤ 6 → g_X6_holdMarkets_30 (nI t) y2 K n S (nI i) k j = S k j := by
  intro n
  induction n with
  | zero => intro i S _ h1 h2; omega
  | succ n ih =>
    intro i S e h1 h2
    rw [g_X6_holdMarkets_30]
    by_cases c : (6 : Int32) ≤ nI i
    · rw [if_pos c]; exact hK S e
    · have hi : i < 6 := qi_lt rfl (by omega) (m := 6) rfl c
      rw [if_neg c, nI_1 i, nI_clamp (by omega : t < 2 ^ 31), nI_clamp (by omega : i < 2 ^ 31), ih _ _ (by rw [fr_X5_passWeek _ _ _ _ _ _ _ (by omega), fr_X6_priceToday _ _ _ _ (by omega)]; exact e) (by omega) (by omega), fr_X5_passWeek _ _ _ _ _ _ _ (by omega), fr_X6_priceToday _ _ _ _ (by omega)]
theorem fC_2 {N : Nat} (hN : N ≤ 8) {k j : Nat} (h : 143 ≤ k ∨ (k = 0 ∧ j = 7)) : ∀ (n t : Nat) (S : qw_St), S 0 7 = nI N → t + n = N + 1 → t ≤ N → g_X6_holdMarkets_2 n S (nI t) k j = S k j := by
  intro n
  induction n with
  | zero => intro t S _ h1 h2; omega
  | succ n ih =>
    intro t S e h1 h2
    rw [g_X6_holdMarkets_2, e]
    by_cases c : nI N ≤ nI t
    · rw [if_pos c]
    · have ht : t < N := qi_ltn rfl (by omega) rfl (by omega) c
      rw [if_neg c, show (0 : Int32) = nI 0 from nI_0.symm]
      exact fC_30 (N := N) (by omega) _ h _ (fun S9 e9 => by rw [nI_1]; exact ih (t + 1) S9 e9 (by omega) (by omega)) 7 0 S e rfl (by omega)
theorem fC_hold {S : qw_St} (hz : qz (S 0 7) 8) {k j : Nat} (h : 143 ≤ k ∨ (k = 0 ∧ j = 7)) : g_X6_holdMarkets S k j = S k j := by
  obtain ⟨N, hN, e⟩ := hz
  rw [g_X6_holdMarkets, e, nI_clamp (by omega), show (0 : Int32) = nI 0 from nI_0.symm]
  exact fC_2 hN h (N + 1) 0 S e (by omega) (by omega)
theorem fC_w9 (a1 : Int32) {k : Nat} (j : Nat) (h : 143 ≤ k) : ∀ (n : Nat) (S : qw_St) (z : Int32), qz (S 0 7) 8 → g_X6_weeks_9 a1 n S z k j = S k j := by
  intro n
  induction n with
  | zero => intro S z _; rfl
  | succ n ih =>
    intro S z hz
    rw [g_X6_weeks_9]
    have hz' : qz (up2 S 0 9 (S 0 9 + 7) 0 7) 8 := by rw [up2_ne _ _ (Or.inr (by decide))]; exact hz
    split
    · rfl
    · split
      · rfl
      · rw [ih _ _ (by rw [fC_hold hz' (Or.inr ⟨rfl, rfl⟩)]; exact hz'), fC_hold hz' (Or.inl h), up2_ne _ _ (Or.inl (by omega))]
theorem fC_weeks (S : qw_St) (hz : qz (S 0 7) 8) (a1 : Int32) {k : Nat} (j : Nat) (h : 143 ≤ k) : g_X6_weeks S a1 k j = S k j := by
  unfold g_X6_weeks
  split
  · exact fC_w9 _ _ h _ _ _ hz
  · rfl
theorem fM_60 (a1 a2 a3 a4 a5 : Int32) {k : Nat} (j : Nat) (h : k < 143) : ∀ (n : Nat) (S : qw_St) (z : Int32), g_X7_feed_60 a1 a2 a3 a4 a5 n S z k j = S k j := by
  intro n
  induction n with
  | zero => intro S z; rfl
  | succ n ih =>
    intro S z
    rw [g_X7_feed_60]
    split
    · rw [up2_ne _ _ (Or.inl (by omega))]
    · rw [ih, up2_ne _ _ (Or.inl (by omega))]
theorem fM_feed (S : qw_St) (a1 a2 a3 a4 a5 : Int32) {k : Nat} (j : Nat) (h : k < 143) : g_X7_feed S a1 a2 a3 a4 a5 k j = S k j := by
  unfold g_X7_feed
  split
  · rw [fM_60 _ _ _ _ _ _ h, up2_ne _ _ (Or.inl (by omega)), up2_ne _ _ (Or.inl (by omega)), up2_ne _ _ (Or.inl (by omega)), up2_ne _ _ (Or.inl (by omega)), up2_ne _ _ (Or.inl (by omega)), up2_ne _ _ (Or.inl (by omega))]
  · rw [up2_ne _ _ (Or.inl (by omega))]
theorem fM_end (S : qw_St) (a1 : Int32) {k : Nat} (j : Nat) (h : k < 143) : g_X7_end S a1 k j = S k j := by
  unfold g_X7_end
  (repeat' split) <;> first | rfl | (repeat (first | rw [up2_ne _ _ (Or.inl (by omega))] | rw [fr_X7_throwsIf _ _ _ _ (Or.inl (by omega))]))
theorem fM_fault (S : qw_St) {k : Nat} (j : Nat) (h : k < 143) : g_X7_fault S k j = S k j := by
  unfold g_X7_fault
  (repeat' split) <;> first | rfl | (repeat (first | rw [up2_ne _ _ (Or.inl (by omega))] | rw [fr_X7_throwsIf _ _ _ _ (Or.inl (by omega))]))
theorem fM_undo (S : qw_St) {k : Nat} (j : Nat) (h : k < 143) : g_X7_undo S k j = S k j := by
  unfold g_X7_undo g_X7_tells
  (repeat' split) <;> first | rfl | (repeat (first | rw [up2_ne _ _ (Or.inl (by omega))] | rw [fr_X7_throwsIf _ _ _ _ (Or.inl (by omega))]))
theorem fM_town (S : qw_St) (a1 : Int32) {k : Nat} (j : Nat) (h : k < 143) : g_X7_town S a1 k j = S k j := by
  unfold g_X7_town
  (repeat' split) <;> first | rfl | (repeat (first | rw [up2_ne _ _ (Or.inl (by omega))] | rw [fr_X7_throwsIf _ _ _ _ (Or.inl (by omega))]))
theorem fM_spoil (S : qw_St) (a1 : Int32) (a2 : Int32) {k : Nat} (j : Nat) (h : k < 143) : g_X7_spoil S a1 a2 k j = S k j := by
  unfold g_X7_spoil
  (repeat' split) <;> first | rfl | (repeat (first | rw [up2_ne _ _ (Or.inl (by omega))] | rw [fr_X7_throwsIf _ _ _ _ (Or.inl (by omega))]))
theorem fM_carry (S : qw_St) (a1 : Int32) {k : Nat} (j : Nat) (h : k < 143) : g_X7_carry S a1 k j = S k j := by
  unfold g_X7_carry
  (repeat' split) <;> first | rfl | (repeat (first | rw [up2_ne _ _ (Or.inl (by omega))] | rw [fr_X7_throwsIf _ _ _ _ (Or.inl (by omega))]))
theorem fM_days (S : qw_St) (a1 : Int32) {k : Nat} (j : Nat) (h : k < 143) : g_X7_days S a1 k j = S k j := by
  unfold g_X7_days
  (repeat' split) <;> first | rfl | (repeat (first | rw [up2_ne _ _ (Or.inl (by omega))] | rw [fr_X7_throwsIf _ _ _ _ (Or.inl (by omega))]))
theorem fM_strike (S : qw_St) (a1 : Int32) {k : Nat} (j : Nat) (h : k < 143) : g_X7_strike S a1 k j = S k j := by
  unfold g_X7_strike
  (repeat' split) <;> first | rfl | (repeat (first | rw [up2_ne _ _ (Or.inl (by omega))] | rw [fr_X7_throwsIf _ _ _ _ (Or.inl (by omega))]))
theorem fM_force (S : qw_St) (a1 : Int32) (a2 : Int32) {k : Nat} (j : Nat) (h : k < 143) : g_X7_force S a1 a2 k j = S k j := by
  unfold g_X7_force
  (repeat' split) <;> first | rfl | (repeat (first | rw [up2_ne _ _ (Or.inl (by omega))] | rw [fr_X7_throwsIf _ _ _ _ (Or.inl (by omega))]))
theorem fM_count (S : qw_St) (a1 : Int32) {k : Nat} (j : Nat) (h : k < 143) : g_X7_count S a1 k j = S k j := by
  unfold g_X7_count
  simp only [cn_72, cn_122, cn_147, cn_172, ite_self]
  rw [up2_ne _ _ (Or.inl (by omega))]
theorem fM_stone (S : qw_St) (a1 : Int32) (a2 : Int32) (a3 : Int32) (a4 : Int32) (a5 : Int32) {k : Nat} (j : Nat) (h : k < 143) : g_X7_stone S a1 a2 a3 a4 a5 k j = S k j := by
  have hu : ∀ (T : qw_St) (c i : Nat) (v : Int32), 143 ≤ c → up2 T c i v k j = T k j := fun T c i v hc => up2_ne _ _ (Or.inl (by omega))
  have ht : ∀ (T : qw_St) (a b : Int32), g_X7_throwsIf T a b k j = T k j := fun T a b => fr_X7_throwsIf _ _ _ _ (Or.inl (by omega))
  have hi : ∀ (c : Prop) [Decidable c] (A B : qw_St), A k j = S k j → B k j = S k j → (if c then A else B) k j = S k j := fun c _ A B h1 h2 => by split <;> assumption
  unfold g_X7_stone
  repeat' (first | with_reducible rfl | with_reducible refine hi _ _ _ ?_ ?_ | with_reducible refine (ht _ _ _).trans ?_ | with_reducible refine (hu _ _ _ _ (by decide)).trans ?_)
theorem fM_habit (S : qw_St) (a1 : Int32) (a2 : Int32) {k : Nat} (j : Nat) (h : k < 143) : g_X7_habit S a1 a2 k j = S k j := by
  have hu : ∀ (T : qw_St) (c i : Nat) (v : Int32), 143 ≤ c → up2 T c i v k j = T k j := fun T c i v hc => up2_ne _ _ (Or.inl (by omega))
  have ht : ∀ (T : qw_St) (a b : Int32), g_X7_throwsIf T a b k j = T k j := fun T a b => fr_X7_throwsIf _ _ _ _ (Or.inl (by omega))
  have hi : ∀ (c : Prop) [Decidable c] (A B : qw_St), A k j = S k j → B k j = S k j → (if c then A else B) k j = S k j := fun c _ A B h1 h2 => by split <;> assumption
  unfold g_X7_habit
  repeat' (first | with_reducible rfl | with_reducible refine hi _ _ _ ?_ ?_ | with_reducible refine (ht _ _ _).trans ?_ | with_reducible refine (hu _ _ _ _ (by decide)).trans ?_)
theorem fM_agree (S : qw_St) (a1 : Int32) (a2 : Int32) (a3 : Int32) {k : Nat} (j : Nat) (h : k < 143) : g_X7_agree S a1 a2 a3 k j = S k j := by
  have hu : ∀ (T : qw_St) (c i : Nat) (v : Int32), 143 ≤ c → up2 T c i v k j = T k j := fun T c i v hc => up2_ne _ _ (Or.inl (by omega))
  have ht : ∀ (T : qw_St) (a b : Int32), g_X7_throwsIf T a b k j = T k j := fun T a b => fr_X7_throwsIf _ _ _ _ (Or.inl (by omega))
  have hi : ∀ (c : Prop) [Decidable c] (A B : qw_St), A k j = S k j → B k j = S k j → (if c then A else B) k j = S k j := fun c _ A B h1 h2 => by split <;> assumption
  unfold g_X7_agree
  repeat' (first | with_reducible rfl | with_reducible refine hi _ _ _ ?_ ?_ | with_reducible refine (ht _ _ _).trans ?_ | with_reducible refine (hu _ _ _ _ (by decide)).trans ?_)
theorem fM_goods (S : qw_St) (a1 : Int32) (a2 : Int32) (a3 : Int32) (a4 : Int32) (a5 : Int32) (a6 : Int32) {k : Nat} (j : Nat) (h : k < 143) : g_X7_goods S a1 a2 a3 a4 a5 a6 k j = S k j := by
  have hu : ∀ (T : qw_St) (c i : Nat) (v : Int32), 143 ≤ c → up2 T c i v k j = T k j := fun T c i v hc => up2_ne _ _ (Or.inl (by omega))
  have ht : ∀ (T : qw_St) (a b : Int32), g_X7_throwsIf T a b k j = T k j := fun T a b => fr_X7_throwsIf _ _ _ _ (Or.inl (by omega))
  have hi : ∀ (c : Prop) [Decidable c] (A B : qw_St), A k j = S k j → B k j = S k j → (if c then A else B) k j = S k j := fun c _ A B h1 h2 => by split <;> assumption
  unfold g_X7_goods
  repeat' (first | with_reducible rfl | with_reducible refine hi _ _ _ ?_ ?_ | with_reducible refine (ht _ _ _).trans ?_ | with_reducible refine (hu _ _ _ _ (by decide)).trans ?_)
theorem fM_cap (S : qw_St) (a1 : Int32) (a2 : Int32) (a3 : Int32) (a4 : Int32) {k : Nat} (j : Nat) (h : k < 143) : g_X7_cap S a1 a2 a3 a4 k j = S k j := by
  have hu : ∀ (T : qw_St) (c i : Nat) (v : Int32), 143 ≤ c → up2 T c i v k j = T k j := fun T c i v hc => up2_ne _ _ (Or.inl (by omega))
  have ht : ∀ (T : qw_St) (a b : Int32), g_X7_throwsIf T a b k j = T k j := fun T a b => fr_X7_throwsIf _ _ _ _ (Or.inl (by omega))
  have hi : ∀ (c : Prop) [Decidable c] (A B : qw_St), A k j = S k j → B k j = S k j → (if c then A else B) k j = S k j := fun c _ A B h1 h2 => by split <;> assumption
  unfold g_X7_cap
  repeat' (first | with_reducible rfl | with_reducible refine hi _ _ _ ?_ ?_ | with_reducible refine (ht _ _ _).trans ?_ | with_reducible refine (hu _ _ _ _ (by decide)).trans ?_)
theorem fM_judge (S : qw_St) (a1 : Int32) (a2 : Int32) (a3 : Int32) (a4 : Int32) (a5 : Int32) {k : Nat} (j : Nat) (h : k < 143) : g_X7_judge S a1 a2 a3 a4 a5 k j = S k j := by
  have hu : ∀ (T : qw_St) (c i : Nat) (v : Int32), 143 ≤ c → up2 T c i v k j = T k j := fun T c i v hc => up2_ne _ _ (Or.inl (by omega))
  have ht : ∀ (T : qw_St) (a b : Int32), g_X7_throwsIf T a b k j = T k j := fun T a b => fr_X7_throwsIf _ _ _ _ (Or.inl (by omega))
  have hi : ∀ (c : Prop) [Decidable c] (A B : qw_St), A k j = S k j → B k j = S k j → (if c then A else B) k j = S k j := fun c _ A B h1 h2 => by split <;> assumption
  unfold g_X7_judge
  repeat' (first | with_reducible rfl | with_reducible refine hi _ _ _ ?_ ?_ | with_reducible refine (ht _ _ _).trans ?_ | with_reducible refine (hu _ _ _ _ (by decide)).trans ?_)
theorem fM_look (S : qw_St) (a1 : Int32) (a2 : Int32) (a3 : Int32) {k : Nat} (j : Nat) (h : k < 143) : g_X7_look S a1 a2 a3 k j = S k j := by
  have hu : ∀ (T : qw_St) (c i : Nat) (v : Int32), 143 ≤ c → up2 T c i v k j = T k j := fun T c i v hc => up2_ne _ _ (Or.inl (by omega))
  have ht : ∀ (T : qw_St) (a b : Int32), g_X7_throwsIf T a b k j = T k j := fun T a b => fr_X7_throwsIf _ _ _ _ (Or.inl (by omega))
  have hi : ∀ (c : Prop) [Decidable c] (A B : qw_St), A k j = S k j → B k j = S k j → (if c then A else B) k j = S k j := fun c _ A B h1 h2 => by split <;> assumption
  unfold g_X7_look
  repeat' (first | with_reducible rfl | with_reducible refine hi _ _ _ ?_ ?_ | with_reducible refine (ht _ _ _).trans ?_ | with_reducible refine (hu _ _ _ _ (by decide)).trans ?_)
theorem fM_buys (S : qw_St) (a1 : Int32) (a2 : Int32) (a3 : Int32) {k : Nat} (j : Nat) (h : k < 143) : g_X7_buys S a1 a2 a3 k j = S k j := by
  have hu : ∀ (T : qw_St) (c i : Nat) (v : Int32), 143 ≤ c → up2 T c i v k j = T k j := fun T c i v hc => up2_ne _ _ (Or.inl (by omega))
  have ht : ∀ (T : qw_St) (a b : Int32), g_X7_throwsIf T a b k j = T k j := fun T a b => fr_X7_throwsIf _ _ _ _ (Or.inl (by omega))
  have hi : ∀ (c : Prop) [Decidable c] (A B : qw_St), A k j = S k j → B k j = S k j → (if c then A else B) k j = S k j := fun c _ A B h1 h2 => by split <;> assumption
  unfold g_X7_buys
  repeat' (first | with_reducible rfl | with_reducible refine hi _ _ _ ?_ ?_ | with_reducible refine (ht _ _ _).trans ?_ | with_reducible refine (hu _ _ _ _ (by decide)).trans ?_)
theorem fM_74 (a1 y2 y3 : Int32) (K : qw_St → Int32 → qw_St) {k : Nat} (j : Nat) (h : k < 143) (hK : ∀ S z, K S z k j = S k j) : ∀ (n : Nat) (S : qw_St) (z : Int32), g_X7_weeks_74 a1 y2 y3 K n S z k j = S k j := by
  intro n
  induction n with
  | zero => intro S z; rfl
  | succ n ih =>
    intro S z
    rw [g_X7_weeks_74]
    split
    · exact hK _ _
    · rw [ih, fr_X7_market _ _ _ _ (by omega)]
theorem fM_63 (a1 y2 : Int32) (K : qw_St → Int32 → qw_St) {k : Nat} (j : Nat) (h : k < 143) (hK : ∀ S z, K S z k j = S k j) : ∀ (n : Nat) (S : qw_St) (z : Int32), g_X7_weeks_63 a1 y2 K n S z k j = S k j := by
  intro n
  induction n with
  | zero => intro S z; rfl
  | succ n ih =>
    intro S z
    rw [g_X7_weeks_63]
    split
    · exact hK _ _
    · exact fM_74 _ _ _ _ _ h (fun S z => ih S z) _ _ _
theorem fM_32 (a1 : Int32) {k : Nat} (j : Nat) (h : k < 143) : ∀ (n : Nat) (S : qw_St) (z : Int32), g_X7_weeks_32 a1 n S z k j = S k j := by
  intro n
  induction n with
  | zero => intro S z; rfl
  | succ n ih =>
    intro S z
    rw [g_X7_weeks_32]
    split
    · rfl
    · split
      · rfl
      · rw [fM_63 _ _ _ _ h (fun S z => ih S z), up2_ne _ _ (Or.inl (by omega))]
theorem fM_weeks (S : qw_St) (a1 : Int32) {k : Nat} (j : Nat) (h : k < 143) : g_X7_weeks S a1 k j = S k j := by
  have hi : ∀ (c : Prop) [Decidable c] (A B : qw_St), A k j = S k j → B k j = S k j → (if c then A else B) k j = S k j := fun c _ A B h1 h2 => by split <;> assumption
  unfold g_X7_weeks
  refine hi _ _ _ ?_ ?_
  · rw [fM_32 _ _ h, fr_X7_throwsIf _ _ _ _ (Or.inl (by omega)), up2_ne _ _ (Or.inl (by omega))]
  · rw [fr_X7_throwsIf _ _ _ _ (Or.inl (by omega)), up2_ne _ _ (Or.inl (by omega))]
theorem fM_117 (y : Int32) {k : Nat} (j : Nat) (h : k < 143) : ∀ (n : Nat) (S : qw_St) (z : Int32), g_X7_edict_117 y n S z k j = S k j := by
  intro n
  induction n with
  | zero => intro S z; rfl
  | succ n ih =>
    intro S z
    rw [g_X7_edict_117]
    split
    · rw [up2_ne _ _ (Or.inl (by omega)), g_X7_tells, up2_ne _ _ (Or.inl (by omega)), up2_ne _ _ (Or.inl (by omega)), up2_ne _ _ (Or.inl (by omega))]
    · rw [ih, up2_ne _ _ (Or.inl (by omega)), up2_ne _ _ (Or.inl (by omega))]
theorem fM_edict (S : qw_St) {k : Nat} (j : Nat) (h : k < 143) : g_X7_edict S k j = S k j := by
  have hi : ∀ (c : Prop) [Decidable c] (A B : qw_St), A k j = S k j → B k j = S k j → (if c then A else B) k j = S k j := fun c _ A B h1 h2 => by split <;> assumption
  have hs : s_X7_edict_26 S k j = S k j := by
    unfold s_X7_edict_26
    rw [up2_ne _ _ (Or.inl (by omega)), fr_X7_readAll _ _ (Or.inl (by omega)) (by omega), up2_ne _ _ (Or.inl (by omega))]
  unfold g_X7_edict
  generalize s_X7_edict_26 S = S2 at *
  refine hi _ _ _ (hi _ _ _ ?_ ?_) ?_
  · rw [fM_117 _ _ h, up2_ne _ _ (Or.inl (by omega)), up2_ne _ _ (Or.inl (by omega)), up2_ne _ _ (Or.inl (by omega)), fr_X7_throwsIf _ _ _ _ (Or.inl (by omega)), fr_X7_throwsIf _ _ _ _ (Or.inl (by omega))]; exact hs
  · rw [fr_X7_throwsIf _ _ _ _ (Or.inl (by omega)), fr_X7_throwsIf _ _ _ _ (Or.inl (by omega))]; exact hs
  · rw [fr_X7_throwsIf _ _ _ _ (Or.inl (by omega))]; exact hs
theorem RA.mid {S S1 T : qw_St} (h : RA S T) (hf : ∀ k j, 143 ≤ k → S1 k j = T k j) : RA S S1 := h.to (fun _ _ _ => rfl) (fun k j hk => hf k j hk.1)
theorem RA.fin {S1 S2 T : qw_St} (h : RA S1 T) (hf : ∀ k j, k < 143 → S2 k j = S1 k j) : RA S2 T := h.to (fun k j hk => hf k j hk.1) (fun _ _ _ => rfl)
