/-! THE PURE PART: an edict is given -/
/-- a text was read: nothing else has changed -/
theorem RA.txt {S T S' T' : qw_St} (h : RA S T) {E : Nat} (eE : T 143 14 = nI E) (hE : E ≤ 20)
    (hS : ∀ k j, k < 143 → (k ≠ 1 ∨ (j ≠ 1 ∧ j ≠ 2 ∧ j ≠ 3)) → (k ≠ 0 ∨ j ≠ 10) → (k < 16 + 3 * E ∨ 18 + 3 * E < k) → S' k j = S k j)
    (hT : ∀ k j, fz k j → T' k j = T k j) (hM : ∀ j, j ≠ 0 ∧ j ≠ 19 ∧ j ≠ 20 ∧ j ≠ 21 ∧ j ≠ 22 ∧ j ≠ 23 → T' 143 j = T 143 j)
    (y1 : S' 1 1 = 0) (y2 : T' 143 19 = 0) (y3 : S' 0 10 = T' 143 23) : RA S' T' := by
  have c0 : ∀ k j, k < 16 → k ≠ 1 → k ≠ 0 → S' k j = S k j := fun k j h1 h2 h3 => hS k j (by omega) (Or.inl h2) (Or.inl h3) (by omega)
  have cf : ∀ k, k < 16 → k ≠ 1 → k ≠ 0 → S' k = S k := fun k h1 h2 h3 => funext fun j => c0 k j h1 h2 h3
  have c00 : ∀ j, j ≠ 10 → S' 0 j = S 0 j := fun j hj => hS 0 j (by omega) (Or.inl (by decide)) (Or.inr hj) (by omega)
  have mf : ∀ k, 143 < k → (k < 149 ∨ 153 < k) → T' k = T k := fun k h1 h2 => funext fun j => hT k j ⟨by omega, Or.inl h2⟩
  obtain ⟨⟨s1, s2, s3, s4, s5, s6⟩, ⟨n1, n2, n3⟩, r3, ⟨d1, d2⟩, ⟨x1, x2, x3, x4, x5, x6, x7, x8⟩, i1, i2, i3, i4, i5, i6, i7, i8⟩ := h
  have hc : (T 143 14).toNatClampNeg = E := by rw [eE]; exact nI_clamp (by omega)
  have e1 : T' 143 1 = T 143 1 := hM 1 (by decide)
  have e6 : T' 143 6 = T 143 6 := hM 6 (by decide)
  have e7 : T' 143 7 = T 143 7 := hM 7 (by decide)
  have e14 : T' 143 14 = T 143 14 := hM 14 (by decide)
  have e17 : T' 143 17 = T 143 17 := hM 17 (by decide)
  have e26 : T' 143 26 = T 143 26 := hM 26 (by decide)
  have e39 : T' 143 39 = T 143 39 := hM 39 (by decide)
  have dT : ∀ d i, d < E → i < 6 → T' 149 (6 * d + i) = T 149 (6 * d + i) ∧ T' 150 (6 * d + i) = T 150 (6 * d + i) ∧ T' 151 d = T 151 d ∧ T' 152 d = T 152 d ∧ T' 153 d = T 153 d := fun d i hd hi => ⟨hT _ _ ⟨by omega, by omega⟩, hT _ _ ⟨by omega, by omega⟩, hT _ _ ⟨by omega, by omega⟩, hT _ _ ⟨by omega, by omega⟩, hT _ _ ⟨by omega, by omega⟩⟩
  refine ⟨⟨?_, ?_, ?_, ?_, ?_, ?_⟩, ⟨?_, ?_, ?_⟩, r3.cg (c00 7 (by decide)) (fun k j h1 h2 => hS k j h2 (Or.inl (by omega)) (Or.inl (by omega)) (by omega)) e26 (mf _ (by decide) (by decide)) (fun k h1 h2 => mf k (by omega) (by omega)), ⟨?_, fun d i hd hi => ?_⟩, ⟨?_, ?_, ?_, ?_, ?_, ?_, ?_, ?_⟩, ?_, ?_, ⟨?_, fun d i hd hi => ?_⟩, ?_, ?_, ?_, ?_, ?_⟩
  · rw [c0 _ _ (by decide) (by decide) (by decide), e6]; exact s1
  · rw [cf _ (by decide) (by decide) (by decide), mf _ (by decide) (by decide)]; exact s2
  · rw [cf _ (by decide) (by decide) (by decide), mf _ (by decide) (by decide)]; exact s3
  · rw [cf _ (by decide) (by decide) (by decide), mf _ (by decide) (by decide)]; exact s4
  · rw [cf _ (by decide) (by decide) (by decide), mf _ (by decide) (by decide)]; exact s5
  · rw [cf _ (by decide) (by decide) (by decide), mf _ (by decide) (by decide)]; exact s6
  · rw [c0 _ _ (by decide) (by decide) (by decide), e17]; exact n1
  · rw [cf _ (by decide) (by decide) (by decide), mf _ (by decide) (by decide)]; exact n2
  · rw [cf _ (by decide) (by decide) (by decide), mf _ (by decide) (by decide)]; exact n3
  · rw [c00 6 (by decide), e14]; exact d1
  · rw [e14, hc] at hd
    obtain ⟨q1, q2, q3, q4, q5⟩ := dT d i hd hi
    rw [q1, q2, q3, q4, q5, hS _ _ (by omega) (Or.inl (by omega)) (Or.inl (by omega)) (by omega), hS _ _ (by omega) (Or.inl (by omega)) (Or.inl (by omega)) (by omega), hS _ _ (by omega) (Or.inl (by omega)) (Or.inl (by omega)) (by omega), hS _ _ (by omega) (Or.inl (by omega)) (Or.inl (by omega)) (by omega), hS _ _ (by omega) (Or.inl (by omega)) (Or.inl (by omega)) (by omega)]
    exact d2 d i (by rw [hc]; exact hd) hi
  · rw [c00 9 (by decide), e1]; exact x1
  · rw [c00 8 (by decide), e39]; exact x2
  · rw [cf _ (by decide) (by decide) (by decide), mf _ (by decide) (by decide)]; exact x3
  · rw [y1, y2]
  · rw [cf _ (by decide) (by decide) (by decide), mf _ (by decide) (by decide)]; exact x5
  · exact y3
  · rw [c0 _ _ (by decide) (by decide) (by decide), e7]; exact x7
  · rw [c0 _ _ (by decide) (by decide) (by decide), e6, sc_cong (fun j => by rw [mf 147 (by decide) (by decide)])]; exact x8
  · rw [StoI, e6, mf 145 (by decide) (by decide), mf 147 (by decide) (by decide)]; exact i1
  · rw [NewI, e17, e14, mf 154 (by decide) (by decide)]; exact i2
  · rw [e14]; exact i3.1
  · rw [e14, hc] at hd
    obtain ⟨q1, q2, q3, q4, q5⟩ := dT d i hd hi
    rw [q1, q2, q3, q4]
    exact i3.2 d i (by rw [hc]; exact hd) hi
  · rw [TowI, e26, mf 158 (by decide) (by decide), mf 160 (by decide) (by decide)]; exact i4
  · rw [StkI, e26, mf 163 (by decide) (by decide), mf 164 (by decide) (by decide)]; exact i5
  · rw [e1]; exact i6
  · rw [y2]; exact ⟨0, by omega, rfl⟩
  · rw [UndI, e17, e14, mf 154 (by decide) (by decide), mf 156 (by decide) (by decide)]; exact i8
theorem ed_117 {E : Nat} (hE : E < 20) (y : Int32) : ∀ (n k : Nat) (T : qw_St), k + n = 7 → k ≤ 6 → T 143 14 = nI E → ∃ T1 : qw_St, g_X7_edict_117 y n T (nI k) = up2 (g_X7_tells T1 (T1 143 14)) 143 14 (g_X7_tells T1 (T1 143 14) 143 14 + 1) ∧ f_X7_edict_117 y n T (nI k) = g_X7_tells T1 (T1 143 14) 143 14 + 1 - 1 ∧ (∀ i, k ≤ i → i < 6 → T1 149 (6 * E + i) = T 149 (120 + i) ∧ T1 150 (6 * E + i) = T 150 (120 + i)) ∧ (∀ c j, (c ≠ 149 ∧ c ≠ 150) ∨ j < 6 * E + k ∨ 6 * E + 6 ≤ j → T1 c j = T c j) := by
  intro n
  induction n with
  | zero => intro k T h1 h2; omega
  | succ n ih =>
    intro k T h1 h2 e
    rw [g_X7_edict_117, f_X7_edict_117]
    by_cases c : (6 : Int32) ≤ nI k
    · have : 6 ≤ k := qi_ge rfl (by omega) (m := 6) rfl c
      simp only [if_pos c]
      exact ⟨T, rfl, rfl, fun i h3 h4 => absurd h3 (by omega), fun _ _ _ => rfl⟩
    · have hk : k < 6 := qi_lt rfl (by omega) (m := 6) rfl c
      simp only [if_neg c]
      rw [nI_1 k, e, ix6 (by omega) (by omega), show (120 : Int32) = nI 120 from rfl, nI_add, nI_clamp (by omega : 120 + k < 2 ^ 31)]
      obtain ⟨T1, q1, q2, q3, q4⟩ := ih (k + 1) (up2 (up2 T 149 (6 * E + k) (T 149 (120 + k))) 150 (6 * E + k) (T 150 (120 + k))) (by omega) (by omega) e
      refine ⟨T1, q1, q2, fun i h3 h4 => ?_, fun c j h => (q4 c j (by omega)).trans ((up2_ne _ _ (by omega)).trans (up2_ne _ _ (by omega)))⟩
      by_cases ei : i = k
      · subst ei
        rw [q4 149 _ (by omega), q4 150 _ (by omega), up2_same, up2_ne _ _ (Or.inl (by decide)), up2_same]
        exact ⟨rfl, rfl⟩
      · obtain ⟨w1, w2⟩ := q3 i (by omega) h4
        rw [w1, w2]
        exact ⟨(up2_ne _ _ (Or.inl (by decide))).trans (up2_ne _ _ (Or.inr (by omega))), (up2_ne _ _ (Or.inr (by omega))).trans (up2_ne _ _ (Or.inl (by decide)))⟩
theorem RA.edict {S T T1 : qw_St} (h : RA S T) {E : Nat} (hE : E < 20) (eE : T 143 14 = nI E) (hD : RD S T E)
    (t49 : ∀ i, i < 6 → T1 149 (6 * E + i) = T 149 (120 + i) ∧ T1 150 (6 * E + i) = T 150 (120 + i)) (t51 : T1 151 E = T 151 20 ∧ T1 152 E = T 152 20 ∧ T1 153 E = T 153 20)
    (hf : ∀ c j, (c < 149 ∨ 153 < c) ∨ ((c = 149 ∨ c = 150) ∧ (j < 6 * E ∨ 6 * E + 6 ≤ j)) ∨ (151 ≤ c ∧ c ≤ 153 ∧ j ≠ E) → T1 c j = T c j) :
    RA (up2 (g_X1_tell S (S 0 9) (S 0 6)) 0 6 (g_X1_tell S (S 0 9) (S 0 6) 0 6 + 1)) (up2 (g_X7_tells T1 (T1 143 14)) 143 14 (g_X7_tells T1 (T1 143 14) 143 14 + 1)) := by
  have hc : (T 143 14).toNatClampNeg = E := by rw [eE]; exact nI_clamp (by omega)
  have mf : ∀ c, c < 149 ∨ 153 < c → T1 c = T c := fun c hc => funext fun j => hf c j (Or.inl hc)
  have m143 : T1 143 = T 143 := mf 143 (by decide)
  obtain ⟨r1, ⟨n1, n2, n3⟩, r3, ⟨d1, d2⟩, ⟨x1, x2, x3, x4, x5, x6, x7, x8⟩, i1, i2, i3, i4, i5, i6, i7, i8⟩ := h
  obtain ⟨n, hn, en⟩ := i2.1
  have hnc : (T 143 17).toNatClampNeg = n := by rw [en]; exact nI_clamp (by omega)
  have hn2 : n ≤ 2 * E := by have := i8.1; rw [hnc, hc] at this; exact this
  have et : g_X1_tell S (S 0 9) (S 0 6) = up2 (up2 (up2 S 12 n (S 0 9)) 13 n (nI E)) 11 2 (nI (n + 1)) := by
    rw [g_X1_tell, n1, en, if_neg (show ¬ (40 : Int32) ≤ nI n from nI_ge (a := n) (b := 40) (by omega) (by omega)), nI_clamp (by omega : n < 2 ^ 31), nI_1, d1, eE]
  have em : g_X7_tells T1 (T1 143 14) = up2 (up2 (up2 T1 154 n (nI E)) 155 n (T 143 1)) 143 17 (nI (n + 1)) := by
    rw [g_X7_tells, m143, en, nI_clamp (by omega : n < 2 ^ 31), nI_1, eE]
  rw [et, em]
  have e06 : up2 (up2 (up2 S 12 n (S 0 9)) 13 n (nI E)) 11 2 (nI (n + 1)) 0 6 = nI E := d1.trans eE
  have e14 : up2 (up2 (up2 T1 154 n (nI E)) 155 n (T 143 1)) 143 17 (nI (n + 1)) 143 14 = nI E := by
    rw [up2_ne _ _ (Or.inr (by decide)), up2_ne _ _ (Or.inl (by decide)), up2_ne _ _ (Or.inl (by decide)), m143]; exact eE
  rw [e06, e14, nI_1]
  generalize hS' : up2 (up2 (up2 (up2 S 12 n (S 0 9)) 13 n (nI E)) 11 2 (nI (n + 1))) 0 6 (nI (E + 1)) = S'
  generalize hT' : up2 (up2 (up2 (up2 T1 154 n (nI E)) 155 n (T 143 1)) 143 17 (nI (n + 1))) 143 14 (nI (E + 1)) = T'
  have gS : ∀ k j, k ≠ 0 → k ≠ 11 → k ≠ 12 → k ≠ 13 → S' k j = S k j := fun k j h1 h2 h3 h4 => by
    rw [← hS', up2_ne _ _ (Or.inl h1), up2_ne _ _ (Or.inl h2), up2_ne _ _ (Or.inl h4), up2_ne _ _ (Or.inl h3)]
  have gT : ∀ k j, k ≠ 143 → k ≠ 154 → k ≠ 155 → T' k j = T1 k j := fun k j h1 h2 h3 => by
    rw [← hT', up2_ne _ _ (Or.inl h1), up2_ne _ _ (Or.inl h1), up2_ne _ _ (Or.inl h3), up2_ne _ _ (Or.inl h2)]
  have gTf : ∀ k, k ≠ 143 → k ≠ 154 → k ≠ 155 → (k < 149 ∨ 153 < k) → T' k = T k := fun k h1 h2 h3 h4 => (funext fun j => gT k j h1 h2 h3).trans (mf k h4)
  have gM : ∀ j, j ≠ 14 → j ≠ 17 → T' 143 j = T 143 j := fun j h1 h2 => by
    rw [← hT', up2_ne _ _ (Or.inr h1), up2_ne _ _ (Or.inr h2), up2_ne _ _ (Or.inl (by decide)), up2_ne _ _ (Or.inl (by decide)), m143]
  have g0 : ∀ j, j ≠ 6 → S' 0 j = S 0 j := fun j hj => by
    rw [← hS', up2_ne _ _ (Or.inr hj), up2_ne _ _ (Or.inl (by decide)), up2_ne _ _ (Or.inl (by decide)), up2_ne _ _ (Or.inl (by decide))]
  have s06 : S' 0 6 = nI (E + 1) := by rw [← hS', up2_same]
  have t14 : T' 143 14 = nI (E + 1) := by rw [← hT', up2_same]
  have s11 : S' 11 2 = nI (n + 1) := by rw [← hS']; rfl
  have t17 : T' 143 17 = nI (n + 1) := by rw [← hT', up2_ne _ _ (Or.inr (by decide)), up2_same]
  have s12 : S' 12 = upd (S 12) n (S 0 9) := by rw [← hS']; rfl
  have s13 : S' 13 = upd (S 13) n (nI E) := by rw [← hS']; rfl
  have t154 : T' 154 = upd (T 154) n (nI E) := by rw [← hT']; show upd (T1 154) n (nI E) = _; rw [mf 154 (by decide)]
  have t155 : T' 155 = upd (T 155) n (T 143 1) := by rw [← hT']; show upd (T1 155) n (T 143 1) = _; rw [mf 155 (by decide)]
  have tc14 : (T' 143 14).toNatClampNeg = E + 1 := by rw [t14]; exact nI_clamp (by omega)
  have tc17 : (T' 143 17).toNatClampNeg = n + 1 := by rw [t17]; exact nI_clamp (by omega)
  have cell : ∀ d i, d < E + 1 → i < 6 → (S' (17 + 3 * d) i = T' 149 (6 * d + i) ∧ S' (18 + 3 * d) i = T' 150 (6 * d + i) ∧ S' (16 + 3 * d) 2 = T' 151 d ∧ S' (16 + 3 * d) 3 = T' 152 d ∧ S' (16 + 3 * d) 4 = T' 153 d) ∧ ((T' 149 (6 * d + i) = -1 ∨ qz (T' 149 (6 * d + i)) 9999) ∧ (T' 150 (6 * d + i) = -1 ∨ ¬ T' 150 (6 * d + i) < 0) ∧ qz (T' 151 d) 99 ∧ qz (T' 152 d) 100) := fun d i hd hi => by
    rw [gS _ _ (by omega) (by omega) (by omega) (by omega), gS _ _ (by omega) (by omega) (by omega) (by omega), gS _ _ (by omega) (by omega) (by omega) (by omega), gS _ _ (by omega) (by omega) (by omega) (by omega), gS _ _ (by omega) (by omega) (by omega) (by omega), gT 149 _ (by decide) (by decide) (by decide), gT 150 _ (by decide) (by decide) (by decide), gT 151 _ (by decide) (by decide) (by decide), gT 152 _ (by decide) (by decide) (by decide), gT 153 _ (by decide) (by decide) (by decide)]
    by_cases ed : d = E
    · subst ed
      rw [(t49 i hi).1, (t49 i hi).2, t51.1, t51.2.1, t51.2.2]
      obtain ⟨w1, w2, w3, w4⟩ := hD.1 i hi
      exact ⟨⟨w1, w2, hD.2.1.1, hD.2.2.1.1, hD.2.2.2⟩, w3, w4, hD.2.1.2, hD.2.2.1.2⟩
    · rw [hf 149 _ (by omega), hf 150 _ (by omega), hf 151 _ (by omega), hf 152 _ (by omega), hf 153 _ (by omega)]
      exact ⟨d2 d i (by omega) hi, i3.2 d i (by omega) hi⟩
  refine ⟨⟨?_, ?_, ?_, ?_, ?_, ?_⟩, ⟨?_, ?_, ?_⟩, r3.cg (g0 7 (by decide)) (fun k j h1 h2 => gS k j (by omega) (by omega) (by omega) (by omega)) (gM 26 (by decide) (by decide)) (gTf 158 (by decide) (by decide) (by decide) (by decide)) (fun k h1 h2 => gTf k (by omega) (by omega) (by omega) (by omega)), ⟨?_, fun d i hd hi => ?_⟩, ⟨?_, ?_, ?_, ?_, ?_, ?_, ?_, ?_⟩, ?_, ⟨?_, fun k hk => ?_, fun k hk => ?_⟩, ⟨?_, fun d i hd hi => ?_⟩, ?_, ?_, ?_, ?_, ?_, ?_, ?_⟩
  · rw [gS _ _ (by decide) (by decide) (by decide) (by decide), gM 6 (by decide) (by decide)]; exact r1.1
  · rw [show S' 4 = S 4 from funext fun j => gS 4 j (by decide) (by decide) (by decide) (by decide), gTf 144 (by decide) (by decide) (by decide) (by decide)]; exact r1.2.1
  · rw [show S' 5 = S 5 from funext fun j => gS 5 j (by decide) (by decide) (by decide) (by decide), gTf 145 (by decide) (by decide) (by decide) (by decide)]; exact r1.2.2.1
  · rw [show S' 6 = S 6 from funext fun j => gS 6 j (by decide) (by decide) (by decide) (by decide), gTf 146 (by decide) (by decide) (by decide) (by decide)]; exact r1.2.2.2.1
  · rw [show S' 7 = S 7 from funext fun j => gS 7 j (by decide) (by decide) (by decide) (by decide), gTf 147 (by decide) (by decide) (by decide) (by decide)]; exact r1.2.2.2.2.1
  · rw [show S' 8 = S 8 from funext fun j => gS 8 j (by decide) (by decide) (by decide) (by decide), gTf 148 (by decide) (by decide) (by decide) (by decide)]; exact r1.2.2.2.2.2
  · rw [s11, t17]
  · rw [s12, t155, n2, x1]
  · rw [s13, t154, n3]
  · rw [s06, t14]
  · rw [tc14] at hd; exact (cell d i hd hi).1
  · rw [g0 9 (by decide), gM 1 (by decide) (by decide)]; exact x1
  · rw [g0 8 (by decide), gM 39 (by decide) (by decide)]; exact x2
  · rw [show S' 15 = S 15 from funext fun j => gS 15 j (by decide) (by decide) (by decide) (by decide), gTf 170 (by decide) (by decide) (by decide) (by decide)]; exact x3
  · rw [gS 1 1 (by decide) (by decide) (by decide) (by decide), gM 19 (by decide) (by decide)]; exact x4
  · rw [show S' 2 = S 2 from funext fun j => gS 2 j (by decide) (by decide) (by decide) (by decide), gTf 156 (by decide) (by decide) (by decide) (by decide)]; exact x5
  · rw [g0 10 (by decide), gM 23 (by decide) (by decide)]; exact x6
  · rw [gS 3 8 (by decide) (by decide) (by decide) (by decide), gM 7 (by decide) (by decide)]; exact x7
  · rw [gS 3 7 (by decide) (by decide) (by decide) (by decide), gM 6 (by decide) (by decide), sc_cong (fun j => by rw [gTf 147 (by decide) (by decide) (by decide) (by decide)])]; exact x8
  · rw [StoI, gM 6 (by decide) (by decide), gTf 145 (by decide) (by decide) (by decide) (by decide), gTf 147 (by decide) (by decide) (by decide) (by decide)]; exact i1
  · rw [t17]; exact ⟨n + 1, by omega, rfl⟩
  · rw [tc17] at hk
    rw [tc14, t154]
    unfold upd
    by_cases q : k = n
    · rw [if_pos q]; exact Or.inr ⟨E, by omega, rfl⟩
    · rw [if_neg q]
      exact (i2.2.1 k (by omega)).imp id (fun ⟨d, h1, h2⟩ => ⟨d, by omega, h2⟩)
  · rw [t154]
    unfold upd
    by_cases q : k = n
    · rw [if_pos q]; exact Or.inr (vp_in_nI (by omega) (by omega))
    · rw [if_neg q]; exact i2.2.2 k hk
  · rw [t14]; exact ⟨E + 1, by omega, rfl⟩
  · rw [tc14] at hd; exact (cell d i hd hi).2
  · rw [TowI, gM 26 (by decide) (by decide), gTf 158 (by decide) (by decide) (by decide) (by decide), gTf 160 (by decide) (by decide) (by decide) (by decide)]; exact i4
  · rw [StkI, gM 26 (by decide) (by decide), gTf 163 (by decide) (by decide) (by decide) (by decide), gTf 164 (by decide) (by decide) (by decide) (by decide)]; exact i5
  · rw [gM 1 (by decide) (by decide)]; exact i6
  · rw [gM 19 (by decide) (by decide)]; exact i7
  · rw [tc17, tc14]; omega
  · rw [tc17, tc14]; exact Or.inr (Or.inr (by omega))
  · rw [gTf 156 (by decide) (by decide) (by decide) (by decide)]; exact i8.2.2
theorem ed_fin {S2 T2 : qw_St} {E : Nat} {y : Int32} (hE : E < 20) (hRA : RA S2 T2) (t14 : T2 143 14 = nI E) (s6 : S2 0 6 = nI E) (t0 : T2 143 0 = 0) (hRD : RD S2 T2 E) :
    agr tbU (.ok (nI E)) (g_X7_edict_117 y 7 (up2 (up2 (up2 T2 151 E (T2 151 20)) 152 E (T2 152 20)) 153 E (T2 153 20)) 0 143 0) (f_X7_edict_117 y 7 (up2 (up2 (up2 T2 151 E (T2 151 20)) 152 E (T2 152 20)) 153 E (T2 153 20)) 0) ∧ RA (up2 (g_X1_tell S2 (S2 0 9) (nI E)) 0 6 (g_X1_tell S2 (S2 0 9) (nI E) 0 6 + 1)) (g_X7_edict_117 y 7 (up2 (up2 (up2 T2 151 E (T2 151 20)) 152 E (T2 152 20)) 153 E (T2 153 20)) 0) := by
  obtain ⟨T1, q1, q2, q3, q4⟩ := ed_117 (E := E) hE y 7 0 (up2 (up2 (up2 T2 151 E (T2 151 20)) 152 E (T2 152 20)) 153 E (T2 153 20)) rfl (by omega) t14
  rw [nI_0] at q1 q2
  rw [q1, q2]
  have v14 : T1 143 14 = nI E := (q4 143 14 (Or.inl (by decide))).trans t14
  have vt : g_X7_tells T1 (T1 143 14) 143 14 = nI E := by
    rw [g_X7_tells, up2_ne _ _ (Or.inr (by decide)), up2_ne _ _ (Or.inl (by decide)), up2_ne _ _ (Or.inl (by decide))]; exact v14
  have hfin := hRA.edict (T1 := T1) hE t14 hRD (fun i hi => q3 i (by omega) hi) ⟨(q4 151 E (Or.inl (by decide))).trans ((up2_ne _ _ (Or.inl (by decide))).trans ((up2_ne _ _ (Or.inl (by decide))).trans (up2_same _ _ _ _))), (q4 152 E (Or.inl (by decide))).trans ((up2_ne _ _ (Or.inl (by decide))).trans (up2_same _ _ _ _)), (q4 153 E (Or.inl (by decide))).trans (up2_same _ _ _ _)⟩ (fun c j hc => by
    rw [q4 c j (by omega), up2_ne _ _ (by omega), up2_ne _ _ (by omega), up2_ne _ _ (by omega)])
  rw [s6] at hfin
  refine ⟨?_, hfin⟩
  have z0 : up2 (g_X7_tells T1 (T1 143 14)) 143 14 (g_X7_tells T1 (T1 143 14) 143 14 + 1) 143 0 = 0 := by
    rw [up2_ne _ _ (Or.inr (by decide)), g_X7_tells, up2_ne _ _ (Or.inr (by decide)), up2_ne _ _ (Or.inl (by decide)), up2_ne _ _ (Or.inl (by decide)), q4 143 0 (Or.inl (by decide))]; exact t0
  rw [z0, vt, nI_1, nI_pred]
  exact agr_ok rfl
theorem op_edict {S T : qw_St} (h : RA S T) : agr tbU (f_X6_edict S) (g_X7_edict T 143 0) (f_X7_edict T) ∧ RA (g_X6_edict S) (g_X7_edict T) := by
  have h0 := h.thr 0
  obtain ⟨E, hE, eE⟩ := h.2.2.2.2.2.2.2.1.1
  obtain ⟨L, hL, eL⟩ := h.2.2.2.2.2.2.2.2.2.2.2.1
  have d1 : S 0 6 = nI E := h.2.2.2.1.1.trans eE
  have dc : (S 0 6).toNatClampNeg = E := by rw [d1]; exact nI_clamp (by omega)
  have hby := h.2.2.2.2.2.2.2.2.2.2.2.2.2.2
  obtain ⟨hA, hF⟩ := rd_all (S := S) (T := up2 T 143 0 0) (f := T 156) (L := L) (E := E) hL hby (by omega) (h.2.2.2.2.1.2.2.2.1.trans eL) h.2.2.2.2.1.2.2.2.2.1 eL rfl
  have hRS : ∀ k j, (k ≠ 1 ∨ (j ≠ 2 ∧ j ≠ 3)) → (k < 16 + 3 * E ∨ 18 + 3 * E < k) → g_X3_readInto S E k j = S k j := fun k j q1 q2 => fs_X3_readInto _ _ _ q1 q2
  have hRM : ∀ j, j ≠ 19 ∧ j ≠ 20 ∧ j ≠ 21 ∧ j ≠ 22 → g_X7_readAll (up2 T 143 0 0) 143 j = up2 T 143 0 0 143 j := fun j hj => fr_X7_readAll _ _ (Or.inr hj) (by decide)
  have hR19 : g_X7_readAll (up2 T 143 0 0) 143 19 = 0 := by
    rw [g_X7_readAll, fr_X7_readAll_44 _ _ _ _ _ (Or.inr (by decide)) (by decide)]; rfl
  unfold f_X6_edict g_X6_edict g_X7_edict f_X7_edict
  have es : s_X6_edict_33 S = up2 (up2 (g_X3_readInto S E) 0 10 (f_X3_readInto S E)) 1 1 0 := by rw [s_X6_edict_33, dc]
  have em : s_X7_edict_26 T = up2 (g_X7_readAll (up2 T 143 0 0)) 143 23 (if f_X7_readAll (up2 T 143 0 0) = 0 then g_X7_readAll (up2 T 143 0 0) 143 22 else -1) := rfl
  rw [k20]
  have s10 : s_X6_edict_33 S 0 10 = f_X3_readInto S E := by rw [es, up2_ne _ _ (Or.inl (by decide)), up2_same]
  have s6 : s_X6_edict_33 S 0 6 = nI E := by rw [es, up2_ne _ _ (Or.inl (by decide)), up2_ne _ _ (Or.inr (by decide)), hRS _ _ (Or.inl (by decide)) (by omega)]; exact d1
  have s9 : s_X6_edict_33 S 0 9 = S 0 9 := by rw [es, up2_ne _ _ (Or.inl (by decide)), up2_ne _ _ (Or.inr (by decide)), hRS _ _ (Or.inl (by decide)) (by omega)]
  have t23 : s_X7_edict_26 T 143 23 = (if f_X7_readAll (up2 T 143 0 0) = 0 then g_X7_readAll (up2 T 143 0 0) 143 22 else -1) := by rw [em, up2_same]
  have t14 : s_X7_edict_26 T 143 14 = nI E := by rw [em, up2_ne _ _ (Or.inr (by decide)), hRM _ (by decide)]; exact eE
  have t0 : s_X7_edict_26 T 143 0 = 0 := by rw [em, up2_ne _ _ (Or.inr (by decide)), hRM _ (by decide)]; rfl
  have hR : s_X6_edict_33 S 0 10 = s_X7_edict_26 T 143 23 → RA (s_X6_edict_33 S) (s_X7_edict_26 T) := fun y3 => by
    refine h.txt eE hE (fun k j q1 q2 q3 q4 => ?_) (fun k j q => ?_) (fun j hj => ?_) ?_ ?_ y3
    · rw [es, up2_ne _ _ (q2.imp id (fun q => q.1)), up2_ne _ _ q3, hRS _ _ (q2.imp id (fun q => q.2)) q4]
    · rw [em, up2_ne _ _ (Or.inl q.1), hF k j q, up2_ne _ _ (Or.inl q.1)]
    · rw [em, up2_ne _ _ (Or.inr hj.2.2.2.2.2), hRM j ⟨hj.2.1, hj.2.2.1, hj.2.2.2.1, hj.2.2.2.2.1⟩, up2_ne _ _ (Or.inr hj.1)]
    · rw [es, up2_same]
    · rw [em, up2_ne _ _ (Or.inr (by decide))]; exact hR19
  rcases hA with ⟨r1, r6, hD⟩ | ⟨r0, w, hw, r6, r22⟩
  · have r1' : ¬ f_X7_readAll (up2 T 143 0 0) = 0 := by rw [r1]; decide
    have c1 : s_X6_edict_33 S 0 10 = -1 := s10.trans r6
    rw [if_neg r1'] at t23
    have hRA := hR (c1.trans t23.symm)
    simp only [if_pos c1, if_neg r1', if_true, thr0]
    rw [s6, t14]
    by_cases c : E = 20
    · have c2 : nI E = 20 := by rw [c]; rfl
      have c3 : ¬ nI E < 20 := by rw [c2]; decide
      simp only [if_pos c2, if_neg c3, if_false, o10, thr1]
      refine ⟨?_, hRA.thr 2⟩
      rw [up2_same]
      exact agr_er (k := 2) rfl (by decide)
    · have c2 : ¬ nI E = 20 := fun q => c ((nI_eq (a := E) (b := 20) (by omega) (by omega)).mp q)
      have c3 : nI E < 20 := nI_lt (a := E) (b := 20) (by omega) (by omega)
      simp only [if_neg c2, if_pos c3, if_true, thr0]
      rw [nI_clamp (by omega : E < 2 ^ 31)]
      have hRD : RD (s_X6_edict_33 S) (s_X7_edict_26 T) E := by
        rw [es, em]
        refine ⟨fun i hi => ?_, ?_, ?_, ?_⟩
        · rw [up2_ne _ _ (Or.inl (by omega)), up2_ne _ _ (Or.inl (by omega)), up2_ne _ _ (Or.inl (by omega)), up2_ne _ _ (Or.inl (by omega)), up2_ne _ _ (Or.inl (by omega)), up2_ne _ _ (Or.inl (by omega))]; exact hD.1 i hi
        · rw [up2_ne _ _ (Or.inl (by omega)), up2_ne _ _ (Or.inl (by omega)), up2_ne _ _ (Or.inl (by decide))]; exact hD.2.1
        · rw [up2_ne _ _ (Or.inl (by omega)), up2_ne _ _ (Or.inl (by omega)), up2_ne _ _ (Or.inl (by decide))]; exact hD.2.2.1
        · rw [up2_ne _ _ (Or.inl (by omega)), up2_ne _ _ (Or.inl (by omega)), up2_ne _ _ (Or.inl (by decide))]; exact hD.2.2.2
      exact ed_fin (by omega) hRA t14 s6 t0 hRD
  · have c1 : ¬ s_X6_edict_33 S 0 10 = -1 := by rw [s10, r6]; exact nI_ne1 (by omega)
    rw [if_pos r0, r22] at t23
    have hRA := hR ((s10.trans r6).trans t23.symm)
    simp only [if_neg c1, if_pos r0, if_false, o10, thr1]
    refine ⟨?_, hRA.thr 1⟩
    rw [up2_same]
    exact agr_er (k := 1) rfl (by decide)
