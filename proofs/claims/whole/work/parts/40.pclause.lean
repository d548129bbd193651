/-! THE PURE PART: reading a text: clauses -/
section PC
variable {S T : qw_St} {f : Nat → Int32} {L : Nat}
theorem wd_0 (bs : List Int32) : ∀ (n : Nat) (T : qw_St) (z : Int32), f_X7_isWord_24 bs n T 0 z = 0 := by
  intro n
  cases n with
  | zero => intro T z; rfl
  | succ n => intro T z; rw [f_X7_isWord_24, if_pos rfl]
theorem wd_17 (e1 : S 1 1 = nI L) (e2 : S 2 = f) (e3 : T 156 = f) (hL : L ≤ 400) (hb : ∀ j, isB (f j)) (bs : List Int32) (hbs : ∀ k, k < bs.length → ∃ m, m < 128 ∧ ev_ch bs (nI k) = nI m) {p0 : Nat} (hp : p0 + bs.length ≤ L) (e4 : T 143 22 = nI p0) : ∀ n k, k + n = bs.length + 1 → k ≤ bs.length → f_X3_isWord_17 (nI p0) bs n S (nI k) = f_X7_isWord_24 bs n T 1 (nI k) := by
  intro n
  induction n with
  | zero => intro k h1 h2; omega
  | succ n ih =>
    intro k h1 h2
    rw [f_X3_isWord_17, f_X7_isWord_24, if_neg (by decide : ¬ (1 : Int32) = 0)]
    by_cases c : k < bs.length
    · rw [if_neg (nI_ge c (by omega)), if_neg (nI_ge c (by omega)), e4, nI_add, bat e1 e2 hL (by omega), e3, nI_clamp (by omega : p0 + k < 2 ^ 31), nI_1 k]
      obtain ⟨m, hm, em⟩ := hbs k c
      rw [em]
      by_cases q : f (p0 + k) = nI m
      · rw [if_pos ((by_ch (hb _) hm).mpr q), if_pos q]
        exact ih (k + 1) (by omega) (by omega)
      · rw [if_neg (fun h => q ((by_ch (hb _) hm).mp h)), if_neg q, wd_0]
    · rw [if_pos (nI_le (by omega) (by omega)), if_pos (nI_le (by omega) (by omega))]
theorem wd_eq (e1 : S 1 1 = nI L) (e2 : S 2 = f) (e3 : T 156 = f) (hL : L ≤ 400) (hb : ∀ j, isB (f j)) (bs : List Int32) (hbs : ∀ k, k < bs.length → ∃ m, m < 128 ∧ ev_ch bs (nI k) = nI m) (hl : bs.length ≤ 400) {p0 p1 : Nat} (h0 : p0 ≤ p1) (h1 : p1 ≤ L) : f_X3_isWord (SP S p1) (nI p0) bs = f_X7_isWord (TP T p1 (nI p0)) bs ∧ (¬ f_X3_isWord (SP S p1) (nI p0) bs = 0 → p1 = p0 + bs.length) := by
  have k2 : SP S p1 1 2 = nI p1 := up2_same _ _ _ _
  have k20 : TP T p1 (nI p0) 143 20 = nI p1 := up2_same _ _ _ _
  have k22 : TP T p1 (nI p0) 143 22 = nI p0 := (up2_ne _ _ (Or.inr (by decide))).trans (up2_same _ _ _ _)
  rw [f_X3_isWord, f_X7_isWord, k2, k20, k22, pk_sub h0]
  by_cases c : p1 - p0 = bs.length
  · rw [if_pos (by rw [c]), if_pos (by rw [c])]
    have := wd_17 (S := SP S p1) (T := TP T p1 (nI p0)) e1 e2 e3 hL hb bs hbs (by omega) k22 (bs.length + 1) 0 (by omega) (by omega)
    rw [nI_0] at this
    exact ⟨this, fun _ => by omega⟩
  · rw [if_neg (fun h => c ((nI_eq (by omega) (by omega)).mp h)), if_neg (fun h => c ((nI_eq (by omega) (by omega)).mp h)), wd_0]
    exact ⟨rfl, fun h => absurd rfl h⟩
theorem tx_ok {bs : List Int32} (h : ∀ k, k < bs.length → (ev_ch bs (nI k)).toNatClampNeg < 128 ∧ ev_ch bs (nI k) = nI (ev_ch bs (nI k)).toNatClampNeg) : ∀ k, k < bs.length → ∃ m, m < 128 ∧ ev_ch bs (nI k) = nI m := fun k hk => ⟨_, (h k hk).1, (h k hk).2⟩
theorem tk_cap : ∀ k, k < tx_cap.length → ∃ m, m < 128 ∧ ev_ch tx_cap (nI k) = nI m := tx_ok (by decide +kernel)
theorem tk_line : ∀ k, k < tx_line.length → ∃ m, m < 128 ∧ ev_ch tx_line (nI k) = nI m := tx_ok (by decide +kernel)
theorem tk_carriage : ∀ k, k < tx_carriage.length → ∃ m, m < 128 ∧ ev_ch tx_carriage (nI k) = nI m := tx_ok (by decide +kernel)
theorem tk_credit : ∀ k, k < tx_credit.length → ∃ m, m < 128 ∧ ev_ch tx_credit (nI k) = nI m := tx_ok (by decide +kernel)
theorem tk_free : ∀ k, k < tx_free.length → ∃ m, m < 128 ∧ ev_ch tx_free (nI k) = nI m := tx_ok (by decide +kernel)
def n0 (f : Nat → Int32) (L p : Nat) : Nat := skp 32 32 f L 401 p
def n1 (f : Nat → Int32) (L p : Nat) : Nat := skp 48 57 f L 401 (n0 f L p)
def nv (f : Nat → Int32) (L p : Nat) : Int32 := vl f L 401 (n0 f L p) 0
abbrev nk (a1 a2 : Int32) (f : Nat → Int32) (L p : Nat) : Prop := nok a1 a2 (n0 f L p) (n1 f L p) (nv f L p)
theorem n0_b {p : Nat} (h : p ≤ L) : p ≤ n0 f L p ∧ n0 f L p ≤ L := skp_b _ _ _ _ _ _ h
theorem n1_b {p : Nat} (h : p ≤ L) : n0 f L p ≤ n1 f L p ∧ n1 f L p ≤ L := skp_b _ _ _ _ _ _ (n0_b h).2
theorem numC (a1 a2 : Int32) (e1 : S 1 1 = nI L) (e2 : S 2 = f) (e3 : S 1 3 = -1) (hL : L ≤ 400) (hb : ∀ j, isB (f j)) {p : Nat} (hp : p ≤ L) : g_X3_readNumber (SP S p) a1 a2 = (if nk a1 a2 f L p then SP S (n1 f L p) else up2 (SP S (n1 f L p)) 1 3 (nI (n0 f L p))) ∧ f_X3_readNumber (SP S p) a1 a2 = (if nk a1 a2 f L p then nv f L p else -1) := by
  have hs : g_X3_skipBlanks (SP S p) = SP S (n0 f L p) := sbC e1 e2 hL hb 401 p hp (by omega)
  have k : SP S (n0 f L p) 1 2 = nI (n0 f L p) := up2_same _ _ _ _
  rw [g_X3_readNumber, f_X3_readNumber, if_pos (show SP S p 1 3 = -1 from e3), if_pos (show SP S p 1 3 = -1 from e3), hs, k]
  exact rnC a1 a2 e1 e2 hL hb 401 _ 0 (n0_b hp).2 (by omega) (Nat.le_refl _)
theorem numM (a1 a2 : Int32) (e1 : T 143 21 = nI L) (e2 : T 156 = f) (hL : L ≤ 400) (hb : ∀ j, isB (f j)) {p : Nat} (b : Int32) (hp : p ≤ L) : g_X7_number (TP T p b) a1 a2 = TP T (n1 f L p) (nI (n0 f L p)) ∧ f_X7_number (TP T p b) a1 a2 = (if nk a1 a2 f L p then nv f L p else -1) := by
  have hs : g_X7_blanks (TP T p b) = TP T (n0 f L p) (nI (n0 f L p)) := sbM e1 e2 hL 401 p b hp (by omega)
  rw [g_X7_number, f_X7_number, hs]
  obtain ⟨q1, q2⟩ := rnM (T := T) (p0 := n0 f L p) a1 a2 e1 e2 hL 401 (n0 f L p) 0 (n0_b hp).2 (by omega) (Nat.le_refl _)
  refine ⟨q1, q2.trans ?_⟩
  show (if nok a1 a2 (n0 f L p) (n1 f L p) (vm f L (n0 f L p) 401 (n0 f L p) 0) then vm f L (n0 f L p) 401 (n0 f L p) 0 else -1) = _
  by_cases c : n1 f L p - n0 f L p ≤ 4
  · have e := vl_vm (L := L) hb (p0 := n0 f L p) 401 (n0 f L p) 0 (n0_b hp).2 c (Nat.le_refl _)
    rw [← e]; rfl
  · rw [if_neg (fun h => c h.2.1), if_neg (fun h => c h.2.1)]
theorem nk_nn {a1 a2 : Int32} {p : Nat} (h : nk a1 a2 f L p) (h0 : ¬ a1 < 0) : ¬ nv f L p < 0 := by
  have := h.2.2.1
  rw [Int32.lt_iff_toInt_lt] at this h0 ⊢
  omega
theorem nk_qz {a2 : Int32} {a1 : Int32} {N p : Nat} (h : nk a1 a2 f L p) (h0 : ¬ a1 < 0) (ha : a2 = nI N) (hN : N < 2 ^ 31) : qz (nv f L p) N := by
  obtain ⟨k, hk, e⟩ := nI_of2 (n := N) (by rw [ha]; exact nI_toInt hN) (nk_nn h h0) h.2.2.2
  exact ⟨k, hk, e⟩
def RD (S T : qw_St) (d : Nat) : Prop := (∀ i, i < 6 → S (17 + 3 * d) i = T 149 (120 + i) ∧ S (18 + 3 * d) i = T 150 (120 + i) ∧ (T 149 (120 + i) = -1 ∨ qz (T 149 (120 + i)) 9999) ∧ (T 150 (120 + i) = -1 ∨ ¬ T 150 (120 + i) < 0)) ∧ (S (16 + 3 * d) 2 = T 151 20 ∧ qz (T 151 20) 99) ∧ (S (16 + 3 * d) 3 = T 152 20 ∧ qz (T 152 20) 100) ∧ S (16 + 3 * d) 4 = T 153 20
def BS (S T : qw_St) (d : Nat) (f : Nat → Int32) (L : Nat) : Prop := S 1 1 = nI L ∧ S 2 = f ∧ T 143 21 = nI L ∧ T 156 = f ∧ S 1 3 = -1 ∧ RD S T d
def CO (d : Nat) (f : Nat → Int32) (L p : Nat) (S1 T1 : qw_St) (r : Int32) : Prop := (r = 1 ∧ ∃ (p' : Nat) (S' T' : qw_St) (b' : Int32), S1 = SP S' p' ∧ T1 = TP T' p' b' ∧ p ≤ p' ∧ p' ≤ L ∧ BS S' T' d f L) ∨ (r = 0 ∧ ∃ w : Nat, w ≤ 400 ∧ S1 1 3 = nI w ∧ T1 143 22 = nI w)
theorem TP22 (T : qw_St) (p : Nat) (b : Int32) : TP T p b 143 22 = b := (up2_ne _ _ (Or.inr (by decide))).trans (up2_same _ _ _ _)
theorem SP_o (S : qw_St) (p : Nat) {k j : Nat} (v : Int32) (h : k ≠ 1) : up2 (SP S p) k j v = SP (up2 S k j v) p := by rw [SP, up2_comm _ _ _ (Or.inl (fun q => h q.symm))]; rfl
theorem TP_o (T : qw_St) (p : Nat) (b : Int32) {k j : Nat} (v : Int32) (h : k ≠ 143) : up2 (TP T p b) k j v = TP (up2 T k j v) p b := by rw [TP, up2_comm _ _ _ (Or.inl (fun q => h q.symm)), up2_comm (up2 T 143 22 b |> fun _ => T) _ _ (Or.inl (fun q => h q.symm))]; rfl
theorem nI_ne1 {w : Nat} (h : w < 2 ^ 31) : ¬ nI w = -1 := fun q => by have := nI_pos h; rw [q] at this; exact this (by decide)
end PC
