/-! THE PURE PART: reading a text: blanks, words, numbers -/
theorem up2_up2 (S : qw_St) (k j : Nat) (v w : Int32) : up2 (up2 S k j v) k j w = up2 S k j w := by
  funext a b
  simp only [up2_at]
  by_cases h : a = k ∧ b = j
  · simp only [if_pos h]
  · simp only [if_neg h]
theorem up2_self (S : qw_St) {k j : Nat} {v : Int32} (e : S k j = v) : up2 S k j v = S := by
  funext a b
  rw [up2_at]
  by_cases h : a = k ∧ b = j
  · rw [if_pos h, h.1, h.2, e]
  · rw [if_neg h]
theorem up2_comm (S : qw_St) {k j k' j' : Nat} (v w : Int32) (h : k ≠ k' ∨ j ≠ j') : up2 (up2 S k j v) k' j' w = up2 (up2 S k' j' w) k j v := by
  funext a b
  simp only [up2_at]
  by_cases h1 : a = k ∧ b = j
  · have h2 : ¬ (a = k' ∧ b = j') := fun q => by omega
    simp only [if_pos h1, if_neg h2]
  · simp only [if_neg h1]
def isB (b : Int32) : Prop := b.toInt8.toInt32 = b
theorem by_of {b : Int32} (h : isB b) : ∃ n : Nat, n < 256 ∧ b = (nI n).toInt8.toInt32 ∧ b &&& 255 = nI n := by
  obtain ⟨n, hn, e⟩ := pk_andE b (m := 255) 8 (by decide)
  exact ⟨n, hn, (sc_eq h hn).mpr e, e⟩
abbrev qR (lo hi b : Int32) : Prop := ¬ b < lo ∧ ¬ hi < b
theorem by_32 {b : Int32} (h : isB b) : (b &&& 255 = 32) ↔ qR 32 32 b := by
  obtain ⟨n, hn, e1, e2⟩ := by_of h
  rw [e2, e1]
  exact (by decide +kernel : ∀ n, n < 256 → (nI n = 32 ↔ qR 32 32 (nI n).toInt8.toInt32)) n hn
theorem by_59 {b : Int32} (h : isB b) : (b &&& 255 = 59) ↔ qR 59 59 b := by
  obtain ⟨n, hn, e1, e2⟩ := by_of h
  rw [e2, e1]
  exact (by decide +kernel : ∀ n, n < 256 → (nI n = 59 ↔ qR 59 59 (nI n).toInt8.toInt32)) n hn
theorem by_dg {b : Int32} (h : isB b) : qR 48 57 (b &&& 255) ↔ qR 48 57 b := by
  obtain ⟨n, hn, e1, e2⟩ := by_of h
  rw [e2, e1]
  exact (by decide +kernel : ∀ n, n < 256 → (qR 48 57 (nI n) ↔ qR 48 57 (nI n).toInt8.toInt32)) n hn
theorem by_az {b : Int32} (h : isB b) : qR 97 122 (b &&& 255) ↔ qR 97 122 b := by
  obtain ⟨n, hn, e1, e2⟩ := by_of h
  rw [e2, e1]
  exact (by decide +kernel : ∀ n, n < 256 → (qR 97 122 (nI n) ↔ qR 97 122 (nI n).toInt8.toInt32)) n hn
theorem by_dv {b : Int32} (h : isB b) (q : qR 48 57 b) : b &&& 255 = b := by
  obtain ⟨n, hn, e1, e2⟩ := by_of h
  rw [e1] at q
  rw [e2, e1]
  exact (by decide +kernel : ∀ n, n < 256 → qR 48 57 (nI n).toInt8.toInt32 → nI n = (nI n).toInt8.toInt32) n hn q
theorem by_ch {b : Int32} (h : isB b) {m : Nat} (hm : m < 128) : (b &&& 255 = nI m) ↔ b = nI m := by
  have e : (nI m).toInt8.toInt32 = nI m := (by decide +kernel : ∀ m, m < 128 → (nI m).toInt8.toInt32 = nI m) m hm
  rw [← sc_eq h (by omega), e]
def skp (lo hi : Int32) (f : Nat → Int32) (L : Nat) : Nat → Nat → Nat
  | 0, p => p
  | n + 1, p => if p < L ∧ qR lo hi (f p) then skp lo hi f L n (p + 1) else p
theorem skp_b (lo hi : Int32) (f : Nat → Int32) (L : Nat) : ∀ n p, p ≤ L → p ≤ skp lo hi f L n p ∧ skp lo hi f L n p ≤ L := by
  intro n
  induction n with
  | zero => intro p h; exact ⟨Nat.le_refl _, h⟩
  | succ n ih =>
    intro p h
    rw [skp]
    split
    · next c => have := ih (p + 1) c.1; omega
    · exact ⟨Nat.le_refl _, h⟩
theorem skp_e (lo hi : Int32) (f : Nat → Int32) (L : Nat) : ∀ n p, p ≤ L → L < p + n → ¬ (skp lo hi f L n p < L ∧ qR lo hi (f (skp lo hi f L n p))) := by
  intro n
  induction n with
  | zero => intro p h1 h2; omega
  | succ n ih =>
    intro p h1 h2
    rw [skp]
    by_cases c : p < L ∧ qR lo hi (f p)
    · rw [if_pos c]; exact ih (p + 1) c.1 (by omega)
    · rw [if_neg c]; exact c
def SP (S : qw_St) (p : Nat) : qw_St := up2 S 1 2 (nI p)
def TP (T : qw_St) (p : Nat) (b : Int32) : qw_St := up2 (up2 T 143 22 b) 143 20 (nI p)
theorem SP_up (S : qw_St) (p : Nat) : up2 (SP S p) 1 2 (nI p + 1) = SP S (p + 1) := by rw [SP, up2_up2, nI_1]; rfl
theorem TP_up (T : qw_St) (p : Nat) (b : Int32) : up2 (TP T p b) 143 20 (nI p + 1) = TP T (p + 1) b := by rw [TP, up2_up2, nI_1]; rfl
theorem TP_b (T : qw_St) (p : Nat) (b c : Int32) : up2 (TP T p b) 143 22 c = TP T p c := by rw [TP, up2_comm _ _ _ (Or.inr (by decide)), up2_up2]; rfl
section PR
variable {S T : qw_St} {f : Nat → Int32} {L : Nat}
theorem bat (e1 : S 1 1 = nI L) (e2 : S 2 = f) (hL : L ≤ 400) {p : Nat} (hp : p < L) : f_X3_byteAt S (nI p) = f p &&& 255 := by
  rw [f_X3_byteAt, if_neg (nI_pos (by omega)), e1, if_neg (nI_ge hp (by omega)), e2, nI_clamp (by omega : p < 2 ^ 31)]
theorem ibt (lo hi : Int32) (e1 : S 1 1 = nI L) (e2 : S 2 = f) (hL : L ≤ 400) {p : Nat} (hp : p < L) (e3 : S 1 2 = nI p) : f_X3_isBetween S lo hi = 0 ↔ ¬ qR lo hi (f p &&& 255) := by
  rw [f_X3_isBetween, e3, bat e1 e2 hL hp]
  by_cases c1 : f p &&& 255 < lo
  · rw [if_pos c1]; exact ⟨fun _ q => q.1 c1, fun _ => rfl⟩
  · rw [if_neg c1]
    by_cases c2 : hi < f p &&& 255
    · rw [if_pos c2]; exact ⟨fun _ q => q.2 c2, fun _ => rfl⟩
    · rw [if_neg c2]; exact ⟨fun q => absurd q (by decide), fun q => absurd ⟨c1, c2⟩ q⟩
theorem iat (lo hi : Int32) (e1 : T 143 21 = nI L) (e2 : T 156 = f) (hL : L ≤ 400) {p : Nat} (hp : p ≤ L) (e3 : T 143 20 = nI p) : f_X7_isAt T lo hi = 0 ↔ ¬ (p < L ∧ qR lo hi (f p)) := by
  rw [f_X7_isAt, e1, e3, e2, nI_clamp (by omega : p < 2 ^ 31)]
  by_cases c : p < L
  · rw [if_neg (nI_ge c (by omega))]
    by_cases c1 : f p < lo
    · rw [if_pos c1]; exact ⟨fun _ q => q.2.1 c1, fun _ => rfl⟩
    · rw [if_neg c1]
      by_cases c2 : hi < f p
      · rw [if_pos c2]; exact ⟨fun _ q => q.2.2 c2, fun _ => rfl⟩
      · rw [if_neg c2]; exact ⟨fun q => absurd q (by decide), fun q => absurd ⟨c, c1, c2⟩ q⟩
  · rw [if_pos (nI_le (by omega) (by omega))]
    exact ⟨fun _ q => c q.1, fun _ => rfl⟩
theorem sbC (e1 : S 1 1 = nI L) (e2 : S 2 = f) (hL : L ≤ 400) (hb : ∀ j, isB (f j)) : ∀ n p, p ≤ L → L < p + n → g_X3_skipBlanks_0 n (SP S p) = SP S (skp 32 32 f L n p) := by
  intro n
  induction n with
  | zero => intro p h1 h2; omega
  | succ n ih =>
    intro p h1 h2
    have k2 : SP S p 1 2 = nI p := up2_same _ _ _ _
    rw [g_X3_skipBlanks_0, skp, k2, show SP S p 1 1 = nI L from e1]
    by_cases c : p < L
    · rw [if_neg (nI_ge c (by omega)), bat (S := SP S p) e1 e2 hL c]
      by_cases q : qR 32 32 (f p)
      · rw [if_pos ((by_32 (hb p)).mpr q), if_pos ⟨c, q⟩, SP_up]
        exact ih (p + 1) (by omega) (by omega)
      · rw [if_neg (fun h => q ((by_32 (hb p)).mp h)), if_neg (fun h => q h.2)]
    · rw [if_pos (nI_le (by omega) (by omega)), if_neg (fun h => c h.1)]
theorem swC (e1 : S 1 1 = nI L) (e2 : S 2 = f) (hL : L ≤ 400) (hb : ∀ j, isB (f j)) : ∀ n p, p ≤ L → L < p + n → g_X3_skipWord_0 n (SP S p) = SP S (skp 97 122 f L n p) := by
  intro n
  induction n with
  | zero => intro p h1 h2; omega
  | succ n ih =>
    intro p h1 h2
    have k2 : SP S p 1 2 = nI p := up2_same _ _ _ _
    rw [g_X3_skipWord_0, skp, k2, show SP S p 1 1 = nI L from e1]
    by_cases c : p < L
    · rw [if_neg (nI_ge c (by omega))]
      have hi := ibt (S := SP S p) 97 122 e1 e2 hL c k2
      by_cases q : qR 97 122 (f p)
      · rw [if_neg (fun h => hi.mp h ((by_az (hb p)).mpr q)), if_pos ⟨c, q⟩, SP_up]
        exact ih (p + 1) (by omega) (by omega)
      · rw [if_pos (hi.mpr (fun h => q ((by_az (hb p)).mp h))), if_neg (fun h => q h.2)]
    · rw [if_pos (nI_le (by omega) (by omega)), if_neg (fun h => c h.1)]
theorem sbM (e1 : T 143 21 = nI L) (e2 : T 156 = f) (hL : L ≤ 400) : ∀ n p b, p ≤ L → L < p + n → g_X7_blanks_0 n (TP T p b) = TP T (skp 32 32 f L n p) (nI (skp 32 32 f L n p)) := by
  intro n
  induction n with
  | zero => intro p b h1 h2; omega
  | succ n ih =>
    intro p b h1 h2
    have k2 : TP T p b 143 20 = nI p := up2_same _ _ _ _
    have hi := iat (T := TP T p b) 32 32 e1 e2 hL h1 k2
    rw [g_X7_blanks_0, skp, k2]
    by_cases c : p < L ∧ qR 32 32 (f p)
    · rw [if_neg (fun h => hi.mp h c), if_pos c, TP_up]
      exact ih (p + 1) b (by omega) (by omega)
    · rw [if_pos (hi.mpr c), if_neg c, TP_b]
def vl (f : Nat → Int32) (L : Nat) : Nat → Nat → Int32 → Int32
  | 0, _, z => z
  | n + 1, p, z => if p < L ∧ qR 48 57 (f p) then vl f L n (p + 1) (z * 10 + (f p &&& 255) - 48) else z
def vm (f : Nat → Int32) (L p0 : Nat) : Nat → Nat → Int32 → Int32
  | 0, _, z => z
  | n + 1, p, z => if p < L ∧ qR 48 57 (f p) then vm f L p0 n (p + 1) (if 4 ≤ p - p0 then z else 10 * z + f p - 48) else z
theorem vl_vm (hb : ∀ j, isB (f j)) {p0 : Nat} : ∀ n p z, p ≤ L → skp 48 57 f L n p - p0 ≤ 4 → p0 ≤ p → vl f L n p z = vm f L p0 n p z := by
  intro n
  induction n with
  | zero => intro p z _ _ _; rfl
  | succ n ih =>
    intro p z h1 h2 h3
    rw [skp] at h2
    rw [vl, vm]
    by_cases c : p < L ∧ qR 48 57 (f p)
    · rw [if_pos c] at h2
      have hs := skp_b 48 57 f L n (p + 1) c.1
      rw [if_pos c, if_pos c, if_neg (by omega), by_dv (hb p) c.2, Int32.mul_comm z]
      exact ih _ _ (by omega) h2 (by omega)
    · rw [if_neg c, if_neg c]
abbrev nok (a1 a2 : Int32) (p0 p1 : Nat) (z : Int32) : Prop := 1 ≤ p1 - p0 ∧ p1 - p0 ≤ 4 ∧ ¬ z < a1 ∧ z ≤ a2
theorem rn_leaf {α : Type} {a1 a2 z : Int32} {p0 p1 : Nat} (h : p0 ≤ p1) (h4 : p1 ≤ 400) (x y : α) : (if nI p1 - nI p0 < (1 : Int32) then y else (if (4 : Int32) < nI p1 - nI p0 then y else (if z < a1 then y else (if z ≤ a2 then x else y)))) = (if nok a1 a2 p0 p1 z then x else y) := by
  rw [pk_sub h]
  by_cases c1 : 1 ≤ p1 - p0
  · rw [if_neg (show ¬ nI (p1 - p0) < (1 : Int32) from nI_nlt (a := p1 - p0) (b := 1) c1 (by omega))]
    by_cases c2 : p1 - p0 ≤ 4
    · rw [if_neg (show ¬ (4 : Int32) < nI (p1 - p0) from nI_nlt (a := 4) (b := p1 - p0) c2 (by omega))]
      by_cases c3 : z < a1
      · rw [if_pos c3, if_neg (fun q => q.2.2.1 c3)]
      · rw [if_neg c3]
        by_cases c4 : z ≤ a2
        · rw [if_pos c4, if_pos ⟨c1, c2, c3, c4⟩]
        · rw [if_neg c4, if_neg (fun q => c4 q.2.2.2)]
    · rw [if_pos (show (4 : Int32) < nI (p1 - p0) from nI_lt (a := 4) (b := p1 - p0) (by omega) (by omega)), if_neg (fun q => c2 q.2.1)]
  · rw [if_pos (show nI (p1 - p0) < (1 : Int32) from nI_lt (a := p1 - p0) (b := 1) (by omega) (by omega)), if_neg (fun q => c1 q.1)]
theorem rnC (a1 a2 : Int32) (e1 : S 1 1 = nI L) (e2 : S 2 = f) (hL : L ≤ 400) (hb : ∀ j, isB (f j)) {p0 : Nat} : ∀ n p z, p ≤ L → L < p + n → p0 ≤ p → g_X3_readNumber_22 a1 a2 (nI p0) n (SP S p) z = (if nok a1 a2 p0 (skp 48 57 f L n p) (vl f L n p z) then SP S (skp 48 57 f L n p) else up2 (SP S (skp 48 57 f L n p)) 1 3 (nI p0)) ∧ f_X3_readNumber_22 a1 a2 (nI p0) n (SP S p) z = (if nok a1 a2 p0 (skp 48 57 f L n p) (vl f L n p z) then vl f L n p z else -1) := by
  intro n
  induction n with
  | zero => intro p z h1 h2; omega
  | succ n ih =>
    intro p z h1 h2 h3
    have k2 : SP S p 1 2 = nI p := up2_same _ _ _ _
    have k1 : SP S p 1 1 = nI L := e1
    rw [g_X3_readNumber_22, f_X3_readNumber_22, skp, vl, k2, k1]
    by_cases c : p < L
    · have hi := ibt (S := SP S p) 48 57 e1 e2 hL c k2
      simp only [if_neg (show ¬ nI L ≤ nI p from nI_ge c (by omega))]
      by_cases q : qR 48 57 (f p)
      · simp only [if_neg (show ¬ f_X3_isBetween (SP S p) 48 57 = 0 from fun h => hi.mp h ((by_dg (hb p)).mpr q)), if_pos (show p < L ∧ qR 48 57 (f p) from ⟨c, q⟩)]
        rw [SP_up, bat (S := SP S p) e1 e2 hL c]
        exact ih (p + 1) _ (by omega) (by omega) (by omega)
      · simp only [if_pos (show f_X3_isBetween (SP S p) 48 57 = 0 from hi.mpr (fun h => q ((by_dg (hb p)).mp h))), if_neg (show ¬ (p < L ∧ qR 48 57 (f p)) from fun h => q h.2)]
        exact ⟨rn_leaf h3 (by omega) _ _, rn_leaf h3 (by omega) _ _⟩
    · simp only [if_pos (show nI L ≤ nI p from nI_le (by omega) (by omega)), if_neg (show ¬ (p < L ∧ qR 48 57 (f p)) from fun h => c h.1)]
      exact ⟨rn_leaf h3 (by omega) _ _, rn_leaf h3 (by omega) _ _⟩
theorem rnM (a1 a2 : Int32) (e1 : T 143 21 = nI L) (e2 : T 156 = f) (hL : L ≤ 400) {p0 : Nat} : ∀ n p z, p ≤ L → L < p + n → p0 ≤ p → g_X7_number_6 a1 a2 n (TP T p (nI p0)) z = TP T (skp 48 57 f L n p) (nI p0) ∧ f_X7_number_6 a1 a2 n (TP T p (nI p0)) z = (if nok a1 a2 p0 (skp 48 57 f L n p) (vm f L p0 n p z) then vm f L p0 n p z else -1) := by
  intro n
  induction n with
  | zero => intro p z h1 h2; omega
  | succ n ih =>
    intro p z h1 h2 h3
    have k2 : TP T p (nI p0) 143 20 = nI p := up2_same _ _ _ _
    have k22 : TP T p (nI p0) 143 22 = nI p0 := (up2_ne _ _ (Or.inr (by decide))).trans (up2_same _ _ _ _)
    have k1 : TP T p (nI p0) 143 21 = nI L := e1
    have k5 : TP T p (nI p0) 156 = f := e2
    have hi := iat (T := TP T p (nI p0)) 48 57 e1 e2 hL h1 k2
    rw [g_X7_number_6, f_X7_number_6, skp, vm, k2, k22]
    by_cases c : p < L ∧ qR 48 57 (f p)
    · simp only [if_neg (show ¬ f_X7_isAt (TP T p (nI p0)) 48 57 = 0 from fun h => hi.mp h c), if_pos c]
      rw [TP_up, k5, nI_clamp (by omega : p < 2 ^ 31), pk_sub h3]
      have e4 : ((4 : Int32) ≤ nI (p - p0)) ↔ 4 ≤ p - p0 := nI_leI (a := 4) (b := p - p0) (by omega) (by omega)
      have e5 : (if (4 : Int32) ≤ nI (p - p0) then z else 10 * z + f p - 48) = (if 4 ≤ p - p0 then z else 10 * z + f p - 48) := by
        by_cases q : 4 ≤ p - p0
        · rw [if_pos q, if_pos (e4.mpr q)]
        · rw [if_neg q, if_neg (fun h => q (e4.mp h))]
      rw [e5]
      exact ih (p + 1) _ (by omega) (by omega) (by omega)
    · simp only [if_pos (show f_X7_isAt (TP T p (nI p0)) 48 57 = 0 from hi.mpr c), if_neg c, ite_self]
      refine ⟨trivial, ?_⟩
      rw [← rn_leaf h3 (by omega)]
      by_cases q : p = p0
      · subst q
        rw [if_pos rfl, if_pos (by rw [pk_sub (Nat.le_refl _), Nat.sub_self]; decide)]
      · rw [if_neg (fun h => q ((nI_eq (by omega) (by omega)).mp h)), if_neg (show ¬ nI p - nI p0 < (1 : Int32) from by rw [pk_sub h3]; exact nI_nlt (a := p - p0) (b := 1) (by omega) (by omega))]
end PR
