/-! small rows: numbers, indices, switches -/
section QS
variable {p : Program} {l : Launch} {e : Env} {R : Room} {s : State} {m : MethodId} {args : Array Value} {below : List Frame} {meth : Method} {c0 : Code} {H : Heap} {locs : List Loc} {cells slots : Nat} {Q : State → Prop} {pc : Nat} {ls : Array Slot} {rest : List Value}
theorem lv_tope {x : Int32} (y : Int32) (h : x = y) (k : W p l e R s m args below meth c0 H locs cells slots Q (F0 m pc ls (.int y :: rest))) : W p l e R s m args below meth c0 H locs cells slots Q (F0 m pc ls (.int x :: rest)) := h ▸ k
end QS
theorem vp_lt {i : Int32} {n : Nat} (h : vp_in i n) : i.toNatClampNeg < n := Nat.not_le.mp fun q => h (Or.inr q)
/-- x is a number from 0 to N -/
def qz (x : Int32) (N : Nat) : Prop := ∃ k : Nat, k ≤ N ∧ x = nI k
theorem qi_in {z : Int32} {k N : Nat} (hz : z = nI k) (hk : k < N) (hN : N < 2 ^ 31) : vp_in z N := by rw [hz]; exact vp_in_nI hk hN
theorem qi_in2 {x M : Int32} {n : Nat} (h0 : ¬ x < 0) (h : ¬ M ≤ x) (hM : M.toInt = n) : vp_in x n := by
  rw [vp_in_iff]
  rw [Int32.lt_iff_toInt_lt] at h0
  rw [Int32.le_iff_toInt_le] at h
  have h9 : (0 : Int32).toInt = 0 := rfl
  omega
theorem qi_lt {z M : Int32} {k m : Nat} (hz : z = nI k) (hk : k < 2 ^ 31) (hM : M.toInt = m) (h : ¬ M ≤ z) : k < m := by
  rw [Int32.le_iff_toInt_le, hM, hz, nI_toInt hk] at h
  omega
theorem qi_lt' {z M : Int32} {k m : Nat} (hz : z = nI k) (hk : k < 2 ^ 31) (hM : M.toInt = m) (h : z < M) : k < m := by
  rw [Int32.lt_iff_toInt_lt, hM, hz, nI_toInt hk] at h
  omega
theorem qi_ge {z M : Int32} {k m : Nat} (hz : z = nI k) (hk : k < 2 ^ 31) (hM : M.toInt = m) (h : M ≤ z) : m ≤ k := by
  rw [Int32.le_iff_toInt_le, hM, hz, nI_toInt hk] at h
  omega
theorem qi_ltn {z y : Int32} {k m : Nat} (hz : z = nI k) (hk : k < 2 ^ 31) (hy : y = nI m) (hm : m < 2 ^ 31) (h : ¬ y ≤ z) : k < m := by
  rw [Int32.le_iff_toInt_le, hz, hy, nI_toInt hk, nI_toInt hm] at h
  omega
theorem qi_gen {z y : Int32} {k m : Nat} (hz : z = nI k) (hk : k < 2 ^ 31) (hy : y = nI m) (hm : m < 2 ^ 31) (h : y ≤ z) : m ≤ k := by
  rw [Int32.le_iff_toInt_le, hz, hy, nI_toInt hk, nI_toInt hm] at h
  omega
theorem qi_cl {z : Int32} {k : Nat} (hz : z = nI k) (hk : k < 2 ^ 31) : z.toNatClampNeg = k := by rw [hz]; exact nI_clamp hk
theorem qi_add {z : Int32} {k : Nat} (hz : z = nI k) : z + 1 = nI (k + 1) := by rw [hz]; exact nI_1 k
theorem qi_toInt {z : Int32} {k : Nat} (hz : z = nI k) (hk : k < 2 ^ 31) : z.toInt = k := by rw [hz]; exact nI_toInt hk
theorem qi_pred {x : Int32} {N : Nat} (h : qz x N) (hN : N < 2 ^ 31) (h0 : 0 < x) : vp_in (x - 1) N := by
  obtain ⟨k, hk, rfl⟩ := h
  cases k with
  | zero => exact absurd h0 (by decide)
  | succ k => rw [nI_pred]; exact vp_in_nI (by omega) hN
theorem qi_sz {x M : Int32} {N n : Nat} (h : qz x N) (hN : N < 2 ^ 31) (hM : M.toInt = n) (h1 : ¬ M ≤ x) : vp_in x n := by
  obtain ⟨k, hk, hx⟩ := h
  exact qi_in hx (qi_lt hx (by omega) hM h1) (by have := M.toInt_lt; omega)
theorem qi_nneg {x : Int32} {N : Nat} (h : qz x N) (hN : N < 2 ^ 31) : ¬ x < 0 := by
  obtain ⟨k, hk, rfl⟩ := h
  exact nI_pos (by omega)
/-- a plain index: two factors and a rest -/
theorem qi_lin {x y : Int32} {a b k m N : Nat} (hx : x = nI k) (hy : y = nI m) (h : a * k + b * m < N) (hN : N < 2 ^ 31) : vp_in (nI a * x + nI b * y) N := by
  rw [hx, hy, pk_mul, pk_mul, nI_add]; exact vp_in_nI h hN
theorem sw_out2 {x : Int32} (h0 : ¬ x = 0) (h1 : ¬ x = 1) (h2 : ¬ x = 2) : x.toInt < 0 ∨ (2 : Int) < x.toInt := by
  have e : ∀ k : Int32, x.toInt = k.toInt → x = k := fun k h => Int32.toInt_inj.mp h
  have q0 : ¬ x.toInt = 0 := fun h => h0 (e 0 h)
  have q1 : ¬ x.toInt = 1 := fun h => h1 (e 1 h)
  have q2 : ¬ x.toInt = 2 := fun h => h2 (e 2 h)
  omega
theorem sw_out3 {x : Int32} (h0 : ¬ x = 0) (h1 : ¬ x = 1) (h2 : ¬ x = 2) (h3 : ¬ x = 3) : x.toInt < 0 ∨ (3 : Int) < x.toInt := by
  have e : ∀ k : Int32, x.toInt = k.toInt → x = k := fun k h => Int32.toInt_inj.mp h
  have q0 : ¬ x.toInt = 0 := fun h => h0 (e 0 h)
  have q1 : ¬ x.toInt = 1 := fun h => h1 (e 1 h)
  have q2 : ¬ x.toInt = 2 := fun h => h2 (e 2 h)
  have q3 : ¬ x.toInt = 3 := fun h => h3 (e 3 h)
  omega
theorem sw_out6 {x : Int32} (h0 : ¬ x = 0) (h1 : ¬ x = 1) (h2 : ¬ x = 2) (h3 : ¬ x = 3) (h4 : ¬ x = 4) (h5 : ¬ x = 5) (h6 : ¬ x = 6) : x.toInt < 0 ∨ (6 : Int) < x.toInt := by
  have e : ∀ k : Int32, x.toInt = k.toInt → x = k := fun k h => Int32.toInt_inj.mp h
  have q0 : ¬ x.toInt = 0 := fun h => h0 (e 0 h)
  have q1 : ¬ x.toInt = 1 := fun h => h1 (e 1 h)
  have q2 : ¬ x.toInt = 2 := fun h => h2 (e 2 h)
  have q3 : ¬ x.toInt = 3 := fun h => h3 (e 3 h)
  have q4 : ¬ x.toInt = 4 := fun h => h4 (e 4 h)
  have q5 : ¬ x.toInt = 5 := fun h => h5 (e 5 h)
  have q6 : ¬ x.toInt = 6 := fun h => h6 (e 6 h)
  omega
theorem sw_out7 {x : Int32} (h0 : ¬ x = 0) (h1 : ¬ x = 1) (h2 : ¬ x = 2) (h3 : ¬ x = 3) (h4 : ¬ x = 4) (h5 : ¬ x = 5) (h6 : ¬ x = 6) (h7 : ¬ x = 7) : x.toInt < 0 ∨ (7 : Int) < x.toInt := by
  have e : ∀ k : Int32, x.toInt = k.toInt → x = k := fun k h => Int32.toInt_inj.mp h
  have q0 : ¬ x.toInt = 0 := fun h => h0 (e 0 h)
  have q1 : ¬ x.toInt = 1 := fun h => h1 (e 1 h)
  have q2 : ¬ x.toInt = 2 := fun h => h2 (e 2 h)
  have q3 : ¬ x.toInt = 3 := fun h => h3 (e 3 h)
  have q4 : ¬ x.toInt = 4 := fun h => h4 (e 4 h)
  have q5 : ¬ x.toInt = 5 := fun h => h5 (e 5 h)
  have q6 : ¬ x.toInt = 6 := fun h => h6 (e 6 h)
  have q7 : ¬ x.toInt = 7 := fun h => h7 (e 7 h)
  omega
theorem sw_out8 {x : Int32} (h0 : ¬ x = 0) (h1 : ¬ x = 1) (h2 : ¬ x = 2) (h3 : ¬ x = 3) (h4 : ¬ x = 4) (h5 : ¬ x = 5) (h6 : ¬ x = 6) (h7 : ¬ x = 7) (h8 : ¬ x = 8) : x.toInt < 0 ∨ (8 : Int) < x.toInt := by
  have e : ∀ k : Int32, x.toInt = k.toInt → x = k := fun k h => Int32.toInt_inj.mp h
  have q0 : ¬ x.toInt = 0 := fun h => h0 (e 0 h)
  have q1 : ¬ x.toInt = 1 := fun h => h1 (e 1 h)
  have q2 : ¬ x.toInt = 2 := fun h => h2 (e 2 h)
  have q3 : ¬ x.toInt = 3 := fun h => h3 (e 3 h)
  have q4 : ¬ x.toInt = 4 := fun h => h4 (e 4 h)
  have q5 : ¬ x.toInt = 5 := fun h => h5 (e 5 h)
  have q6 : ¬ x.toInt = 6 := fun h => h6 (e 6 h)
  have q7 : ¬ x.toInt = 7 := fun h => h7 (e 7 h)
  have q8 : ¬ x.toInt = 8 := fun h => h8 (e 8 h)
  omega
theorem sw_out20 {x : Int32} (h0 : ¬ x = 0) (h1 : ¬ x = 1) (h2 : ¬ x = 2) (h3 : ¬ x = 3) (h4 : ¬ x = 4) (h5 : ¬ x = 5) (h6 : ¬ x = 6) (h7 : ¬ x = 7) (h8 : ¬ x = 8) (h9 : ¬ x = 9) (h10 : ¬ x = 10) (h11 : ¬ x = 11) (h12 : ¬ x = 12) (h13 : ¬ x = 13) (h14 : ¬ x = 14) (h15 : ¬ x = 15) (h16 : ¬ x = 16) (h17 : ¬ x = 17) (h18 : ¬ x = 18) (h19 : ¬ x = 19) (h20 : ¬ x = 20) : x.toInt < 0 ∨ (20 : Int) < x.toInt := by
  have e : ∀ k : Int32, x.toInt = k.toInt → x = k := fun k h => Int32.toInt_inj.mp h
  have q0 : ¬ x.toInt = 0 := fun h => h0 (e 0 h)
  have q1 : ¬ x.toInt = 1 := fun h => h1 (e 1 h)
  have q2 : ¬ x.toInt = 2 := fun h => h2 (e 2 h)
  have q3 : ¬ x.toInt = 3 := fun h => h3 (e 3 h)
  have q4 : ¬ x.toInt = 4 := fun h => h4 (e 4 h)
  have q5 : ¬ x.toInt = 5 := fun h => h5 (e 5 h)
  have q6 : ¬ x.toInt = 6 := fun h => h6 (e 6 h)
  have q7 : ¬ x.toInt = 7 := fun h => h7 (e 7 h)
  have q8 : ¬ x.toInt = 8 := fun h => h8 (e 8 h)
  have q9 : ¬ x.toInt = 9 := fun h => h9 (e 9 h)
  have q10 : ¬ x.toInt = 10 := fun h => h10 (e 10 h)
  have q11 : ¬ x.toInt = 11 := fun h => h11 (e 11 h)
  have q12 : ¬ x.toInt = 12 := fun h => h12 (e 12 h)
  have q13 : ¬ x.toInt = 13 := fun h => h13 (e 13 h)
  have q14 : ¬ x.toInt = 14 := fun h => h14 (e 14 h)
  have q15 : ¬ x.toInt = 15 := fun h => h15 (e 15 h)
  have q16 : ¬ x.toInt = 16 := fun h => h16 (e 16 h)
  have q17 : ¬ x.toInt = 17 := fun h => h17 (e 17 h)
  have q18 : ¬ x.toInt = 18 := fun h => h18 (e 18 h)
  have q19 : ¬ x.toInt = 19 := fun h => h19 (e 19 h)
  have q20 : ¬ x.toInt = 20 := fun h => h20 (e 20 h)
  omega
theorem qi_m4 {x y : Int32} {k m N : Nat} (hx : x = nI k) (hy : y = nI m) (h : k * 4 + m < N) (hN : N < 2 ^ 31) : vp_in (x * 4 + y) N := by
  rw [hx, hy, show (4 : Int32) = nI 4 from rfl, pk_mul, nI_add]; exact vp_in_nI h hN
theorem qi_pos1 {z : Int32} {k : Nat} (hz : z = nI k) (hk : k < 2 ^ 31) (h : ¬ z ≤ 0) : 0 < k := by
  rcases Nat.eq_zero_or_pos k with q | q
  · subst q; exact absurd (by rw [hz]; exact Int32.le_refl _) h
  · exact q
theorem qi_dec {z : Int32} {k : Nat} (hz : z = nI k) (h : 0 < k) : z + (-1) = nI (k - 1) := by rw [hz]; exact sb_m1 h
theorem qi_ne0 {x : Int32} (h : ¬ x ≤ 0) : ¬ x = 0 := fun e => h (by rw [e]; exact Int32.le_refl _)
theorem qi_4m {x y : Int32} {k m N : Nat} (hx : x = nI k) (hy : y = nI m) (h : 4 * k + m < N) (hN : N < 2 ^ 31) : vp_in (4 * x + y) N := by
  rw [hx, hy, show (4 : Int32) = nI 4 from rfl, pk_mul, nI_add]; exact vp_in_nI h hN
theorem qi_4c {x y : Int32} {k m N : Nat} (hx : x = nI k) (hy : y = nI m) (h : 4 * k + m < N) (hN : N < 2 ^ 31) : vp_in (4 * x + y) N := qi_4m hx hy h hN
theorem qi_40 {x : Int32} {k N : Nat} (hx : x = nI k) (h : 4 * k < N) (hN : N < 2 ^ 31) : vp_in (4 * x) N := by
  rw [hx, show (4 : Int32) = nI 4 from rfl, pk_mul]; exact vp_in_nI h hN
theorem qi_6m {x y : Int32} {a b N : Nat} (hx : vp_in x a) (hy : vp_in y b) (h : 6 * (a - 1) + b ≤ N) (hN : N < 2 ^ 31) : vp_in (6 * x + y) N := by
  by_cases h9 : a < 2 ^ 31 ∧ b < 2 ^ 31
  · obtain ⟨k, hk, rfl⟩ := vp_in_of hx h9.1
    obtain ⟨m, hm, rfl⟩ := vp_in_of hy h9.2
    rw [show (6 : Int32) = nI 6 from rfl, pk_mul, nI_add]; exact vp_in_nI (by omega) hN
  · omega
theorem qb0 {c : Prop} [Decidable c] (h : (if c then (1 : Int32) else 0) = 0) : ¬ c := fun q => by rw [if_pos q] at h; exact absurd h (by decide)
theorem qb0' {c : Prop} [Decidable c] (h : (if c then (0 : Int32) else 1) = 0) : c := Decidable.byContradiction fun q => by rw [if_neg q] at h; exact absurd h (by decide)
theorem qi_tadd {x : Int32} (h0 : -1000000 ≤ x.toInt) (h1 : x.toInt ≤ 1000000) : (x + 1).toInt = x.toInt + 1 := by
  rw [Int32.toInt_add, show (1 : Int32).toInt = 1 from rfl]
  rw [Int.bmod_def]
  split <;> omega
theorem qi_tsub {x : Int32} (h0 : -1000000 ≤ x.toInt) (h1 : x.toInt ≤ 1000000) : (x + (-1)).toInt = x.toInt - 1 := by
  rw [Int32.toInt_add, show (-1 : Int32).toInt = -1 from rfl]
  rw [Int.bmod_def]
  split <;> omega
theorem qn_bool {v : Int32} (h : v = 0 ∨ v = 1) : narrow .boolean (.int v) = .int v := by rcases h with rfl | rfl <;> rfl
theorem qi_ne60 {z : Int32} {k : Nat} (hz : z = nI k) (hk : k ≤ 60) (h : ¬ z = 60) : k < 60 := by
  rcases Nat.lt_or_ge k 60 with q | q
  · exact q
  · have : k = 60 := by omega
    subst this; exact absurd hz h
theorem qi_ne20 {z : Int32} {k : Nat} (hz : z = nI k) (hk : k ≤ 20) (h : ¬ z = 20) : k < 20 := by
  rcases Nat.lt_or_ge k 20 with q | q
  · exact q
  · have : k = 20 := by omega
    subst this; exact absurd hz h
theorem qi_ne8 {z : Int32} {k : Nat} (hz : z = nI k) (hk : k ≤ 8) (h : ¬ z = 8) : k < 8 := by
  rcases Nat.lt_or_ge k 8 with q | q
  · exact q
  · have : k = 8 := by omega
    subst this; exact absurd hz h
