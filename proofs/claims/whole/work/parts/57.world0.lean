/-! THE WORLD AT THE START (written by program) -/
def S0 : qw_St := fun k => if k = 0 then fun j => if j = 8 then 1 else if j = 10 then -1 else 0 else if k = 1 then fun j => if j = 3 then -1 else 0 else if k = 8 then rdg 10 else if k = 143 then fun j => if j = 23 then -1 else if j = 39 then 1 else 0 else if k = 148 then rdg 10 else fun _ => 0
theorem S0_z {k : Nat} (h : k ≠ 0 ∧ k ≠ 1 ∧ k ≠ 8 ∧ k ≠ 143 ∧ k ≠ 148) : S0 k = fun _ => 0 := by
  unfold S0
  rw [if_neg h.1, if_neg h.2.1, if_neg h.2.2.1, if_neg h.2.2.2.1, if_neg h.2.2.2.2]
theorem rdg_lit : upd (upd (upd (upd (upd (upd (upd (upd (upd (upd (fun _ => 0) 0 1) 1 2) 2 4) 3 8) 4 16) 5 32) 6 64) 7 128) 8 256) 9 512 = rdg 10 := by
  funext j
  by_cases h : j < 10
  · have hj : j = 0 ∨ j = 1 ∨ j = 2 ∨ j = 3 ∨ j = 4 ∨ j = 5 ∨ j = 6 ∨ j = 7 ∨ j = 8 ∨ j = 9 := by omega
    rcases hj with rfl | rfl | rfl | rfl | rfl | rfl | rfl | rfl | rfl | rfl <;> decide +kernel
  · simp [upd, rdg, h, show ¬ j = 0 by omega, show ¬ j = 1 by omega, show ¬ j = 2 by omega, show ¬ j = 3 by omega, show ¬ j = 4 by omega, show ¬ j = 5 by omega, show ¬ j = 6 by omega, show ¬ j = 7 by omega, show ¬ j = 8 by omega, show ¬ j = 9 by omega]
theorem RA_0 : RA S0 S0 := by
  have z : ∀ k j, k ≠ 0 ∧ k ≠ 1 ∧ k ≠ 8 ∧ k ≠ 143 ∧ k ≠ 148 → S0 k j = 0 := fun k j h => by rw [S0_z h]
  have q0 : ∀ {x : Int32} {N : Nat}, x = 0 → qz x N := fun h => ⟨0, Nat.zero_le _, h⟩
  have c14 : (S0 143 14).toNatClampNeg = 0 := by decide +kernel
  have c17 : (S0 143 17).toNatClampNeg = 0 := by decide +kernel
  have v0 : ∀ {x : Int32} {N : Nat}, x = 0 → 0 < N → vp_in x N := fun h hN => by rw [h, vp_in_iff]; exact ⟨by decide, by show (0 : Int) < _; omega⟩
  refine ⟨⟨rfl, rfl, rfl, rfl, rfl, rfl⟩, ⟨rfl, rfl, rfl⟩, ⟨rfl, fun t ht => ?_, fun t i q ht hi hq => ?_⟩, ⟨rfl, fun d i hd => ?_⟩, ⟨rfl, rfl, rfl, rfl, rfl, rfl, rfl, ?_⟩, ⟨q0 rfl, fun j _ => Or.inr (v0 (z _ _ (by decide)) (by decide)), fun j => Or.inr (by rw [z _ _ (by decide)]; decide)⟩, ⟨q0 rfl, fun k hk => ?_, fun k _ => Or.inr (v0 (z _ _ (by decide)) (by decide))⟩, ⟨q0 rfl, fun d i hd => ?_⟩, ⟨q0 rfl, fun t _ => q0 (z _ _ (by decide)), fun j _ => q0 (z _ _ (by decide))⟩, fun t i _ _ _ => ⟨z _ _ (by decide), z _ _ (by decide)⟩, q0 rfl, q0 rfl, ?_, Or.inl rfl, fun j => by rw [z _ _ (by decide)]; decide⟩
  · rw [z _ _ (by omega), z _ _ (by omega)]
  · rw [z _ _ (by omega), z _ _ (by omega)]
  · rw [c14] at hd; omega
  · decide +kernel
  · rw [c17] at hk; omega
  · rw [c14] at hd; omega
  · rw [c14, c17]; omega

def postK (b : Nat) (c : Nat → ClassId) (u : Nat → va_E) : Prop := (u 0 = .inr (6, [.ref (b + 1), .ref (b + 3), .ref (b + 10), .ref (b + 11), .ref (b + 14), .ref (b + 15), .int 0, .int 0, .int 1, .int 0, .int (-1)]) ∧ u 1 = .inr (3, [.ref (b + 2), .int 0, .int 0, .int (-1)]) ∧ u 2 = .inl (c 1, 400, .inl fun _ => 0) ∧ u 3 = .inr (2, [.ref (b + 4), .ref (b + 5), .ref (b + 6), .ref (b + 7), .ref (b + 8), .ref (b + 9), .int 0, .int 0, .int 0]) ∧ u 4 = .inl (c 0, 60, .inl fun _ => 0) ∧ u 5 = .inl (c 0, 240, .inl fun _ => 0) ∧ u 6 = .inl (c 0, 60, .inl fun _ => 0) ∧ u 7 = .inl (c 0, 60, .inl fun _ => 0) ∧ u 8 = .inl (c 0, 10, .inl (rdg 10)) ∧ u 9 = .inl (c 0, 4, .inl fun _ => 0) ∧ u 11 = .inr (1, [.ref (b + 12), .ref (b + 13), .int 0]) ∧ u 12 = .inl (c 0, 40, .inl fun _ => 0) ∧ u 13 = .inl (c 0, 40, .inl fun _ => 0) ∧ u 15 = .inl (c 0, 6, .inl fun _ => 0)) ∧ u 10 = .inl (c 2, 21, .inr (.inr (.inr (.inr (drf b 21))))) ∧ (∀ j, j < 21 → u (16 + 3 * j) = .inr (0, [.ref (b + (16 + 3 * j + 1)), .ref (b + (16 + 3 * j + 2)), .int 0, .int 0, .int 0]) ∧ u (16 + 3 * j + 1) = .inl (c 0, 6, .inl fun _ => 0) ∧ u (16 + 3 * j + 2) = .inl (c 0, 6, .inl fun _ => 0)) ∧ u 14 = .inl (c 3, 8, .inr (.inr (.inr (.inr (trf b 8))))) ∧ ∀ j, j < 8 → u (79 + 8 * j) = .inr (4, [.ref (b + (79 + 8 * j + 1)), .int 0]) ∧ u (79 + 8 * j + 1) = .inl (c 4, 6, .inr (.inr (.inr (.inr (wrf b (79 + 8 * j + 2) 6))))) ∧ ∀ i, i < 6 → u (79 + 8 * j + 2 + i) = .inr (5, [.int 0, .int 0, .int 0, .int 0, .int 0, .int 0, .int 0, .int 0, .int 0, .int 0, .int 0])
def postN (b : Nat) (c : Nat → ClassId) (u : Nat → va_E) : Prop := u (143) = .inr (7, [.int 0, .int 0, .ref (b + 144), .ref (b + 145), .ref (b + 146), .ref (b + 147), .int 0, .int 0, .ref (b + 148), .ref (b + 149), .ref (b + 150), .ref (b + 151), .ref (b + 152), .ref (b + 153), .int 0, .ref (b + 154), .ref (b + 155), .int 0, .ref (b + 156), .int 0, .int 0, .int 0, .int 0, .int (-1), .ref (b + 157), .ref (b + 158), .int 0, .ref (b + 159), .ref (b + 160), .ref (b + 161), .ref (b + 162), .ref (b + 163), .ref (b + 164), .ref (b + 165), .ref (b + 166), .ref (b + 167), .ref (b + 168), .ref (b + 169), .ref (b + 170), .int 1]) ∧ u (144) = .inl (c 0, 60, .inl fun _ => 0) ∧ u (145) = .inl (c 0, 240, .inl fun _ => 0) ∧ u (146) = .inl (c 0, 60, .inl fun _ => 0) ∧ u (147) = .inl (c 0, 60, .inl fun _ => 0) ∧ u (148) = .inl (c 0, 10, .inl (upd (upd (upd (upd (upd (upd (upd (upd (upd (upd (fun _ => 0) 0 1) 1 2) 2 4) 3 8) 4 16) 5 32) 6 64) 7 128) 8 256) 9 512)) ∧ u (149) = .inl (c 0, 126, .inl fun _ => 0) ∧ u (150) = .inl (c 0, 126, .inl fun _ => 0) ∧ u (151) = .inl (c 0, 21, .inl fun _ => 0) ∧ u (152) = .inl (c 0, 21, .inl fun _ => 0) ∧ u (153) = .inl (c 0, 21, .inl fun _ => 0) ∧ u (154) = .inl (c 0, 40, .inl fun _ => 0) ∧ u (155) = .inl (c 0, 40, .inl fun _ => 0) ∧ u (156) = .inl (c 1, 400, .inl fun _ => 0) ∧ u (157) = .inl (c 0, 5, .inl fun _ => 0) ∧ u (158) = .inl (c 0, 8, .inl fun _ => 0) ∧ u (159) = .inl (c 0, 48, .inl fun _ => 0) ∧ u (160) = .inl (c 0, 48, .inl fun _ => 0) ∧ u (161) = .inl (c 0, 48, .inl fun _ => 0) ∧ u (162) = .inl (c 0, 48, .inl fun _ => 0) ∧ u (163) = .inl (c 0, 48, .inl fun _ => 0) ∧ u (164) = .inl (c 0, 48, .inl fun _ => 0) ∧ u (165) = .inl (c 0, 48, .inl fun _ => 0) ∧ u (166) = .inl (c 0, 48, .inl fun _ => 0) ∧ u (167) = .inl (c 0, 48, .inl fun _ => 0) ∧ u (168) = .inl (c 0, 48, .inl fun _ => 0) ∧ u (169) = .inl (c 0, 48, .inl fun _ => 0) ∧ u (170) = .inl (c 0, 6, .inl fun _ => 0)
/-- alike, as far as the heap tells -/
def es (e e' : va_E) : Prop := e = e' ∨ ∃ (cA : ClassId) (N : Nat) (f f' : Nat → Option Nat), e = .inl (cA, N, .inr (.inr (.inr (.inr f)))) ∧ e' = .inl (cA, N, .inr (.inr (.inr (.inr f')))) ∧ ∀ j, j < N → f j = f' j
theorem ws_P {D : va_G} {b : Nat} {c : Nat → ClassId} {cf : Nat → va_E} {H : Heap} (hP : va_P D vwCl (PW b 172 cf) H) (hcf : ∀ k, k < 172 → es (cf k) (qw_cell (fun j => b + j) c (fun _ => 0) k (S0 k))) : qw_P D (fun j => b + j) c (fun _ => 0) S0 H := by
  intro k q hq
  have hk : k < 172 := by
    have := (List.getElem?_eq_some_iff.mp hq).1
    simpa [qw_WD] using this
  have eq : (b + k, qw_cell (fun j => b + j) c (fun _ => 0) k (S0 k)) = q := Option.some.inj ((qw_at (r := fun j => b + j) hk rfl).symm.trans hq)
  rw [← eq]
  have h := hP k (b + k, cf k) (PW_at hk rfl)
  rcases hcf k hk with e | ⟨cA, N, f, f', e1, e2, e3⟩
  · rw [e] at h; exact h
  · rw [e1] at h
    rw [e2]
    have h : H[b + k]? = some (arrV cA N (fun j => va_rf (f j))) := h
    show H[b + k]? = some (arrV cA N (fun j => va_rf (f' j)))
    rw [h]
    unfold arrV
    congr 2
    congr 1
    funext j
    show va_rf (f j.1) = va_rf (f' j.1)
    rw [e3 j.1 j.2]

set_option maxHeartbeats 2000000 in
theorem ws_C {b : Nat} {c : Nat → ClassId} {g : Nat → Int64} {u : Nat → va_E} (h : postK b c u) : ∀ k, k < 143 → es (u k) (qw_cell (fun j => b + j) c g k (S0 k)) := by
  obtain ⟨⟨h0, h1, h2, h3, h4, h5, h6, h7, h8, h9, h11, h12, h13, h15⟩, h10, hd, h14, ht⟩ := h
  intro k hk
  by_cases k16 : k < 16
  · have hj : k = 0 ∨ k = 1 ∨ k = 2 ∨ k = 3 ∨ k = 4 ∨ k = 5 ∨ k = 6 ∨ k = 7 ∨ k = 8 ∨ k = 9 ∨ k = 10 ∨ k = 11 ∨ k = 12 ∨ k = 13 ∨ k = 14 ∨ k = 15 := by omega
    rcases hj with rfl | rfl | rfl | rfl | rfl | rfl | rfl | rfl | rfl | rfl | rfl | rfl | rfl | rfl | rfl | rfl
    · exact Or.inl (h0.trans (qc_0 (r := fun j => b + j) (S0 0)).symm)
    · exact Or.inl (h1.trans (qc_1 (r := fun j => b + j) (S0 1)).symm)
    · exact Or.inl (h2.trans (qc_2 (r := fun j => b + j) (S0 2)).symm)
    · exact Or.inl (h3.trans (qc_3 (r := fun j => b + j) (S0 3)).symm)
    · exact Or.inl (h4.trans (qc_4 (r := fun j => b + j) (S0 4)).symm)
    · exact Or.inl (h5.trans (qc_5 (r := fun j => b + j) (S0 5)).symm)
    · exact Or.inl (h6.trans (qc_6 (r := fun j => b + j) (S0 6)).symm)
    · exact Or.inl (h7.trans (qc_7 (r := fun j => b + j) (S0 7)).symm)
    · exact Or.inl (h8.trans (qc_8 (r := fun j => b + j) (S0 8)).symm)
    · exact Or.inl (h9.trans (qc_9 (r := fun j => b + j) (S0 9)).symm)
    · exact Or.inr ⟨_, _, _, _, h10, qc_10 _, fun j hj => by unfold drf; rw [if_pos hj]⟩
    · exact Or.inl (h11.trans (qc_11 (r := fun j => b + j) (S0 11)).symm)
    · exact Or.inl (h12.trans (qc_12 (r := fun j => b + j) (S0 12)).symm)
    · exact Or.inl (h13.trans (qc_13 (r := fun j => b + j) (S0 13)).symm)
    · exact Or.inr ⟨_, _, _, _, h14, qc_14 _, fun j hj => by unfold trf; rw [if_pos hj]⟩
    · exact Or.inl (h15.trans (qc_15 (r := fun j => b + j) (S0 15)).symm)
  · by_cases k79 : k < 79
    · obtain ⟨j, i, hj, hi, rfl⟩ : ∃ j i, j < 21 ∧ i < 3 ∧ k = 16 + 3 * j + i := ⟨(k - 16) / 3, (k - 16) % 3, by omega, by omega, by omega⟩
      obtain ⟨d0, d1, d2⟩ := hd j hj
      rw [S0_z (by omega)]
      have hi3 : i = 0 ∨ i = 1 ∨ i = 2 := by omega
      rcases hi3 with rfl | rfl | rfl
      · refine Or.inl (d0.trans ?_)
        show _ = qw_cell _ _ _ (16 + 3 * j) _
        rw [qc_dec hj, show 17 + 3 * j = 16 + 3 * j + 1 by omega, show 18 + 3 * j = 16 + 3 * j + 2 by omega]
      · refine Or.inl (d1.trans ?_)
        rw [show 16 + 3 * j + 1 = 17 + 3 * j by omega, qc_caps hj]
      · refine Or.inl (d2.trans ?_)
        rw [show 16 + 3 * j + 2 = 18 + 3 * j by omega, qc_lines hj]
    · obtain ⟨t, i, ht8, hi, rfl⟩ : ∃ t i, t < 8 ∧ i < 8 ∧ k = 79 + 8 * t + i := ⟨(k - 79) / 8, (k - 79) % 8, by omega, by omega, by omega⟩
      obtain ⟨t0, t1, t2⟩ := ht t ht8
      by_cases i0 : i = 0
      · subst i0
        rw [S0_z (by omega)]
        refine Or.inl (t0.trans ?_)
        show _ = qw_cell _ _ _ (79 + 8 * t) _
        rw [qc_town ht8, show 80 + 8 * t = 79 + 8 * t + 1 by omega]
      by_cases i1 : i = 1
      · subst i1
        refine Or.inr ⟨_, _, _, _, t1, by rw [show 79 + 8 * t + 1 = 80 + 8 * t by omega]; exact qc_warr ht8 _, fun j hj => ?_⟩
        unfold wrf
        rw [if_pos hj]
        show some _ = some _
        congr 1
        show b + _ = b + _
        omega
      · obtain ⟨i, rfl⟩ : ∃ i', i = i' + 2 := ⟨i - 2, by omega⟩
        rw [S0_z (by omega)]
        refine Or.inl (?_ : _ = _)
        rw [show 79 + 8 * t + (i + 2) = 79 + 8 * t + 2 + i by omega]
        refine (t2 i (by omega)).trans ?_
        rw [show 79 + 8 * t + 2 + i = 81 + 8 * t + i by omega, qc_wares ht8 (by omega)]
set_option maxHeartbeats 2000000 in
theorem ws_M {b : Nat} {c : Nat → ClassId} {g : Nat → Int64} {u : Nat → va_E} (h : postN b c u) : ∀ k, 143 ≤ k → k < 171 → es (u k) (qw_cell (fun j => b + j) c g k (S0 k)) := by
  obtain ⟨h143, h144, h145, h146, h147, h148, h149, h150, h151, h152, h153, h154, h155, h156, h157, h158, h159, h160, h161, h162, h163, h164, h165, h166, h167, h168, h169, h170⟩ := h
  intro k hk hk2
  have hj : k = 143 ∨ k = 144 ∨ k = 145 ∨ k = 146 ∨ k = 147 ∨ k = 148 ∨ k = 149 ∨ k = 150 ∨ k = 151 ∨ k = 152 ∨ k = 153 ∨ k = 154 ∨ k = 155 ∨ k = 156 ∨ k = 157 ∨ k = 158 ∨ k = 159 ∨ k = 160 ∨ k = 161 ∨ k = 162 ∨ k = 163 ∨ k = 164 ∨ k = 165 ∨ k = 166 ∨ k = 167 ∨ k = 168 ∨ k = 169 ∨ k = 170 := by omega
  rcases hj with rfl | rfl | rfl | rfl | rfl | rfl | rfl | rfl | rfl | rfl | rfl | rfl | rfl | rfl | rfl | rfl | rfl | rfl | rfl | rfl | rfl | rfl | rfl | rfl | rfl | rfl | rfl | rfl
  · exact Or.inl (h143.trans (qc_143 (r := fun j => b + j) (S0 143)).symm)
  · exact Or.inl (h144.trans (qc_144 (r := fun j => b + j) (S0 144)).symm)
  · exact Or.inl (h145.trans (qc_145 (r := fun j => b + j) (S0 145)).symm)
  · exact Or.inl (h146.trans (qc_146 (r := fun j => b + j) (S0 146)).symm)
  · exact Or.inl (h147.trans (qc_147 (r := fun j => b + j) (S0 147)).symm)
  · exact Or.inl (by rw [h148, rdg_lit]; exact (qc_148 _).symm)
  · exact Or.inl (h149.trans (qc_149 (r := fun j => b + j) (S0 149)).symm)
  · exact Or.inl (h150.trans (qc_150 (r := fun j => b + j) (S0 150)).symm)
  · exact Or.inl (h151.trans (qc_151 (r := fun j => b + j) (S0 151)).symm)
  · exact Or.inl (h152.trans (qc_152 (r := fun j => b + j) (S0 152)).symm)
  · exact Or.inl (h153.trans (qc_153 (r := fun j => b + j) (S0 153)).symm)
  · exact Or.inl (h154.trans (qc_154 (r := fun j => b + j) (S0 154)).symm)
  · exact Or.inl (h155.trans (qc_155 (r := fun j => b + j) (S0 155)).symm)
  · exact Or.inl (h156.trans (qc_156 (r := fun j => b + j) (S0 156)).symm)
  · exact Or.inl (h157.trans (qc_157 (r := fun j => b + j) (S0 157)).symm)
  · exact Or.inl (h158.trans (qc_158 (r := fun j => b + j) (S0 158)).symm)
  · exact Or.inl (h159.trans (qc_159 (r := fun j => b + j) (S0 159)).symm)
  · exact Or.inl (h160.trans (qc_160 (r := fun j => b + j) (S0 160)).symm)
  · exact Or.inl (h161.trans (qc_161 (r := fun j => b + j) (S0 161)).symm)
  · exact Or.inl (h162.trans (qc_162 (r := fun j => b + j) (S0 162)).symm)
  · exact Or.inl (h163.trans (qc_163 (r := fun j => b + j) (S0 163)).symm)
  · exact Or.inl (h164.trans (qc_164 (r := fun j => b + j) (S0 164)).symm)
  · exact Or.inl (h165.trans (qc_165 (r := fun j => b + j) (S0 165)).symm)
  · exact Or.inl (h166.trans (qc_166 (r := fun j => b + j) (S0 166)).symm)
  · exact Or.inl (h167.trans (qc_167 (r := fun j => b + j) (S0 167)).symm)
  · exact Or.inl (h168.trans (qc_168 (r := fun j => b + j) (S0 168)).symm)
  · exact Or.inl (h169.trans (qc_169 (r := fun j => b + j) (S0 169)).symm)
  · exact Or.inl (h170.trans (qc_170 (r := fun j => b + j) (S0 170)).symm)
