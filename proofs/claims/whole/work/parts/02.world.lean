/-! THE WORLD: 172 cells, numbered in the order in which they are made; r: the address of each, c: the array classes, g: the law's long row. Cells 0 to 142 are the class's, 143 to 170 the reference's, 171 the law's row. -/
def qw_len (k : Nat) : Nat := if k = 144 then 60 else if k = 145 then 240 else if k = 146 then 60 else if k = 147 then 60 else if k = 148 then 10 else if k = 149 then 126 else if k = 150 then 126 else if k < 154 then 21 else if k < 156 then 40 else if k = 156 then 400 else if k = 157 then 5 else if k = 158 then 8 else if k < 170 then 48 else 6
def qw_cell (r : Nat → Nat) (c : Nat → ClassId) (g : Nat → Int64) (k : Nat) (f : Nat → Int32) : va_E :=
  if k = 0 then .inr (6, [.ref (r 1), .ref (r 3), .ref (r 10), .ref (r 11), .ref (r 14), .ref (r 15), .int (f 6), .int (f 7), .int (f 8), .int (f 9), .int (f 10)])
  else if k = 1 then .inr (3, [.ref (r 2), .int (f 1), .int (f 2), .int (f 3)])
  else if k = 2 then .inl (c 1, 400, .inl f)
  else if k = 3 then .inr (2, [.ref (r 4), .ref (r 5), .ref (r 6), .ref (r 7), .ref (r 8), .ref (r 9), .int (f 6), .int (f 7), .int (f 8)])
  else if k < 10 then .inl (c 0, (if k = 5 then 240 else if k = 8 then 10 else if k = 9 then 4 else 60), .inl f)
  else if k = 10 then .inl (c 2, 21, .inr (.inr (.inr (.inr (fun j => some (r (16 + 3 * j)))))))
  else if k = 11 then .inr (1, [.ref (r 12), .ref (r 13), .int (f 2)])
  else if k < 14 then .inl (c 0, 40, .inl f)
  else if k = 14 then .inl (c 3, 8, .inr (.inr (.inr (.inr (fun j => some (r (79 + 8 * j)))))))
  else if k = 15 then .inl (c 0, 6, .inl f)
  else if k < 79 then (if (k - 16) % 3 = 0 then .inr (0, [.ref (r (k + 1)), .ref (r (k + 2)), .int (f 2), .int (f 3), .int (f 4)]) else .inl (c 0, 6, .inl f))
  else if k < 143 then (if (k - 79) % 8 = 0 then .inr (4, [.ref (r (k + 1)), .int (f 1)]) else if (k - 79) % 8 = 1 then .inl (c 4, 6, .inr (.inr (.inr (.inr (fun j => some (r (k + 1 + j))))))) else .inr (5, [.int (f 0), .int (f 1), .int (f 2), .int (f 3), .int (f 4), .int (f 5), .int (f 6), .int (f 7), .int (f 8), .int (f 9), .int (f 10)]))
  else if k = 143 then .inr (7, [.int (f 0), .int (f 1), .ref (r 144), .ref (r 145), .ref (r 146), .ref (r 147), .int (f 6), .int (f 7), .ref (r 148), .ref (r 149), .ref (r 150), .ref (r 151), .ref (r 152), .ref (r 153), .int (f 14), .ref (r 154), .ref (r 155), .int (f 17), .ref (r 156), .int (f 19), .int (f 20), .int (f 21), .int (f 22), .int (f 23), .ref (r 157), .ref (r 158), .int (f 26), .ref (r 159), .ref (r 160), .ref (r 161), .ref (r 162), .ref (r 163), .ref (r 164), .ref (r 165), .ref (r 166), .ref (r 167), .ref (r 168), .ref (r 169), .ref (r 170), .int (f 39)])
  else if k < 171 then .inl ((if k = 156 then c 1 else c 0), qw_len k, .inl f)
  else .inl (c 5, 1, .inr (.inl g))
abbrev qw_St : Type := Nat → Nat → Int32
def qw_WD (r : Nat → Nat) (c : Nat → ClassId) (g : Nat → Int64) (S : qw_St) : va_W := (List.range 172).map (fun k => (r k, qw_cell r c g k (S k)))
abbrev qw_ty (c : Nat → ClassId) : List (ClassId × FieldType) := [(c 0, .int), (c 1, .byte), (c 2, .object "PriceEdict$Decree"), (c 3, .object "PriceEdict$Town"), (c 4, .object "PriceEdict$Wares"), (c 5, .long)]
def qw_A (r : Nat → Nat) : Nat → Prop := fun q => ∃ k, k < 172 ∧ q = r k
def qw_inj (r : Nat → Nat) : Prop := ∀ i j, i < 172 → j < 172 → r i = r j → i = j
def up2 (S : qw_St) (k j : Nat) (v : Int32) : qw_St := va_up S k (upd (S k) j v)
theorem up2_at (S : qw_St) (k j : Nat) (v : Int32) (a b : Nat) : up2 S k j v a b = if a = k ∧ b = j then v else S a b := by
  unfold up2 va_up upd
  by_cases h : a = k
  · subst h; simp
  · simp [h]
theorem up2_same (S : qw_St) (k j : Nat) (v : Int32) : up2 S k j v k j = v := by simp [up2_at]
theorem up2_ne (S : qw_St) {k j : Nat} (v : Int32) {a b : Nat} (h : a ≠ k ∨ b ≠ j) : up2 S k j v a b = S a b := by
  rw [up2_at, if_neg]
  rintro ⟨h1, h2⟩
  rcases h with h | h
  · exact h h1
  · exact h h2
section QW
variable {r : Nat → Nat} {c : Nat → ClassId} {g : Nat → Int64} {S : qw_St}
theorem qw_at {k : Nat} {e : va_E} (hk : k < 172) (h : qw_cell r c g k (S k) = e) : (qw_WD r c g S)[k]? = some (r k, e) := by
  subst h
  simp [qw_WD, hk]
theorem qw_set {k : Nat} {e : va_E} {f : Nat → Int32} (h : qw_cell r c g k f = e) : (qw_WD r c g S).set k (r k, e) = qw_WD r c g (va_up S k f) := by
  subst h
  apply List.ext_getElem?
  intro i
  by_cases hi : i = k
  · subst hi
    by_cases hb : i < 172
    · simp [qw_WD, hb, va_up]
    · simp [qw_WD, hb]
  · rw [List.getElem?_set_ne (fun h => hi h.symm)]
    by_cases hb : i < 172
    · simp [qw_WD, va_up, hi, hb]
    · simp [qw_WD, hb]
theorem qw_D (hr : qw_inj r) : va_D (qw_A r) (qw_WD r c g S) := by
  refine ⟨fun i j p q hp hq e => ?_, fun k q hk => ?_⟩
  · simp only [qw_WD, List.getElem?_map] at hp hq
    by_cases hi : i < 172
    · by_cases hj : j < 172
      · simp [hi] at hp
        simp [hj] at hq
        subst hp; subst hq
        exact hr i j hi hj e
      · simp [hj] at hq
    · simp [hi] at hp
  · simp only [qw_WD, List.getElem?_map] at hk
    by_cases hi : k < 172
    · simp [hi] at hk
      subst hk
      exact ⟨k, hi, rfl⟩
    · simp [hi] at hk
-- what each cell is
theorem qc_0 (f : Nat → Int32) : qw_cell r c g 0 f = .inr (6, [.ref (r 1), .ref (r 3), .ref (r 10), .ref (r 11), .ref (r 14), .ref (r 15), .int (f 6), .int (f 7), .int (f 8), .int (f 9), .int (f 10)]) := rfl
theorem qc_1 (f : Nat → Int32) : qw_cell r c g 1 f = .inr (3, [.ref (r 2), .int (f 1), .int (f 2), .int (f 3)]) := rfl
theorem qc_2 (f : Nat → Int32) : qw_cell r c g 2 f = .inl (c 1, 400, .inl f) := rfl
theorem qc_3 (f : Nat → Int32) : qw_cell r c g 3 f = .inr (2, [.ref (r 4), .ref (r 5), .ref (r 6), .ref (r 7), .ref (r 8), .ref (r 9), .int (f 6), .int (f 7), .int (f 8)]) := rfl
theorem qc_4 (f : Nat → Int32) : qw_cell r c g 4 f = .inl (c 0, 60, .inl f) := rfl
theorem qc_5 (f : Nat → Int32) : qw_cell r c g 5 f = .inl (c 0, 240, .inl f) := rfl
theorem qc_6 (f : Nat → Int32) : qw_cell r c g 6 f = .inl (c 0, 60, .inl f) := rfl
theorem qc_7 (f : Nat → Int32) : qw_cell r c g 7 f = .inl (c 0, 60, .inl f) := rfl
theorem qc_8 (f : Nat → Int32) : qw_cell r c g 8 f = .inl (c 0, 10, .inl f) := rfl
theorem qc_9 (f : Nat → Int32) : qw_cell r c g 9 f = .inl (c 0, 4, .inl f) := rfl
theorem qc_10 (f : Nat → Int32) : qw_cell r c g 10 f = .inl (c 2, 21, .inr (.inr (.inr (.inr (fun j => some (r (16 + 3 * j))))))) := rfl
theorem qc_11 (f : Nat → Int32) : qw_cell r c g 11 f = .inr (1, [.ref (r 12), .ref (r 13), .int (f 2)]) := rfl
theorem qc_12 (f : Nat → Int32) : qw_cell r c g 12 f = .inl (c 0, 40, .inl f) := rfl
theorem qc_13 (f : Nat → Int32) : qw_cell r c g 13 f = .inl (c 0, 40, .inl f) := rfl
theorem qc_14 (f : Nat → Int32) : qw_cell r c g 14 f = .inl (c 3, 8, .inr (.inr (.inr (.inr (fun j => some (r (79 + 8 * j))))))) := rfl
theorem qc_15 (f : Nat → Int32) : qw_cell r c g 15 f = .inl (c 0, 6, .inl f) := rfl
theorem qc_dec {i : Nat} (hi : i < 21) (f : Nat → Int32) : qw_cell r c g (16 + 3 * i) f = .inr (0, [.ref (r (17 + 3 * i)), .ref (r (18 + 3 * i)), .int (f 2), .int (f 3), .int (f 4)]) := by
  unfold qw_cell
  rw [if_neg (by omega), if_neg (by omega), if_neg (by omega), if_neg (by omega), if_neg (by omega), if_neg (by omega), if_neg (by omega), if_neg (by omega), if_neg (by omega), if_neg (by omega), if_pos (by omega), if_pos (by omega), show 16 + 3 * i + 1 = 17 + 3 * i by omega, show 16 + 3 * i + 2 = 18 + 3 * i by omega]
theorem qc_caps {i : Nat} (hi : i < 21) (f : Nat → Int32) : qw_cell r c g (17 + 3 * i) f = .inl (c 0, 6, .inl f) := by
  unfold qw_cell
  rw [if_neg (by omega), if_neg (by omega), if_neg (by omega), if_neg (by omega), if_neg (by omega), if_neg (by omega), if_neg (by omega), if_neg (by omega), if_neg (by omega), if_neg (by omega), if_pos (by omega), if_neg (by omega)]
theorem qc_lines {i : Nat} (hi : i < 21) (f : Nat → Int32) : qw_cell r c g (18 + 3 * i) f = .inl (c 0, 6, .inl f) := by
  unfold qw_cell
  rw [if_neg (by omega), if_neg (by omega), if_neg (by omega), if_neg (by omega), if_neg (by omega), if_neg (by omega), if_neg (by omega), if_neg (by omega), if_neg (by omega), if_neg (by omega), if_pos (by omega), if_neg (by omega)]
theorem qc_town {t : Nat} (ht : t < 8) (f : Nat → Int32) : qw_cell r c g (79 + 8 * t) f = .inr (4, [.ref (r (80 + 8 * t)), .int (f 1)]) := by
  unfold qw_cell
  rw [if_neg (by omega), if_neg (by omega), if_neg (by omega), if_neg (by omega), if_neg (by omega), if_neg (by omega), if_neg (by omega), if_neg (by omega), if_neg (by omega), if_neg (by omega), if_neg (by omega), if_pos (by omega), if_pos (by omega), show 79 + 8 * t + 1 = 80 + 8 * t by omega]
theorem qc_warr {t : Nat} (ht : t < 8) (f : Nat → Int32) : qw_cell r c g (80 + 8 * t) f = .inl (c 4, 6, .inr (.inr (.inr (.inr (fun j => some (r (81 + 8 * t + j))))))) := by
  unfold qw_cell
  rw [if_neg (by omega), if_neg (by omega), if_neg (by omega), if_neg (by omega), if_neg (by omega), if_neg (by omega), if_neg (by omega), if_neg (by omega), if_neg (by omega), if_neg (by omega), if_neg (by omega), if_pos (by omega), if_neg (by omega), if_pos (by omega), show 80 + 8 * t + 1 = 81 + 8 * t by omega]
theorem qc_wares {t i : Nat} (ht : t < 8) (hi : i < 6) (f : Nat → Int32) : qw_cell r c g (81 + 8 * t + i) f = .inr (5, [.int (f 0), .int (f 1), .int (f 2), .int (f 3), .int (f 4), .int (f 5), .int (f 6), .int (f 7), .int (f 8), .int (f 9), .int (f 10)]) := by
  unfold qw_cell
  rw [if_neg (by omega), if_neg (by omega), if_neg (by omega), if_neg (by omega), if_neg (by omega), if_neg (by omega), if_neg (by omega), if_neg (by omega), if_neg (by omega), if_neg (by omega), if_neg (by omega), if_pos (by omega), if_neg (by omega), if_neg (by omega)]
theorem qc_143 (f : Nat → Int32) : qw_cell r c g 143 f = .inr (7, [.int (f 0), .int (f 1), .ref (r 144), .ref (r 145), .ref (r 146), .ref (r 147), .int (f 6), .int (f 7), .ref (r 148), .ref (r 149), .ref (r 150), .ref (r 151), .ref (r 152), .ref (r 153), .int (f 14), .ref (r 154), .ref (r 155), .int (f 17), .ref (r 156), .int (f 19), .int (f 20), .int (f 21), .int (f 22), .int (f 23), .ref (r 157), .ref (r 158), .int (f 26), .ref (r 159), .ref (r 160), .ref (r 161), .ref (r 162), .ref (r 163), .ref (r 164), .ref (r 165), .ref (r 166), .ref (r 167), .ref (r 168), .ref (r 169), .ref (r 170), .int (f 39)]) := rfl
theorem qc_144 (f : Nat → Int32) : qw_cell r c g 144 f = .inl (c 0, 60, .inl f) := rfl
theorem qc_145 (f : Nat → Int32) : qw_cell r c g 145 f = .inl (c 0, 240, .inl f) := rfl
theorem qc_146 (f : Nat → Int32) : qw_cell r c g 146 f = .inl (c 0, 60, .inl f) := rfl
theorem qc_147 (f : Nat → Int32) : qw_cell r c g 147 f = .inl (c 0, 60, .inl f) := rfl
theorem qc_148 (f : Nat → Int32) : qw_cell r c g 148 f = .inl (c 0, 10, .inl f) := rfl
theorem qc_149 (f : Nat → Int32) : qw_cell r c g 149 f = .inl (c 0, 126, .inl f) := rfl
theorem qc_150 (f : Nat → Int32) : qw_cell r c g 150 f = .inl (c 0, 126, .inl f) := rfl
theorem qc_151 (f : Nat → Int32) : qw_cell r c g 151 f = .inl (c 0, 21, .inl f) := rfl
theorem qc_152 (f : Nat → Int32) : qw_cell r c g 152 f = .inl (c 0, 21, .inl f) := rfl
theorem qc_153 (f : Nat → Int32) : qw_cell r c g 153 f = .inl (c 0, 21, .inl f) := rfl
theorem qc_154 (f : Nat → Int32) : qw_cell r c g 154 f = .inl (c 0, 40, .inl f) := rfl
theorem qc_155 (f : Nat → Int32) : qw_cell r c g 155 f = .inl (c 0, 40, .inl f) := rfl
theorem qc_156 (f : Nat → Int32) : qw_cell r c g 156 f = .inl (c 1, 400, .inl f) := rfl
theorem qc_157 (f : Nat → Int32) : qw_cell r c g 157 f = .inl (c 0, 5, .inl f) := rfl
theorem qc_158 (f : Nat → Int32) : qw_cell r c g 158 f = .inl (c 0, 8, .inl f) := rfl
theorem qc_159 (f : Nat → Int32) : qw_cell r c g 159 f = .inl (c 0, 48, .inl f) := rfl
theorem qc_160 (f : Nat → Int32) : qw_cell r c g 160 f = .inl (c 0, 48, .inl f) := rfl
theorem qc_161 (f : Nat → Int32) : qw_cell r c g 161 f = .inl (c 0, 48, .inl f) := rfl
theorem qc_162 (f : Nat → Int32) : qw_cell r c g 162 f = .inl (c 0, 48, .inl f) := rfl
theorem qc_163 (f : Nat → Int32) : qw_cell r c g 163 f = .inl (c 0, 48, .inl f) := rfl
theorem qc_164 (f : Nat → Int32) : qw_cell r c g 164 f = .inl (c 0, 48, .inl f) := rfl
theorem qc_165 (f : Nat → Int32) : qw_cell r c g 165 f = .inl (c 0, 48, .inl f) := rfl
theorem qc_166 (f : Nat → Int32) : qw_cell r c g 166 f = .inl (c 0, 48, .inl f) := rfl
theorem qc_167 (f : Nat → Int32) : qw_cell r c g 167 f = .inl (c 0, 48, .inl f) := rfl
theorem qc_168 (f : Nat → Int32) : qw_cell r c g 168 f = .inl (c 0, 48, .inl f) := rfl
theorem qc_169 (f : Nat → Int32) : qw_cell r c g 169 f = .inl (c 0, 48, .inl f) := rfl
theorem qc_170 (f : Nat → Int32) : qw_cell r c g 170 f = .inl (c 0, 6, .inl f) := rfl
theorem qc_171 (f : Nat → Int32) : qw_cell r c g 171 f = .inl (c 5, 1, .inr (.inl g)) := rfl
end QW
