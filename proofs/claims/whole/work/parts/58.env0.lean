/-! WHAT HOLDS AT THE START: the tables, the texts, the statics -/
def nF : List Cond := flatC (Jvm.Cond.and given_1 narrow_1)
section EN
variable {args : Array Value} {s : State}
theorem en_p {ty : FieldType} (h : (Cond.arrayClass ty).before args s = true) : ∃ cA : ClassId, ArrOfT s cA ty ∧ s.vm.findClass ("[" ++ ty.toString) = some cA := by
  obtain ⟨c, k, comp, h1, h2, h3⟩ := Cond.arrayClass_spec h
  exact ⟨c, fun n z => ⟨fun k h => (by cases h), k, h2, comp, h3⟩, h1⟩
theorem en_o {C : String} (h : (Cond.arrayOver (.object C)).before args s = true) : ∃ cA : ClassId, ArrOfT s cA (.object C) ∧ va_RA s cA (.object C) := by
  obtain ⟨comp, c, k, h1, -, h2, h3, h4⟩ := Cond.arrayOver_spec h
  exact ⟨c, fun n z => ⟨fun k h => (by cases h), k, h2, comp, h3⟩, k, comp, h2, h3, h1, h4⟩
theorem en_K (hts : ∀ w ∈ lw_tbl, w.before args s = true) : ∃ (D : va_G) (c : Nat → ClassId), qw_K D c s := by
  obtain ⟨d0, i0, k0⟩ := u_known (C := RX0) (T := TX0) (N := 5) (n := 5) hts inX0 (hts (.instantiable RX0 5) (by decide +kernel))
  obtain ⟨d1, i1, k1⟩ := u_known (C := RX1) (T := TX1) (N := 3) (n := 3) hts inX1 (hts (.instantiable RX1 3) (by decide +kernel))
  obtain ⟨d2, i2, k2⟩ := u_known (C := RX2) (T := TX2) (N := 9) (n := 9) hts inX2 (hts (.instantiable RX2 9) (by decide +kernel))
  obtain ⟨d3, i3, k3⟩ := u_known (C := RX3) (T := TX3) (N := 4) (n := 4) hts inX3 (hts (.instantiable RX3 4) (by decide +kernel))
  obtain ⟨d4, i4, k4⟩ := u_known (C := RX4) (T := TX4) (N := 2) (n := 2) hts inX4 (hts (.instantiable RX4 2) (by decide +kernel))
  obtain ⟨d5, i5, k5⟩ := u_known (C := RX5) (T := TX5) (N := 11) (n := 11) hts inX5 (hts (.instantiable RX5 11) (by decide +kernel))
  obtain ⟨d6, i6, k6⟩ := u_known (C := RX6) (T := TX6) (N := 11) (n := 11) hts inX6 (hts (.instantiable RX6 11) (by decide +kernel))
  obtain ⟨d7, i7, k7⟩ := u_known (C := RX7) (T := TX7) (N := 40) (n := 40) hts inX7 (hts (.instantiable RX7 40) (by decide +kernel))
  obtain ⟨c0, a0, b0⟩ := en_p (hts (.arrayClass .int) (by decide +kernel))
  obtain ⟨c1, a1, b1⟩ := en_p (hts (.arrayClass .byte) (by decide +kernel))
  obtain ⟨c2, a2, b2⟩ := en_o (C := "PriceEdict$Decree") (hts (.arrayOver (.object "PriceEdict$Decree")) (by decide +kernel))
  obtain ⟨c3, a3, b3⟩ := en_o (C := "PriceEdict$Town") (hts (.arrayOver (.object "PriceEdict$Town")) (by decide +kernel))
  obtain ⟨c4, a4, b4⟩ := en_o (C := "PriceEdict$Wares") (hts (.arrayOver (.object "PriceEdict$Wares")) (by decide +kernel))
  obtain ⟨c5, a5, b5⟩ := en_p (hts (.arrayClass .long) (by decide +kernel))
  refine ⟨(fun k => [d0, d1, d2, d3, d4, d5, d6, d7].getD k d0, fun k => [i0, i1, i2, i3, i4, i5, i6, i7].getD k i0), fun k => [c0, c1, c2, c3, c4, c5].getD k c0, fun k q hq => ?_, fun k q hq => ?_⟩
  · have hk : k < 8 := (List.getElem?_eq_some_iff.mp hq).1
    have hj : k = 0 ∨ k = 1 ∨ k = 2 ∨ k = 3 ∨ k = 4 ∨ k = 5 ∨ k = 6 ∨ k = 7 := by omega
    rcases hj with rfl | rfl | rfl | rfl | rfl | rfl | rfl | rfl
    · cases hq; exact k0
    · cases hq; exact k1
    · cases hq; exact k2
    · cases hq; exact k3
    · cases hq; exact k4
    · cases hq; exact k5
    · cases hq; exact k6
    · cases hq; exact k7
  · have hk : k < 6 := (List.getElem?_eq_some_iff.mp hq).1
    have hj : k = 0 ∨ k = 1 ∨ k = 2 ∨ k = 3 ∨ k = 4 ∨ k = 5 := by omega
    rcases hj with rfl | rfl | rfl | rfl | rfl | rfl
    · cases hq; exact ⟨a0, b0⟩
    · cases hq; exact ⟨a1, b1⟩
    · cases hq; exact ⟨a2, b2⟩
    · cases hq; exact ⟨a3, b3⟩
    · cases hq; exact ⟨a4, b4⟩
    · cases hq; exact ⟨a5, b5⟩
theorem en_C (hts : ∀ w ∈ lw_tbl, w.before args s = true) : EC s :=
  ⟨va_Nw.of rfl (hts _ (by decide +kernel)), va_Nw.of rfl (hts _ (by decide +kernel)), va_Nw.of rfl (hts _ (by decide +kernel)), va_Nw.of rfl (hts _ (by decide +kernel)), va_AO.of (hts _ (by decide +kernel)), va_AO.of (hts _ (by decide +kernel)), va_AO.of (hts _ (by decide +kernel))⟩
theorem en_r {own : String} {k : Nat} (h : (Cond.exactly (.string own k) "java/lang/String").before args s = true) : ∃ a : Nat, (Term.string own k).eval args s none [] s = some (.ref a) := by
  obtain ⟨a, c, cA, kA, q1, -⟩ := Cond.exactly_spec (args := args) (first := s) (o := none) (s := s) (idx := []) (t := .string own k) (cls := "java/lang/String") h
  exact ⟨a, q1⟩
theorem en_s {A : Nat → Prop} {tm : Term} {bs : List Int32} (hN : bs.length < 2 ^ 31) (hex : (Cond.exactly tm "java/lang/String").before args s = true) (hco : (Cond.eq (.field tm "java/lang/String" "coder" "B") (.int 0)).before args s = true) (har : (Cond.arrayOf (.field tm "java/lang/String" "value" "[B") .byte).before args s = true)
    (hle : (Cond.eq (.length (.field tm "java/lang/String" "value" "[B")) (.int (Int32.ofNat bs.length))).before args s = true) (hel : ∀ j : Nat, j < bs.length → (Cond.eq (.elem (.field tm "java/lang/String" "value" "[B") (.int (Int32.ofNat j))) (.int (bs.getD j 0))).before args s = true) (hA : ∀ a : Nat, a < s.heap.size → ¬ A a) :
    ∃ a : Nat, tm.eval args s none [] s = some (.ref a) ∧ ev_s A a bs s s.heap := by
  obtain ⟨a, c, cA, kA, q1, q2, q3, q4, q5, q6, -⟩ := Cond.exactly_spec (args := args) (first := s) (o := none) (s := s) (idx := []) (t := tm) (cls := "java/lang/String") hex
  obtain ⟨t, ht, hT⟩ := va_Tof (f := fun j => .int (bs.getD j 0)) (A := A) hN har (va_eqt hle) (fun j hj => va_eqt (hel j hj)) hA
  exact ⟨a, q1, t, va_Oof hex q1 hA, vk_OFof q1 (va_eqt hco) hA, vk_OFof q1 ht hA, hT⟩
theorem en_W1 : ∀ q ∈ ev_W, Cond.stringRef q.1 q.2.1 q.2.2.1 ∈ lw_tbl := by decide +kernel
theorem en_W2 : ∀ q ∈ ev_W, Cond.exactly (.string q.1 q.2.1) "java/lang/String" ∈ nF ∧ Cond.eq (.field (.string q.1 q.2.1) "java/lang/String" "coder" "B") (.int 0) ∈ nF ∧ Cond.arrayOf (.field (.string q.1 q.2.1) "java/lang/String" "value" "[B") .byte ∈ nF ∧ Cond.eq (.length (.field (.string q.1 q.2.1) "java/lang/String" "value" "[B")) (.int (Int32.ofNat q.2.2.2.length)) ∈ nF := by decide +kernel
theorem en_W3 : ∀ q ∈ ev_W, ∀ j : Nat, j < q.2.2.2.length → Cond.eq (.elem (.field (.string q.1 q.2.1) "java/lang/String" "value" "[B") (.int (Int32.ofNat j))) (.int (q.2.2.2.getD j 0)) ∈ nF := by decide +kernel
theorem en_W4 : ∀ q ∈ ev_W, q.2.2.2.length < 2 ^ 31 := by decide +kernel
theorem en_M1 : ∀ q ∈ ev_M, Cond.stringRef q.1 q.2.1 q.2.2 ∈ lw_tbl := by decide +kernel
theorem en_M2 : ∀ q ∈ ev_M, Cond.exactly (.string q.1 q.2.1) "java/lang/String" ∈ nF := by decide +kernel
theorem en_B1 : ∀ w ∈ ev_B, w ∈ lw_tbl := by decide +kernel
theorem en_B2 : ∀ w ∈ ev_B, w.onTables = true := by decide +kernel
theorem en_N : ∀ q ∈ nc_L, Cond.not (.castable q.1 q.2) ∈ nF := by decide +kernel
theorem en_W (hts : ∀ w ∈ lw_tbl, w.before args s = true) (hg : (Jvm.Cond.and given_1 narrow_1).before args s = true) : EW (px_A s.heap.size) s := by
  have hs : ∀ w ∈ nF, w.before args s = true := flat_of_before _ hg
  have hA : ∀ a : Nat, a < s.heap.size → ¬ px_A s.heap.size a := fun a h h2 => Nat.not_le.mpr h h2
  refine ⟨⟨⟨fun w hw => va_Nw.of (en_B2 w hw) (hts w (en_B1 w hw)), fun q hq => ?_, vx_Zqof (hts _ (by decide +kernel)) (hts _ (by decide +kernel)) (hs _ (by decide +kernel)) hA, vx_Zqof (hts _ (by decide +kernel)) (hts _ (by decide +kernel)) (hs _ (by decide +kernel)) hA⟩, ?_, va_Zqof (hts _ (by decide +kernel)) (hts _ (by decide +kernel)) (hs _ (by decide +kernel)) hA, fun q hq => ?_⟩, fun q hq => va_Nc.of (hs _ (en_N q hq))⟩
  · obtain ⟨a, ha⟩ := en_r (hs _ (en_M2 q hq))
    exact ⟨a, vk_R.of (hts _ (en_M1 q hq)) ha⟩
  · exact va_Zof (hts _ (by decide +kernel)) (hts _ (by decide +kernel)) (va_eqt (hs (.eq (.static "java/lang/String" "COMPACT_STRINGS" "Z") (.int 1)) (by decide +kernel))) hA
  · obtain ⟨h1, h2, h3, h4⟩ := en_W2 q hq
    obtain ⟨a, ha, hb⟩ := en_s (A := px_A s.heap.size) (bs := q.2.2.2) (en_W4 q hq) (hs _ h1) (hs _ h2) (hs _ h3) (hs _ h4) (fun j hj => hs _ (en_W3 q hq j hj)) hA
    exact ⟨a, vk_R.of (hts _ (en_W1 q hq)) ha, hb⟩
end EN
