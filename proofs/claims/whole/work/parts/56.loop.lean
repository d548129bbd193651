/-! THE LAW'S LOOP (written by program) -/
def R_law : String := "PriceEdictLaw"
def lw_P (b : Addr) (xs : List Int32) (args : Array Value) (s : State) : Prop := args = #[.ref b] ∧ s.IntsAt b xs ∧ xs.length ≤ 3584 ∧ (Jvm.Cond.and given_1 narrow_1).before args s = true
def lw_Q (_ : Array Value) (s : State) (o : Outcome) (t : State) : Prop := o = .returned (some (.int 1)) ∧ Framed s o t [] 601024 7293034
def lw_Z (below : List Frame) (a : Array Value) (s : State) : State → Prop := fun t => ∃ o, t.status = .running ∧ Ended t below o ∧ lw_Q a s o t
theorem lw_ret {p : Program} {l : Launch} {e : Env} {s : State} {m : MethodId} {below : List Frame} {meth : Method} {c : Code} {b : Nat} (hx : p.tables.exec = Jvm.exec) (hb : c.code = code) (hr : meth.sig.returnType = ret) (hlocks : meth.locks = false) {pc : Nat} {H : Heap} {ls : Array Slot} (hdg : decode code pc = .ok (.ireturn, 1)) : W p l e room_1 s m #[Value.ref b] below meth c H [] 601024 7293034 (lw_Z below #[Value.ref b] s) (F0 m pc ls [.int 1]) := by
  intro T hT X
  obtain ⟨fs, hret, hrun, hended, hW, hframe⟩ := X.leave (v := some (.int 1)) (hlocks := hlocks) (fun h => by rw [hr] at h; cases h)
  have hmeth' : T.vm.method? m = some meth := X.method'
  refine ⟨T.setFrames fs, ?_, .returned (some (.int 1)), hrun, hended, rfl, ⟨_, rfl⟩, hW, hframe⟩
  jvm_step X.here [X.here.top, hx, hb, hdg, hmeth', hr, ret, narrow_b1]
  (try refine ⟨rfl, ?_⟩); (try refine ⟨rfl, ?_⟩)
  first | (intro acts; rw [hret _ acts rfl rfl rfl]) | rw [hret _ _ rfl rfl rfl]
  exact Steps.refl _
theorem lx_out {x : Int32} (h : ¬ ∃ k : Nat, k ≤ 20 ∧ x = nI k) : x.toInt < 0 ∨ (20 : Int) < x.toInt := by
  by_cases h0 : x.toInt < 0
  · exact Or.inl h0
  · refine Or.inr (Int.not_le.mp fun h1 => h ⟨x.toInt.toNat, by omega, ?_⟩)
    apply Int32.toInt_inj.mp
    rw [nI_toInt (by omega)]
    omega
theorem lx_sub : ∀ L : Nat, L < 7 → (Int32.ofNat L - 7).toInt < 0 := by decide
theorem lx_cont {L t : Nat} {z : Int32} (hz : z = nI (7 * t)) (hL : L ≤ 3584) (ht : 7 * t ≤ 3584) (h : ¬ Int32.ofNat L - 7 < z) : 7 * t + 7 ≤ L := by
  subst hz
  by_cases h7 : L < 7
  · refine absurd ?_ h
    rw [Int32.lt_iff_toInt_lt, nI_toInt (by omega)]
    have := lx_sub L h7
    omega
  · obtain ⟨k, rfl⟩ : ∃ k, L = k + 7 := ⟨L - 7, by omega⟩
    have e : Int32.ofNat (k + 7) - 7 = nI k := by
      show nI (k + 7) - 7 = nI k
      rw [← nI_add]
      exact Int32.add_sub_cancel _ _
    rw [e, nI_ltI (by omega) (by omega)] at h
    omega
section LWL
variable {p : Program} {l : Launch} {e : Env} {s : State} {m : MethodId} {below : List Frame} {meth : Method} {c0 : Code} {D : va_G} {r : Nat → Nat} {c : Nat → ClassId} {b b0 L : Nat} {xs : Nat → Int32}
set_option maxHeartbeats 4000000 in
set_option maxRecDepth 100000 in
theorem lw_loop (C : LCx p l s m c0 D r c b b0 L xs) (hbs : s.heap.size ≤ b) (hret : meth.sig.returnType = ret) (hlk : meth.locks = false) : ∀ (n t : Nat) (S : qw_St) (g : Nat → Int64) (H : Heap) (locs : List Loc) (ls : Array Slot) (cells slots : Nat) (z : Int32), t + n = 512 → cells = 172 + 7 * t → slots = 3738 + 42 * t → z = nI (7 * t) → RA S S → qw_P D r c g S H → va_S (px_A b) s.heap H locs → lv_has ls 7 [(4, .int z), (3, .ref (r 171)), (2, .ref (r 143)), (1, .ref (r 0)), (0, .ref b0)] → W p l e room_1 s m #[Value.ref b0] below meth c0 H locs cells slots (lw_Z below #[Value.ref b0] s) (F0 m 23 ls []) := by
  have C' := C
  obtain ⟨hlT, hx, hb, hml, hown, hts, hr, hK, hX, hbl, hbA, hA, hEW, hL⟩ := C'
  intro n
  induction n with
  | zero =>
    intro t S g H locs ls cells slots z htn hc hs hz hRA hP hS hl
    refine lv_iload hx hb dL_law_23 (lv_at hl 0 rfl) ?_
    refine lv_aload_n hx hb dL_law_25 rfl (lv_at hl 4 rfl) ?_
    refine va_slen hx hb hX hbl hbA hS dL_law_26 ?_
    refine lv_bipush (v := 7) hx hb dL_law_27 (by decide) ?_
    refine lv_isub hx hb dL_law_29 ?_
    refine lv_icmp_gt (tgt := 1467) hx hb dL_law_30 (by decide) (fun cx => ?_) (fun cx => ?_)
    · refine lv_iconst (v := 1) hx hb dL_law_1467 (by decide) ?_
      refine va_forget (fun q hq => Nat.le_trans hbs (hS.2.2 q hq)) ?_
      exact W.widen (by omega) (by omega) (lw_ret hx hb hret hlk dL_law_1468)
    · have := lx_cont hz hL (by omega) cx
      omega
  | succ n ih =>
    intro t S g H locs ls cells slots z htn hc hs hz hRA hP hS hl
    refine lv_iload hx hb dL_law_23 (lv_at hl 0 rfl) ?_
    refine lv_aload_n hx hb dL_law_25 rfl (lv_at hl 4 rfl) ?_
    refine va_slen hx hb hX hbl hbA hS dL_law_26 ?_
    refine lv_bipush (v := 7) hx hb dL_law_27 (by decide) ?_
    refine lv_isub hx hb dL_law_29 ?_
    refine lv_icmp_gt (tgt := 1467) hx hb dL_law_30 (by decide) (fun cx => ?_) (fun cx => ?_)
    · refine lv_iconst (v := 1) hx hb dL_law_1467 (by decide) ?_
      refine va_forget (fun q hq => Nat.le_trans hbs (hS.2.2 q hq)) ?_
      exact W.widen (by omega) (by omega) (lw_ret hx hb hret hlk dL_law_1468)
    have ht : 7 * t + 7 ≤ L := lx_cont hz hL (by omega) cx
    have hcs : cells + 7 ≤ 601024 ∧ slots + 42 ≤ 7293034 := by omega
    have kk : ∀ (S' : qw_St) (g' : Nat → Int64) (H : Heap) (locs : List Loc) (ls : Array Slot), RA S' S' → qw_P D r c g' S' H → va_S (px_A b) s.heap H locs → lv_has ls 7 [(4, .int z), (3, .ref (r 171)), (2, .ref (r 143)), (1, .ref (r 0)), (0, .ref b0)] → W p l e room_1 s m #[Value.ref b0] below meth c0 H locs (cells + 7) (slots + 42) (lw_Z below #[Value.ref b0] s) (F0 m 1461 ls []) := by
      intro S' g' H locs ls hRA hP hS hl
      refine lv_iinc (v := nI (7 * (t + 1))) (lv' := [(4, .int (nI (7 * (t + 1)))), (3, .ref (r 171)), (2, .ref (r 143)), (1, .ref (r 0)), (0, .ref b0)]) hx hb dL_law_1461 hl (k := 0) rfl (by rw [hz]; show nI (7 * t) + 7 = _; exact nI_add (7 * t) 7) (by decide) rfl (fun ls hl => ?_)
      refine lv_goto (tgt := 23) hx hb dL_law_1464 (by decide) ?_
      exact ih (t + 1) S' g' H locs ls _ _ _ (by omega) (by omega) (by omega) rfl hRA hP hS hl
    refine lv_aload_n hx hb dL_law_33 rfl (lv_at hl 4 rfl) ?_
    refine lv_iload hx hb dL_law_34 (lv_at hl 0 rfl) ?_
    refine va_sld hx hb hX hbl hbA hS (by rw [hz]; exact vp_in_nI (by omega) (by omega)) dL_law_36 ?_
    refine lv_bipush (v := 31) hx hb dL_law_37 (by decide) ?_
    refine lv_iand hx hb dL_law_39 ?_
    refine lv_topi (fun w ew => ?_)
    by_cases hw : ∃ k : Nat, k ≤ 20 ∧ w = nI k
    · obtain ⟨k, hk, hwk⟩ := hw
      have hkk : k = 0 ∨ k = 1 ∨ k = 2 ∨ k = 3 ∨ k = 4 ∨ k = 5 ∨ k = 6 ∨ k = 7 ∨ k = 8 ∨ k = 9 ∨ k = 10 ∨ k = 11 ∨ k = 12 ∨ k = 13 ∨ k = 14 ∨ k = 15 ∨ k = 16 ∨ k = 17 ∨ k = 18 ∨ k = 19 ∨ k = 20 := by omega
      rcases hkk with rfl | rfl | rfl | rfl | rfl | rfl | rfl | rfl | rfl | rfl | rfl | rfl | rfl | rfl | rfl | rfl | rfl | rfl | rfl | rfl | rfl
      · exact lv_tableIn (tgt := 140) hx hb dL_law_40 (by rw [hwk]; decide) (by rw [hwk]; decide) (by rw [hwk]; rfl) (by decide) (lw_c0 C ht hz hRA hP hS hl hcs kk)
      · exact lv_tableIn (tgt := 213) hx hb dL_law_40 (by rw [hwk]; decide) (by rw [hwk]; decide) (by rw [hwk]; rfl) (by decide) (lw_c1 C ht hz hRA hP hS hl hcs kk)
      · exact lv_tableIn (tgt := 238) hx hb dL_law_40 (by rw [hwk]; decide) (by rw [hwk]; decide) (by rw [hwk]; rfl) (by decide) (lw_c2 C ht hz hRA hP hS hl hcs kk)
      · exact lv_tableIn (tgt := 342) hx hb dL_law_40 (by rw [hwk]; decide) (by rw [hwk]; decide) (by rw [hwk]; rfl) (by decide) (lw_c3 C ht hz hRA hP hS hl hcs kk)
      · exact lv_tableIn (tgt := 405) hx hb dL_law_40 (by rw [hwk]; decide) (by rw [hwk]; decide) (by rw [hwk]; rfl) (by decide) (lw_c4 C ht hz hRA hP hS hl hcs kk)
      · exact lv_tableIn (tgt := 480) hx hb dL_law_40 (by rw [hwk]; decide) (by rw [hwk]; decide) (by rw [hwk]; rfl) (by decide) (lw_c5 C ht hz hRA hP hS hl hcs kk)
      · exact lv_tableIn (tgt := 560) hx hb dL_law_40 (by rw [hwk]; decide) (by rw [hwk]; decide) (by rw [hwk]; rfl) (by decide) (lw_c6 C ht hz hRA hP hS hl hcs kk)
      · exact lv_tableIn (tgt := 604) hx hb dL_law_40 (by rw [hwk]; decide) (by rw [hwk]; decide) (by rw [hwk]; rfl) (by decide) (lw_c7 C ht hz hRA hP hS hl hcs kk)
      · exact lv_tableIn (tgt := 617) hx hb dL_law_40 (by rw [hwk]; decide) (by rw [hwk]; decide) (by rw [hwk]; rfl) (by decide) (lw_c8 C ht hz hRA hP hS hl hcs kk)
      · exact lv_tableIn (tgt := 630) hx hb dL_law_40 (by rw [hwk]; decide) (by rw [hwk]; decide) (by rw [hwk]; rfl) (by decide) (lw_c9 C ht hz hRA hP hS hl hcs kk)
      · exact lv_tableIn (tgt := 686) hx hb dL_law_40 (by rw [hwk]; decide) (by rw [hwk]; decide) (by rw [hwk]; rfl) (by decide) (lw_c10 C ht hz hRA hP hS hl hcs kk)
      · exact lv_tableIn (tgt := 784) hx hb dL_law_40 (by rw [hwk]; decide) (by rw [hwk]; decide) (by rw [hwk]; rfl) (by decide) (lw_c11 C ht hz hRA hP hS hl hcs kk)
      · exact lv_tableIn (tgt := 832) hx hb dL_law_40 (by rw [hwk]; decide) (by rw [hwk]; decide) (by rw [hwk]; rfl) (by decide) (lw_c12 C ht hz hRA hP hS hl hcs kk)
      · exact lv_tableIn (tgt := 868) hx hb dL_law_40 (by rw [hwk]; decide) (by rw [hwk]; decide) (by rw [hwk]; rfl) (by decide) (lw_c13 C ht hz hRA hP hS hl hcs kk)
      · exact lv_tableIn (tgt := 924) hx hb dL_law_40 (by rw [hwk]; decide) (by rw [hwk]; decide) (by rw [hwk]; rfl) (by decide) (lw_c14 C ht hz hRA hP hS hl hcs kk)
      · exact lv_tableIn (tgt := 980) hx hb dL_law_40 (by rw [hwk]; decide) (by rw [hwk]; decide) (by rw [hwk]; rfl) (by decide) (lw_c15 C ht hz hRA hP hS hl hcs kk)
      · exact lv_tableIn (tgt := 1048) hx hb dL_law_40 (by rw [hwk]; decide) (by rw [hwk]; decide) (by rw [hwk]; rfl) (by decide) (lw_c16 C ht hz hRA hP hS hl hcs kk)
      · exact lv_tableIn (tgt := 1156) hx hb dL_law_40 (by rw [hwk]; decide) (by rw [hwk]; decide) (by rw [hwk]; rfl) (by decide) (lw_c17 C ht hz hRA hP hS hl hcs kk)
      · exact lv_tableIn (tgt := 1276) hx hb dL_law_40 (by rw [hwk]; decide) (by rw [hwk]; decide) (by rw [hwk]; rfl) (by decide) (lw_c18 C ht hz hRA hP hS hl hcs kk)
      · exact lv_tableIn (tgt := 1356) hx hb dL_law_40 (by rw [hwk]; decide) (by rw [hwk]; decide) (by rw [hwk]; rfl) (by decide) (lw_c19 C ht hz hRA hP hS hl hcs kk)
      · exact lv_tableIn (tgt := 1436) hx hb dL_law_40 (by rw [hwk]; decide) (by rw [hwk]; decide) (by rw [hwk]; rfl) (by decide) (lw_c20 C ht hz hRA hP hS hl hcs kk)
    · refine lv_tableOut (tgt := 1461) hx hb dL_law_40 (lx_out hw) (by decide) ?_
      refine W.widen (k := cells + 7) (n := slots + 42) (by omega) (by omega) ?_
      exact kk S g H locs ls hRA hP hS hl
end LWL
