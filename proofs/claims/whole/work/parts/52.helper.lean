/-! THE LAW'S HELPERS: a method that calls one of the class's, stores its answer in the long row, and catches what it throws -/
def nc_L : List (String × String) := [("java/lang/IllegalArgumentException", "java/lang/IndexOutOfBoundsException"), ("java/lang/UnsupportedOperationException", "java/lang/IndexOutOfBoundsException"), ("java/lang/UnsupportedOperationException", "java/lang/IllegalArgumentException"), ("java/util/NoSuchElementException", "java/lang/IndexOutOfBoundsException")]
def EW (A : Nat → Prop) (U : State) : Prop := EV A U ∧ ∀ q ∈ nc_L, va_Nc q.1 q.2 U
theorem EW.to {A B : Nat → Prop} {s U : State} {H : Heap} {locs : List Loc} (h : EW A s) (hS : va_S A s.heap H locs) (hAB : ∀ q, B q → A q) (hU : U.heap = H) (hW : s.WarmedH U.vm) : EW B U := ⟨h.1.to hS hAB hU hW, fun q hq => (h.2 q hq).moved hW.alike⟩
theorem ew_bl (A : Nat → Prop) : qw_bl (EW A) := fun U g mk a h => ⟨h.1.calling g mk a, fun q hq => (h.2 q hq).moved (u := U) (U := U.calling g mk a) (Vm.Alike.refl U.vm)⟩
/-- the long row behind it -/
def gd (g : Nat → Int64) (F : Except String Int32) : Nat → Int64 := match F with
  | .ok v => vp_updL g 0 v.toInt64
  | .error _ => g
/-- a helper's contract -/
abbrev MH (l : Launch) (D : va_G) (r : Nat → Nat) (c : Nat → ClassId) (g : Nat → Int64) (y : MethodName) (ws : List Cond) (rm : Room) (av : List Value) (S : qw_St) (k : Int32) (g' : Nat → Int64) (S' : qw_St) (mc ms : Nat) : Prop :=
  Met l y ws rm (va_Pc av (fun U => qw_X D r c g S U ∧ EW (qw_A r) U)) (va_Qi (fun a u => a = k ∧ u = S') (fun u U => qw_X D r c g' u U) (qw_A r)) mc ms (qw_A r)
theorem qw_cg {r : Nat → Nat} {c : Nat → ClassId} {g g' : Nat → Int64} {k : Nat} {f : Nat → Int32} (hk : k < 171) : qw_cell r c g k f = qw_cell r c g' k f := by
  unfold qw_cell
  simp only [hk, if_true]
theorem qw_setL {r : Nat → Nat} {c : Nat → ClassId} {g g' : Nat → Int64} {S : qw_St} : (qw_WD r c g S).set 171 (r 171, .inl (c 5, 1, .inr (.inl g'))) = qw_WD r c g' S := by
  apply List.ext_getElem?
  intro i
  by_cases hi : i = 171
  · subst hi; simp [qw_WD]; rfl
  · rw [List.getElem?_set_ne (fun h => hi h.symm)]
    by_cases hb : i < 172
    · simp [qw_WD, hb, qw_cg (r := r) (c := c) (g := g) (g' := g') (f := S i) (show i < 171 by omega)]
    · simp [qw_WD, hb]
section QH
variable {p : Program} {l : Launch} {e : Env} {R : Room} {s : State} {m : MethodId} {args : Array Value} {below : List Frame} {meth : Method} {c0 : Code} {H : Heap} {locs : List Loc} {cells slots : Nat} {Q : State → Prop}
variable {cc : ByteArray} {pc : Nat} {ls : Array Slot} {rest : List Value} {D : va_G} {H0 : Heap} {r : Nat → Nat} {c : Nat → ClassId} {g : Nat → Int64} {S S' : qw_St} {F : Except String Int32} {mc ms : Nat}
theorem wx_lst (hr : qw_inj r) (hx : p.tables.exec = Jvm.exec) (hb : c0.code = cc) (hK : qw_K D c s) (hP : qw_P D r c g S H) (hS : va_S (qw_A r) H0 H locs) {x : Int64} (hdg : decode cc pc = .ok (.lastore, 1))
    (kk : ∀ (H : Heap) (locs : List Loc), qw_P D r c (vp_updL g 0 x) S H → va_S (qw_A r) H0 H locs → W p l e R s m args below meth c0 H locs cells slots Q (F0 m (pc + 1) ls rest)) : W p l e R s m args below meth c0 H locs cells slots Q (F0 m pc ls (.long x :: .int 0 :: .ref (r 171) :: rest)) := by
  refine va_last hx hb hK hP (qw_D hr) hS 171 5 (qw_at (by decide) (qc_171 _)) rfl (vp_in_iff.mpr (by decide)) hdg (fun H1 l1 h1 _ h3 => kk H1 l1 ?_ h3)
  rw [qw_setL] at h1
  exact h1
theorem wx_lld (hx : p.tables.exec = Jvm.exec) (hb : c0.code = cc) (hK : qw_K D c s) (hP : qw_P D r c g S H) (hdg : decode cc pc = .ok (.laload, 1))
    (kk : W p l e R s m args below meth c0 H locs cells slots Q (F0 m (pc + 1) ls (.long (g 0) :: rest))) : W p l e R s m args below meth c0 H locs cells slots Q (F0 m pc ls (.int 0 :: .ref (r 171) :: rest)) :=
  va_lald hx hb hK hP 171 5 (qw_at (by decide) (qc_171 _)) rfl (i := 0) (vp_in_iff.mpr (by decide)) hdg kk
/-- entry of a method with a table -/
theorem wx_ofH {y : MethodName} {ws ws' : List Cond} {rm : Room} {av : List Value} {nL : Nat} {ret : Option FieldType} {hh : List (Nat × Nat × Nat × Nat)} {Qc : Array Value → State → Outcome → State → Prop} {lvs : List (Nat × Value)} (hy : plainName y.cls = true) (hw : ws = Cond.codeWith y cc nL ret hh :: ws') (hlv : lv_args 0 av = lvs) (hle : (lg_sl av).length ≤ nL)
    (body : ∀ (p : Program) (e : Env) (s : State) (m : MethodId) (below : List Frame) (meth : Method) (c0 : Code) (ls : Array Slot), p.tables.exec = Jvm.exec → c0.code = cc → meth.sig.returnType = ret → c0.maxLocals = nL → (∀ w ∈ ws, w.before av.toArray s = true) → s.vm.findClass y.cls = some m.cls → meth.locks = false → qw_K D c s → qw_P D r c g S s.heap → va_S (qw_A r) s.heap s.heap [] → lv_has ls nL lvs → EW (qw_A r) s → c0.exceptionTable.toList = tableOf hh →
      W p l e rm s m av.toArray below meth c0 s.heap [] 0 0 (MQ below Qc av.toArray s mc ms (qw_A r)) (F0 m 0 ls [])) : Met l y ws rm (va_Pc av (fun U => qw_X D r c g S U ∧ EW (qw_A r) U)) Qc mc ms (qw_A r) := by
  refine MetFree.of_bodyS (code := cc) (maxLocals := nL) (ret := ret) hy ?_ ?_
  · intro args s m h hn
    obtain ⟨m9, meth, c, hn9, h1, h2, h3, h4, -, h5, h6, -⟩ := Cond.codeWith_spec (atoms_spec (ws := ws) h _ (by rw [hw]; exact List.mem_cons_self))
    cases hn.symm.trans hn9
    exact ⟨meth, c, h1, h2, h3, h4, h5, h6⟩
  · intro p e s m args below meth c0 s₁ B hml hv _
    obtain ⟨rfl, ⟨hP, hK⟩, hE⟩ := hv
    have hts := atoms_spec (ws := ws) B.pre
    have hl := lv_entry av (n := nL) hle
    rw [hlv] at hl
    have hh0 : s₁.heap = s.heap := by rw [B.state]; rfl
    have ht : c0.exceptionTable.toList = tableOf hh := vx_table (x := y) B (hts _ (by rw [hw]; exact List.mem_cons_self))
    have K := body p e s m below meth c0 _ B.exec B.bytes B.returns hml hts (findClass_of_methodNamed B.named) B.notSynchronized hK hP va_S.rf hl hE ht
    rw [← lg_entry_eq] at K
    obtain ⟨t, a1, o, b1, b2, b3⟩ := K s₁ hh0 (Stand.of_body B)
    exact ⟨t, o, a1, b1, b2, ⟨b3.1, b3.2⟩⟩
theorem wx_hret {k v : Int32} {g' : Nat → Int64} (hc : cells ≤ mc) (hs : slots ≤ ms) (hx : p.tables.exec = Jvm.exec) (hb : c0.code = cc) (hr : meth.sig.returnType = some .int) (hlocks : meth.locks = false) (hK : qw_K D c s) (hP : qw_P D r c g S H) (hS : va_S (qw_A r) s.heap H locs) (hv : v = k) (hg : g = g') (hu : S = S') (hdg : decode cc pc = .ok (.ireturn, 1)) :
    W p l e R s m args below meth c0 H locs cells slots (MQ below (va_Qi (fun a u => a = k ∧ u = S') (fun u U => qw_X D r c g' u U) (qw_A r)) args s mc ms (qw_A r)) (F0 m pc ls [.int v]) := by
  subst hg
  exact W.widen hc hs (W.iret hx hb hr (fun t ht hW => ⟨⟨v, S, rfl, ⟨hv, hu⟩, by rw [ht]; exact hP, va_K.moved hW.alike hK⟩, hS.F ht⟩) hS.2.2 hdg hlocks)
variable {st0 : List Value} {rm : Room} {ws : List Cond} {y : MethodName} {bytes : ByteArray} {maxL nL n index mc1 ms1 : Nat} {ret : Option FieldType} {Ts : List Cond} {own C : String} {As : List Value} {F1 : Except String Int32} {S1 : qw_St}
/-- a call that answers an int, or throws what may be caught here -/
theorem wh_iV {b : Nat} (CF : CallFix p m c0 cc nL s args Ts own) (hM : MXi l D r c g y ws rm (.ref b :: As) S F1 S1 mc1 ms1) (cw : CallW R s args own C index y bytes maxL ret ws rm mc1 ms1 n) (hrec : ∃ cell : Cell, H[b]? = some cell ∧ cell.vm.isStatics = false ∧ s.vm.findClass C = some cell.cls) (hK : qw_K D c s) (hP : qw_P D r c g S H) (hS : va_S (qw_A r) s.heap H locs) (hE : EV (qw_A r) s)
    (hn : As.length = n) (hsize : ls.size = nL) (hstack : st0 = As.reverse ++ .ref b :: rest) (hW : 2 * (F0 m pc ls st0).monitorRoom + (rest.map fun v => v.category).sum ≤ 8) (hdg : decode cc pc = .ok (.invokevirtual index, 3)) (hf : cells + mc1 ≤ R.cells ∧ slots + ms1 ≤ R.slots)
    (kx : ∀ (N : String) (ce : Cell) (q : Addr) (H : Heap) (locs : List Loc), F1 = .error N → qw_P D r c g S1 H → va_S (qw_A r) s.heap H locs → H[q]? = some ce → ce.vm = .none → s.vm.findClass N = some ce.cls → vx_W p l e R s m args below meth c0 H locs (cells + mc1) (slots + ms1) Q (F0 m pc ls rest) q)
    (kk : ∀ (v : Int32) (H : Heap) (locs : List Loc), F1 = .ok v → qw_P D r c g S1 H → va_S (qw_A r) s.heap H locs → W p l e R s m args below meth c0 H locs (cells + mc1) (slots + ms1) Q (F0 m (pc + 3) ls (.int v :: rest))) : W p l e R s m args below meth c0 H locs cells slots Q (F0 m pc ls st0) := by
  refine vx_calli (vx_runV (As := As) (rest := rest) (b := b) CF hM cw ⟨wx_blindE (ev_bl _), hrec, wx_preE hK hP (fun U hU hW => hE.to hS (fun _ h => h) hU hW)⟩ rfl hn hsize hstack hW hdg hf) hS (fun q _ h => h) (fun q h => h) (fun q _ h => h) (fun N ce q9 u t H1 l1 ht hvm hpx hB _ _ hS1 h1 h2 h3 => ?_) (fun v u t H1 l1 ht hvm hw hB _ _ hS1 => ?_)
  · obtain ⟨hq1, hq2⟩ := hpx
    obtain ⟨e1, hX⟩ := hB
    subst e1
    subst hq2
    exact kx _ ce q9 H1 l1 hq1 (by rw [← ht]; exact hX.1) hS1 h1 h2 h3
  · obtain ⟨h1, h2⟩ := hw
    subst h2
    exact kk v H1 l1 h1 (by rw [← ht]; exact hB.1) hS1
theorem wh_vV {b : Nat} (CF : CallFix p m c0 cc nL s args Ts own) (hM : MXv l D r c g y ws rm (.ref b :: As) S F1 S1 mc1 ms1) (cw : CallW R s args own C index y bytes maxL ret ws rm mc1 ms1 n) (hrec : ∃ cell : Cell, H[b]? = some cell ∧ cell.vm.isStatics = false ∧ s.vm.findClass C = some cell.cls) (hK : qw_K D c s) (hP : qw_P D r c g S H) (hS : va_S (qw_A r) s.heap H locs) (hE : EV (qw_A r) s)
    (hn : As.length = n) (hsize : ls.size = nL) (hstack : st0 = As.reverse ++ .ref b :: rest) (hW : 2 * (F0 m pc ls st0).monitorRoom + (rest.map fun v => v.category).sum ≤ 8) (hdg : decode cc pc = .ok (.invokevirtual index, 3)) (hf : cells + mc1 ≤ R.cells ∧ slots + ms1 ≤ R.slots)
    (kx : ∀ (N : String) (ce : Cell) (q : Addr) (H : Heap) (locs : List Loc), F1 = .error N → qw_P D r c g S1 H → va_S (qw_A r) s.heap H locs → H[q]? = some ce → ce.vm = .none → s.vm.findClass N = some ce.cls → vx_W p l e R s m args below meth c0 H locs (cells + mc1) (slots + ms1) Q (F0 m pc ls rest) q)
    (kk : ∀ (H : Heap) (locs : List Loc), F1 = .ok 0 → qw_P D r c g S1 H → va_S (qw_A r) s.heap H locs → W p l e R s m args below meth c0 H locs (cells + mc1) (slots + ms1) Q (F0 m (pc + 3) ls rest)) : W p l e R s m args below meth c0 H locs cells slots Q (F0 m pc ls st0) := by
  refine vx_callv (vx_runV (As := As) (rest := rest) (b := b) CF hM cw ⟨wx_blindE (ev_bl _), hrec, wx_preE hK hP (fun U hU hW => hE.to hS (fun _ h => h) hU hW)⟩ rfl hn hsize hstack hW hdg hf) hS (fun q _ h => h) (fun q h => h) (fun q _ h => h) (fun N ce q9 u t H1 l1 ht hvm hpx hB _ _ hS1 h1 h2 h3 => ?_) (fun u t H1 l1 ht hvm hw hB _ _ hS1 => ?_)
  · obtain ⟨hq1, hq2⟩ := hpx
    obtain ⟨e1, hX⟩ := hB
    subst e1
    subst hq2
    exact kx _ ce q9 H1 l1 hq1 (by rw [← ht]; exact hX.1) hS1 h1 h2 h3
  · obtain ⟨h1, h2⟩ := hw
    subst h2
    exact kk H1 l1 h1 (by rw [← ht]; exact hB.1) hS1
/-- castable to itself, out of what lasts -/
theorem ew_cast {A : Nat → Prop} {N : String} (hE : EV A s) (h : Cond.castable N N ∈ ev_B) : (Cond.castable N N).before args s = true := by
  refine va_Nw.use ?_ (hE.1.1 _ h)
  rfl
end QH
