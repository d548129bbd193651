/-! METHODS THAT THROW: contracts, entry, ends, throws, calls -/
abbrev qw_XQi (D : va_G) (r : Nat → Nat) (c : Nat → ClassId) (g : Nat → Int64) (F : Except String Int32) (S' : qw_St) : Array Value → State → Outcome → State → Prop := va_Qi (fun a u => F = .ok a ∧ u = S') (qw_X D r c g) (qw_A r)
abbrev qw_XQv (D : va_G) (r : Nat → Nat) (c : Nat → ClassId) (g : Nat → Int64) (F : Except String Int32) (S' : qw_St) : Array Value → State → Outcome → State → Prop := va_Qv (fun u => F = .ok 0 ∧ u = S') (qw_X D r c g) (qw_A r)
abbrev qw_XX (D : va_G) (r : Nat → Nat) (c : Nat → ClassId) (g : Nat → Int64) (F : Except String Int32) (S' : qw_St) : String → State → State → Prop := vx_X (fun u : qw_St × String => F = .error u.2 ∧ u.1 = S') (fun N u t => u.2 = N ∧ qw_X D r c g u.1 t) (qw_A r)
/-- an int comes back, or it is thrown -/
abbrev MXi (l : Launch) (D : va_G) (r : Nat → Nat) (c : Nat → ClassId) (g : Nat → Int64) (y : MethodName) (ws : List Cond) (rm : Room) (av : List Value) (S : qw_St) (F : Except String Int32) (S' : qw_St) (mc ms : Nat) : Prop := vx_Met l y ws rm (va_Pc av (fun U => qw_X D r c g S U ∧ EV (qw_A r) U)) (qw_XQi D r c g F S') (qw_XX D r c g F S') mc ms (qw_A r)
abbrev MXv (l : Launch) (D : va_G) (r : Nat → Nat) (c : Nat → ClassId) (g : Nat → Int64) (y : MethodName) (ws : List Cond) (rm : Room) (av : List Value) (S : qw_St) (F : Except String Int32) (S' : qw_St) (mc ms : Nat) : Prop := vx_Met l y ws rm (va_Pc av (fun U => qw_X D r c g S U ∧ EV (qw_A r) U)) (qw_XQv D r c g F S') (qw_XX D r c g F S') mc ms (qw_A r)
section QX
variable {p : Program} {l : Launch} {e : Env} {R : Room} {s : State} {m : MethodId} {args : Array Value} {below : List Frame} {meth : Method} {c0 : Code} {H : Heap} {locs : List Loc} {cells slots : Nat} {Q : State → Prop}
variable {cc : ByteArray} {pc : Nat} {ls : Array Slot} {rest : List Value} {D : va_G} {r : Nat → Nat} {c : Nat → ClassId} {g : Nat → Int64} {S S' : qw_St} {F : Except String Int32} {mc ms : Nat}
theorem wx_ofX {y : MethodName} {ws ws' : List Cond} {rm : Room} {av : List Value} {nL : Nat} {ret : Option FieldType} {Qc : Array Value → State → Outcome → State → Prop} {XC : String → State → State → Prop} {lvs : List (Nat × Value)} (hy : plainName y.cls = true) (hw : ws = Cond.code y cc nL ret :: ws') (hlv : lv_args 0 av = lvs) (hle : (lg_sl av).length ≤ nL)
    (body : ∀ (p : Program) (e : Env) (s : State) (m : MethodId) (below : List Frame) (meth : Method) (c0 : Code) (ls : Array Slot), p.tables.exec = Jvm.exec → c0.code = cc → meth.sig.returnType = ret → c0.maxLocals = nL → (∀ w ∈ ws, w.before av.toArray s = true) → s.vm.findClass y.cls = some m.cls → meth.locks = false → qw_K D c s → qw_P D r c g S s.heap → va_S (qw_A r) s.heap s.heap [] → lv_has ls nL lvs → EV (qw_A r) s → (∀ x ∈ c0.exceptionTable.toList, False) →
      W p l e rm s m av.toArray below meth c0 s.heap [] 0 0 (vx_MQ below Qc XC av.toArray s mc ms (qw_A r)) (F0 m 0 ls [])) : vx_Met l y ws rm (va_Pc av (fun U => qw_X D r c g S U ∧ EV (qw_A r) U)) Qc XC mc ms (qw_A r) := by
  refine vx_ofW (cc := cc) (maxL := nL) (ret := ret) hy hw ?_
  intro p e s m args below meth c0 s₁ B hml hnt hv
  obtain ⟨rfl, ⟨hP, hK⟩, hE⟩ := hv
  have hts := atoms_spec (ws := ws) B.pre
  have hl := lv_entry av (n := nL) hle
  rw [lg_entry_eq]
  rw [hlv] at hl
  exact body p e s m below meth c0 _ B.exec B.bytes B.returns hml hts (findClass_of_methodNamed B.named) B.notSynchronized hK hP va_S.rf hl hE hnt
theorem wx_xiret {XC : String → State → State → Prop} (hc : cells ≤ mc) (hs : slots ≤ ms) (hx : p.tables.exec = Jvm.exec) (hb : c0.code = cc) (hr : meth.sig.returnType = some .int) (hlocks : meth.locks = false) (hK : qw_K D c s) (hP : qw_P D r c g S H) (hS : va_S (qw_A r) s.heap H locs) {v : Int32} (hv : F = .ok v) (hu : S = S') (hdg : decode cc pc = .ok (.ireturn, 1)) :
    W p l e R s m args below meth c0 H locs cells slots (vx_MQ below (qw_XQi D r c g F S') XC args s mc ms (qw_A r)) (F0 m pc ls [.int v]) :=
  vx_ret (W.widen hc hs (W.iret hx hb hr (fun t ht hW => ⟨⟨v, S, rfl, ⟨hv, hu⟩, by rw [ht]; exact hP, va_K.moved hW.alike hK⟩, hS.F ht⟩) hS.2.2 hdg hlocks))
theorem wx_xzret {XC : String → State → State → Prop} {ty : FieldType} (hc : cells ≤ mc) (hs : slots ≤ ms) (hx : p.tables.exec = Jvm.exec) (hb : c0.code = cc) (hr : meth.sig.returnType = some ty) (hlocks : meth.locks = false) (hK : qw_K D c s) (hP : qw_P D r c g S H) (hS : va_S (qw_A r) s.heap H locs) {v : Int32} (hn : narrow ty (.int v) = .int v) (hv : F = .ok v) (hu : S = S') (hdg : decode cc pc = .ok (.ireturn, 1)) :
    W p l e R s m args below meth c0 H locs cells slots (vx_MQ below (qw_XQi D r c g F S') XC args s mc ms (qw_A r)) (F0 m pc ls [.int v]) :=
  vx_ret (W.widen hc hs (W.zret hx hb hr hn (fun t ht hW => ⟨⟨v, S, rfl, ⟨hv, hu⟩, by rw [ht]; exact hP, va_K.moved hW.alike hK⟩, hS.F ht⟩) hS.2.2 hdg hlocks))
theorem wx_xvret {XC : String → State → State → Prop} (hc : cells ≤ mc) (hs : slots ≤ ms) (hx : p.tables.exec = Jvm.exec) (hb : c0.code = cc) (hr : meth.sig.returnType = none) (hlocks : meth.locks = false) (hK : qw_K D c s) (hP : qw_P D r c g S H) (hS : va_S (qw_A r) s.heap H locs) (hv : F = .ok 0) (hu : S = S') (hdg : decode cc pc = .ok (.return_, 1)) :
    W p l e R s m args below meth c0 H locs cells slots (vx_MQ below (qw_XQv D r c g F S') XC args s mc ms (qw_A r)) (F0 m pc ls []) :=
  vx_ret (W.widen hc hs (W.vret hx hb hr (fun t ht hW => ⟨⟨S, rfl, ⟨hv, hu⟩, by rw [ht]; exact hP, va_K.moved hW.alike hK⟩, hS.F ht⟩) hS.2.2 hdg hlocks))
/-- 'throw new E("text")' -/
theorem wx_throw {Qc : Array Value → State → Outcome → State → Prop} (hx : p.tables.exec = Jvm.exec) (hb : c0.code = cc) (hlT : l.stackTraces = false) {own cls text : String} {ik is ic : Nat} {Ts : List Cond} (hts : ∀ w ∈ Ts, w.before args s = true)
    (hown : s.vm.findClass own = some m.cls) (hcls : Bundle.fit cls = true) (hk : Cond.classLink own ik cls ∈ Ts) (hini : Cond.initialized cls ∈ Ts) (hm : (own, is, text) ∈ ev_M)
    (hg1 : ∀ w ∈ (vx_atS own ic cls ["java/lang/RuntimeException", "java/lang/Exception"]).filter goodWord, w ∈ Ts) (hg2 : ∀ w ∈ (vx_atS own ic cls ["java/lang/RuntimeException", "java/lang/Exception"]).filter (fun w => !goodWord w), w ∈ ev_B)
    (hgood : ∀ w ∈ Cond.classLink own ik cls :: Cond.initialized cls :: vx_atS own ic cls ["java/lang/RuntimeException", "java/lang/Exception"], vx_ot w = true)
    (hK : qw_K D c s) (hP : qw_P D r c g S H) (hS : va_S (qw_A r) s.heap H locs) (hE : EV (qw_A r) s) (hsize : ls.size = c0.maxLocals)
    (d0 : decode cc pc = .ok (.new ik, 3)) (d3 : decode cc (pc + 3) = .ok (.dup, 1)) (d4 : decode cc (pc + 4) = .ok (.ldc is, 2)) (d6 : decode cc (pc + 6) = .ok (.invokespecial ic, 3)) (d9 : decode cc (pc + 9) = .ok (.athrow, 1))
    (hnt : ∀ x ∈ c0.exceptionTable.toList, False) (hRf : 5 < R.frames) (hRl : (rest.map fun v => v.category).sum + 82 ≤ R.locals) (hRc : cells + 1 ≤ R.cells) (hRs : slots + 6 ≤ R.slots) (hlocks : meth.locks = false)
    (hF : F = .error cls) (hu : S = S') (hc : cells + 1 ≤ mc) (hs : slots + 6 ≤ ms) :
    W p l e R s m args below meth c0 H locs cells slots (vx_MQ below Qc (qw_XX D r c g F S') args s mc ms (qw_A r)) (F0 m pc ls rest) := by
  obtain ⟨sa, hsa⟩ := hE.1.2.1 _ hm
  refine vx_throwS hx hb hlT (names := ["java/lang/RuntimeException", "java/lang/Exception"]) hown hcls (by decide +kernel) (hts _ hk) (hts _ hini) hsa (vx_hat (fun w hw => hts w (hg1 w hw)) hg2 (fun w hw => ?_)) hgood hE.1.2.2.1 hE.1.2.2.2 hS hsize d0 d3 d4 d6 d9 (fun x hx => (hnt x hx).elim) (by exact hRf) (by exact hRl) hRc hRs hlocks (fun t hvm hz hq => ?_) hS.2.2 hc hs
  · refine va_Nw.use ?_ (hE.1.1 w hw)
    simp only [ev_B, List.mem_cons, List.not_mem_nil, or_false] at hw
    rcases hw with rfl | rfl | rfl | rfl | rfl | rfl | rfl <;> rfl
  · refine ⟨(S, cls), ⟨hF, hu⟩, ⟨rfl, ?_, va_K.moved hvm hK⟩, Nat.le_trans hS.1 hz, fun q h1 h2 => (hq q (Nat.lt_of_lt_of_le h1 hS.1)).trans (hS.2.1 q h1 h2)⟩
    exact va_P.kept hP (fun k q hk => hq q.1 (vx_lt hP hk))
variable {st0 : List Value} {rm : Room} {ws : List Cond} {y : MethodName} {bytes : ByteArray} {maxL nL n index mc1 ms1 : Nat} {ret : Option FieldType} {Ts : List Cond} {own C : String} {As : List Value} {F1 : Except String Int32} {S1 : qw_St}
theorem wx_xout {Qc : Array Value → State → Outcome → State → Prop} {N : String} {ce : Cell} {q : Addr} {k n2 : Nat} (hnt : ∀ x ∈ c0.exceptionTable.toList, False) (hlocks : meth.locks = false) (hcell : H[q]? = some ce) (hv : ce.vm = .none) (hcl : s.vm.findClass N = some ce.cls) (hK : qw_K D c s) (hP : qw_P D r c g S H) (hS : va_S (qw_A r) s.heap H locs) (hF : F = .error N) (hu : S = S') (hc : k ≤ mc) (hs : n2 ≤ ms) :
    vx_W p l e R s m args below meth c0 H locs k n2 (vx_MQ below Qc (qw_XX D r c g F S') args s mc ms (qw_A r)) (F0 m pc ls rest) q :=
  vx_out (fun x hx => (hnt x hx).elim) hlocks hcell hv hcl (fun t ht hvm => ⟨(S, N), ⟨hF, hu⟩, ⟨rfl, by rw [ht]; exact hP, va_K.moved hvm hK⟩, hS.F ht⟩) hS.2.2 hc hs
/-- a call of a static method that gives nothing back, or throws -/
theorem we_vS {Qc : Array Value → State → Outcome → State → Prop} (CF : CallFix p m c0 cc nL s args Ts own) (hM : MXv l D r c g y ws rm As S F1 S1 mc1 ms1) (cw : CallB R s args own index y bytes maxL ret ws rm mc1 ms1 n ∧ (Cond.static y).before args s = true) (hK : qw_K D c s) (hP : qw_P D r c g S H) (hS : va_S (qw_A r) s.heap H locs) (hE : EV (qw_A r) s)
    (hn : As.length = n) (hsize : ls.size = nL) (hstack : st0 = As.reverse ++ rest) (hW : 2 * (F0 m pc ls st0).monitorRoom + (rest.map fun v => v.category).sum ≤ 8) (hdg : decode cc pc = .ok (.invokestatic index, 3)) (hf : cells + mc1 ≤ R.cells ∧ slots + ms1 ≤ R.slots)
    (hnt : ∀ x ∈ c0.exceptionTable.toList, False) (hlocks : meth.locks = false) (hc : cells + mc1 ≤ mc) (hs : slots + ms1 ≤ ms)
    (kx : ∀ N, F1 = .error N → F = .error N ∧ S1 = S')
    (kk : F1 = .ok 0 → ∀ (H : Heap) (locs : List Loc), qw_P D r c g S1 H → va_S (qw_A r) s.heap H locs → W p l e R s m args below meth c0 H locs (cells + mc1) (slots + ms1) (vx_MQ below Qc (qw_XX D r c g F S') args s mc ms (qw_A r)) (F0 m (pc + 3) ls rest)) : W p l e R s m args below meth c0 H locs cells slots (vx_MQ below Qc (qw_XX D r c g F S') args s mc ms (qw_A r)) (F0 m pc ls st0) := by
  refine vx_callv (vx_runS (As := As) (rest := rest) CF hM cw ⟨wx_blindE (ev_bl _), wx_preE hK hP (fun U hU hW => hE.to hS (fun _ h => h) hU hW)⟩ rfl hn hsize hstack hW hdg hf) hS (fun q _ h => h) (fun q h => h) (fun q _ h => h) (fun N ce q9 u t H1 l1 ht hvm hpx hB _ _ hS1 h1 h2 h3 => ?_) (fun u t H1 l1 ht hvm hw hB _ _ hS1 => ?_)
  · obtain ⟨hq1, hq2⟩ := hpx
    obtain ⟨e1, hX⟩ := hB
    subst e1
    obtain ⟨k1, k2⟩ := kx _ hq1
    exact wx_xout hnt hlocks h1 h2 h3 hK (by rw [← ht]; exact hX.1) hS1 k1 (hq2.trans k2) hc hs
  · obtain ⟨h1, h2⟩ := hw
    subst h2
    exact kk h1 H1 l1 (by rw [← ht]; exact hB.1) hS1
theorem we_vV {Qc : Array Value → State → Outcome → State → Prop} {b : Nat} (CF : CallFix p m c0 cc nL s args Ts own) (hM : MXv l D r c g y ws rm (.ref b :: As) S F1 S1 mc1 ms1) (cw : CallW R s args own C index y bytes maxL ret ws rm mc1 ms1 n) (hrec : ∃ cell : Cell, H[b]? = some cell ∧ cell.vm.isStatics = false ∧ s.vm.findClass C = some cell.cls) (hK : qw_K D c s) (hP : qw_P D r c g S H) (hS : va_S (qw_A r) s.heap H locs) (hE : EV (qw_A r) s)
    (hn : As.length = n) (hsize : ls.size = nL) (hstack : st0 = As.reverse ++ .ref b :: rest) (hW : 2 * (F0 m pc ls st0).monitorRoom + (rest.map fun v => v.category).sum ≤ 8) (hdg : decode cc pc = .ok (.invokevirtual index, 3)) (hf : cells + mc1 ≤ R.cells ∧ slots + ms1 ≤ R.slots)
    (hnt : ∀ x ∈ c0.exceptionTable.toList, False) (hlocks : meth.locks = false) (hc : cells + mc1 ≤ mc) (hs : slots + ms1 ≤ ms)
    (kx : ∀ N, F1 = .error N → F = .error N ∧ S1 = S')
    (kk : F1 = .ok 0 → ∀ (H : Heap) (locs : List Loc), qw_P D r c g S1 H → va_S (qw_A r) s.heap H locs → W p l e R s m args below meth c0 H locs (cells + mc1) (slots + ms1) (vx_MQ below Qc (qw_XX D r c g F S') args s mc ms (qw_A r)) (F0 m (pc + 3) ls rest)) : W p l e R s m args below meth c0 H locs cells slots (vx_MQ below Qc (qw_XX D r c g F S') args s mc ms (qw_A r)) (F0 m pc ls st0) := by
  refine vx_callv (vx_runV (As := As) (rest := rest) (b := b) CF hM cw ⟨wx_blindE (ev_bl _), hrec, wx_preE hK hP (fun U hU hW => hE.to hS (fun _ h => h) hU hW)⟩ rfl hn hsize hstack hW hdg hf) hS (fun q _ h => h) (fun q h => h) (fun q _ h => h) (fun N ce q9 u t H1 l1 ht hvm hpx hB _ _ hS1 h1 h2 h3 => ?_) (fun u t H1 l1 ht hvm hw hB _ _ hS1 => ?_)
  · obtain ⟨hq1, hq2⟩ := hpx
    obtain ⟨e1, hX⟩ := hB
    subst e1
    obtain ⟨k1, k2⟩ := kx _ hq1
    exact wx_xout hnt hlocks h1 h2 h3 hK (by rw [← ht]; exact hX.1) hS1 k1 (hq2.trans k2) hc hs
  · obtain ⟨h1, h2⟩ := hw
    subst h2
    exact kk h1 H1 l1 (by rw [← ht]; exact hB.1) hS1
end QX
