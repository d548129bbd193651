/-! ROWS over the world: each instruction that touches it, calls, entry and end -/
section QR
variable {p : Program} {l : Launch} {e : Env} {R : Room} {s : State} {m : MethodId} {args : Array Value} {below : List Frame} {meth : Method} {c0 : Code} {H : Heap} {locs : List Loc} {cells slots : Nat} {Q : State → Prop}
variable {cc : ByteArray} {pc : Nat} {ls : Array Slot} {rest : List Value} {D : va_G} {H0 : Heap} {r : Nat → Nat} {c : Nat → ClassId} {g : Nat → Int64} {S : qw_St}
abbrev qw_P (D : va_G) (r : Nat → Nat) (c : Nat → ClassId) (g : Nat → Int64) (S : qw_St) (H : Heap) : Prop := va_P D vwCl (qw_WD r c g S) H
abbrev qw_K (D : va_G) (c : Nat → ClassId) (s : State) : Prop := va_K D vwCl (qw_ty c) s
theorem wx_get (hx : p.tables.exec = Jvm.exec) (hb : c0.code = cc) {own C : String} {T : u_T} {N ci index : Nat} {Ts : List Cond} (hts : ∀ w ∈ Ts, w.before args s = true) (hin : ∀ w ∈ u_ws C T N, w ∈ Ts) (hown : s.vm.findClass own = some m.cls) (hK : qw_K D c s) (hP : qw_P D r c g S H) (k : Nat) (hk : k < 172) {F : (Nat → Int32) → List Value} (hcell : ∀ f, qw_cell r c g k f = .inr (ci, F f)) (hc : vwCl[ci]? = some (C, T, N)) (j : Nat) (hj : j < N) (hlink : (Cond.fieldLink own index (T j).1 (T j).2.1 (T j).2.2.1).before args s = true) {v : Value} (hv : (F (S k))[j]? = some v) (hdg : decode cc pc = .ok (.getfield index, 3))
    (kk : W p l e R s m args below meth c0 H locs cells slots Q (F0 m (pc + 3) ls (v :: rest))) : W p l e R s m args below meth c0 H locs cells slots Q (F0 m pc ls (.ref (r k) :: rest)) :=
  va_get hx hb hts hin hown hK hP k (qw_at hk (hcell _)) hc j hj hlink (fun _ h => h) hv hdg kk
theorem wx_put (hr : qw_inj r) (hx : p.tables.exec = Jvm.exec) (hb : c0.code = cc) {own C : String} {T : u_T} {N ci index : Nat} {Ts : List Cond} (hts : ∀ w ∈ Ts, w.before args s = true) (hin : ∀ w ∈ u_ws C T N, w ∈ Ts) (ty0 : Nat → FieldType) (hty : ∀ k, k < N → parseFieldDescriptor (T k).2.2.1 = some (ty0 k)) (hnm : ∀ a, a < N → ∀ b, b < N → a ≠ b → (T a).2.1 ≠ (T b).2.1) (hown : s.vm.findClass own = some m.cls) (hK : qw_K D c s) (hP : qw_P D r c g S H) (hS : va_S (qw_A r) H0 H locs) (k : Nat) (hk : k < 172) {F : (Nat → Int32) → List Value} (hcell : ∀ f, qw_cell r c g k f = .inr (ci, F f)) (hc : vwCl[ci]? = some (C, T, N)) (j : Nat) (hj : j < N) (hlink : (Cond.fieldLink own index (T j).1 (T j).2.1 (T j).2.2.1).before args s = true) (hfin : (T j).2.2.2 = false) (hd : parseFieldDescriptor (T j).2.2.1 = some .int) {v : Int32} (hset : ∀ f, (F f).set j (.int v) = F (upd f j v)) (hl : j < (F (S k)).length) (hdg : decode cc pc = .ok (.putfield index, 3))
    (kk : ∀ (H : Heap) (locs : List Loc), qw_P D r c g (up2 S k j v) H → va_S (qw_A r) H0 H locs → W p l e R s m args below meth c0 H locs cells slots Q (F0 m (pc + 3) ls rest)) : W p l e R s m args below meth c0 H locs cells slots Q (F0 m pc ls (.int v :: .ref (r k) :: rest)) := by
  refine va_put (ty := .int) hx hb hts hin ty0 hty hnm hown hK hP (qw_D hr) hS k (qw_at hk (hcell _)) hc j hj hlink (fun _ h => h) hfin hd (vp_nar_int v) rfl hl hdg (fun H1 l1 h1 _ h3 => kk H1 l1 ?_ h3)
  rw [hset, qw_set (hcell _)] at h1
  exact h1
theorem wx_ild (hx : p.tables.exec = Jvm.exec) (hb : c0.code = cc) (hK : qw_K D c s) (hP : qw_P D r c g S H) (k : Nat) (hk : k < 172) {n : Nat} (hcell : ∀ f, qw_cell r c g k f = .inl (c 0, n, .inl f)) {i : Int32} (hin : vp_in i n) (hdg : decode cc pc = .ok (.iaload, 1))
    (kk : W p l e R s m args below meth c0 H locs cells slots Q (F0 m (pc + 1) ls (.int (S k i.toNatClampNeg) :: rest))) : W p l e R s m args below meth c0 H locs cells slots Q (F0 m pc ls (.int i :: .ref (r k) :: rest)) :=
  va_iald hx hb hK hP k 0 (qw_at hk (hcell _)) rfl hin hdg kk
theorem wx_bld (hx : p.tables.exec = Jvm.exec) (hb : c0.code = cc) (hK : qw_K D c s) (hP : qw_P D r c g S H) (k : Nat) (hk : k < 172) {n : Nat} (hcell : ∀ f, qw_cell r c g k f = .inl (c 1, n, .inl f)) {i : Int32} (hin : vp_in i n) (hdg : decode cc pc = .ok (.baload, 1))
    (kk : W p l e R s m args below meth c0 H locs cells slots Q (F0 m (pc + 1) ls (.int (S k i.toNatClampNeg) :: rest))) : W p l e R s m args below meth c0 H locs cells slots Q (F0 m pc ls (.int i :: .ref (r k) :: rest)) :=
  va_bald hx hb hK hP k 1 (qw_at hk (hcell _)) rfl hin hdg kk
theorem wx_ist (hr : qw_inj r) (hx : p.tables.exec = Jvm.exec) (hb : c0.code = cc) (hK : qw_K D c s) (hP : qw_P D r c g S H) (hS : va_S (qw_A r) H0 H locs) (k : Nat) (hk : k < 172) {n : Nat} (hcell : ∀ f, qw_cell r c g k f = .inl (c 0, n, .inl f)) {i x : Int32} (hin : vp_in i n) (hdg : decode cc pc = .ok (.iastore, 1))
    (kk : ∀ (H : Heap) (locs : List Loc), qw_P D r c g (up2 S k i.toNatClampNeg x) H → va_S (qw_A r) H0 H locs → W p l e R s m args below meth c0 H locs cells slots Q (F0 m (pc + 1) ls rest)) : W p l e R s m args below meth c0 H locs cells slots Q (F0 m pc ls (.int x :: .int i :: .ref (r k) :: rest)) := by
  refine va_iast hx hb hK hP (qw_D hr) hS k 0 (qw_at hk (hcell _)) rfl hin hdg (fun H1 l1 h1 _ h3 => kk H1 l1 ?_ h3)
  rw [qw_set (hcell _)] at h1
  exact h1
theorem wx_bst (hr : qw_inj r) (hx : p.tables.exec = Jvm.exec) (hb : c0.code = cc) (hK : qw_K D c s) (hP : qw_P D r c g S H) (hS : va_S (qw_A r) H0 H locs) (k : Nat) (hk : k < 172) {n : Nat} (hcell : ∀ f, qw_cell r c g k f = .inl (c 1, n, .inl f)) {i x : Int32} (hin : vp_in i n) (hdg : decode cc pc = .ok (.bastore, 1))
    (kk : ∀ (H : Heap) (locs : List Loc), qw_P D r c g (up2 S k i.toNatClampNeg (vp_nar .byte x)) H → va_S (qw_A r) H0 H locs → W p l e R s m args below meth c0 H locs cells slots Q (F0 m (pc + 1) ls rest)) : W p l e R s m args below meth c0 H locs cells slots Q (F0 m pc ls (.int x :: .int i :: .ref (r k) :: rest)) := by
  refine va_bast hx hb hK hP (qw_D hr) hS k 1 (qw_at hk (hcell _)) rfl hin hdg (fun H1 l1 h1 _ h3 => kk H1 l1 ?_ h3)
  rw [qw_set (hcell _)] at h1
  exact h1
theorem wx_ald (hx : p.tables.exec = Jvm.exec) (hb : c0.code = cc) (hK : qw_K D c s) (hP : qw_P D r c g S H) (t0 : Nat) {C : String} (ht : (qw_ty c)[t0]? = some (c t0, .object C)) (k : Nat) (hk : k < 172) {n : Nat} {h : Nat → Nat} (hcell : ∀ f, qw_cell r c g k f = .inl (c t0, n, .inr (.inr (.inr (.inr (fun j => some (r (h j)))))))) {i : Int32} (hin : vp_in i n) (hdg : decode cc pc = .ok (.aaload, 1))
    (kk : W p l e R s m args below meth c0 H locs cells slots Q (F0 m (pc + 1) ls (.ref (r (h i.toNatClampNeg)) :: rest))) : W p l e R s m args below meth c0 H locs cells slots Q (F0 m pc ls (.int i :: .ref (r k) :: rest)) :=
  va_aldq hx hb hK hP k t0 (qw_at hk (hcell (S k))) ht hin hdg kk
theorem wx_len (hx : p.tables.exec = Jvm.exec) (hb : c0.code = cc) (hK : qw_K D c s) (hP : qw_P D r c g S H) (t0 : Nat) {ty : FieldType} (ht : (qw_ty c)[t0]? = some (c t0, ty)) (k : Nat) (hk : k < 172) {x : vp_A} (hcell : qw_cell r c g k (S k) = .inl (c t0, x)) {v : Int32} (hv : Int32.ofNat x.1 = v) (hdg : decode cc pc = .ok (.arraylength, 1))
    (kk : W p l e R s m args below meth c0 H locs cells slots Q (F0 m (pc + 1) ls (.int v :: rest))) : W p l e R s m args below meth c0 H locs cells slots Q (F0 m pc ls (.ref (r k) :: rest)) :=
  va_alen hx hb hK hP k t0 (qw_at hk hcell) ht hv hdg kk
-- contracts: what is asked, what comes back
abbrev qw_X (D : va_G) (r : Nat → Nat) (c : Nat → ClassId) (g : Nat → Int64) (S : qw_St) (U : State) : Prop := qw_P D r c g S U.heap ∧ qw_K D c U
abbrev qw_Qi (D : va_G) (r : Nat → Nat) (c : Nat → ClassId) (g : Nat → Int64) (x : Int32) (S' : qw_St) : Array Value → State → Outcome → State → Prop := va_Qi (fun a u => a = x ∧ u = S') (qw_X D r c g) (qw_A r)
abbrev qw_Qv (D : va_G) (r : Nat → Nat) (c : Nat → ClassId) (g : Nat → Int64) (S' : qw_St) : Array Value → State → Outcome → State → Prop := va_Qv (fun u => u = S') (qw_X D r c g) (qw_A r)
/-- an int (or a boolean) comes back -/
abbrev MI (l : Launch) (D : va_G) (r : Nat → Nat) (c : Nat → ClassId) (g : Nat → Int64) (y : MethodName) (ws : List Cond) (rm : Room) (av : List Value) (S : qw_St) (x : Int32) (S' : qw_St) : Prop := Met l y ws rm (va_Pc av (qw_X D r c g S)) (qw_Qi D r c g x S') 0 0 (qw_A r)
/-- nothing comes back -/
abbrev MV (l : Launch) (D : va_G) (r : Nat → Nat) (c : Nat → ClassId) (g : Nat → Int64) (y : MethodName) (ws : List Cond) (rm : Room) (av : List Value) (S : qw_St) (S' : qw_St) : Prop := Met l y ws rm (va_Pc av (qw_X D r c g S)) (qw_Qv D r c g S') 0 0 (qw_A r)
theorem wx_of {y : MethodName} {ws ws' : List Cond} {rm : Room} {av : List Value} {nL : Nat} {ret : Option FieldType} {Qc : Array Value → State → Outcome → State → Prop} {lvs : List (Nat × Value)} (hy : plainName y.cls = true) (hw : ws = Cond.code y cc nL ret :: ws') (hlv : lv_args 0 av = lvs) (hle : (lg_sl av).length ≤ nL)
    (body : ∀ (p : Program) (e : Env) (s : State) (m : MethodId) (below : List Frame) (meth : Method) (c0 : Code) (ls : Array Slot), p.tables.exec = Jvm.exec → c0.code = cc → meth.sig.returnType = ret → c0.maxLocals = nL → (∀ w ∈ ws, w.before av.toArray s = true) → s.vm.findClass y.cls = some m.cls → meth.locks = false → qw_K D c s → qw_P D r c g S s.heap → va_S (qw_A r) s.heap s.heap [] → lv_has ls nL lvs →
      W p l e rm s m av.toArray below meth c0 s.heap [] 0 0 (MQ below Qc av.toArray s 0 0 (qw_A r)) (F0 m 0 ls [])) : Met l y ws rm (va_Pc av (qw_X D r c g S)) Qc 0 0 (qw_A r) := by
  refine Met.ofW (cc := cc) (maxL := nL) (ret := ret) hy hw ?_
  intro p e s m args below meth c0 s₁ B hml hv
  obtain ⟨rfl, hP, hK⟩ := hv
  have hts := atoms_spec (ws := ws) B.pre
  have hl := lv_entry av (n := nL) hle
  rw [lg_entry_eq]
  rw [hlv] at hl
  exact body p e s m below meth c0 _ B.exec B.bytes B.returns hml hts (findClass_of_methodNamed B.named) B.notSynchronized hK hP va_S.rf hl
theorem wx_iret (hx : p.tables.exec = Jvm.exec) (hb : c0.code = cc) (hr : meth.sig.returnType = some .int) (hlocks : meth.locks = false) (hK : qw_K D c s) (hP : qw_P D r c g S H) (hS : va_S (qw_A r) s.heap H locs) {v x : Int32} {S' : qw_St} (hv : v = x) (hu : S = S') (hdg : decode cc pc = .ok (.ireturn, 1)) :
    W p l e R s m args below meth c0 H locs cells slots (MQ below (qw_Qi D r c g x S') args s cells slots (qw_A r)) (F0 m pc ls [.int v]) :=
  W.iret hx hb hr (fun t ht hW => ⟨⟨v, S, rfl, ⟨hv, hu⟩, by rw [ht]; exact hP, va_K.moved hW.alike hK⟩, hS.F ht⟩) hS.2.2 hdg hlocks
theorem wx_zret {ty : FieldType} (hx : p.tables.exec = Jvm.exec) (hb : c0.code = cc) (hr : meth.sig.returnType = some ty) (hlocks : meth.locks = false) (hK : qw_K D c s) (hP : qw_P D r c g S H) (hS : va_S (qw_A r) s.heap H locs) {v x : Int32} {S' : qw_St} (hn : narrow ty (.int v) = .int v) (hv : v = x) (hu : S = S') (hdg : decode cc pc = .ok (.ireturn, 1)) :
    W p l e R s m args below meth c0 H locs cells slots (MQ below (qw_Qi D r c g x S') args s cells slots (qw_A r)) (F0 m pc ls [.int v]) :=
  W.zret hx hb hr hn (fun t ht hW => ⟨⟨v, S, rfl, ⟨hv, hu⟩, by rw [ht]; exact hP, va_K.moved hW.alike hK⟩, hS.F ht⟩) hS.2.2 hdg hlocks
theorem wx_vret (hx : p.tables.exec = Jvm.exec) (hb : c0.code = cc) (hr : meth.sig.returnType = none) (hlocks : meth.locks = false) (hK : qw_K D c s) (hP : qw_P D r c g S H) (hS : va_S (qw_A r) s.heap H locs) {S' : qw_St} (hu : S = S') (hdg : decode cc pc = .ok (.return_, 1)) :
    W p l e R s m args below meth c0 H locs cells slots (MQ below (qw_Qv D r c g S') args s cells slots (qw_A r)) (F0 m pc ls []) :=
  W.vret hx hb hr (fun t ht hW => ⟨⟨S, rfl, hu, by rw [ht]; exact hP, va_K.moved hW.alike hK⟩, hS.F ht⟩) hS.2.2 hdg hlocks
theorem wx_blind {S : qw_St} {av : List Value} : FrameBlind (va_Pc av (qw_X D r c g S)) := fun a U gg mk q => by
  obtain ⟨q0, qP, qK⟩ := q
  exact ⟨q0, qP, va_K.moved (u := U) (U := U.calling gg mk a) (Vm.Alike.refl U.vm) qK⟩
theorem wx_pre (hK : qw_K D c s) (hP : qw_P D r c g S H) {av : List Value} : ∀ U : State, U.heap = H → s.WarmedH U.vm → va_Pc av (qw_X D r c g S) av.toArray U := fun U hU hW => ⟨rfl, by rw [hU]; exact hP, va_K.moved hW.alike hK⟩
theorem wx_recv (hK : qw_K D c s) (hP : qw_P D r c g S H) {ci k : Nat} {q : vw_C} {F : (Nat → Int32) → List Value} (hk : k < 172) (hcell : ∀ f, qw_cell r c g k f = .inr (ci, F f)) (hc : vwCl[ci]? = some q) : ∃ cell : Cell, H[r k]? = some cell ∧ cell.vm.isStatics = false ∧ s.vm.findClass q.1 = some cell.cls :=
  va_recv hK hP hc (qw_at hk (hcell (S k)))
variable {st0 : List Value} {A0 : Nat → Prop} {rm : Room} {ws : List Cond} {y : MethodName} {bytes : ByteArray} {maxL nL n index : Nat} {ret : Option FieldType} {Ts : List Cond} {own C : String} {As : List Value} {x : Int32} {S' : qw_St}
/-- a call of an object's method that answers an int -/
theorem wc_iV {k : Nat} (CF : CallFix p m c0 cc nL s args Ts own) (hM : MI l D r c g y ws rm (.ref (r k) :: As) S x S') (cw : CallW R s args own C index y bytes maxL ret ws rm 0 0 n) (hrec : ∃ cell : Cell, H[r k]? = some cell ∧ cell.vm.isStatics = false ∧ s.vm.findClass C = some cell.cls) (hK : qw_K D c s) (hP : qw_P D r c g S H) (hS : va_S A0 H0 H locs) (hA : ∀ q, qw_A r q → A0 q)
    (hn : As.length = n) (hsize : ls.size = nL) (hstack : st0 = As.reverse ++ .ref (r k) :: rest) (hW : 2 * (F0 m pc ls st0).monitorRoom + (rest.map fun v => v.category).sum ≤ 8) (hdg : decode cc pc = .ok (.invokevirtual index, 3)) (hf : cells ≤ R.cells ∧ slots ≤ R.slots)
    (kk : ∀ (H : Heap) (locs : List Loc), qw_P D r c g S' H → va_S A0 H0 H locs → W p l e R s m args below meth c0 H locs cells slots Q (F0 m (pc + 3) ls (.int x :: rest))) : W p l e R s m args below meth c0 H locs cells slots Q (F0 m pc ls st0) := by
  refine va_calli (va_runV (As := As) (rest := rest) (b := r k) CF hM cw ⟨wx_blind, hrec, wx_pre hK hP⟩ rfl hn hsize hstack hW hdg hf) hS (fun q _ h => hA q h) hA (fun a u t H1 l1 ht hvm hw hB _ _ hS1 => ?_)
  obtain ⟨rfl, rfl⟩ := hw
  exact kk H1 l1 (by rw [← ht]; exact hB.1) hS1
theorem wc_vV {k : Nat} (CF : CallFix p m c0 cc nL s args Ts own) (hM : MV l D r c g y ws rm (.ref (r k) :: As) S S') (cw : CallW R s args own C index y bytes maxL ret ws rm 0 0 n) (hrec : ∃ cell : Cell, H[r k]? = some cell ∧ cell.vm.isStatics = false ∧ s.vm.findClass C = some cell.cls) (hK : qw_K D c s) (hP : qw_P D r c g S H) (hS : va_S A0 H0 H locs) (hA : ∀ q, qw_A r q → A0 q)
    (hn : As.length = n) (hsize : ls.size = nL) (hstack : st0 = As.reverse ++ .ref (r k) :: rest) (hW : 2 * (F0 m pc ls st0).monitorRoom + (rest.map fun v => v.category).sum ≤ 8) (hdg : decode cc pc = .ok (.invokevirtual index, 3)) (hf : cells ≤ R.cells ∧ slots ≤ R.slots)
    (kk : ∀ (H : Heap) (locs : List Loc), qw_P D r c g S' H → va_S A0 H0 H locs → W p l e R s m args below meth c0 H locs cells slots Q (F0 m (pc + 3) ls rest)) : W p l e R s m args below meth c0 H locs cells slots Q (F0 m pc ls st0) := by
  refine va_callv (va_runV (As := As) (rest := rest) (b := r k) CF hM cw ⟨wx_blind, hrec, wx_pre hK hP⟩ rfl hn hsize hstack hW hdg hf) hS (fun q _ h => hA q h) hA (fun u t H1 l1 ht hvm hw hB _ _ hS1 => ?_)
  subst hw
  exact kk H1 l1 (by rw [← ht]; exact hB.1) hS1
theorem wc_iS (CF : CallFix p m c0 cc nL s args Ts own) (hM : MI l D r c g y ws rm As S x S') (cw : CallB R s args own index y bytes maxL ret ws rm 0 0 n ∧ (Cond.static y).before args s = true) (hK : qw_K D c s) (hP : qw_P D r c g S H) (hS : va_S A0 H0 H locs) (hA : ∀ q, qw_A r q → A0 q)
    (hn : As.length = n) (hsize : ls.size = nL) (hstack : st0 = As.reverse ++ rest) (hW : 2 * (F0 m pc ls st0).monitorRoom + (rest.map fun v => v.category).sum ≤ 8) (hdg : decode cc pc = .ok (.invokestatic index, 3)) (hf : cells ≤ R.cells ∧ slots ≤ R.slots)
    (kk : ∀ (H : Heap) (locs : List Loc), qw_P D r c g S' H → va_S A0 H0 H locs → W p l e R s m args below meth c0 H locs cells slots Q (F0 m (pc + 3) ls (.int x :: rest))) : W p l e R s m args below meth c0 H locs cells slots Q (F0 m pc ls st0) := by
  refine va_calli (va_runS (As := As) (rest := rest) CF hM cw ⟨wx_blind, wx_pre hK hP⟩ rfl hn hsize hstack hW hdg hf) hS (fun q _ h => hA q h) hA (fun a u t H1 l1 ht hvm hw hB _ _ hS1 => ?_)
  obtain ⟨rfl, rfl⟩ := hw
  exact kk H1 l1 (by rw [← ht]; exact hB.1) hS1
end QR
