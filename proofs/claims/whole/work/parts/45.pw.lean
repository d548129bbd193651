/-! A WORLD THAT GROWS: n cells from the address b on, one behind the other; cf says what each is -/
def PW (b n : Nat) (cf : Nat → va_E) : va_W := (List.range n).map (fun k => (b + k, cf k))
abbrev px_A (b : Nat) : Nat → Prop := fun q => b ≤ q
theorem PW_at {b n k : Nat} {cf : Nat → va_E} {e : va_E} (hk : k < n) (h : cf k = e) : (PW b n cf)[k]? = some (b + k, e) := by
  subst h
  simp [PW, hk]
theorem PW_set {b n k : Nat} {cf : Nat → va_E} {e : va_E} : (PW b n cf).set k (b + k, e) = PW b n (va_up cf k e) := by
  apply List.ext_getElem?
  intro i
  by_cases hi : i = k
  · subst hi
    by_cases hb : i < n
    · simp [PW, hb, va_up]
    · simp [PW, hb]
  · rw [List.getElem?_set_ne (fun h => hi h.symm)]
    by_cases hb : i < n
    · simp [PW, va_up, hi, hb]
    · simp [PW, hb]
theorem PW_push {b n : Nat} {cf : Nat → va_E} {e : va_E} : PW b n cf ++ [(b + n, e)] = PW b (n + 1) (va_up cf n e) := by
  unfold PW
  rw [List.range_succ, List.map_append]
  congr 1
  · apply List.map_congr_left
    intro k hk
    rw [List.mem_range] at hk
    rw [va_up_ne _ _ (by omega)]
  · simp [va_up]
theorem PW_D {b n : Nat} {cf : Nat → va_E} : va_D (px_A b) (PW b n cf) := by
  refine ⟨fun i j p q hp hq e => ?_, fun k q hk => ?_⟩
  · simp only [PW, List.getElem?_map] at hp hq
    by_cases hi : i < n
    · by_cases hj : j < n
      · simp [hi] at hp
        simp [hj] at hq
        subst hp; subst hq
        simp at e; exact e
      · simp [hj] at hq
    · simp [hi] at hp
  · simp only [PW, List.getElem?_map] at hk
    by_cases hi : k < n
    · simp [hi] at hk
      subst hk
      show b ≤ b + k
      omega
    · simp [hi] at hk
def px_H (D : va_G) (b n : Nat) (cf : Nat → va_E) (H : Heap) : Prop := va_P D vwCl (PW b n cf) H ∧ H.size = b + n
section PX
variable {p : Program} {l : Launch} {e : Env} {R : Room} {s : State} {m : MethodId} {args : Array Value} {below : List Frame} {meth : Method} {c0 : Code} {H : Heap} {locs : List Loc} {cells slots : Nat} {Q : State → Prop}
variable {cc : ByteArray} {pc : Nat} {ls : Array Slot} {rest : List Value} {D : va_G} {H0 : Heap} {b n : Nat} {c : Nat → ClassId} {cf : Nat → va_E}
theorem px_new (hx : p.tables.exec = Jvm.exec) (hb : c0.code = cc) {own C : String} {T : u_T} {N ci index : Nat} {Ts : List Cond} (hts : ∀ w ∈ Ts, w.before args s = true) (hin : ∀ w ∈ u_ws C T N, w ∈ Ts) (ty : Nat → FieldType) (hty : ∀ k, k < N → parseFieldDescriptor (T k).2.2.1 = some (ty k)) (hown : s.vm.findClass own = some m.cls) (hcl : (Cond.classLink own index C).before args s = true) (hinst : (Cond.instantiable C N).before args s = true) (hini : (Cond.initialized C).before args s = true)
    (hK : qw_K D c s) (hP : px_H D b n cf H) (hS : va_S (px_A b) H0 H locs) (hc : vwCl[ci]? = some (C, T, N)) {fs : List Value} (hfs : ∀ j, j < N → defaultValue (ty j) = vp_V fs j) (hcells : cells + 1 ≤ R.cells) (hslots : slots + N ≤ R.slots) (hdg : decode cc pc = .ok (.new index, 3))
    (kk : ∀ (H : Heap), px_H D b (n + 1) (va_up cf n (.inr (ci, fs))) H → va_S (px_A b) H0 H locs → W p l e R s m args below meth c0 H locs (cells + 1) (slots + N) Q (F0 m (pc + 3) ls (.ref (b + n) :: rest))) : W p l e R s m args below meth c0 H locs cells slots Q (F0 m pc ls rest) := by
  have hKn := hK.1 ci _ hc
  refine W.newcK hx hb hown hcl hinst hini rfl hdg hcells hslots hKn.2.1 hP.2 fun H1 kC hkC e1 z1 o1 => ?_
  have hk : ∀ (k : Nat) (x : Nat × va_E), (PW b n cf)[k]? = some x → H1[x.1]? = H[x.1]? := fun k x hx => o1 x.1 (by have := (hP.1 k x hx).lt; rw [hP.2] at this; exact this)
  refine kk H1 ⟨?_, by rw [z1]; omega⟩ ⟨Nat.le_trans hS.1 (by rw [hP.2, z1]; omega), fun x h1 h2 => (o1 x (by have := hS.1; rw [hP.2] at this; omega)).trans (hS.2.1 x h1 h2), hS.2.2⟩
  rw [← PW_push]
  refine (hP.1.kept hk).app (fun k x hx => ?_)
  have hz : k < 1 := (List.getElem?_eq_some_iff.mp hx).1
  rw [show k = 0 by omega] at hx
  cases hx
  exact ⟨_, hc, (u_born ty hts hin hKn hkC e1 hty).to hfs⟩
theorem px_newa (hx : p.tables.exec = Jvm.exec) (hb : c0.code = cc) {atype : ArrayType} (harr : (Cond.arrayClass (newarray.typeOf atype)).before args s = true) {ty : FieldType} (hty : newarray.typeOf atype = ty) (hK : qw_K D c s) (hP : px_H D b n cf H) (hS : va_S (px_A b) H0 H locs) (t0 : Nat) (ht : (qw_ty c)[t0]? = some (c t0, ty)) (hnm : va_RA s (c t0) ty → s.vm.findClass ("[" ++ ty.toString) = some (c t0))
    {i : Int32} {N' : Nat} {a0 : vp_A} (ha : ∀ cA : ClassId, vp_cell cA a0 = arrV cA N' (fun _ => defaultValue ty)) (hn : ¬ i < 0) (hN : i.toNatClampNeg = N') (hbytes : N' * componentBytes ty ≤ 536870912) (hcells : cells + 1 ≤ R.cells) (hslots : slots + N' ≤ R.slots) (hdg : decode cc pc = .ok (.newarray atype, 2))
    (kk : ∀ (H : Heap), px_H D b (n + 1) (va_up cf n (.inl (c t0, a0))) H → va_S (px_A b) H0 H locs → W p l e R s m args below meth c0 H locs (cells + 1) (slots + N') Q (F0 m (pc + 2) ls (.ref (b + n) :: rest))) : W p l e R s m args below meth c0 H locs cells slots Q (F0 m pc ls (.int i :: rest)) := by
  subst hty
  refine va_newaK hx hb harr rfl hdg rfl hn hN hbytes hcells hslots hP.2 fun H1 cA e1 z1 o1 hAr hNm => ?_
  have hcA : cA = c t0 := Option.some.inj (hNm.symm.trans (hnm (hK.2 t0 _ ht).2))
  subst hcA
  have hk : ∀ (k : Nat) (x : Nat × va_E), (PW b n cf)[k]? = some x → H1[x.1]? = H[x.1]? := fun k x hx => o1 x.1 (by have := (hP.1 k x hx).lt; rw [hP.2] at this; exact this)
  refine kk H1 ⟨?_, by rw [z1]; omega⟩ ⟨Nat.le_trans hS.1 (by rw [hP.2, z1]; omega), fun x h1 h2 => (o1 x (by have := hS.1; rw [hP.2] at this; omega)).trans (hS.2.1 x h1 h2), hS.2.2⟩
  rw [← PW_push]
  refine (hP.1.kept hk).app (fun k x hx => ?_)
  have hz : k < 1 := (List.getElem?_eq_some_iff.mp hx).1
  rw [show k = 0 by omega] at hx
  cases hx
  show H1[b + n]? = some (vp_cell _ _)
  rw [ha]
  exact e1
theorem px_newq (hx : p.tables.exec = Jvm.exec) (hb : c0.code = cc) {own C : String} {index : Nat} (hown : s.vm.findClass own = some m.cls) (hclink : (Cond.classLink own index C).before args s = true) (hover : (Cond.arrayOver (.object C)).before args s = true) (hK : qw_K D c s) (hP : px_H D b n cf H) (hS : va_S (px_A b) H0 H locs) (t0 : Nat) (ht : (qw_ty c)[t0]? = some (c t0, .object C))
    {i : Int32} {N' : Nat} (hn : ¬ i < 0) (hN : i.toNatClampNeg = N') (hbytes : N' * 4 ≤ 536870912) (hcells : cells + 1 ≤ R.cells) (hslots : slots + N' ≤ R.slots) (hdg : decode cc pc = .ok (.anewarray index, 3))
    (kk : ∀ (H : Heap), px_H D b (n + 1) (va_up cf n (.inl (c t0, N', .inr (.inr (.inr (.inr (fun _ => none))))))) H → va_S (px_A b) H0 H locs → W p l e R s m args below meth c0 H locs (cells + 1) (slots + N') Q (F0 m (pc + 3) ls (.ref (b + n) :: rest))) : W p l e R s m args below meth c0 H locs cells slots Q (F0 m pc ls (.int i :: rest)) := by
  subst hN
  refine W.anew hx hb hown hclink hover rfl hdg rfl hn hbytes hcells hslots fun cA kA comp f1 f2 f3 f4 => ?_
  obtain ⟨kA', comp', g1, g2, g3, g4⟩ := (hK.2 t0 _ ht).2
  have hcA : cA = c t0 := Option.some.inj (f1.symm.trans g4)
  subst hcA
  generalize hH1 : H.push ({ cls := c t0, slots := Array.replicate i.toNatClampNeg .null, vm := .none } : Cell) = H1
  have z1 : H1.size = H.size + 1 := by rw [← hH1, Array.size_push]
  have e1 : H1[H.size]? = some (arrV (c t0) i.toNatClampNeg (fun _ => .null)) := by rw [← hH1, Array.getElem?_push_size, ← arrV_new]
  have o1 : ∀ q : Nat, q < H.size → H1[q]? = H[q]? := fun q hq => by rw [← hH1, Array.getElem?_push, if_neg (Nat.ne_of_lt hq)]
  have hk : ∀ (k : Nat) (x : Nat × va_E), (PW b n cf)[k]? = some x → H1[x.1]? = H[x.1]? := fun k x hx => o1 x.1 ((hP.1 k x hx).lt)
  have hgo := kk H1 ⟨by
    rw [← PW_push]
    refine (hP.1.kept hk).app (fun k x hx => ?_)
    have hz : k < 1 := (List.getElem?_eq_some_iff.mp hx).1
    rw [show k = 0 by omega] at hx
    cases hx
    show H1[b + n]? = some (vp_cell _ _)
    rw [← hP.2, e1]
    rfl, by rw [z1, hP.2]; omega⟩ ⟨Nat.le_trans hS.1 (by rw [z1]; omega), fun x h1 h2 => (o1 x (Nat.lt_of_lt_of_le h1 hS.1)).trans (hS.2.1 x h1 h2), hS.2.2⟩
  rw [← hP.2] at hgo
  exact hgo
/-- a field is written (final: in its constructor) -/
theorem px_put (hx : p.tables.exec = Jvm.exec) (hb : c0.code = cc) {own C : String} {T : u_T} {N ci index : Nat} {Ts : List Cond} (hts : ∀ w ∈ Ts, w.before args s = true) (hin : ∀ w ∈ u_ws C T N, w ∈ Ts) (ty0 : Nat → FieldType) (hty : ∀ k, k < N → parseFieldDescriptor (T k).2.2.1 = some (ty0 k)) (hnm : ∀ a, a < N → ∀ b, b < N → a ≠ b → (T a).2.1 ≠ (T b).2.1) (hown : s.vm.findClass own = some m.cls) (hK : qw_K D c s) (hP : px_H D b n cf H) (hS0 : va_S (px_A b) H0 H locs) (q0 : Nat) (hq : q0 < n) {fs : List Value} (he : cf q0 = .inr (ci, fs)) (hc : vwCl[ci]? = some (C, T, N)) (k : Nat) (hk : k < N) (hlink : (Cond.fieldLink own index (T k).1 (T k).2.1 (T k).2.2.1).before args s = true) (hfin : (T k).2.2.2 = false) {ty : FieldType} {v : Value} (hd : parseFieldDescriptor (T k).2.2.1 = some ty) (hn : narrow ty v = v) (hfit : fits ty v = true) (hl : k < fs.length)
    (hdg : decode cc pc = .ok (.putfield index, 3)) (kk : ∀ (H : Heap) (locs : List Loc), px_H D b n (va_up cf q0 (.inr (ci, fs.set k v))) H → va_S (px_A b) H0 H locs → W p l e R s m args below meth c0 H locs cells slots Q (F0 m (pc + 3) ls rest)) : W p l e R s m args below meth c0 H locs cells slots Q (F0 m pc ls (v :: .ref (b + q0) :: rest)) := by
  have he' := PW_at (b := b) hq he
  have hap := va_apart (own := own) hts hin ty0 hty hnm hK hc
  obtain ⟨r, h1, cell, q1, q2, q3, q4⟩ := hP.1 q0 _ he'
  have hr : r = (C, T, N) := Option.some.inj (h1.symm.trans hc)
  subst hr
  obtain ⟨hS, hfc, kC, hkC, hkind⟩ := hK.1 ci _ hc
  obtain ⟨cfd, kf, fi, f, hi, hsl⟩ := hS k hk
  have hlay := hts _ (hin _ (u_in_lay hk))
  unfold u_lay at hlay
  rw [if_neg (by rw [hfin]; decide)] at hlay
  have hst := (u_facts hfc hkC (u_lays hts hin hk) hi).1
  have h6 := u_store hfc hkC hkind hlay hi hd hn hfit
  refine W.putK hx hb (f := f) ⟨hown, hlink, ⟨_, _, _, hi⟩, hst⟩ (by rw [q2]; exact h6) q1 q3 (by rw [hsl]; exact k2_hasslot (q4 k hk)) rfl rfl hdg fun H' e1 e2 e3 => ?_
  rw [hsl] at e1 ⊢
  refine kk H' _ ⟨?_, by rw [e2]; exact hP.2⟩ (hS0.put e2 e3 (PW_D.2 q0 _ he'))
  rw [← PW_set]
  exact hP.1.set PW_D he' ⟨_, hc, t_OB.to (V := updV (vp_V fs) k v) ⟨_, e1, q2, q3, t_set q4 hap hk v⟩ (fun j _ => vp_updV_set hl v j)⟩ e3
theorem px_putF (hx : p.tables.exec = Jvm.exec) (hb : c0.code = cc) {own C : String} {T : u_T} {N ci index : Nat} {Ts : List Cond} (hts : ∀ w ∈ Ts, w.before args s = true) (hin : ∀ w ∈ u_ws C T N, w ∈ Ts) (ty0 : Nat → FieldType) (hty : ∀ k, k < N → parseFieldDescriptor (T k).2.2.1 = some (ty0 k)) (hnm : ∀ a, a < N → ∀ b, b < N → a ≠ b → (T a).2.1 ≠ (T b).2.1) (hown : s.vm.findClass own = some m.cls) (hK : qw_K D c s) (hP : px_H D b n cf H) (hS0 : va_S (px_A b) H0 H locs) (q0 : Nat) (hq : q0 < n) {fs : List Value} (he : cf q0 = .inr (ci, fs)) (hc : vwCl[ci]? = some (C, T, N)) (k : Nat) (hk : k < N) (hlink : (Cond.fieldLink own index (T k).1 (T k).2.1 (T k).2.2.1).before args s = true) (hfin : (T k).2.2.2 = true) (hin2 : meth.name = "<init>") (hdecl : (T k).1 = own) {ty : FieldType} {v : Value} (hd : parseFieldDescriptor (T k).2.2.1 = some ty) (hn : narrow ty v = v) (hfit : fits ty v = true) (hl : k < fs.length)
    (hdg : decode cc pc = .ok (.putfield index, 3)) (kk : ∀ (H : Heap) (locs : List Loc), px_H D b n (va_up cf q0 (.inr (ci, fs.set k v))) H → va_S (px_A b) H0 H locs → W p l e R s m args below meth c0 H locs cells slots Q (F0 m (pc + 3) ls rest)) : W p l e R s m args below meth c0 H locs cells slots Q (F0 m pc ls (v :: .ref (b + q0) :: rest)) := by
  have he' := PW_at (b := b) hq he
  have hap := va_apart (own := own) hts hin ty0 hty hnm hK hc
  obtain ⟨r, h1, cell, q1, q2, q3, q4⟩ := hP.1 q0 _ he'
  have hr : r = (C, T, N) := Option.some.inj (h1.symm.trans hc)
  subst hr
  obtain ⟨hS, hfc, kC, hkC, hkind⟩ := hK.1 ci _ hc
  obtain ⟨cfd, kf, fi, f, hi, hsl⟩ := hS k hk
  have hlay := hts _ (hin _ (u_in_lay hk))
  unfold u_lay at hlay
  rw [if_pos hfin] at hlay
  have hst := (u_facts hfc hkC (u_lays hts hin hk) hi).1
  have hcf : m.cls = cfd := by
    obtain ⟨_, _, c', _, _, _, -, -, hf', -, -, -, hown2, -⟩ := Cond.laysFinal_spec hlay
    have e1 : c' = cfd := by have := hi.symm.trans hf'; simp at this; exact this.1.symm
    rw [hdecl] at hown2
    rw [← e1]; exact Option.some.inj (hown.symm.trans hown2)
  have h6 := u_fits hfc hkC hkind (Or.inr hlay) hi hd hn hfit
  refine W.putFinK hx hb hown hlink hi hst hcf hin2 (by rw [q2]; exact h6) q1 q3 (by rw [hsl]; exact k2_hasslot (q4 k hk)) rfl rfl hdg fun H' e1 e2 e3 => ?_
  rw [hsl] at e1 ⊢
  refine kk H' _ ⟨?_, by rw [e2]; exact hP.2⟩ (hS0.put e2 e3 (PW_D.2 q0 _ he'))
  rw [← PW_set]
  exact hP.1.set PW_D he' ⟨_, hc, t_OB.to (V := updV (vp_V fs) k v) ⟨_, e1, q2, q3, t_set q4 hap hk v⟩ (fun j _ => vp_updV_set hl v j)⟩ e3
theorem px_ist (hx : p.tables.exec = Jvm.exec) (hb : c0.code = cc) (hK : qw_K D c s) (hP : px_H D b n cf H) (hS : va_S (px_A b) H0 H locs) (q0 : Nat) (hq : q0 < n) {N : Nat} {f : Nat → Int32} (ha : cf q0 = .inl (c 0, N, .inl f)) {i x : Int32} (hin : vp_in i N) (hdg : decode cc pc = .ok (.iastore, 1))
    (kk : ∀ (H : Heap) (locs : List Loc), px_H D b n (va_up cf q0 (.inl (c 0, N, .inl (upd f i.toNatClampNeg x)))) H → va_S (px_A b) H0 H locs → W p l e R s m args below meth c0 H locs cells slots Q (F0 m (pc + 1) ls rest)) : W p l e R s m args below meth c0 H locs cells slots Q (F0 m pc ls (.int x :: .int i :: .ref (b + q0) :: rest)) := by
  have ha' := PW_at (b := b) hq ha
  refine W.iast hx hb (hP.1 q0 _ ha') ((hK.2 0 _ rfl).1 N (fun j => .int (f j))) (fun q => by cases q) (by show ¬ (i < 0 ∨ (arrV _ _ _).slots.size ≤ _); rw [arrV_size]; exact hin) rfl rfl hdg fun H1 e z oq => ?_
  refine kk H1 _ ⟨?_, by rw [z]; exact hP.2⟩ (hS.put z oq (PW_D.2 q0 _ ha'))
  rw [← PW_set]
  refine hP.1.set PW_D ha' ?_ oq
  show H1[b + q0]? = some (vp_cell _ _)
  rw [e]
  rw [vp_cell_i, vp_cell_i, arrV_store]
  congr 2
  funext q
  by_cases hq : q = i.toNatClampNeg
  · subst hq
    simp [updV, upd]
  · simp [updV, upd, hq]
theorem px_ast (hx : p.tables.exec = Jvm.exec) (hb : c0.code = cc) (hK : qw_K D c s) (hP : px_H D b n cf H) (hS : va_S (px_A b) H0 H locs) (q0 t0 qk ci : Nat) (hq : q0 < n) (hqk : qk < n) {r : vw_C} {N : Nat} {vs : List Value} {f : Nat → Option Nat} (ha : cf q0 = .inl (c t0, N, .inr (.inr (.inr (.inr f))))) (ht : (qw_ty c)[t0]? = some (c t0, .object r.1)) (hv : cf qk = .inr (ci, vs)) (hc : vwCl[ci]? = some r) {i : Int32} (hin : vp_in i N) (hdg : decode cc pc = .ok (.aastore, 1))
    (kk : ∀ (H : Heap) (locs : List Loc), px_H D b n (va_up cf q0 (.inl (c t0, N, .inr (.inr (.inr (.inr (va_up f i.toNatClampNeg (some (b + qk)))))))) ) H → va_S (px_A b) H0 H locs → W p l e R s m args below meth c0 H locs cells slots Q (F0 m (pc + 1) ls rest)) : W p l e R s m args below meth c0 H locs cells slots Q (F0 m pc ls (.ref (b + qk) :: .int i :: .ref (b + q0) :: rest)) := by
  have ha' := PW_at (b := b) hq ha
  have hlt : i.toNatClampNeg < N := Nat.not_le.mp fun q => hin (Or.inr q)
  have h0 : ¬ i < 0 := fun q => hin (Or.inl q)
  obtain ⟨r', hr', cellV, g1, g2, g3, -⟩ := hP.1 qk _ (PW_at (b := b) hqk hv)
  have hcls := (hK.1 ci r hc).2
  obtain ⟨kA, comp, k1, k2, k3, -⟩ := (hK.2 t0 _ ht).2
  have hcomp : comp = D.1 ci := Option.some.inj (k3.symm.trans hcls.1)
  subst hcomp
  obtain ⟨kC, hkC, -⟩ := hcls.2
  refine W.aast hx hb (hP.1 q0 _ ha') (fun q h => by cases h) (fun h => by cases h) k1 k2 rfl hkC ⟨h0, by show _ < (arrV _ _ _).slots.size; rw [arrV_size]; exact hlt⟩ g1 (fun q h => by rw [g3] at h; cases h) (by rw [g2]; exact hkC) (by rw [g2]; exact va_assign hcls) rfl rfl hdg fun H1 e z oq => ?_
  refine kk H1 _ ⟨?_, by rw [z]; exact hP.2⟩ (hS.put z oq (PW_D.2 q0 _ ha'))
  rw [← PW_set]
  refine hP.1.set PW_D ha' ?_ oq
  show H1[b + q0]? = some (vp_cell _ _)
  rw [e]
  rw [vp_cell_q, vp_cell_q, arrV_store]
  congr 2
  funext q
  by_cases hq : q = i.toNatClampNeg
  · subst hq
    simp [updV, va_up, va_rf]
  · simp [updV, va_up, hq]
theorem px_get (hx : p.tables.exec = Jvm.exec) (hb : c0.code = cc) {own C : String} {T : u_T} {N ci index : Nat} {Ts : List Cond} (hts : ∀ w ∈ Ts, w.before args s = true) (hin : ∀ w ∈ u_ws C T N, w ∈ Ts) (hown : s.vm.findClass own = some m.cls) (hK : qw_K D c s) (hP : px_H D b n cf H) (k : Nat) (hk : k < n) {fs : List Value} (he : cf k = .inr (ci, fs)) (hc : vwCl[ci]? = some (C, T, N)) (j : Nat) (hj : j < N) (hlink : (Cond.fieldLink own index (T j).1 (T j).2.1 (T j).2.2.1).before args s = true) {v : Value} (hv : fs[j]? = some v) (hdg : decode cc pc = .ok (.getfield index, 3))
    (kk : W p l e R s m args below meth c0 H locs cells slots Q (F0 m (pc + 3) ls (v :: rest))) : W p l e R s m args below meth c0 H locs cells slots Q (F0 m pc ls (.ref (b + k) :: rest)) :=
  va_get hx hb hts hin hown hK hP.1 k (PW_at hk he) hc j hj hlink (fun _ h => h) hv hdg kk
theorem px_len (hx : p.tables.exec = Jvm.exec) (hb : c0.code = cc) (hK : qw_K D c s) (hP : px_H D b n cf H) (t0 : Nat) {ty : FieldType} (ht : (qw_ty c)[t0]? = some (c t0, ty)) (k : Nat) (hk : k < n) {x : vp_A} (hcell : cf k = .inl (c t0, x)) {v : Int32} (hv : Int32.ofNat x.1 = v) (hdg : decode cc pc = .ok (.arraylength, 1))
    (kk : W p l e R s m args below meth c0 H locs cells slots Q (F0 m (pc + 1) ls (.int v :: rest))) : W p l e R s m args below meth c0 H locs cells slots Q (F0 m pc ls (.ref (b + k) :: rest)) :=
  va_alen hx hb hK hP.1 k t0 (PW_at hk hcell) ht hv hdg kk
/-- a constructor's contract: what of the cells holds behind it; E: what it asks of the tables -/
abbrev MCf (l : Launch) (D : va_G) (c : Nat → ClassId) (b : Nat) (y : MethodName) (ws : List Cond) (rm : Room) (av : List Value) (n : Nat) (cf : Nat → va_E) (n' : Nat) (post : (Nat → va_E) → Prop) (E : State → Prop) (mc ms : Nat) : Prop :=
  Met l y ws rm (va_Pc av (fun U => (px_H D b n cf U.heap ∧ qw_K D c U) ∧ E U)) (va_Qv post (fun u U => px_H D b n' u U.heap ∧ qw_K D c U) (px_A b)) mc ms (px_A b)
theorem px_of {y : MethodName} {ws ws' : List Cond} {rm : Room} {av : List Value} {nL mc ms : Nat} {E : State → Prop} {Qc : Array Value → State → Outcome → State → Prop} {lvs : List (Nat × Value)} (hy : plainName y.cls = true) (hyn : y.name = "<init>") (hw : ws = Cond.code y cc nL none :: ws') (hlv : lv_args 0 av = lvs) (hle : (lg_sl av).length ≤ nL)
    (body : ∀ (p : Program) (e : Env) (s : State) (m : MethodId) (below : List Frame) (meth : Method) (c0 : Code) (ls : Array Slot), p.tables.exec = Jvm.exec → c0.code = cc → meth.sig.returnType = none → c0.maxLocals = nL → (∀ w ∈ ws, w.before av.toArray s = true) → s.vm.findClass y.cls = some m.cls → meth.locks = false → meth.name = "<init>" → qw_K D c s → px_H D b n cf s.heap → va_S (px_A b) s.heap s.heap [] → lv_has ls nL lvs → E s →
      W p l e rm s m av.toArray below meth c0 s.heap [] 0 0 (MQ below Qc av.toArray s mc ms (px_A b)) (F0 m 0 ls [])) : Met l y ws rm (va_Pc av (fun U => (px_H D b n cf U.heap ∧ qw_K D c U) ∧ E U)) Qc mc ms (px_A b) := by
  refine Met.ofW (cc := cc) (maxL := nL) (ret := none) hy hw ?_
  intro p e s m args below meth c0 s₁ B hml hv
  obtain ⟨rfl, ⟨hP, hK⟩, hE⟩ := hv
  have hts := atoms_spec (ws := ws) B.pre
  have hl := lv_entry av (n := nL) hle
  rw [lg_entry_eq]
  rw [hlv] at hl
  exact body p e s m below meth c0 _ B.exec B.bytes B.returns hml hts (findClass_of_methodNamed B.named) B.notSynchronized ((name_of_methodNamed B.named B.method).1.trans hyn) hK hP va_S.rf hl hE
theorem px_ret {mc ms n' : Nat} {post : (Nat → va_E) → Prop} (hc : cells ≤ mc) (hs : slots ≤ ms) (hx : p.tables.exec = Jvm.exec) (hb : c0.code = cc) (hr : meth.sig.returnType = none) (hlocks : meth.locks = false) (hK : qw_K D c s) (hP : px_H D b n cf H) (hS : va_S (px_A b) s.heap H locs) (hn : n = n') (hu : post cf) (hdg : decode cc pc = .ok (.return_, 1)) :
    W p l e R s m args below meth c0 H locs cells slots (MQ below (va_Qv post (fun u U => px_H D b n' u U.heap ∧ qw_K D c U) (px_A b)) args s mc ms (px_A b)) (F0 m pc ls []) := by
  subst hn
  exact W.widen hc hs (W.vret hx hb hr (fun t ht hW => ⟨⟨cf, rfl, hu, by rw [ht]; exact hP, va_K.moved hW.alike hK⟩, hS.F ht⟩) hS.2.2 hdg hlocks)
variable {st0 : List Value} {rm : Room} {ws : List Cond} {y : MethodName} {bytes : ByteArray} {maxL nL nn index mc1 ms1 n1 : Nat} {Ts : List Cond} {own : String} {As : List Value} {post : (Nat → va_E) → Prop} {E : State → Prop}
/-- a constructor is called -/
theorem px_init (CF : CallFix p m c0 cc nL s args Ts own) (k : Nat) (hM : MCf l D c b y ws rm (.ref (b + k) :: As) n cf n1 post E mc1 ms1) (hbl : qw_bl E) (hE : ∀ U : State, s.WarmedH U.vm → E U) (cw : CallB R s args own index y bytes maxL none ws rm mc1 ms1 nn ∧ y.name = "<init>" ∧ (Cond.instanceMethod y).before args s = true) (hK : qw_K D c s) (hP : px_H D b n cf H) (hS : va_S (px_A b) H0 H locs)
    (hn : As.length = nn) (hsize : ls.size = nL) (hstack : st0 = As.reverse ++ .ref (b + k) :: rest) (hW : 2 * (F0 m pc ls st0).monitorRoom + (rest.map fun v => v.category).sum ≤ 8) (hdg : decode cc pc = .ok (.invokespecial index, 3)) (hf : cells + mc1 ≤ R.cells ∧ slots + ms1 ≤ R.slots)
    (kk : ∀ (u : Nat → va_E) (H : Heap) (locs : List Loc), post u → px_H D b n1 u H → va_S (px_A b) H0 H locs → W p l e R s m args below meth c0 H locs (cells + mc1) (slots + ms1) Q (F0 m (pc + 3) ls rest)) : W p l e R s m args below meth c0 H locs cells slots Q (F0 m pc ls st0) := by
  refine va_callv (va_runI (As := As) (rest := rest) CF hM cw ⟨fun a U gg mk q => ?_, fun U hU hW => ⟨rfl, ⟨by rw [hU]; exact hP, va_K.moved hW.alike hK⟩, hE U hW⟩⟩ rfl hn hsize hstack hW hdg hf) hS (fun q _ h => h) (fun q h => h) (fun u t H1 l1 ht hvm hw hB _ _ hS1 => ?_)
  · obtain ⟨q0, ⟨qP, qK⟩, qE⟩ := q
    exact ⟨q0, ⟨qP, va_K.moved (u := U) (U := U.calling gg mk a) (Vm.Alike.refl U.vm) qK⟩, hbl _ _ _ _ qE⟩
  · exact kk u H1 l1 hw (by rw [← ht]; exact hB.1) hS1
/-- a nest mate's constructor is called -/
theorem px_initN {host : String} (CF : CallFix p m c0 cc nL s args Ts own) (k : Nat) (hM : MCf l D c b y ws rm (.ref (b + k) :: As) n cf n1 post E mc1 ms1) (hbl : qw_bl E) (hE : ∀ U : State, s.WarmedH U.vm → E U) (cw : va_CN R s args own index y host bytes maxL none ws rm mc1 ms1 nn ∧ y.name = "<init>" ∧ (Cond.instanceMethod y).before args s = true) (hK : qw_K D c s) (hP : px_H D b n cf H) (hS : va_S (px_A b) H0 H locs)
    (hn : As.length = nn) (hsize : ls.size = nL) (hstack : st0 = As.reverse ++ .ref (b + k) :: rest) (hW : 2 * (F0 m pc ls st0).monitorRoom + (rest.map fun v => v.category).sum ≤ 8) (hdg : decode cc pc = .ok (.invokespecial index, 3)) (hf : cells + mc1 ≤ R.cells ∧ slots + ms1 ≤ R.slots)
    (kk : ∀ (u : Nat → va_E) (H : Heap) (locs : List Loc), post u → px_H D b n1 u H → va_S (px_A b) H0 H locs → W p l e R s m args below meth c0 H locs (cells + mc1) (slots + ms1) Q (F0 m (pc + 3) ls rest)) : W p l e R s m args below meth c0 H locs cells slots Q (F0 m pc ls st0) := by
  refine va_callv (va_runIN (As := As) (rest := rest) CF hM cw ⟨fun a U gg mk q => ?_, fun U hU hW => ⟨rfl, ⟨by rw [hU]; exact hP, va_K.moved hW.alike hK⟩, hE U hW⟩⟩ rfl hn hsize hstack hW hdg hf) hS (fun q _ h => h) (fun q h => h) (fun u t H1 l1 ht hvm hw hB _ _ hS1 => ?_)
  · obtain ⟨q0, ⟨qP, qK⟩, qE⟩ := q
    exact ⟨q0, ⟨qP, va_K.moved (u := U) (U := U.calling gg mk a) (Vm.Alike.refl U.vm) qK⟩, hbl _ _ _ _ qE⟩
  · exact kk u H1 l1 hw (by rw [← ht]; exact hB.1) hS1
end PX
theorem tr_bl : qw_bl (fun _ => True) := fun _ _ _ _ _ => trivial
