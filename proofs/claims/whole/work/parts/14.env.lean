/-! WHAT LASTS: texts, statics, words; and contracts that ask for it -/
def ev_B : List Cond := [.castable "java/lang/IndexOutOfBoundsException" "java/lang/IndexOutOfBoundsException", .castable "java/lang/IllegalArgumentException" "java/lang/IllegalArgumentException", .castable "java/lang/UnsupportedOperationException" "java/lang/UnsupportedOperationException", .castable "java/util/NoSuchElementException" "java/util/NoSuchElementException", .declares (Bundle.initS "java/lang/RuntimeException"), .declares (Bundle.initS "java/lang/Exception"), .declares (Bundle.initS Bundle.tN)]
def ev_M : List (String × Nat × String) := [(RX6, 103, "the figures are one"), (RX6, 136, "the text is wrong"), (RX6, 138, "there are 20 EDICTS"), (RX6, 159, "the price is below 0"), (RX6, 161, "there are 8 TOWNS"), (RX6, 219, "there is no such LINE"), (RX6, 221, "there is no such THING"), (RX6, 223, "there is no such TOWN"), (RX6, 225, "a number is out of its bounds"), (RX6, 229, "there is no such what"), (RX6, 83, "there are 60 STONES"), (RX6, 94, "there is no such STONE")]
def tx_cap : List Int32 := [99, 97, 112]
def tx_line : List Int32 := [108, 105, 110, 101]
def tx_carriage : List Int32 := [99, 97, 114, 114, 105, 97, 103, 101]
def tx_credit : List Int32 := [99, 114, 101, 100, 105, 116]
def tx_free : List Int32 := [102, 114, 101, 101]
def ev_W : List (String × Nat × String × List Int32) := [(RX3, 44, "cap", tx_cap), (RX3, 53, "line", tx_line), (RX3, 58, "carriage", tx_carriage), (RX3, 63, "credit", tx_credit), (RX3, 68, "free", tx_free), (RX7, 170, "cap", tx_cap), (RX7, 175, "line", tx_line), (RX7, 179, "carriage", tx_carriage), (RX7, 180, "credit", tx_credit), (RX7, 181, "free", tx_free)]
/-- a text: a String of one-byte signs -/
def ev_s (A : Nat → Prop) (a : Nat) (bs : List Int32) (U : State) (H : Heap) : Prop := ∃ v : Nat, va_O "java/lang/String" a A U H ∧ va_OF "java/lang/String" "coder" "B" (.int 0) a A U H ∧ va_OF "java/lang/String" "value" "[B" (.ref v) a A U H ∧ va_T .byte v bs.length (fun j => .int (bs.getD j 0)) A U H
theorem ev_s.to {A B : Nat → Prop} {a : Nat} {bs : List Int32} {s U : State} {H H1 : Heap} (h : ev_s A a bs s H) (hq : ∀ a : Nat, a < H.size → ¬ A a → H1[a]? = H[a]?) (hAB : ∀ q, B q → A q) (hvm : s.vm.Alike U.vm) : ev_s B a bs U H1 := by
  obtain ⟨v, h1, h2, h3, h4⟩ := h
  exact ⟨v, ((h1.kept hq).narrow hAB).moved hvm, ((h2.kept hq).narrow hAB).moved hvm, ((h3.kept hq).narrow hAB).moved hvm, ((h4.kept hq).narrow hAB).moved hvm⟩
def EVx (A : Nat → Prop) (U : State) (H : Heap) : Prop := (∀ w ∈ ev_B, va_Nw w U) ∧ (∀ q ∈ ev_M, ∃ a : Nat, vk_R q.1 q.2.1 q.2.2 a U) ∧ vx_Zq Bundle.tN "UNASSIGNED_STACK" Bundle.steD A U H ∧ vx_Zq Bundle.tN "SUPPRESSED_SENTINEL" Bundle.listD A U H
def EVs (A : Nat → Prop) (U : State) (H : Heap) : Prop := va_Z "java/lang/String" "COMPACT_STRINGS" "Z" (.int 1) A U H ∧ va_Zq "jdk/internal/util/Preconditions" "SIOOBE_FORMATTER" "Ljava/util/function/BiFunction;" A U H ∧ ∀ q ∈ ev_W, ∃ a : Nat, vk_R q.1 q.2.1 q.2.2.1 a U ∧ ev_s A a q.2.2.2 U H
def EV (A : Nat → Prop) (U : State) : Prop := EVx A U U.heap ∧ EVs A U U.heap
theorem ev_Bwarm {w : Cond} (hw : w ∈ ev_B) {s U : State} (hvm : s.vm.Alike U.vm) (h : va_Nw w s) : va_Nw w U := by
  simp only [ev_B, List.mem_cons, List.not_mem_nil, or_false] at hw
  rcases hw with rfl | rfl | rfl | rfl | rfl | rfl | rfl
  · exact va_tabs rfl (rfl : (s.setVm U.vm).vm = U.vm) (by rw [Cond.castable_setVm hvm]; exact h)
  · exact va_tabs rfl (rfl : (s.setVm U.vm).vm = U.vm) (by rw [Cond.castable_setVm hvm]; exact h)
  · exact va_tabs rfl (rfl : (s.setVm U.vm).vm = U.vm) (by rw [Cond.castable_setVm hvm]; exact h)
  · exact va_tabs rfl (rfl : (s.setVm U.vm).vm = U.vm) (by rw [Cond.castable_setVm hvm]; exact h)
  · exact va_tabs rfl (rfl : (s.setVm U.vm).vm = U.vm) (by rw [Cond.declares_setVm hvm]; exact h)
  · exact va_tabs rfl (rfl : (s.setVm U.vm).vm = U.vm) (by rw [Cond.declares_setVm hvm]; exact h)
  · exact va_tabs rfl (rfl : (s.setVm U.vm).vm = U.vm) (by rw [Cond.declares_setVm hvm]; exact h)
theorem EV.to {A B : Nat → Prop} {s U : State} {H : Heap} {locs : List Loc} (h : EV A s) (hS : va_S A s.heap H locs) (hAB : ∀ q, B q → A q) (hU : U.heap = H) (hW : s.WarmedH U.vm) : EV B U := by
  subst hU
  obtain ⟨⟨h1, h2, h3, h4⟩, h5, h6, h7⟩ := h
  refine ⟨⟨fun w hw => ev_Bwarm hw hW.alike (h1 w hw), fun q hq => ?_, ((h3.kept hS.2.1).narrow hAB).moved hW.alike, ((h4.kept hS.2.1).narrow hAB).moved hW.alike⟩, ((h5.kept hS.2.1).narrow hAB).moved hW.alike, ((h6.kept hS.2.1).narrow hAB).moved hW.alike, fun q hq => ?_⟩
  · obtain ⟨a, ha⟩ := h2 q hq
    exact ⟨a, ha.warm hW⟩
  · obtain ⟨a, ha, hs⟩ := h7 q hq
    exact ⟨a, ha.warm hW, hs.to hS.2.1 hAB hW.alike⟩
theorem EV.calling {A : Nat → Prop} {U : State} (g : JFrame) (mk : MethodId) (a : Array Value) (h : EV A U) : EV A (U.calling g mk a) := by
  obtain ⟨⟨h1, h2, h3, h4⟩, h5, h6, h7⟩ := h
  have al : U.vm.Alike (U.calling g mk a).vm := Vm.Alike.refl U.vm
  refine ⟨⟨fun w hw => ev_Bwarm hw al (h1 w hw), fun q hq => ?_, vx_Zq.moved (u := U) (U := U.calling g mk a) al h3, vx_Zq.moved (u := U) (U := U.calling g mk a) al h4⟩, va_Z.moved (u := U) (U := U.calling g mk a) al h5, va_Zq.moved (u := U) (U := U.calling g mk a) al h6, fun q hq => ?_⟩
  · obtain ⟨z, ha⟩ := h2 q hq
    exact ⟨z, vk_R.same (u := U) (U := U.calling g mk a) rfl ha⟩
  · obtain ⟨z, ha, hs⟩ := h7 q hq
    exact ⟨z, vk_R.same (u := U) (U := U.calling g mk a) rfl ha, hs.to (U := U.calling g mk a) (fun _ _ _ => rfl) (fun _ h => h) al⟩
theorem ev_s.calling {A : Nat → Prop} {a0 : Nat} {bs : List Int32} {U : State} (g : JFrame) (mk : MethodId) (a : Array Value) (h : ev_s A a0 bs U U.heap) : ev_s A a0 bs (U.calling g mk a) (U.calling g mk a).heap := h.to (U := U.calling g mk a) (fun _ _ _ => rfl) (fun _ h => h) (Vm.Alike.refl U.vm)
/-- a predicate that a call's own frame doesn't touch -/
def qw_bl (E : State → Prop) : Prop := ∀ (U : State) (g : JFrame) (mk : MethodId) (a : Array Value), E U → E (U.calling g mk a)
theorem ev_bl (A : Nat → Prop) : qw_bl (EV A) := fun _ g mk a h => h.calling g mk a
section QE
variable {p : Program} {l : Launch} {e : Env} {R : Room} {s : State} {m : MethodId} {args : Array Value} {below : List Frame} {meth : Method} {c0 : Code} {H : Heap} {locs : List Loc} {cells slots : Nat} {Q : State → Prop}
variable {cc : ByteArray} {pc : Nat} {ls : Array Slot} {rest : List Value} {D : va_G} {H0 : Heap} {r : Nat → Nat} {c : Nat → ClassId} {g : Nat → Int64} {S : qw_St} {E : State → Prop}
theorem wx_ofE {y : MethodName} {ws ws' : List Cond} {rm : Room} {av : List Value} {nL : Nat} {ret : Option FieldType} {Qc : Array Value → State → Outcome → State → Prop} {lvs : List (Nat × Value)} (hy : plainName y.cls = true) (hw : ws = Cond.code y cc nL ret :: ws') (hlv : lv_args 0 av = lvs) (hle : (lg_sl av).length ≤ nL)
    (body : ∀ (p : Program) (e : Env) (s : State) (m : MethodId) (below : List Frame) (meth : Method) (c0 : Code) (ls : Array Slot), p.tables.exec = Jvm.exec → c0.code = cc → meth.sig.returnType = ret → c0.maxLocals = nL → (∀ w ∈ ws, w.before av.toArray s = true) → s.vm.findClass y.cls = some m.cls → meth.locks = false → qw_K D c s → qw_P D r c g S s.heap → va_S (qw_A r) s.heap s.heap [] → lv_has ls nL lvs → E s →
      W p l e rm s m av.toArray below meth c0 s.heap [] 0 0 (MQ below Qc av.toArray s 0 0 (qw_A r)) (F0 m 0 ls [])) : Met l y ws rm (va_Pc av (fun U => qw_X D r c g S U ∧ E U)) Qc 0 0 (qw_A r) := by
  refine Met.ofW (cc := cc) (maxL := nL) (ret := ret) hy hw ?_
  intro p e s m args below meth c0 s₁ B hml hv
  obtain ⟨rfl, ⟨hP, hK⟩, hE⟩ := hv
  have hts := atoms_spec (ws := ws) B.pre
  have hl := lv_entry av (n := nL) hle
  rw [lg_entry_eq]
  rw [hlv] at hl
  exact body p e s m below meth c0 _ B.exec B.bytes B.returns hml hts (findClass_of_methodNamed B.named) B.notSynchronized hK hP va_S.rf hl hE
theorem wx_blindE {av : List Value} (hb : qw_bl E) : FrameBlind (va_Pc av (fun U => qw_X D r c g S U ∧ E U)) := fun a U gg mk q => by
  obtain ⟨q0, ⟨qP, qK⟩, qE⟩ := q
  exact ⟨q0, ⟨qP, va_K.moved (u := U) (U := U.calling gg mk a) (Vm.Alike.refl U.vm) qK⟩, hb _ _ _ _ qE⟩
theorem wx_preE (hK : qw_K D c s) (hP : qw_P D r c g S H) (hE : ∀ U : State, U.heap = H → s.WarmedH U.vm → E U) {av : List Value} : ∀ U : State, U.heap = H → s.WarmedH U.vm → va_Pc av (fun U => qw_X D r c g S U ∧ E U) av.toArray U := fun U hU hW => ⟨rfl, ⟨by rw [hU]; exact hP, va_K.moved hW.alike hK⟩, hE U hU hW⟩
variable {st0 : List Value} {A0 : Nat → Prop} {rm : Room} {ws : List Cond} {y : MethodName} {bytes : ByteArray} {maxL nL n index : Nat} {ret : Option FieldType} {Ts : List Cond} {own C : String} {As : List Value} {x : Int32} {S' : qw_St}
theorem wd_iV {b : Nat} (CF : CallFix p m c0 cc nL s args Ts own) (hM : Met l y ws rm (va_Pc (.ref b :: As) (fun U => qw_X D r c g S U ∧ E U)) (qw_Qi D r c g x S') 0 0 (qw_A r)) (hbl : qw_bl E) (hE : ∀ U : State, U.heap = H → s.WarmedH U.vm → E U) (cw : CallW R s args own C index y bytes maxL ret ws rm 0 0 n) (hrec : ∃ cell : Cell, H[b]? = some cell ∧ cell.vm.isStatics = false ∧ s.vm.findClass C = some cell.cls) (hK : qw_K D c s) (hP : qw_P D r c g S H) (hS : va_S A0 H0 H locs) (hA : ∀ q, qw_A r q → A0 q)
    (hn : As.length = n) (hsize : ls.size = nL) (hstack : st0 = As.reverse ++ .ref b :: rest) (hW : 2 * (F0 m pc ls st0).monitorRoom + (rest.map fun v => v.category).sum ≤ 8) (hdg : decode cc pc = .ok (.invokevirtual index, 3)) (hf : cells ≤ R.cells ∧ slots ≤ R.slots)
    (kk : ∀ (H : Heap) (locs : List Loc), qw_P D r c g S' H → va_S A0 H0 H locs → W p l e R s m args below meth c0 H locs cells slots Q (F0 m (pc + 3) ls (.int x :: rest))) : W p l e R s m args below meth c0 H locs cells slots Q (F0 m pc ls st0) := by
  refine va_calli (va_runV (As := As) (rest := rest) (b := b) CF hM cw ⟨wx_blindE hbl, hrec, wx_preE hK hP hE⟩ rfl hn hsize hstack hW hdg hf) hS (fun q _ h => hA q h) hA (fun a u t H1 l1 ht hvm hw hB _ _ hS1 => ?_)
  obtain ⟨rfl, rfl⟩ := hw
  exact kk H1 l1 (by rw [← ht]; exact hB.1) hS1
theorem wd_vV {b : Nat} (CF : CallFix p m c0 cc nL s args Ts own) (hM : Met l y ws rm (va_Pc (.ref b :: As) (fun U => qw_X D r c g S U ∧ E U)) (qw_Qv D r c g S') 0 0 (qw_A r)) (hbl : qw_bl E) (hE : ∀ U : State, U.heap = H → s.WarmedH U.vm → E U) (cw : CallW R s args own C index y bytes maxL ret ws rm 0 0 n) (hrec : ∃ cell : Cell, H[b]? = some cell ∧ cell.vm.isStatics = false ∧ s.vm.findClass C = some cell.cls) (hK : qw_K D c s) (hP : qw_P D r c g S H) (hS : va_S A0 H0 H locs) (hA : ∀ q, qw_A r q → A0 q)
    (hn : As.length = n) (hsize : ls.size = nL) (hstack : st0 = As.reverse ++ .ref b :: rest) (hW : 2 * (F0 m pc ls st0).monitorRoom + (rest.map fun v => v.category).sum ≤ 8) (hdg : decode cc pc = .ok (.invokevirtual index, 3)) (hf : cells ≤ R.cells ∧ slots ≤ R.slots)
    (kk : ∀ (H : Heap) (locs : List Loc), qw_P D r c g S' H → va_S A0 H0 H locs → W p l e R s m args below meth c0 H locs cells slots Q (F0 m (pc + 3) ls rest)) : W p l e R s m args below meth c0 H locs cells slots Q (F0 m pc ls st0) := by
  refine va_callv (va_runV (As := As) (rest := rest) (b := b) CF hM cw ⟨wx_blindE hbl, hrec, wx_preE hK hP hE⟩ rfl hn hsize hstack hW hdg hf) hS (fun q _ h => hA q h) hA (fun u t H1 l1 ht hvm hw hB _ _ hS1 => ?_)
  subst hw
  exact kk H1 l1 (by rw [← ht]; exact hB.1) hS1
theorem wd_iS (CF : CallFix p m c0 cc nL s args Ts own) (hM : Met l y ws rm (va_Pc As (fun U => qw_X D r c g S U ∧ E U)) (qw_Qi D r c g x S') 0 0 (qw_A r)) (hbl : qw_bl E) (hE : ∀ U : State, U.heap = H → s.WarmedH U.vm → E U) (cw : CallB R s args own index y bytes maxL ret ws rm 0 0 n ∧ (Cond.static y).before args s = true) (hK : qw_K D c s) (hP : qw_P D r c g S H) (hS : va_S A0 H0 H locs) (hA : ∀ q, qw_A r q → A0 q)
    (hn : As.length = n) (hsize : ls.size = nL) (hstack : st0 = As.reverse ++ rest) (hW : 2 * (F0 m pc ls st0).monitorRoom + (rest.map fun v => v.category).sum ≤ 8) (hdg : decode cc pc = .ok (.invokestatic index, 3)) (hf : cells ≤ R.cells ∧ slots ≤ R.slots)
    (kk : ∀ (H : Heap) (locs : List Loc), qw_P D r c g S' H → va_S A0 H0 H locs → W p l e R s m args below meth c0 H locs cells slots Q (F0 m (pc + 3) ls (.int x :: rest))) : W p l e R s m args below meth c0 H locs cells slots Q (F0 m pc ls st0) := by
  refine va_calli (va_runS (As := As) (rest := rest) CF hM cw ⟨wx_blindE hbl, wx_preE hK hP hE⟩ rfl hn hsize hstack hW hdg hf) hS (fun q _ h => hA q h) hA (fun a u t H1 l1 ht hvm hw hB _ _ hS1 => ?_)
  obtain ⟨rfl, rfl⟩ := hw
  exact kk H1 l1 (by rw [← ht]; exact hB.1) hS1
theorem wd_vS (CF : CallFix p m c0 cc nL s args Ts own) (hM : Met l y ws rm (va_Pc As (fun U => qw_X D r c g S U ∧ E U)) (qw_Qv D r c g S') 0 0 (qw_A r)) (hbl : qw_bl E) (hE : ∀ U : State, U.heap = H → s.WarmedH U.vm → E U) (cw : CallB R s args own index y bytes maxL ret ws rm 0 0 n ∧ (Cond.static y).before args s = true) (hK : qw_K D c s) (hP : qw_P D r c g S H) (hS : va_S A0 H0 H locs) (hA : ∀ q, qw_A r q → A0 q)
    (hn : As.length = n) (hsize : ls.size = nL) (hstack : st0 = As.reverse ++ rest) (hW : 2 * (F0 m pc ls st0).monitorRoom + (rest.map fun v => v.category).sum ≤ 8) (hdg : decode cc pc = .ok (.invokestatic index, 3)) (hf : cells ≤ R.cells ∧ slots ≤ R.slots)
    (kk : ∀ (H : Heap) (locs : List Loc), qw_P D r c g S' H → va_S A0 H0 H locs → W p l e R s m args below meth c0 H locs cells slots Q (F0 m (pc + 3) ls rest)) : W p l e R s m args below meth c0 H locs cells slots Q (F0 m pc ls st0) := by
  refine va_callv (va_runS (As := As) (rest := rest) CF hM cw ⟨wx_blindE hbl, wx_preE hK hP hE⟩ rfl hn hsize hstack hW hdg hf) hS (fun q _ h => hA q h) hA (fun u t H1 l1 ht hvm hw hB _ _ hS1 => ?_)
  subst hw
  exact kk H1 l1 (by rw [← ht]; exact hB.1) hS1
end QE
