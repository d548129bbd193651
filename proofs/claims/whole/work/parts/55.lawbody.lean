/-! THE LAW'S BODY: its 21 calls (written by program) -/
theorem ra_len {S T : qw_St} (h : RA S T) : qz (S 1 1) 400 := by rw [h.2.2.2.2.1.2.2.2.1]; exact h.2.2.2.2.2.2.2.2.2.2.2.1
theorem ra_new {S T : qw_St} (h : RA S T) : qz (S 11 2) 40 := by rw [h.2.1.1]; exact h.2.2.2.2.2.2.1.1
theorem ra_sto {S T : qw_St} (h : RA S T) : qz (S 3 6) 60 := by rw [h.1.1]; exact h.2.2.2.2.2.1.1
theorem ra_dec {S T : qw_St} (h : RA S T) : qz (S 0 6) 20 := by rw [h.2.2.2.1.1]; exact h.2.2.2.2.2.2.2.1.1
theorem ra_und {S T : qw_St} (h : RA S T) : T 143 17 = 0 ∨ T 154 (T 143 17 - 1).toNatClampNeg = -1 ∨ qz (T 143 17) 39 := by
  obtain ⟨n, hn, en⟩ := h.2.2.2.2.2.2.1.1
  obtain ⟨E, hE, eE⟩ := h.2.2.2.2.2.2.2.1.1
  have hu := h.2.2.2.2.2.2.2.2.2.2.2.2.2.1
  have hc : (T 143 17).toNatClampNeg = n := by rw [en]; exact nI_clamp (by omega)
  have he : (T 143 14).toNatClampNeg = E := by rw [eE]; exact nI_clamp (by omega)
  rw [hc, he] at hu
  cases n with
  | zero => exact Or.inl en
  | succ n =>
    have ci : (T 143 17 - 1).toNatClampNeg = n := by rw [en, nI_pred, nI_clamp (by omega)]
    rw [ci]
    rcases hu with q | q | q
    · exact Or.inl q
    · exact Or.inr (Or.inl q)
    · exact Or.inr (Or.inr ⟨n + 1, by omega, en⟩)
theorem ra_hte {S T : qw_St} (h : RA S T) : ∃ e t : Nat, T 143 14 = nI e ∧ T 143 17 = nI t ∧ t ≤ 2 * e ∧ e ≤ 20 := by
  obtain ⟨n, hn, en⟩ := h.2.2.2.2.2.2.1.1
  obtain ⟨E, hE, eE⟩ := h.2.2.2.2.2.2.2.1.1
  have hu := h.2.2.2.2.2.2.2.2.2.2.2.2.1
  have hc : (T 143 17).toNatClampNeg = n := by rw [en]; exact nI_clamp (by omega)
  have he : (T 143 14).toNatClampNeg = E := by rw [eE]; exact nI_clamp (by omega)
  rw [hc, he] at hu
  exact ⟨E, n, eE, en, hu, hE⟩
theorem lx_in {z x : Int32} {t L k : Nat} (hz : z = nI (7 * t)) (ht : 7 * t + 7 ≤ L) (hL : L ≤ 3584) (hk : k < 7) (hx : x = nI k) : vp_in (z + x) L := by
  rw [hz, hx, nI_add]; exact vp_in_nI (by omega) (by omega)
theorem lx_c {a k : Nat} (h : a + 7 ≤ 601024) (hk : k ≤ 7) : a + k ≤ room_1.cells := by show a + k ≤ 601024; omega
theorem lx_s {a k : Nat} (h : a + 42 ≤ 7293034) (hk : k ≤ 42) : a + k ≤ room_1.slots := by show a + k ≤ 7293034; omega
theorem lx_r {a : Nat} (h : a + 7 ≤ 601024) : a ≤ room_1.cells := by show a ≤ 601024; omega
theorem lx_r2 {a : Nat} (h : a + 42 ≤ 7293034) : a ≤ room_1.slots := by show a ≤ 7293034; omega
theorem lx_w {a k n : Nat} (h : k ≤ n) : a + k ≤ a + n := by omega
theorem lx_n {k : Int32} (h : ¬ k ≠ 0) : k = 0 := Decidable.not_not.mp h
theorem lx_cmp (x : Int64) : lg_cmp x x = 0 := by unfold lg_cmp; simp
/-- what holds throughout the law -/
def LCx (p : Program) (l : Launch) (s : State) (m : MethodId) (c0 : Code) (D : va_G) (r : Nat → Nat) (c : Nat → ClassId) (b b0 L : Nat) (xs : Nat → Int32) : Prop := l.stackTraces = false ∧ p.tables.exec = Jvm.exec ∧ c0.code = cL_law ∧ c0.maxLocals = 7 ∧ s.vm.findClass RL = some m.cls ∧ (∀ w ∈ wsL_law, w.before #[Value.ref b0] s = true) ∧ qw_inj r ∧ qw_K D c s ∧ va_X b0 L xs s s.heap ∧ b0 < s.heap.size ∧ ¬ px_A b b0 ∧ (∀ q, qw_A r q → px_A b q) ∧ EW (px_A b) s ∧ L ≤ 3584
section LWC
variable {p : Program} {l : Launch} {e : Env} {s : State} {m : MethodId} {below : List Frame} {meth : Method} {c0 : Code} {H : Heap} {locs : List Loc} {cells slots : Nat} {Q : State → Prop} {D : va_G} {r : Nat → Nat} {c : Nat → ClassId} {g : Nat → Int64} {S : qw_St} {b b0 L t : Nat} {xs : Nat → Int32} {z : Int32} {ls : Array Slot}
/-- a helper is called -/
theorem wl_iS {R : Room} {args : Array Value} {cc : ByteArray} {pc : Nat} {st0 rest : List Value} {A0 : Nat → Prop} {H0 : Heap} {rm : Room} {ws : List Cond} {y : MethodName} {bytes : ByteArray} {maxL nL n index mc1 ms1 : Nat} {ret : Option FieldType} {hh : List (Nat × Nat × Nat × Nat)} {Ts : List Cond} {own : String} {As : List Value} {k : Int32} {g' : Nat → Int64} {S' : qw_St}
    (CF : CallFix p m c0 cc nL s args Ts own) (hM : MH l D r c g y ws rm As S k g' S' mc1 ms1) (cw : vx_CSW R s args own index y bytes maxL ret hh ws rm mc1 ms1 n) (hK : qw_K D c s) (hP : qw_P D r c g S H) (hS : va_S A0 H0 H locs) (hA : ∀ q, qw_A r q → A0 q) (hE : ∀ U : State, U.heap = H → s.WarmedH U.vm → EW (qw_A r) U)
    (hn : As.length = n) (hsize : ls.size = nL) (hstack : st0 = As.reverse ++ rest) (hW : 2 * (F0 m pc ls st0).monitorRoom + (rest.map fun v => v.category).sum ≤ 8) (hdg : decode cc pc = .ok (.invokestatic index, 3)) (hf : cells + mc1 ≤ R.cells ∧ slots + ms1 ≤ R.slots)
    (kk : ∀ (H : Heap) (locs : List Loc), qw_P D r c g' S' H → va_S A0 H0 H locs → W p l e R s m args below meth c0 H locs (cells + mc1) (slots + ms1) Q (F0 m (pc + 3) ls (.int k :: rest))) : W p l e R s m args below meth c0 H locs cells slots Q (F0 m pc ls st0) := by
  refine va_calli (vx_runSW (As := As) (rest := rest) CF hM cw ⟨wx_blindE (ew_bl _), wx_preE hK hP hE⟩ rfl hn hsize hstack hW hdg hf) hS (fun q _ h => hA q h) hA (fun a u t H1 l1 ht hvm hw hB _ _ hS1 => ?_)
  obtain ⟨rfl, rfl⟩ := hw
  exact kk H1 l1 (by rw [← ht]; exact hB.1) hS1
set_option maxHeartbeats 4000000 in
set_option maxRecDepth 100000 in
theorem lw_c0 (C : LCx p l s m c0 D r c b b0 L xs) (ht : 7 * t + 7 ≤ L) (hz : z = nI (7 * t)) (hRA : RA S S) (hP : qw_P D r c g S H) (hS : va_S (px_A b) s.heap H locs) (hl : lv_has ls 7 [(4, .int z), (3, .ref (r 171)), (2, .ref (r 143)), (1, .ref (r 0)), (0, .ref b0)]) (hcs : cells + 7 ≤ 601024 ∧ slots + 42 ≤ 7293034)
    (kk : ∀ (S' : qw_St) (g' : Nat → Int64) (H : Heap) (locs : List Loc) (ls : Array Slot), RA S' S' → qw_P D r c g' S' H → va_S (px_A b) s.heap H locs → lv_has ls 7 [(4, .int z), (3, .ref (r 171)), (2, .ref (r 143)), (1, .ref (r 0)), (0, .ref b0)] → W p l e room_1 s m #[Value.ref b0] below meth c0 H locs (cells + 7) (slots + 42) Q (F0 m 1461 ls [])) : W p l e room_1 s m #[Value.ref b0] below meth c0 H locs cells slots Q (F0 m 140 ls []) := by
  obtain ⟨hlT, hx, hb, hml, hown, hts, hr, hK, hX, hbl, hbA, hA, hEW, hL⟩ := C
  refine lv_aload_n hx hb dL_law_140 rfl (lv_at hl 3 rfl) ?_
  refine lv_aload_n hx hb dL_law_141 rfl (lv_at hl 4 rfl) ?_
  refine lv_iload hx hb dL_law_142 (lv_at hl 0 rfl) ?_
  refine lv_iconst (v := 1) hx hb dL_law_144 (by decide) ?_
  refine lv_iadd hx hb dL_law_145 ?_
  refine va_sld hx hb hX hbl hbA hS (lx_in hz ht hL (k := 1) (by omega) rfl) dL_law_146 ?_
  refine lv_aload_n hx hb dL_law_147 rfl (lv_at hl 4 rfl) ?_
  refine lv_iload hx hb dL_law_148 (lv_at hl 0 rfl) ?_
  refine lv_iconst (v := 2) hx hb dL_law_150 (by decide) ?_
  refine lv_iadd hx hb dL_law_151 ?_
  refine va_sld hx hb hX hbl hbA hS (lx_in hz ht hL (k := 2) (by omega) rfl) dL_law_152 ?_
  refine lv_aload_n hx hb dL_law_153 rfl (lv_at hl 4 rfl) ?_
  refine lv_iload hx hb dL_law_154 (lv_at hl 0 rfl) ?_
  refine lv_iconst (v := 3) hx hb dL_law_156 (by decide) ?_
  refine lv_iadd hx hb dL_law_157 ?_
  refine va_sld hx hb hX hbl hbA hS (lx_in hz ht hL (k := 3) (by omega) rfl) dL_law_158 ?_
  refine lv_aload_n hx hb dL_law_159 rfl (lv_at hl 4 rfl) ?_
  refine lv_iload hx hb dL_law_160 (lv_at hl 0 rfl) ?_
  refine lv_iconst (v := 4) hx hb dL_law_162 (by decide) ?_
  refine lv_iadd hx hb dL_law_163 ?_
  refine va_sld hx hb hX hbl hbA hS (lx_in hz ht hL (k := 4) (by omega) rfl) dL_law_164 ?_
  refine lv_aload_n hx hb dL_law_165 rfl (lv_at hl 4 rfl) ?_
  refine lv_iload hx hb dL_law_166 (lv_at hl 0 rfl) ?_
  refine lv_iconst (v := 5) hx hb dL_law_168 (by decide) ?_
  refine lv_iadd hx hb dL_law_169 ?_
  refine va_sld hx hb hX hbl hbA hS (lx_in hz ht hL (k := 5) (by omega) rfl) dL_law_170 ?_
  refine wc_iV (k := 0) (C := RX6) (As := [.int (xs (z + 1).toNatClampNeg), .int (xs (z + 2).toNatClampNeg), .int (xs (z + 3).toNatClampNeg), .int (xs (z + 4).toNatClampNeg), .int (xs (z + 5).toNatClampNeg)]) (rest := []) ⟨hx, hb, hml, hown, hts⟩ (c_X6_feed l D c g hr S (xs (z + 1).toNatClampNeg) (xs (z + 2).toNatClampNeg) (xs (z + 3).toNatClampNeg) (xs (z + 4).toNatClampNeg) (xs (z + 5).toNatClampNeg) (ra_len hRA)) (cwV 5 hts gL_law_X6_feed rfl rfl rfl (by decide +kernel) ⟨Nat.le_of_ble_eq_true rfl, Nat.le_of_ble_eq_true rfl⟩) (wx_recv hK hP (by decide) qc_0 rfl) hK hP hS hA rfl hl.1 rfl (lv_room (Nat.le_of_ble_eq_true rfl)) dL_law_171 ⟨lx_r hcs.1, lx_r2 hcs.2⟩ (fun H locs hP hS => ?_)
  obtain ⟨S1, eS1⟩ : ∃ Sx : qw_St, Sx = (g_X6_feed S (xs (z + 1).toNatClampNeg) (xs (z + 2).toNatClampNeg) (xs (z + 3).toNatClampNeg) (xs (z + 4).toNatClampNeg) (xs (z + 5).toNatClampNeg)) := ⟨_, rfl⟩
  rw [← eS1] at hP
  have hM1 : RA S S1 := hRA.mid (fun k j hk => by rw [eS1]; exact fC_feed S (xs (z + 1).toNatClampNeg) (xs (z + 2).toNatClampNeg) (xs (z + 3).toNatClampNeg) (xs (z + 4).toNatClampNeg) (xs (z + 5).toNatClampNeg) j hk)
  have hop := op_feed hM1 (xs (z + 1).toNatClampNeg) (xs (z + 2).toNatClampNeg) (xs (z + 3).toNatClampNeg) (xs (z + 4).toNatClampNeg) (xs (z + 5).toNatClampNeg)
  rw [← eS1] at hop
  refine lv_aload_n hx hb dL_law_174 rfl (lv_at hl 2 rfl) ?_
  refine lv_aload_n hx hb dL_law_175 rfl (lv_at hl 4 rfl) ?_
  refine lv_iload hx hb dL_law_176 (lv_at hl 0 rfl) ?_
  refine lv_iconst (v := 1) hx hb dL_law_178 (by decide) ?_
  refine lv_iadd hx hb dL_law_179 ?_
  refine va_sld hx hb hX hbl hbA hS (lx_in hz ht hL (k := 1) (by omega) rfl) dL_law_180 ?_
  refine lv_aload_n hx hb dL_law_181 rfl (lv_at hl 4 rfl) ?_
  refine lv_iload hx hb dL_law_182 (lv_at hl 0 rfl) ?_
  refine lv_iconst (v := 2) hx hb dL_law_184 (by decide) ?_
  refine lv_iadd hx hb dL_law_185 ?_
  refine va_sld hx hb hX hbl hbA hS (lx_in hz ht hL (k := 2) (by omega) rfl) dL_law_186 ?_
  refine lv_aload_n hx hb dL_law_187 rfl (lv_at hl 4 rfl) ?_
  refine lv_iload hx hb dL_law_188 (lv_at hl 0 rfl) ?_
  refine lv_iconst (v := 3) hx hb dL_law_190 (by decide) ?_
  refine lv_iadd hx hb dL_law_191 ?_
  refine va_sld hx hb hX hbl hbA hS (lx_in hz ht hL (k := 3) (by omega) rfl) dL_law_192 ?_
  refine lv_aload_n hx hb dL_law_193 rfl (lv_at hl 4 rfl) ?_
  refine lv_iload hx hb dL_law_194 (lv_at hl 0 rfl) ?_
  refine lv_iconst (v := 4) hx hb dL_law_196 (by decide) ?_
  refine lv_iadd hx hb dL_law_197 ?_
  refine va_sld hx hb hX hbl hbA hS (lx_in hz ht hL (k := 4) (by omega) rfl) dL_law_198 ?_
  refine lv_aload_n hx hb dL_law_199 rfl (lv_at hl 4 rfl) ?_
  refine lv_iload hx hb dL_law_200 (lv_at hl 0 rfl) ?_
  refine lv_iconst (v := 5) hx hb dL_law_202 (by decide) ?_
  refine lv_iadd hx hb dL_law_203 ?_
  refine va_sld hx hb hX hbl hbA hS (lx_in hz ht hL (k := 5) (by omega) rfl) dL_law_204 ?_
  refine wc_iV (k := 143) (C := RX7) (As := [.int (xs (z + 1).toNatClampNeg), .int (xs (z + 2).toNatClampNeg), .int (xs (z + 3).toNatClampNeg), .int (xs (z + 4).toNatClampNeg), .int (xs (z + 5).toNatClampNeg)]) (rest := [.int (f_X6_feed S (xs (z + 1).toNatClampNeg) (xs (z + 2).toNatClampNeg) (xs (z + 3).toNatClampNeg) (xs (z + 4).toNatClampNeg) (xs (z + 5).toNatClampNeg))]) ⟨hx, hb, hml, hown, hts⟩ (c_X7_feed l D c g hr S1 (xs (z + 1).toNatClampNeg) (xs (z + 2).toNatClampNeg) (xs (z + 3).toNatClampNeg) (xs (z + 4).toNatClampNeg) (xs (z + 5).toNatClampNeg) hM1.2.2.2.2.2.2.2.2.2.2.2.1) (cwV 5 hts gL_law_X7_feed rfl rfl rfl (by decide +kernel) ⟨Nat.le_of_ble_eq_true rfl, Nat.le_of_ble_eq_true rfl⟩) (wx_recv hK hP (by decide) qc_143 rfl) hK hP hS hA rfl hl.1 rfl (lv_room (Nat.le_of_ble_eq_true rfl)) dL_law_205 ⟨lx_r hcs.1, lx_r2 hcs.2⟩ (fun H locs hP hS => ?_)
  obtain ⟨S2, eS2⟩ : ∃ Sx : qw_St, Sx = (g_X7_feed S1 (xs (z + 1).toNatClampNeg) (xs (z + 2).toNatClampNeg) (xs (z + 3).toNatClampNeg) (xs (z + 4).toNatClampNeg) (xs (z + 5).toNatClampNeg)) := ⟨_, rfl⟩
  rw [← eS2] at hP hop
  have hR2 : RA S2 S2 := hop.2.fin (fun k j hk => by rw [eS2]; exact fM_feed S1 (xs (z + 1).toNatClampNeg) (xs (z + 2).toNatClampNeg) (xs (z + 3).toNatClampNeg) (xs (z + 4).toNatClampNeg) (xs (z + 5).toNatClampNeg) j hk)
  refine lv_icmp_eq (tgt := 1461) hx hb dL_law_208 (by decide) (fun cx => ?_) (fun cx => ?_)
  rotate_left
  · exact absurd hop.1 cx
  refine W.widen (k := cells + 7) (n := slots + 42) (by omega) (by omega) ?_
  exact kk _ _ _ _ _ hR2 hP hS hl
set_option maxHeartbeats 4000000 in
set_option maxRecDepth 100000 in
theorem lw_c1 (C : LCx p l s m c0 D r c b b0 L xs) (ht : 7 * t + 7 ≤ L) (hz : z = nI (7 * t)) (hRA : RA S S) (hP : qw_P D r c g S H) (hS : va_S (px_A b) s.heap H locs) (hl : lv_has ls 7 [(4, .int z), (3, .ref (r 171)), (2, .ref (r 143)), (1, .ref (r 0)), (0, .ref b0)]) (hcs : cells + 7 ≤ 601024 ∧ slots + 42 ≤ 7293034)
    (kk : ∀ (S' : qw_St) (g' : Nat → Int64) (H : Heap) (locs : List Loc) (ls : Array Slot), RA S' S' → qw_P D r c g' S' H → va_S (px_A b) s.heap H locs → lv_has ls 7 [(4, .int z), (3, .ref (r 171)), (2, .ref (r 143)), (1, .ref (r 0)), (0, .ref b0)] → W p l e room_1 s m #[Value.ref b0] below meth c0 H locs (cells + 7) (slots + 42) Q (F0 m 1461 ls [])) : W p l e room_1 s m #[Value.ref b0] below meth c0 H locs cells slots Q (F0 m 213 ls []) := by
  obtain ⟨hlT, hx, hb, hml, hown, hts, hr, hK, hX, hbl, hbA, hA, hEW, hL⟩ := C
  refine lv_aload_n hx hb dL_law_213 rfl (lv_at hl 3 rfl) ?_
  refine lv_aload_n hx hb dL_law_214 rfl (lv_at hl 4 rfl) ?_
  refine lv_iload hx hb dL_law_215 (lv_at hl 0 rfl) ?_
  refine lv_iconst (v := 1) hx hb dL_law_217 (by decide) ?_
  refine lv_iadd hx hb dL_law_218 ?_
  refine va_sld hx hb hX hbl hbA hS (lx_in hz ht hL (k := 1) (by omega) rfl) dL_law_219 ?_
  refine wc_iV (k := 0) (C := RX6) (As := [.int (xs (z + 1).toNatClampNeg)]) (rest := []) ⟨hx, hb, hml, hown, hts⟩ (c_X6_end l D c g hr S (xs (z + 1).toNatClampNeg) ) (cwV 1 hts gL_law_X6_end rfl rfl rfl (by decide +kernel) ⟨Nat.le_of_ble_eq_true rfl, Nat.le_of_ble_eq_true rfl⟩) (wx_recv hK hP (by decide) qc_0 rfl) hK hP hS hA rfl hl.1 rfl (lv_room (Nat.le_of_ble_eq_true rfl)) dL_law_220 ⟨lx_r hcs.1, lx_r2 hcs.2⟩ (fun H locs hP hS => ?_)
  obtain ⟨S1, eS1⟩ : ∃ Sx : qw_St, Sx = (g_X6_end S (xs (z + 1).toNatClampNeg)) := ⟨_, rfl⟩
  rw [← eS1] at hP
  have hM1 : RA S S1 := hRA.mid (fun k j hk => by rw [eS1]; exact fC_end S (xs (z + 1).toNatClampNeg) j hk)
  have hop := op_end hM1 (xs (z + 1).toNatClampNeg)
  rw [← eS1] at hop
  refine lv_aload_n hx hb dL_law_223 rfl (lv_at hl 2 rfl) ?_
  refine lv_aload_n hx hb dL_law_224 rfl (lv_at hl 4 rfl) ?_
  refine lv_iload hx hb dL_law_225 (lv_at hl 0 rfl) ?_
  refine lv_iconst (v := 1) hx hb dL_law_227 (by decide) ?_
  refine lv_iadd hx hb dL_law_228 ?_
  refine va_sld hx hb hX hbl hbA hS (lx_in hz ht hL (k := 1) (by omega) rfl) dL_law_229 ?_
  refine wc_iV (k := 143) (C := RX7) (As := [.int (xs (z + 1).toNatClampNeg)]) (rest := [.int (f_X6_end S (xs (z + 1).toNatClampNeg))]) ⟨hx, hb, hml, hown, hts⟩ (c_X7_end l D c g hr S1 (xs (z + 1).toNatClampNeg) ) (cwV 1 hts gL_law_X7_end rfl rfl rfl (by decide +kernel) ⟨Nat.le_of_ble_eq_true rfl, Nat.le_of_ble_eq_true rfl⟩) (wx_recv hK hP (by decide) qc_143 rfl) hK hP hS hA rfl hl.1 rfl (lv_room (Nat.le_of_ble_eq_true rfl)) dL_law_230 ⟨lx_r hcs.1, lx_r2 hcs.2⟩ (fun H locs hP hS => ?_)
  obtain ⟨S2, eS2⟩ : ∃ Sx : qw_St, Sx = (g_X7_end S1 (xs (z + 1).toNatClampNeg)) := ⟨_, rfl⟩
  rw [← eS2] at hP hop
  have hR2 : RA S2 S2 := hop.2.fin (fun k j hk => by rw [eS2]; exact fM_end S1 (xs (z + 1).toNatClampNeg) j hk)
  refine lv_icmp_eq (tgt := 1461) hx hb dL_law_233 (by decide) (fun cx => ?_) (fun cx => ?_)
  rotate_left
  · exact absurd hop.1 cx
  refine W.widen (k := cells + 7) (n := slots + 42) (by omega) (by omega) ?_
  exact kk _ _ _ _ _ hR2 hP hS hl
set_option maxHeartbeats 4000000 in
set_option maxRecDepth 100000 in
theorem lw_c2 (C : LCx p l s m c0 D r c b b0 L xs) (ht : 7 * t + 7 ≤ L) (hz : z = nI (7 * t)) (hRA : RA S S) (hP : qw_P D r c g S H) (hS : va_S (px_A b) s.heap H locs) (hl : lv_has ls 7 [(4, .int z), (3, .ref (r 171)), (2, .ref (r 143)), (1, .ref (r 0)), (0, .ref b0)]) (hcs : cells + 7 ≤ 601024 ∧ slots + 42 ≤ 7293034)
    (kk : ∀ (S' : qw_St) (g' : Nat → Int64) (H : Heap) (locs : List Loc) (ls : Array Slot), RA S' S' → qw_P D r c g' S' H → va_S (px_A b) s.heap H locs → lv_has ls 7 [(4, .int z), (3, .ref (r 171)), (2, .ref (r 143)), (1, .ref (r 0)), (0, .ref b0)] → W p l e room_1 s m #[Value.ref b0] below meth c0 H locs (cells + 7) (slots + 42) Q (F0 m 1461 ls [])) : W p l e room_1 s m #[Value.ref b0] below meth c0 H locs cells slots Q (F0 m 238 ls []) := by
  obtain ⟨hlT, hx, hb, hml, hown, hts, hr, hK, hX, hbl, hbA, hA, hEW, hL⟩ := C
  refine lv_aload_n hx hb dL_law_238 rfl (lv_at hl 3 rfl) ?_
  refine lv_aload_n hx hb dL_law_239 rfl (lv_at hl 4 rfl) ?_
  refine lv_iload hx hb dL_law_240 (lv_at hl 0 rfl) ?_
  refine lv_iconst (v := 1) hx hb dL_law_242 (by decide) ?_
  refine lv_iadd hx hb dL_law_243 ?_
  refine va_sld hx hb hX hbl hbA hS (lx_in hz ht hL (k := 1) (by omega) rfl) dL_law_244 ?_
  refine lv_aload_n hx hb dL_law_245 rfl (lv_at hl 4 rfl) ?_
  refine lv_iload hx hb dL_law_246 (lv_at hl 0 rfl) ?_
  refine lv_iconst (v := 2) hx hb dL_law_248 (by decide) ?_
  refine lv_iadd hx hb dL_law_249 ?_
  refine va_sld hx hb hX hbl hbA hS (lx_in hz ht hL (k := 2) (by omega) rfl) dL_law_250 ?_
  refine lv_aload_n hx hb dL_law_251 rfl (lv_at hl 4 rfl) ?_
  refine lv_iload hx hb dL_law_252 (lv_at hl 0 rfl) ?_
  refine lv_iconst (v := 3) hx hb dL_law_254 (by decide) ?_
  refine lv_iadd hx hb dL_law_255 ?_
  refine va_sld hx hb hX hbl hbA hS (lx_in hz ht hL (k := 3) (by omega) rfl) dL_law_256 ?_
  refine lv_aload_n hx hb dL_law_257 rfl (lv_at hl 4 rfl) ?_
  refine lv_iload hx hb dL_law_258 (lv_at hl 0 rfl) ?_
  refine lv_iconst (v := 4) hx hb dL_law_260 (by decide) ?_
  refine lv_iadd hx hb dL_law_261 ?_
  refine va_sld hx hb hX hbl hbA hS (lx_in hz ht hL (k := 4) (by omega) rfl) dL_law_262 ?_
  refine lv_aload_n hx hb dL_law_263 rfl (lv_at hl 4 rfl) ?_
  refine lv_iload hx hb dL_law_264 (lv_at hl 0 rfl) ?_
  refine lv_iconst (v := 5) hx hb dL_law_266 (by decide) ?_
  refine lv_iadd hx hb dL_law_267 ?_
  refine va_sld hx hb hX hbl hbA hS (lx_in hz ht hL (k := 5) (by omega) rfl) dL_law_268 ?_
  refine lv_aload_n hx hb dL_law_269 rfl (lv_at hl 1 rfl) ?_
  refine wl_iS (As := [.ref (r 0), .int (xs (z + 1).toNatClampNeg), .int (xs (z + 2).toNatClampNeg), .int (xs (z + 3).toNatClampNeg), .int (xs (z + 4).toNatClampNeg), .int (xs (z + 5).toNatClampNeg), .ref (r 171)]) (rest := []) ⟨hx, hb, hml, hown, hts⟩ (c_L_stone l hlT D c g hr S (xs (z + 1).toNatClampNeg) (xs (z + 2).toNatClampNeg) (xs (z + 3).toNatClampNeg) (xs (z + 4).toNatClampNeg) (xs (z + 5).toNatClampNeg) (ra_sto hRA)) (vx_cwSW 7 hts gL_law_L_stone rfl rfl rfl (by decide +kernel) ⟨Nat.le_of_ble_eq_true rfl, Nat.le_of_ble_eq_true rfl⟩) hK hP hS hA (fun U hU hW => hEW.to hS hA hU hW) rfl hl.1 rfl (lv_room (Nat.le_of_ble_eq_true rfl)) dL_law_270 ⟨lx_c hcs.1 (by decide), lx_s hcs.2 (by decide)⟩ (fun H locs hP hS => ?_)
  obtain ⟨S1, eS1⟩ : ∃ Sx : qw_St, Sx = (g_X6_stone S (xs (z + 1).toNatClampNeg) (xs (z + 2).toNatClampNeg) (xs (z + 3).toNatClampNeg) (xs (z + 4).toNatClampNeg) (xs (z + 5).toNatClampNeg)) := ⟨_, rfl⟩
  rw [← eS1] at hP
  have hM1 : RA S S1 := hRA.mid (fun k j hk => by rw [eS1]; exact fC_stone S (xs (z + 1).toNatClampNeg) (xs (z + 2).toNatClampNeg) (xs (z + 3).toNatClampNeg) (xs (z + 4).toNatClampNeg) (xs (z + 5).toNatClampNeg) j hk)
  have hop := op_stone hM1 (xs (z + 1).toNatClampNeg) (xs (z + 2).toNatClampNeg) (xs (z + 3).toNatClampNeg) (xs (z + 4).toNatClampNeg) (xs (z + 5).toNatClampNeg)
  rw [← eS1] at hop
  refine lv_topi (fun k5 ek5 => ?_)
  refine lv_istore (lv' := [(5, .int k5), (4, .int z), (3, .ref (r 171)), (2, .ref (r 143)), (1, .ref (r 0)), (0, .ref b0)]) hx hb dL_law_273 hl (by decide) rfl (fun ls hl => ?_)
  refine lv_aload_n hx hb dL_law_275 rfl (lv_at hl 3 rfl) ?_
  refine lv_aload_n hx hb dL_law_276 rfl (lv_at hl 5 rfl) ?_
  refine lv_iload hx hb dL_law_277 (lv_at hl 1 rfl) ?_
  refine lv_iconst (v := 1) hx hb dL_law_279 (by decide) ?_
  refine lv_iadd hx hb dL_law_280 ?_
  refine va_sld hx hb hX hbl hbA hS (lx_in hz ht hL (k := 1) (by omega) rfl) dL_law_281 ?_
  refine lv_aload_n hx hb dL_law_282 rfl (lv_at hl 5 rfl) ?_
  refine lv_iload hx hb dL_law_283 (lv_at hl 1 rfl) ?_
  refine lv_iconst (v := 2) hx hb dL_law_285 (by decide) ?_
  refine lv_iadd hx hb dL_law_286 ?_
  refine va_sld hx hb hX hbl hbA hS (lx_in hz ht hL (k := 2) (by omega) rfl) dL_law_287 ?_
  refine lv_aload_n hx hb dL_law_288 rfl (lv_at hl 5 rfl) ?_
  refine lv_iload hx hb dL_law_289 (lv_at hl 1 rfl) ?_
  refine lv_iconst (v := 3) hx hb dL_law_291 (by decide) ?_
  refine lv_iadd hx hb dL_law_292 ?_
  refine va_sld hx hb hX hbl hbA hS (lx_in hz ht hL (k := 3) (by omega) rfl) dL_law_293 ?_
  refine lv_aload_n hx hb dL_law_294 rfl (lv_at hl 5 rfl) ?_
  refine lv_iload hx hb dL_law_295 (lv_at hl 1 rfl) ?_
  refine lv_iconst (v := 4) hx hb dL_law_297 (by decide) ?_
  refine lv_iadd hx hb dL_law_298 ?_
  refine va_sld hx hb hX hbl hbA hS (lx_in hz ht hL (k := 4) (by omega) rfl) dL_law_299 ?_
  refine lv_aload_n hx hb dL_law_300 rfl (lv_at hl 5 rfl) ?_
  refine lv_iload hx hb dL_law_301 (lv_at hl 1 rfl) ?_
  refine lv_iconst (v := 5) hx hb dL_law_303 (by decide) ?_
  refine lv_iadd hx hb dL_law_304 ?_
  refine va_sld hx hb hX hbl hbA hS (lx_in hz ht hL (k := 5) (by omega) rfl) dL_law_305 ?_
  refine wc_iV (k := 143) (C := RX7) (As := [.int (xs (z + 1).toNatClampNeg), .int (xs (z + 2).toNatClampNeg), .int (xs (z + 3).toNatClampNeg), .int (xs (z + 4).toNatClampNeg), .int (xs (z + 5).toNatClampNeg)]) (rest := []) ⟨hx, hb, hml, hown, hts⟩ (c_X7_stone l D c (gd g (f_X6_stone S (xs (z + 1).toNatClampNeg) (xs (z + 2).toNatClampNeg) (xs (z + 3).toNatClampNeg) (xs (z + 4).toNatClampNeg) (xs (z + 5).toNatClampNeg))) hr S1 (xs (z + 1).toNatClampNeg) (xs (z + 2).toNatClampNeg) (xs (z + 3).toNatClampNeg) (xs (z + 4).toNatClampNeg) (xs (z + 5).toNatClampNeg) hM1.inv.2) (cwV 5 hts gL_law_X7_stone rfl rfl rfl (by decide +kernel) ⟨Nat.le_of_ble_eq_true rfl, Nat.le_of_ble_eq_true rfl⟩) (wx_recv hK hP (by decide) qc_143 rfl) hK hP hS hA rfl hl.1 rfl (lv_room (Nat.le_of_ble_eq_true rfl)) dL_law_306 ⟨lx_c hcs.1 (by decide), lx_s hcs.2 (by decide)⟩ (fun H locs hP hS => ?_)
  obtain ⟨S2, eS2⟩ : ∃ Sx : qw_St, Sx = (g_X7_stone S1 (xs (z + 1).toNatClampNeg) (xs (z + 2).toNatClampNeg) (xs (z + 3).toNatClampNeg) (xs (z + 4).toNatClampNeg) (xs (z + 5).toNatClampNeg)) := ⟨_, rfl⟩
  rw [← eS2] at hP hop
  have hR2 : RA S2 S2 := hop.2.fin (fun k j hk => by rw [eS2]; exact fM_stone S1 (xs (z + 1).toNatClampNeg) (xs (z + 2).toNatClampNeg) (xs (z + 3).toNatClampNeg) (xs (z + 4).toNatClampNeg) (xs (z + 5).toNatClampNeg) j hk)
  refine lv_topi (fun b6 eb6 => ?_)
  refine lv_istore (lv' := [(6, .int b6), (5, .int k5), (4, .int z), (3, .ref (r 171)), (2, .ref (r 143)), (1, .ref (r 0)), (0, .ref b0)]) hx hb dL_law_309 hl (by decide) rfl (fun ls hl => ?_)
  refine lv_aload_n hx hb dL_law_311 rfl (lv_at hl 4 rfl) ?_
  refine wc_iV (k := 143) (C := RX7) (As := []) (rest := []) ⟨hx, hb, hml, hown, hts⟩ (c_X7_thrown l D c (gd g (f_X6_stone S (xs (z + 1).toNatClampNeg) (xs (z + 2).toNatClampNeg) (xs (z + 3).toNatClampNeg) (xs (z + 4).toNatClampNeg) (xs (z + 5).toNatClampNeg))) hr S2 ) (cwV 0 hts gL_law_X7_thrown rfl rfl rfl (by decide +kernel) ⟨Nat.le_of_ble_eq_true rfl, Nat.le_of_ble_eq_true rfl⟩) (wx_recv hK hP (by decide) qc_143 rfl) hK hP hS hA rfl hl.1 rfl (lv_room (Nat.le_of_ble_eq_true rfl)) dL_law_312 ⟨lx_c hcs.1 (by decide), lx_s hcs.2 (by decide)⟩ (fun H locs hP hS => ?_)
  refine lv_iload hx hb dL_law_315 (lv_at hl 1 rfl) ?_
  refine lv_icmp_eq (tgt := 322) hx hb dL_law_317 (by decide) (fun cx => ?_) (fun cx => ?_)
  rotate_left
  · exact absurd (hop.1.1.trans ek5.symm) cx
  refine lv_iload hx hb dL_law_322 (lv_at hl 1 rfl) ?_
  refine lv_if_ne (tgt := 339) hx hb dL_law_324 (by decide) (fun cy => ?_) (fun cy => ?_)
  · skip
    refine lv_goto (tgt := 1461) hx hb dL_law_339 (by decide) ?_
    have hl := lv_sub (l' := [(4, .int z), (3, .ref (r 171)), (2, .ref (r 143)), (1, .ref (r 0)), (0, .ref b0)]) hl [2, 3, 4, 5, 6] rfl
    refine W.widen (k := cells + 7) (n := slots + 42) (lx_w (by decide)) (lx_w (by decide)) ?_
    exact kk _ _ _ _ _ hR2 hP hS hl
  · skip
    obtain ⟨v, hF⟩ : ∃ v, f_X6_stone S (xs (z + 1).toNatClampNeg) (xs (z + 2).toNatClampNeg) (xs (z + 3).toNatClampNeg) (xs (z + 4).toNatClampNeg) (xs (z + 5).toNatClampNeg) = .ok v := by
      cases hF : f_X6_stone S (xs (z + 1).toNatClampNeg) (xs (z + 2).toNatClampNeg) (xs (z + 3).toNatClampNeg) (xs (z + 4).toNatClampNeg) (xs (z + 5).toNatClampNeg) with
      | ok v => exact ⟨v, rfl⟩
      | error N => exact absurd (ek5.symm.trans cy) (hop.1.2.2 N hF)
    have hvb : v = b6 := (hop.1.2.1 v hF).trans eb6.symm
    refine lv_aload_n hx hb dL_law_327 rfl (lv_at hl 3 rfl) ?_
    refine lv_iconst (v := 0) hx hb dL_law_328 (by decide) ?_
    refine wx_lld hx hb hK hP dL_law_329 ?_
    refine lv_iload hx hb dL_law_330 (lv_at hl 0 rfl) ?_
    have hg0 : gd g (f_X6_stone S (xs (z + 1).toNatClampNeg) (xs (z + 2).toNatClampNeg) (xs (z + 3).toNatClampNeg) (xs (z + 4).toNatClampNeg) (xs (z + 5).toNatClampNeg)) 0 = b6.toInt64 := by rw [hF, ← hvb]; rfl
    refine lv_i2l (v := b6.toInt64) hx hb dL_law_332 rfl ?_
    refine W.lcmp hx hb dL_law_333 ?_
    refine lv_if_eq (tgt := 339) hx hb dL_law_334 (by decide) (fun cw => ?_) (fun cw => ?_)
    rotate_left
    · exact absurd (by rw [hg0]; exact lx_cmp _) cw
    refine lv_goto (tgt := 1461) hx hb dL_law_339 (by decide) ?_
    have hl := lv_sub (l' := [(4, .int z), (3, .ref (r 171)), (2, .ref (r 143)), (1, .ref (r 0)), (0, .ref b0)]) hl [2, 3, 4, 5, 6] rfl
    refine W.widen (k := cells + 7) (n := slots + 42) (lx_w (by decide)) (lx_w (by decide)) ?_
    exact kk _ _ _ _ _ hR2 hP hS hl
set_option maxHeartbeats 4000000 in
set_option maxRecDepth 100000 in
theorem lw_c3 (C : LCx p l s m c0 D r c b b0 L xs) (ht : 7 * t + 7 ≤ L) (hz : z = nI (7 * t)) (hRA : RA S S) (hP : qw_P D r c g S H) (hS : va_S (px_A b) s.heap H locs) (hl : lv_has ls 7 [(4, .int z), (3, .ref (r 171)), (2, .ref (r 143)), (1, .ref (r 0)), (0, .ref b0)]) (hcs : cells + 7 ≤ 601024 ∧ slots + 42 ≤ 7293034)
    (kk : ∀ (S' : qw_St) (g' : Nat → Int64) (H : Heap) (locs : List Loc) (ls : Array Slot), RA S' S' → qw_P D r c g' S' H → va_S (px_A b) s.heap H locs → lv_has ls 7 [(4, .int z), (3, .ref (r 171)), (2, .ref (r 143)), (1, .ref (r 0)), (0, .ref b0)] → W p l e room_1 s m #[Value.ref b0] below meth c0 H locs (cells + 7) (slots + 42) Q (F0 m 1461 ls [])) : W p l e room_1 s m #[Value.ref b0] below meth c0 H locs cells slots Q (F0 m 342 ls []) := by
  obtain ⟨hlT, hx, hb, hml, hown, hts, hr, hK, hX, hbl, hbA, hA, hEW, hL⟩ := C
  refine lv_aload_n hx hb dL_law_342 rfl (lv_at hl 3 rfl) ?_
  refine lv_aload_n hx hb dL_law_343 rfl (lv_at hl 4 rfl) ?_
  refine lv_iload hx hb dL_law_344 (lv_at hl 0 rfl) ?_
  refine lv_iconst (v := 1) hx hb dL_law_346 (by decide) ?_
  refine lv_iadd hx hb dL_law_347 ?_
  refine va_sld hx hb hX hbl hbA hS (lx_in hz ht hL (k := 1) (by omega) rfl) dL_law_348 ?_
  refine lv_aload_n hx hb dL_law_349 rfl (lv_at hl 1 rfl) ?_
  refine wl_iS (As := [.ref (r 0), .int (xs (z + 1).toNatClampNeg), .ref (r 171)]) (rest := []) ⟨hx, hb, hml, hown, hts⟩ (c_L_strike l hlT D c g hr S (xs (z + 1).toNatClampNeg) (ra_sto hRA)) (vx_cwSW 3 hts gL_law_L_strike rfl rfl rfl (by decide +kernel) ⟨Nat.le_of_ble_eq_true rfl, Nat.le_of_ble_eq_true rfl⟩) hK hP hS hA (fun U hU hW => hEW.to hS hA hU hW) rfl hl.1 rfl (lv_room (Nat.le_of_ble_eq_true rfl)) dL_law_350 ⟨lx_c hcs.1 (by decide), lx_s hcs.2 (by decide)⟩ (fun H locs hP hS => ?_)
  obtain ⟨S1, eS1⟩ : ∃ Sx : qw_St, Sx = (g_X6_strike S (xs (z + 1).toNatClampNeg)) := ⟨_, rfl⟩
  rw [← eS1] at hP
  have hM1 : RA S S1 := hRA.mid (fun k j hk => by rw [eS1]; exact fC_strike S (xs (z + 1).toNatClampNeg) j hk)
  have hop := op_strike hM1 (xs (z + 1).toNatClampNeg)
  rw [← eS1] at hop
  refine lv_topi (fun k5 ek5 => ?_)
  refine lv_istore (lv' := [(5, .int k5), (4, .int z), (3, .ref (r 171)), (2, .ref (r 143)), (1, .ref (r 0)), (0, .ref b0)]) hx hb dL_law_353 hl (by decide) rfl (fun ls hl => ?_)
  refine lv_aload_n hx hb dL_law_355 rfl (lv_at hl 3 rfl) ?_
  refine lv_aload_n hx hb dL_law_356 rfl (lv_at hl 5 rfl) ?_
  refine lv_iload hx hb dL_law_357 (lv_at hl 1 rfl) ?_
  refine lv_iconst (v := 1) hx hb dL_law_359 (by decide) ?_
  refine lv_iadd hx hb dL_law_360 ?_
  refine va_sld hx hb hX hbl hbA hS (lx_in hz ht hL (k := 1) (by omega) rfl) dL_law_361 ?_
  refine wc_iV (k := 143) (C := RX7) (As := [.int (xs (z + 1).toNatClampNeg)]) (rest := []) ⟨hx, hb, hml, hown, hts⟩ (c_X7_strike l D c (gd g (f_X6_strike S (xs (z + 1).toNatClampNeg))) hr S1 (xs (z + 1).toNatClampNeg) hM1.inv.2) (cwV 1 hts gL_law_X7_strike rfl rfl rfl (by decide +kernel) ⟨Nat.le_of_ble_eq_true rfl, Nat.le_of_ble_eq_true rfl⟩) (wx_recv hK hP (by decide) qc_143 rfl) hK hP hS hA rfl hl.1 rfl (lv_room (Nat.le_of_ble_eq_true rfl)) dL_law_362 ⟨lx_c hcs.1 (by decide), lx_s hcs.2 (by decide)⟩ (fun H locs hP hS => ?_)
  obtain ⟨S2, eS2⟩ : ∃ Sx : qw_St, Sx = (g_X7_strike S1 (xs (z + 1).toNatClampNeg)) := ⟨_, rfl⟩
  rw [← eS2] at hP hop
  have hR2 : RA S2 S2 := hop.2.fin (fun k j hk => by rw [eS2]; exact fM_strike S1 (xs (z + 1).toNatClampNeg) j hk)
  refine lv_topi (fun b6 eb6 => ?_)
  refine lv_istore (lv' := [(6, .int b6), (5, .int k5), (4, .int z), (3, .ref (r 171)), (2, .ref (r 143)), (1, .ref (r 0)), (0, .ref b0)]) hx hb dL_law_365 hl (by decide) rfl (fun ls hl => ?_)
  refine lv_aload_n hx hb dL_law_367 rfl (lv_at hl 4 rfl) ?_
  refine wc_iV (k := 143) (C := RX7) (As := []) (rest := []) ⟨hx, hb, hml, hown, hts⟩ (c_X7_thrown l D c (gd g (f_X6_strike S (xs (z + 1).toNatClampNeg))) hr S2 ) (cwV 0 hts gL_law_X7_thrown rfl rfl rfl (by decide +kernel) ⟨Nat.le_of_ble_eq_true rfl, Nat.le_of_ble_eq_true rfl⟩) (wx_recv hK hP (by decide) qc_143 rfl) hK hP hS hA rfl hl.1 rfl (lv_room (Nat.le_of_ble_eq_true rfl)) dL_law_368 ⟨lx_c hcs.1 (by decide), lx_s hcs.2 (by decide)⟩ (fun H locs hP hS => ?_)
  refine lv_iload hx hb dL_law_371 (lv_at hl 1 rfl) ?_
  refine lv_icmp_eq (tgt := 378) hx hb dL_law_373 (by decide) (fun cx => ?_) (fun cx => ?_)
  rotate_left
  · exact absurd (hop.1.1.trans ek5.symm) cx
  refine lv_iload hx hb dL_law_378 (lv_at hl 1 rfl) ?_
  refine lv_if_ne (tgt := 402) hx hb dL_law_380 (by decide) (fun cy => ?_) (fun cy => ?_)
  · skip
    refine lv_goto (tgt := 1461) hx hb dL_law_402 (by decide) ?_
    have hl := lv_sub (l' := [(4, .int z), (3, .ref (r 171)), (2, .ref (r 143)), (1, .ref (r 0)), (0, .ref b0)]) hl [2, 3, 4, 5, 6] rfl
    refine W.widen (k := cells + 7) (n := slots + 42) (lx_w (by decide)) (lx_w (by decide)) ?_
    exact kk _ _ _ _ _ hR2 hP hS hl
  · skip
    obtain ⟨v, hF⟩ : ∃ v, f_X6_strike S (xs (z + 1).toNatClampNeg) = .ok v := by
      cases hF : f_X6_strike S (xs (z + 1).toNatClampNeg) with
      | ok v => exact ⟨v, rfl⟩
      | error N => exact absurd (ek5.symm.trans cy) (hop.1.2.2 N hF)
    have hvb : v = b6 := (hop.1.2.1 v hF).trans eb6.symm
    refine lv_aload_n hx hb dL_law_383 rfl (lv_at hl 3 rfl) ?_
    refine lv_iconst (v := 0) hx hb dL_law_384 (by decide) ?_
    refine wx_lld hx hb hK hP dL_law_385 ?_
    refine lv_iload hx hb dL_law_386 (lv_at hl 0 rfl) ?_
    have hg0 : gd g (f_X6_strike S (xs (z + 1).toNatClampNeg)) 0 = b6.toInt64 := by rw [hF, ← hvb]; rfl
    refine lv_if_eq (tgt := 395) hx hb dL_law_388 (by decide) (fun cb => ?_) (fun cb => ?_)
    · skip
      refine lv_lconst (v := 0) hx hb dL_law_395 rfl ?_
      refine W.lcmp hx hb dL_law_396 ?_
      have hg1 : gd g (f_X6_strike S (xs (z + 1).toNatClampNeg)) 0 = 0 := by
        rw [hg0, cb]; rfl
      refine lv_if_eq (tgt := 402) hx hb dL_law_397 (by decide) (fun cw => ?_) (fun cw => ?_)
      rotate_left
      · exact absurd (by rw [hg1]; exact lx_cmp _) cw
      refine lv_goto (tgt := 1461) hx hb dL_law_402 (by decide) ?_
      have hl := lv_sub (l' := [(4, .int z), (3, .ref (r 171)), (2, .ref (r 143)), (1, .ref (r 0)), (0, .ref b0)]) hl [2, 3, 4, 5, 6] rfl
      refine W.widen (k := cells + 7) (n := slots + 42) (lx_w (by decide)) (lx_w (by decide)) ?_
      exact kk _ _ _ _ _ hR2 hP hS hl
    · skip
      refine lv_lconst (v := 1) hx hb dL_law_391 rfl ?_
      refine lv_goto (tgt := 396) hx hb dL_law_392 (by decide) ?_
      refine W.lcmp hx hb dL_law_396 ?_
      have hg1 : gd g (f_X6_strike S (xs (z + 1).toNatClampNeg)) 0 = 1 := by
        rw [hg0, ← hvb, (bo_L_strike hF).resolve_left (fun h => cb (hvb ▸ h))]; rfl
      refine lv_if_eq (tgt := 402) hx hb dL_law_397 (by decide) (fun cw => ?_) (fun cw => ?_)
      rotate_left
      · exact absurd (by rw [hg1]; exact lx_cmp _) cw
      refine lv_goto (tgt := 1461) hx hb dL_law_402 (by decide) ?_
      have hl := lv_sub (l' := [(4, .int z), (3, .ref (r 171)), (2, .ref (r 143)), (1, .ref (r 0)), (0, .ref b0)]) hl [2, 3, 4, 5, 6] rfl
      refine W.widen (k := cells + 7) (n := slots + 42) (lx_w (by decide)) (lx_w (by decide)) ?_
      exact kk _ _ _ _ _ hR2 hP hS hl
set_option maxHeartbeats 4000000 in
set_option maxRecDepth 100000 in
theorem lw_c4 (C : LCx p l s m c0 D r c b b0 L xs) (ht : 7 * t + 7 ≤ L) (hz : z = nI (7 * t)) (hRA : RA S S) (hP : qw_P D r c g S H) (hS : va_S (px_A b) s.heap H locs) (hl : lv_has ls 7 [(4, .int z), (3, .ref (r 171)), (2, .ref (r 143)), (1, .ref (r 0)), (0, .ref b0)]) (hcs : cells + 7 ≤ 601024 ∧ slots + 42 ≤ 7293034)
    (kk : ∀ (S' : qw_St) (g' : Nat → Int64) (H : Heap) (locs : List Loc) (ls : Array Slot), RA S' S' → qw_P D r c g' S' H → va_S (px_A b) s.heap H locs → lv_has ls 7 [(4, .int z), (3, .ref (r 171)), (2, .ref (r 143)), (1, .ref (r 0)), (0, .ref b0)] → W p l e room_1 s m #[Value.ref b0] below meth c0 H locs (cells + 7) (slots + 42) Q (F0 m 1461 ls [])) : W p l e room_1 s m #[Value.ref b0] below meth c0 H locs cells slots Q (F0 m 405 ls []) := by
  obtain ⟨hlT, hx, hb, hml, hown, hts, hr, hK, hX, hbl, hbA, hA, hEW, hL⟩ := C
  refine lv_aload_n hx hb dL_law_405 rfl (lv_at hl 3 rfl) ?_
  refine lv_aload_n hx hb dL_law_406 rfl (lv_at hl 4 rfl) ?_
  refine lv_iload hx hb dL_law_407 (lv_at hl 0 rfl) ?_
  refine lv_iconst (v := 1) hx hb dL_law_409 (by decide) ?_
  refine lv_iadd hx hb dL_law_410 ?_
  refine va_sld hx hb hX hbl hbA hS (lx_in hz ht hL (k := 1) (by omega) rfl) dL_law_411 ?_
  refine lv_aload_n hx hb dL_law_412 rfl (lv_at hl 4 rfl) ?_
  refine lv_iload hx hb dL_law_413 (lv_at hl 0 rfl) ?_
  refine lv_iconst (v := 2) hx hb dL_law_415 (by decide) ?_
  refine lv_iadd hx hb dL_law_416 ?_
  refine va_sld hx hb hX hbl hbA hS (lx_in hz ht hL (k := 2) (by omega) rfl) dL_law_417 ?_
  refine lv_aload_n hx hb dL_law_418 rfl (lv_at hl 1 rfl) ?_
  refine wl_iS (As := [.ref (r 0), .int (xs (z + 1).toNatClampNeg), .int (xs (z + 2).toNatClampNeg), .ref (r 171)]) (rest := []) ⟨hx, hb, hml, hown, hts⟩ (c_L_habit l hlT D c g hr S (xs (z + 1).toNatClampNeg) (xs (z + 2).toNatClampNeg) ) (vx_cwSW 4 hts gL_law_L_habit rfl rfl rfl (by decide +kernel) ⟨Nat.le_of_ble_eq_true rfl, Nat.le_of_ble_eq_true rfl⟩) hK hP hS hA (fun U hU hW => hEW.to hS hA hU hW) rfl hl.1 rfl (lv_room (Nat.le_of_ble_eq_true rfl)) dL_law_419 ⟨lx_c hcs.1 (by decide), lx_s hcs.2 (by decide)⟩ (fun H locs hP hS => ?_)
  obtain ⟨S1, eS1⟩ : ∃ Sx : qw_St, Sx = (g_X6_habit S (xs (z + 1).toNatClampNeg) (xs (z + 2).toNatClampNeg)) := ⟨_, rfl⟩
  rw [← eS1] at hP
  have hM1 : RA S S1 := hRA.mid (fun k j hk => by rw [eS1]; exact fC_habit S (xs (z + 1).toNatClampNeg) (xs (z + 2).toNatClampNeg) j hk)
  have hop := op_habit hM1 (xs (z + 1).toNatClampNeg) (xs (z + 2).toNatClampNeg)
  rw [← eS1] at hop
  refine lv_topi (fun k5 ek5 => ?_)
  refine lv_istore (lv' := [(5, .int k5), (4, .int z), (3, .ref (r 171)), (2, .ref (r 143)), (1, .ref (r 0)), (0, .ref b0)]) hx hb dL_law_422 hl (by decide) rfl (fun ls hl => ?_)
  refine lv_aload_n hx hb dL_law_424 rfl (lv_at hl 3 rfl) ?_
  refine lv_aload_n hx hb dL_law_425 rfl (lv_at hl 5 rfl) ?_
  refine lv_iload hx hb dL_law_426 (lv_at hl 1 rfl) ?_
  refine lv_iconst (v := 1) hx hb dL_law_428 (by decide) ?_
  refine lv_iadd hx hb dL_law_429 ?_
  refine va_sld hx hb hX hbl hbA hS (lx_in hz ht hL (k := 1) (by omega) rfl) dL_law_430 ?_
  refine lv_aload_n hx hb dL_law_431 rfl (lv_at hl 5 rfl) ?_
  refine lv_iload hx hb dL_law_432 (lv_at hl 1 rfl) ?_
  refine lv_iconst (v := 2) hx hb dL_law_434 (by decide) ?_
  refine lv_iadd hx hb dL_law_435 ?_
  refine va_sld hx hb hX hbl hbA hS (lx_in hz ht hL (k := 2) (by omega) rfl) dL_law_436 ?_
  refine wc_iV (k := 143) (C := RX7) (As := [.int (xs (z + 1).toNatClampNeg), .int (xs (z + 2).toNatClampNeg)]) (rest := []) ⟨hx, hb, hml, hown, hts⟩ (c_X7_habit l D c (gd g (f_X6_habit S (xs (z + 1).toNatClampNeg) (xs (z + 2).toNatClampNeg))) hr S1 (xs (z + 1).toNatClampNeg) (xs (z + 2).toNatClampNeg) ) (cwV 2 hts gL_law_X7_habit rfl rfl rfl (by decide +kernel) ⟨Nat.le_of_ble_eq_true rfl, Nat.le_of_ble_eq_true rfl⟩) (wx_recv hK hP (by decide) qc_143 rfl) hK hP hS hA rfl hl.1 rfl (lv_room (Nat.le_of_ble_eq_true rfl)) dL_law_437 ⟨lx_c hcs.1 (by decide), lx_s hcs.2 (by decide)⟩ (fun H locs hP hS => ?_)
  obtain ⟨S2, eS2⟩ : ∃ Sx : qw_St, Sx = (g_X7_habit S1 (xs (z + 1).toNatClampNeg) (xs (z + 2).toNatClampNeg)) := ⟨_, rfl⟩
  rw [← eS2] at hP hop
  have hR2 : RA S2 S2 := hop.2.fin (fun k j hk => by rw [eS2]; exact fM_habit S1 (xs (z + 1).toNatClampNeg) (xs (z + 2).toNatClampNeg) j hk)
  refine lv_topi (fun b6 eb6 => ?_)
  refine lv_istore (lv' := [(6, .int b6), (5, .int k5), (4, .int z), (3, .ref (r 171)), (2, .ref (r 143)), (1, .ref (r 0)), (0, .ref b0)]) hx hb dL_law_440 hl (by decide) rfl (fun ls hl => ?_)
  refine lv_aload_n hx hb dL_law_442 rfl (lv_at hl 4 rfl) ?_
  refine wc_iV (k := 143) (C := RX7) (As := []) (rest := []) ⟨hx, hb, hml, hown, hts⟩ (c_X7_thrown l D c (gd g (f_X6_habit S (xs (z + 1).toNatClampNeg) (xs (z + 2).toNatClampNeg))) hr S2 ) (cwV 0 hts gL_law_X7_thrown rfl rfl rfl (by decide +kernel) ⟨Nat.le_of_ble_eq_true rfl, Nat.le_of_ble_eq_true rfl⟩) (wx_recv hK hP (by decide) qc_143 rfl) hK hP hS hA rfl hl.1 rfl (lv_room (Nat.le_of_ble_eq_true rfl)) dL_law_443 ⟨lx_c hcs.1 (by decide), lx_s hcs.2 (by decide)⟩ (fun H locs hP hS => ?_)
  refine lv_iload hx hb dL_law_446 (lv_at hl 1 rfl) ?_
  refine lv_icmp_eq (tgt := 453) hx hb dL_law_448 (by decide) (fun cx => ?_) (fun cx => ?_)
  rotate_left
  · exact absurd (hop.1.1.trans ek5.symm) cx
  refine lv_iload hx hb dL_law_453 (lv_at hl 1 rfl) ?_
  refine lv_if_ne (tgt := 477) hx hb dL_law_455 (by decide) (fun cy => ?_) (fun cy => ?_)
  · skip
    refine lv_goto (tgt := 1461) hx hb dL_law_477 (by decide) ?_
    have hl := lv_sub (l' := [(4, .int z), (3, .ref (r 171)), (2, .ref (r 143)), (1, .ref (r 0)), (0, .ref b0)]) hl [2, 3, 4, 5, 6] rfl
    refine W.widen (k := cells + 7) (n := slots + 42) (lx_w (by decide)) (lx_w (by decide)) ?_
    exact kk _ _ _ _ _ hR2 hP hS hl
  · skip
    obtain ⟨v, hF⟩ : ∃ v, f_X6_habit S (xs (z + 1).toNatClampNeg) (xs (z + 2).toNatClampNeg) = .ok v := by
      cases hF : f_X6_habit S (xs (z + 1).toNatClampNeg) (xs (z + 2).toNatClampNeg) with
      | ok v => exact ⟨v, rfl⟩
      | error N => exact absurd (ek5.symm.trans cy) (hop.1.2.2 N hF)
    have hvb : v = b6 := (hop.1.2.1 v hF).trans eb6.symm
    refine lv_aload_n hx hb dL_law_458 rfl (lv_at hl 3 rfl) ?_
    refine lv_iconst (v := 0) hx hb dL_law_459 (by decide) ?_
    refine wx_lld hx hb hK hP dL_law_460 ?_
    refine lv_iload hx hb dL_law_461 (lv_at hl 0 rfl) ?_
    have hg0 : gd g (f_X6_habit S (xs (z + 1).toNatClampNeg) (xs (z + 2).toNatClampNeg)) 0 = b6.toInt64 := by rw [hF, ← hvb]; rfl
    refine lv_if_eq (tgt := 470) hx hb dL_law_463 (by decide) (fun cb => ?_) (fun cb => ?_)
    · skip
      refine lv_lconst (v := 0) hx hb dL_law_470 rfl ?_
      refine W.lcmp hx hb dL_law_471 ?_
      have hg1 : gd g (f_X6_habit S (xs (z + 1).toNatClampNeg) (xs (z + 2).toNatClampNeg)) 0 = 0 := by
        rw [hg0, cb]; rfl
      refine lv_if_eq (tgt := 477) hx hb dL_law_472 (by decide) (fun cw => ?_) (fun cw => ?_)
      rotate_left
      · exact absurd (by rw [hg1]; exact lx_cmp _) cw
      refine lv_goto (tgt := 1461) hx hb dL_law_477 (by decide) ?_
      have hl := lv_sub (l' := [(4, .int z), (3, .ref (r 171)), (2, .ref (r 143)), (1, .ref (r 0)), (0, .ref b0)]) hl [2, 3, 4, 5, 6] rfl
      refine W.widen (k := cells + 7) (n := slots + 42) (lx_w (by decide)) (lx_w (by decide)) ?_
      exact kk _ _ _ _ _ hR2 hP hS hl
    · skip
      refine lv_lconst (v := 1) hx hb dL_law_466 rfl ?_
      refine lv_goto (tgt := 471) hx hb dL_law_467 (by decide) ?_
      refine W.lcmp hx hb dL_law_471 ?_
      have hg1 : gd g (f_X6_habit S (xs (z + 1).toNatClampNeg) (xs (z + 2).toNatClampNeg)) 0 = 1 := by
        rw [hg0, ← hvb, (bo_L_habit hF).resolve_left (fun h => cb (hvb ▸ h))]; rfl
      refine lv_if_eq (tgt := 477) hx hb dL_law_472 (by decide) (fun cw => ?_) (fun cw => ?_)
      rotate_left
      · exact absurd (by rw [hg1]; exact lx_cmp _) cw
      refine lv_goto (tgt := 1461) hx hb dL_law_477 (by decide) ?_
      have hl := lv_sub (l' := [(4, .int z), (3, .ref (r 171)), (2, .ref (r 143)), (1, .ref (r 0)), (0, .ref b0)]) hl [2, 3, 4, 5, 6] rfl
      refine W.widen (k := cells + 7) (n := slots + 42) (lx_w (by decide)) (lx_w (by decide)) ?_
      exact kk _ _ _ _ _ hR2 hP hS hl
set_option maxHeartbeats 4000000 in
set_option maxRecDepth 100000 in
theorem lw_c5 (C : LCx p l s m c0 D r c b b0 L xs) (ht : 7 * t + 7 ≤ L) (hz : z = nI (7 * t)) (hRA : RA S S) (hP : qw_P D r c g S H) (hS : va_S (px_A b) s.heap H locs) (hl : lv_has ls 7 [(4, .int z), (3, .ref (r 171)), (2, .ref (r 143)), (1, .ref (r 0)), (0, .ref b0)]) (hcs : cells + 7 ≤ 601024 ∧ slots + 42 ≤ 7293034)
    (kk : ∀ (S' : qw_St) (g' : Nat → Int64) (H : Heap) (locs : List Loc) (ls : Array Slot), RA S' S' → qw_P D r c g' S' H → va_S (px_A b) s.heap H locs → lv_has ls 7 [(4, .int z), (3, .ref (r 171)), (2, .ref (r 143)), (1, .ref (r 0)), (0, .ref b0)] → W p l e room_1 s m #[Value.ref b0] below meth c0 H locs (cells + 7) (slots + 42) Q (F0 m 1461 ls [])) : W p l e room_1 s m #[Value.ref b0] below meth c0 H locs cells slots Q (F0 m 480 ls []) := by
  obtain ⟨hlT, hx, hb, hml, hown, hts, hr, hK, hX, hbl, hbA, hA, hEW, hL⟩ := C
  refine lv_aload_n hx hb dL_law_480 rfl (lv_at hl 3 rfl) ?_
  refine lv_aload_n hx hb dL_law_481 rfl (lv_at hl 4 rfl) ?_
  refine lv_iload hx hb dL_law_482 (lv_at hl 0 rfl) ?_
  refine lv_iconst (v := 1) hx hb dL_law_484 (by decide) ?_
  refine lv_iadd hx hb dL_law_485 ?_
  refine va_sld hx hb hX hbl hbA hS (lx_in hz ht hL (k := 1) (by omega) rfl) dL_law_486 ?_
  refine lv_aload_n hx hb dL_law_487 rfl (lv_at hl 4 rfl) ?_
  refine lv_iload hx hb dL_law_488 (lv_at hl 0 rfl) ?_
  refine lv_iconst (v := 2) hx hb dL_law_490 (by decide) ?_
  refine lv_iadd hx hb dL_law_491 ?_
  refine va_sld hx hb hX hbl hbA hS (lx_in hz ht hL (k := 2) (by omega) rfl) dL_law_492 ?_
  refine lv_aload_n hx hb dL_law_493 rfl (lv_at hl 4 rfl) ?_
  refine lv_iload hx hb dL_law_494 (lv_at hl 0 rfl) ?_
  refine lv_iconst (v := 3) hx hb dL_law_496 (by decide) ?_
  refine lv_iadd hx hb dL_law_497 ?_
  refine va_sld hx hb hX hbl hbA hS (lx_in hz ht hL (k := 3) (by omega) rfl) dL_law_498 ?_
  refine lv_aload_n hx hb dL_law_499 rfl (lv_at hl 1 rfl) ?_
  refine wl_iS (As := [.ref (r 0), .int (xs (z + 1).toNatClampNeg), .int (xs (z + 2).toNatClampNeg), .int (xs (z + 3).toNatClampNeg), .ref (r 171)]) (rest := []) ⟨hx, hb, hml, hown, hts⟩ (c_L_agree l hlT D c g hr S (xs (z + 1).toNatClampNeg) (xs (z + 2).toNatClampNeg) (xs (z + 3).toNatClampNeg) (ra_sto hRA)) (vx_cwSW 5 hts gL_law_L_agree rfl rfl rfl (by decide +kernel) ⟨Nat.le_of_ble_eq_true rfl, Nat.le_of_ble_eq_true rfl⟩) hK hP hS hA (fun U hU hW => hEW.to hS hA hU hW) rfl hl.1 rfl (lv_room (Nat.le_of_ble_eq_true rfl)) dL_law_500 ⟨lx_c hcs.1 (by decide), lx_s hcs.2 (by decide)⟩ (fun H locs hP hS => ?_)
  obtain ⟨S1, eS1⟩ : ∃ Sx : qw_St, Sx = (g_X6_agree S (xs (z + 1).toNatClampNeg) (xs (z + 2).toNatClampNeg) (xs (z + 3).toNatClampNeg)) := ⟨_, rfl⟩
  rw [← eS1] at hP
  have hM1 : RA S S1 := hRA.mid (fun k j hk => by rw [eS1]; exact fC_agree S (xs (z + 1).toNatClampNeg) (xs (z + 2).toNatClampNeg) (xs (z + 3).toNatClampNeg) j hk)
  have hop := op_agree hM1 (xs (z + 1).toNatClampNeg) (xs (z + 2).toNatClampNeg) (xs (z + 3).toNatClampNeg)
  rw [← eS1] at hop
  refine lv_topi (fun k5 ek5 => ?_)
  refine lv_istore (lv' := [(5, .int k5), (4, .int z), (3, .ref (r 171)), (2, .ref (r 143)), (1, .ref (r 0)), (0, .ref b0)]) hx hb dL_law_503 hl (by decide) rfl (fun ls hl => ?_)
  refine lv_aload_n hx hb dL_law_505 rfl (lv_at hl 3 rfl) ?_
  refine lv_aload_n hx hb dL_law_506 rfl (lv_at hl 5 rfl) ?_
  refine lv_iload hx hb dL_law_507 (lv_at hl 1 rfl) ?_
  refine lv_iconst (v := 1) hx hb dL_law_509 (by decide) ?_
  refine lv_iadd hx hb dL_law_510 ?_
  refine va_sld hx hb hX hbl hbA hS (lx_in hz ht hL (k := 1) (by omega) rfl) dL_law_511 ?_
  refine lv_aload_n hx hb dL_law_512 rfl (lv_at hl 5 rfl) ?_
  refine lv_iload hx hb dL_law_513 (lv_at hl 1 rfl) ?_
  refine lv_iconst (v := 2) hx hb dL_law_515 (by decide) ?_
  refine lv_iadd hx hb dL_law_516 ?_
  refine va_sld hx hb hX hbl hbA hS (lx_in hz ht hL (k := 2) (by omega) rfl) dL_law_517 ?_
  refine lv_aload_n hx hb dL_law_518 rfl (lv_at hl 5 rfl) ?_
  refine lv_iload hx hb dL_law_519 (lv_at hl 1 rfl) ?_
  refine lv_iconst (v := 3) hx hb dL_law_521 (by decide) ?_
  refine lv_iadd hx hb dL_law_522 ?_
  refine va_sld hx hb hX hbl hbA hS (lx_in hz ht hL (k := 3) (by omega) rfl) dL_law_523 ?_
  refine wc_iV (k := 143) (C := RX7) (As := [.int (xs (z + 1).toNatClampNeg), .int (xs (z + 2).toNatClampNeg), .int (xs (z + 3).toNatClampNeg)]) (rest := []) ⟨hx, hb, hml, hown, hts⟩ (c_X7_agree l D c (gd g (f_X6_agree S (xs (z + 1).toNatClampNeg) (xs (z + 2).toNatClampNeg) (xs (z + 3).toNatClampNeg))) hr S1 (xs (z + 1).toNatClampNeg) (xs (z + 2).toNatClampNeg) (xs (z + 3).toNatClampNeg) hM1.inv.2) (cwV 3 hts gL_law_X7_agree rfl rfl rfl (by decide +kernel) ⟨Nat.le_of_ble_eq_true rfl, Nat.le_of_ble_eq_true rfl⟩) (wx_recv hK hP (by decide) qc_143 rfl) hK hP hS hA rfl hl.1 rfl (lv_room (Nat.le_of_ble_eq_true rfl)) dL_law_524 ⟨lx_c hcs.1 (by decide), lx_s hcs.2 (by decide)⟩ (fun H locs hP hS => ?_)
  obtain ⟨S2, eS2⟩ : ∃ Sx : qw_St, Sx = (g_X7_agree S1 (xs (z + 1).toNatClampNeg) (xs (z + 2).toNatClampNeg) (xs (z + 3).toNatClampNeg)) := ⟨_, rfl⟩
  rw [← eS2] at hP hop
  have hR2 : RA S2 S2 := hop.2.fin (fun k j hk => by rw [eS2]; exact fM_agree S1 (xs (z + 1).toNatClampNeg) (xs (z + 2).toNatClampNeg) (xs (z + 3).toNatClampNeg) j hk)
  refine lv_topi (fun b6 eb6 => ?_)
  refine lv_istore (lv' := [(6, .int b6), (5, .int k5), (4, .int z), (3, .ref (r 171)), (2, .ref (r 143)), (1, .ref (r 0)), (0, .ref b0)]) hx hb dL_law_527 hl (by decide) rfl (fun ls hl => ?_)
  refine lv_aload_n hx hb dL_law_529 rfl (lv_at hl 4 rfl) ?_
  refine wc_iV (k := 143) (C := RX7) (As := []) (rest := []) ⟨hx, hb, hml, hown, hts⟩ (c_X7_thrown l D c (gd g (f_X6_agree S (xs (z + 1).toNatClampNeg) (xs (z + 2).toNatClampNeg) (xs (z + 3).toNatClampNeg))) hr S2 ) (cwV 0 hts gL_law_X7_thrown rfl rfl rfl (by decide +kernel) ⟨Nat.le_of_ble_eq_true rfl, Nat.le_of_ble_eq_true rfl⟩) (wx_recv hK hP (by decide) qc_143 rfl) hK hP hS hA rfl hl.1 rfl (lv_room (Nat.le_of_ble_eq_true rfl)) dL_law_530 ⟨lx_c hcs.1 (by decide), lx_s hcs.2 (by decide)⟩ (fun H locs hP hS => ?_)
  refine lv_iload hx hb dL_law_533 (lv_at hl 1 rfl) ?_
  refine lv_icmp_eq (tgt := 540) hx hb dL_law_535 (by decide) (fun cx => ?_) (fun cx => ?_)
  rotate_left
  · exact absurd (hop.1.1.trans ek5.symm) cx
  refine lv_iload hx hb dL_law_540 (lv_at hl 1 rfl) ?_
  refine lv_if_ne (tgt := 557) hx hb dL_law_542 (by decide) (fun cy => ?_) (fun cy => ?_)
  · skip
    refine lv_goto (tgt := 1461) hx hb dL_law_557 (by decide) ?_
    have hl := lv_sub (l' := [(4, .int z), (3, .ref (r 171)), (2, .ref (r 143)), (1, .ref (r 0)), (0, .ref b0)]) hl [2, 3, 4, 5, 6] rfl
    refine W.widen (k := cells + 7) (n := slots + 42) (lx_w (by decide)) (lx_w (by decide)) ?_
    exact kk _ _ _ _ _ hR2 hP hS hl
  · skip
    obtain ⟨v, hF⟩ : ∃ v, f_X6_agree S (xs (z + 1).toNatClampNeg) (xs (z + 2).toNatClampNeg) (xs (z + 3).toNatClampNeg) = .ok v := by
      cases hF : f_X6_agree S (xs (z + 1).toNatClampNeg) (xs (z + 2).toNatClampNeg) (xs (z + 3).toNatClampNeg) with
      | ok v => exact ⟨v, rfl⟩
      | error N => exact absurd (ek5.symm.trans cy) (hop.1.2.2 N hF)
    have hvb : v = b6 := (hop.1.2.1 v hF).trans eb6.symm
    refine lv_aload_n hx hb dL_law_545 rfl (lv_at hl 3 rfl) ?_
    refine lv_iconst (v := 0) hx hb dL_law_546 (by decide) ?_
    refine wx_lld hx hb hK hP dL_law_547 ?_
    refine lv_iload hx hb dL_law_548 (lv_at hl 0 rfl) ?_
    have hg0 : gd g (f_X6_agree S (xs (z + 1).toNatClampNeg) (xs (z + 2).toNatClampNeg) (xs (z + 3).toNatClampNeg)) 0 = b6.toInt64 := by rw [hF, ← hvb]; rfl
    refine lv_i2l (v := b6.toInt64) hx hb dL_law_550 rfl ?_
    refine W.lcmp hx hb dL_law_551 ?_
    refine lv_if_eq (tgt := 557) hx hb dL_law_552 (by decide) (fun cw => ?_) (fun cw => ?_)
    rotate_left
    · exact absurd (by rw [hg0]; exact lx_cmp _) cw
    refine lv_goto (tgt := 1461) hx hb dL_law_557 (by decide) ?_
    have hl := lv_sub (l' := [(4, .int z), (3, .ref (r 171)), (2, .ref (r 143)), (1, .ref (r 0)), (0, .ref b0)]) hl [2, 3, 4, 5, 6] rfl
    refine W.widen (k := cells + 7) (n := slots + 42) (lx_w (by decide)) (lx_w (by decide)) ?_
    exact kk _ _ _ _ _ hR2 hP hS hl
set_option maxHeartbeats 4000000 in
set_option maxRecDepth 100000 in
theorem lw_c6 (C : LCx p l s m c0 D r c b b0 L xs) (ht : 7 * t + 7 ≤ L) (hz : z = nI (7 * t)) (hRA : RA S S) (hP : qw_P D r c g S H) (hS : va_S (px_A b) s.heap H locs) (hl : lv_has ls 7 [(4, .int z), (3, .ref (r 171)), (2, .ref (r 143)), (1, .ref (r 0)), (0, .ref b0)]) (hcs : cells + 7 ≤ 601024 ∧ slots + 42 ≤ 7293034)
    (kk : ∀ (S' : qw_St) (g' : Nat → Int64) (H : Heap) (locs : List Loc) (ls : Array Slot), RA S' S' → qw_P D r c g' S' H → va_S (px_A b) s.heap H locs → lv_has ls 7 [(4, .int z), (3, .ref (r 171)), (2, .ref (r 143)), (1, .ref (r 0)), (0, .ref b0)] → W p l e room_1 s m #[Value.ref b0] below meth c0 H locs (cells + 7) (slots + 42) Q (F0 m 1461 ls [])) : W p l e room_1 s m #[Value.ref b0] below meth c0 H locs cells slots Q (F0 m 560 ls []) := by
  obtain ⟨hlT, hx, hb, hml, hown, hts, hr, hK, hX, hbl, hbA, hA, hEW, hL⟩ := C
  refine lv_aload_n hx hb dL_law_560 rfl (lv_at hl 3 rfl) ?_
  refine lv_aload_n hx hb dL_law_561 rfl (lv_at hl 1 rfl) ?_
  refine wl_iS (As := [.ref (r 0), .ref (r 171)]) (rest := []) ⟨hx, hb, hml, hown, hts⟩ (c_L_edict l hlT D c g hr S (ra_len hRA) (ra_dec hRA) (ra_new hRA)) (vx_cwSW 2 hts gL_law_L_edict rfl rfl rfl (by decide +kernel) ⟨Nat.le_of_ble_eq_true rfl, Nat.le_of_ble_eq_true rfl⟩) hK hP hS hA (fun U hU hW => hEW.to hS hA hU hW) rfl hl.1 rfl (lv_room (Nat.le_of_ble_eq_true rfl)) dL_law_562 ⟨lx_c hcs.1 (by decide), lx_s hcs.2 (by decide)⟩ (fun H locs hP hS => ?_)
  obtain ⟨S1, eS1⟩ : ∃ Sx : qw_St, Sx = (g_X6_edict S) := ⟨_, rfl⟩
  rw [← eS1] at hP
  have hM1 : RA S S1 := hRA.mid (fun k j hk => by rw [eS1]; exact fC_edict S (ra_dec hRA) j hk)
  have hop := op_edict hM1
  rw [← eS1] at hop
  refine lv_topi (fun k5 ek5 => ?_)
  refine lv_istore (lv' := [(5, .int k5), (4, .int z), (3, .ref (r 171)), (2, .ref (r 143)), (1, .ref (r 0)), (0, .ref b0)]) hx hb dL_law_565 hl (by decide) rfl (fun ls hl => ?_)
  refine lv_aload_n hx hb dL_law_567 rfl (lv_at hl 3 rfl) ?_
  refine wd_iV (b := r 143) (C := RX7) (As := []) (rest := []) ⟨hx, hb, hml, hown, hts⟩ (c_X7_edict l D c (gd g (f_X6_edict S)) hr S1 hM1.2.2.2.2.2.2.2.2.2.2.2.1 (ra_hte hM1)) (ev_bl _) (fun U hU hW => (hEW.to hS hA hU hW).1) (cwV 0 hts gL_law_X7_edict rfl rfl rfl (by decide +kernel) ⟨Nat.le_of_ble_eq_true rfl, Nat.le_of_ble_eq_true rfl⟩) (wx_recv hK hP (by decide) qc_143 rfl) hK hP hS hA rfl hl.1 rfl (lv_room (Nat.le_of_ble_eq_true rfl)) dL_law_568 ⟨lx_c hcs.1 (by decide), lx_s hcs.2 (by decide)⟩ (fun H locs hP hS => ?_)
  obtain ⟨S2, eS2⟩ : ∃ Sx : qw_St, Sx = (g_X7_edict S1) := ⟨_, rfl⟩
  rw [← eS2] at hP hop
  have hR2 : RA S2 S2 := hop.2.fin (fun k j hk => by rw [eS2]; exact fM_edict S1 j hk)
  refine lv_topi (fun b6 eb6 => ?_)
  refine lv_istore (lv' := [(6, .int b6), (5, .int k5), (4, .int z), (3, .ref (r 171)), (2, .ref (r 143)), (1, .ref (r 0)), (0, .ref b0)]) hx hb dL_law_571 hl (by decide) rfl (fun ls hl => ?_)
  refine lv_aload_n hx hb dL_law_573 rfl (lv_at hl 4 rfl) ?_
  refine wc_iV (k := 143) (C := RX7) (As := []) (rest := []) ⟨hx, hb, hml, hown, hts⟩ (c_X7_thrown l D c (gd g (f_X6_edict S)) hr S2 ) (cwV 0 hts gL_law_X7_thrown rfl rfl rfl (by decide +kernel) ⟨Nat.le_of_ble_eq_true rfl, Nat.le_of_ble_eq_true rfl⟩) (wx_recv hK hP (by decide) qc_143 rfl) hK hP hS hA rfl hl.1 rfl (lv_room (Nat.le_of_ble_eq_true rfl)) dL_law_574 ⟨lx_c hcs.1 (by decide), lx_s hcs.2 (by decide)⟩ (fun H locs hP hS => ?_)
  refine lv_iload hx hb dL_law_577 (lv_at hl 1 rfl) ?_
  refine lv_icmp_eq (tgt := 584) hx hb dL_law_579 (by decide) (fun cx => ?_) (fun cx => ?_)
  rotate_left
  · exact absurd (hop.1.1.trans ek5.symm) cx
  refine lv_iload hx hb dL_law_584 (lv_at hl 1 rfl) ?_
  refine lv_if_ne (tgt := 601) hx hb dL_law_586 (by decide) (fun cy => ?_) (fun cy => ?_)
  · skip
    refine lv_goto (tgt := 1461) hx hb dL_law_601 (by decide) ?_
    have hl := lv_sub (l' := [(4, .int z), (3, .ref (r 171)), (2, .ref (r 143)), (1, .ref (r 0)), (0, .ref b0)]) hl [2, 3, 4, 5, 6] rfl
    refine W.widen (k := cells + 7) (n := slots + 42) (lx_w (by decide)) (lx_w (by decide)) ?_
    exact kk _ _ _ _ _ hR2 hP hS hl
  · skip
    obtain ⟨v, hF⟩ : ∃ v, f_X6_edict S = .ok v := by
      cases hF : f_X6_edict S with
      | ok v => exact ⟨v, rfl⟩
      | error N => exact absurd (ek5.symm.trans cy) (hop.1.2.2 N hF)
    have hvb : v = b6 := (hop.1.2.1 v hF).trans eb6.symm
    refine lv_aload_n hx hb dL_law_589 rfl (lv_at hl 3 rfl) ?_
    refine lv_iconst (v := 0) hx hb dL_law_590 (by decide) ?_
    refine wx_lld hx hb hK hP dL_law_591 ?_
    refine lv_iload hx hb dL_law_592 (lv_at hl 0 rfl) ?_
    have hg0 : gd g (f_X6_edict S) 0 = b6.toInt64 := by rw [hF, ← hvb]; rfl
    refine lv_i2l (v := b6.toInt64) hx hb dL_law_594 rfl ?_
    refine W.lcmp hx hb dL_law_595 ?_
    refine lv_if_eq (tgt := 601) hx hb dL_law_596 (by decide) (fun cw => ?_) (fun cw => ?_)
    rotate_left
    · exact absurd (by rw [hg0]; exact lx_cmp _) cw
    refine lv_goto (tgt := 1461) hx hb dL_law_601 (by decide) ?_
    have hl := lv_sub (l' := [(4, .int z), (3, .ref (r 171)), (2, .ref (r 143)), (1, .ref (r 0)), (0, .ref b0)]) hl [2, 3, 4, 5, 6] rfl
    refine W.widen (k := cells + 7) (n := slots + 42) (lx_w (by decide)) (lx_w (by decide)) ?_
    exact kk _ _ _ _ _ hR2 hP hS hl
set_option maxHeartbeats 4000000 in
set_option maxRecDepth 100000 in
theorem lw_c7 (C : LCx p l s m c0 D r c b b0 L xs) (ht : 7 * t + 7 ≤ L) (hz : z = nI (7 * t)) (hRA : RA S S) (hP : qw_P D r c g S H) (hS : va_S (px_A b) s.heap H locs) (hl : lv_has ls 7 [(4, .int z), (3, .ref (r 171)), (2, .ref (r 143)), (1, .ref (r 0)), (0, .ref b0)]) (hcs : cells + 7 ≤ 601024 ∧ slots + 42 ≤ 7293034)
    (kk : ∀ (S' : qw_St) (g' : Nat → Int64) (H : Heap) (locs : List Loc) (ls : Array Slot), RA S' S' → qw_P D r c g' S' H → va_S (px_A b) s.heap H locs → lv_has ls 7 [(4, .int z), (3, .ref (r 171)), (2, .ref (r 143)), (1, .ref (r 0)), (0, .ref b0)] → W p l e room_1 s m #[Value.ref b0] below meth c0 H locs (cells + 7) (slots + 42) Q (F0 m 1461 ls [])) : W p l e room_1 s m #[Value.ref b0] below meth c0 H locs cells slots Q (F0 m 604 ls []) := by
  obtain ⟨hlT, hx, hb, hml, hown, hts, hr, hK, hX, hbl, hbA, hA, hEW, hL⟩ := C
  refine lv_aload_n hx hb dL_law_604 rfl (lv_at hl 3 rfl) ?_
  refine wc_iV (k := 0) (C := RX6) (As := []) (rest := []) ⟨hx, hb, hml, hown, hts⟩ (c_X6_fault l D c g hr S ) (cwV 0 hts gL_law_X6_fault rfl rfl rfl (by decide +kernel) ⟨Nat.le_of_ble_eq_true rfl, Nat.le_of_ble_eq_true rfl⟩) (wx_recv hK hP (by decide) qc_0 rfl) hK hP hS hA rfl hl.1 rfl (lv_room (Nat.le_of_ble_eq_true rfl)) dL_law_605 ⟨lx_r hcs.1, lx_r2 hcs.2⟩ (fun H locs hP hS => ?_)
  obtain ⟨S1, eS1⟩ : ∃ Sx : qw_St, Sx = S := ⟨_, rfl⟩
  have hP : qw_P D r c g S1 H := by rw [eS1]; exact hP
  have hM1 : RA S S1 := hRA.mid (fun k j hk => by rw [eS1])
  have hop := op_fault hM1
  have hop := hop
  refine lv_aload_n hx hb dL_law_608 rfl (lv_at hl 2 rfl) ?_
  refine wc_iV (k := 143) (C := RX7) (As := []) (rest := [.int (f_X6_fault S)]) ⟨hx, hb, hml, hown, hts⟩ (c_X7_fault l D c g hr S1 ) (cwV 0 hts gL_law_X7_fault rfl rfl rfl (by decide +kernel) ⟨Nat.le_of_ble_eq_true rfl, Nat.le_of_ble_eq_true rfl⟩) (wx_recv hK hP (by decide) qc_143 rfl) hK hP hS hA rfl hl.1 rfl (lv_room (Nat.le_of_ble_eq_true rfl)) dL_law_609 ⟨lx_r hcs.1, lx_r2 hcs.2⟩ (fun H locs hP hS => ?_)
  obtain ⟨S2, eS2⟩ : ∃ Sx : qw_St, Sx = (g_X7_fault S1) := ⟨_, rfl⟩
  rw [← eS2] at hP hop
  have hR2 : RA S2 S2 := hop.2.fin (fun k j hk => by rw [eS2]; exact (fM_fault S1 j hk).trans (by rw [eS1]))
  refine lv_icmp_eq (tgt := 1461) hx hb dL_law_612 (by decide) (fun cx => ?_) (fun cx => ?_)
  rotate_left
  · exact absurd hop.1 cx
  refine W.widen (k := cells + 7) (n := slots + 42) (by omega) (by omega) ?_
  exact kk _ _ _ _ _ hR2 hP hS hl
set_option maxHeartbeats 4000000 in
set_option maxRecDepth 100000 in
theorem lw_c8 (C : LCx p l s m c0 D r c b b0 L xs) (ht : 7 * t + 7 ≤ L) (hz : z = nI (7 * t)) (hRA : RA S S) (hP : qw_P D r c g S H) (hS : va_S (px_A b) s.heap H locs) (hl : lv_has ls 7 [(4, .int z), (3, .ref (r 171)), (2, .ref (r 143)), (1, .ref (r 0)), (0, .ref b0)]) (hcs : cells + 7 ≤ 601024 ∧ slots + 42 ≤ 7293034)
    (kk : ∀ (S' : qw_St) (g' : Nat → Int64) (H : Heap) (locs : List Loc) (ls : Array Slot), RA S' S' → qw_P D r c g' S' H → va_S (px_A b) s.heap H locs → lv_has ls 7 [(4, .int z), (3, .ref (r 171)), (2, .ref (r 143)), (1, .ref (r 0)), (0, .ref b0)] → W p l e room_1 s m #[Value.ref b0] below meth c0 H locs (cells + 7) (slots + 42) Q (F0 m 1461 ls [])) : W p l e room_1 s m #[Value.ref b0] below meth c0 H locs cells slots Q (F0 m 617 ls []) := by
  obtain ⟨hlT, hx, hb, hml, hown, hts, hr, hK, hX, hbl, hbA, hA, hEW, hL⟩ := C
  refine lv_aload_n hx hb dL_law_617 rfl (lv_at hl 3 rfl) ?_
  refine wc_iV (k := 0) (C := RX6) (As := []) (rest := []) ⟨hx, hb, hml, hown, hts⟩ (c_X6_undo l D c g hr S (ra_new hRA)) (cwV 0 hts gL_law_X6_undo rfl rfl rfl (by decide +kernel) ⟨Nat.le_of_ble_eq_true rfl, Nat.le_of_ble_eq_true rfl⟩) (wx_recv hK hP (by decide) qc_0 rfl) hK hP hS hA rfl hl.1 rfl (lv_room (Nat.le_of_ble_eq_true rfl)) dL_law_618 ⟨lx_r hcs.1, lx_r2 hcs.2⟩ (fun H locs hP hS => ?_)
  obtain ⟨S1, eS1⟩ : ∃ Sx : qw_St, Sx = (g_X6_undo S) := ⟨_, rfl⟩
  rw [← eS1] at hP
  have hM1 : RA S S1 := hRA.mid (fun k j hk => by rw [eS1]; exact fC_undo S j hk)
  have hop := op_undo hM1
  rw [← eS1] at hop
  refine lv_aload_n hx hb dL_law_621 rfl (lv_at hl 2 rfl) ?_
  refine wc_iV (k := 143) (C := RX7) (As := []) (rest := [.int (f_X6_undo S)]) ⟨hx, hb, hml, hown, hts⟩ (c_X7_undo l D c g hr S1 hM1.2.2.2.2.2.2.1.1 (ra_und hM1)) (cwV 0 hts gL_law_X7_undo rfl rfl rfl (by decide +kernel) ⟨Nat.le_of_ble_eq_true rfl, Nat.le_of_ble_eq_true rfl⟩) (wx_recv hK hP (by decide) qc_143 rfl) hK hP hS hA rfl hl.1 rfl (lv_room (Nat.le_of_ble_eq_true rfl)) dL_law_622 ⟨lx_r hcs.1, lx_r2 hcs.2⟩ (fun H locs hP hS => ?_)
  obtain ⟨S2, eS2⟩ : ∃ Sx : qw_St, Sx = (g_X7_undo S1) := ⟨_, rfl⟩
  rw [← eS2] at hP hop
  have hR2 : RA S2 S2 := hop.2.fin (fun k j hk => by rw [eS2]; exact fM_undo S1 j hk)
  refine lv_icmp_eq (tgt := 1461) hx hb dL_law_625 (by decide) (fun cx => ?_) (fun cx => ?_)
  rotate_left
  · exact absurd hop.1 cx
  refine W.widen (k := cells + 7) (n := slots + 42) (by omega) (by omega) ?_
  exact kk _ _ _ _ _ hR2 hP hS hl
set_option maxHeartbeats 4000000 in
set_option maxRecDepth 100000 in
theorem lw_c9 (C : LCx p l s m c0 D r c b b0 L xs) (ht : 7 * t + 7 ≤ L) (hz : z = nI (7 * t)) (hRA : RA S S) (hP : qw_P D r c g S H) (hS : va_S (px_A b) s.heap H locs) (hl : lv_has ls 7 [(4, .int z), (3, .ref (r 171)), (2, .ref (r 143)), (1, .ref (r 0)), (0, .ref b0)]) (hcs : cells + 7 ≤ 601024 ∧ slots + 42 ≤ 7293034)
    (kk : ∀ (S' : qw_St) (g' : Nat → Int64) (H : Heap) (locs : List Loc) (ls : Array Slot), RA S' S' → qw_P D r c g' S' H → va_S (px_A b) s.heap H locs → lv_has ls 7 [(4, .int z), (3, .ref (r 171)), (2, .ref (r 143)), (1, .ref (r 0)), (0, .ref b0)] → W p l e room_1 s m #[Value.ref b0] below meth c0 H locs (cells + 7) (slots + 42) Q (F0 m 1461 ls [])) : W p l e room_1 s m #[Value.ref b0] below meth c0 H locs cells slots Q (F0 m 630 ls []) := by
  obtain ⟨hlT, hx, hb, hml, hown, hts, hr, hK, hX, hbl, hbA, hA, hEW, hL⟩ := C
  refine lv_aload_n hx hb dL_law_630 rfl (lv_at hl 3 rfl) ?_
  refine lv_aload_n hx hb dL_law_631 rfl (lv_at hl 4 rfl) ?_
  refine lv_iload hx hb dL_law_632 (lv_at hl 0 rfl) ?_
  refine lv_iconst (v := 1) hx hb dL_law_634 (by decide) ?_
  refine lv_iadd hx hb dL_law_635 ?_
  refine va_sld hx hb hX hbl hbA hS (lx_in hz ht hL (k := 1) (by omega) rfl) dL_law_636 ?_
  refine lv_aload_n hx hb dL_law_637 rfl (lv_at hl 1 rfl) ?_
  refine wl_iS (As := [.ref (r 0), .int (xs (z + 1).toNatClampNeg), .ref (r 171)]) (rest := []) ⟨hx, hb, hml, hown, hts⟩ (c_L_town l hlT D c g hr S (xs (z + 1).toNatClampNeg) hRA.towS) (vx_cwSW 3 hts gL_law_L_town rfl rfl rfl (by decide +kernel) ⟨Nat.le_of_ble_eq_true rfl, Nat.le_of_ble_eq_true rfl⟩) hK hP hS hA (fun U hU hW => hEW.to hS hA hU hW) rfl hl.1 rfl (lv_room (Nat.le_of_ble_eq_true rfl)) dL_law_638 ⟨lx_c hcs.1 (by decide), lx_s hcs.2 (by decide)⟩ (fun H locs hP hS => ?_)
  obtain ⟨S1, eS1⟩ : ∃ Sx : qw_St, Sx = (g_X6_town S (xs (z + 1).toNatClampNeg)) := ⟨_, rfl⟩
  rw [← eS1] at hP
  have hM1 : RA S S1 := hRA.mid (fun k j hk => by rw [eS1]; exact fC_town S hRA.towS (xs (z + 1).toNatClampNeg) j hk)
  have hop := op_town hM1 (xs (z + 1).toNatClampNeg)
  rw [← eS1] at hop
  refine lv_topi (fun k5 ek5 => ?_)
  refine lv_istore (lv' := [(5, .int k5), (4, .int z), (3, .ref (r 171)), (2, .ref (r 143)), (1, .ref (r 0)), (0, .ref b0)]) hx hb dL_law_641 hl (by decide) rfl (fun ls hl => ?_)
  refine lv_aload_n hx hb dL_law_643 rfl (lv_at hl 3 rfl) ?_
  refine lv_aload_n hx hb dL_law_644 rfl (lv_at hl 5 rfl) ?_
  refine lv_iload hx hb dL_law_645 (lv_at hl 1 rfl) ?_
  refine lv_iconst (v := 1) hx hb dL_law_647 (by decide) ?_
  refine lv_iadd hx hb dL_law_648 ?_
  refine va_sld hx hb hX hbl hbA hS (lx_in hz ht hL (k := 1) (by omega) rfl) dL_law_649 ?_
  refine wc_iV (k := 143) (C := RX7) (As := [.int (xs (z + 1).toNatClampNeg)]) (rest := []) ⟨hx, hb, hml, hown, hts⟩ (c_X7_town l D c (gd g (f_X6_town S (xs (z + 1).toNatClampNeg))) hr S1 (xs (z + 1).toNatClampNeg) hM1.2.2.2.2.2.2.2.2.1.1) (cwV 1 hts gL_law_X7_town rfl rfl rfl (by decide +kernel) ⟨Nat.le_of_ble_eq_true rfl, Nat.le_of_ble_eq_true rfl⟩) (wx_recv hK hP (by decide) qc_143 rfl) hK hP hS hA rfl hl.1 rfl (lv_room (Nat.le_of_ble_eq_true rfl)) dL_law_650 ⟨lx_c hcs.1 (by decide), lx_s hcs.2 (by decide)⟩ (fun H locs hP hS => ?_)
  obtain ⟨S2, eS2⟩ : ∃ Sx : qw_St, Sx = (g_X7_town S1 (xs (z + 1).toNatClampNeg)) := ⟨_, rfl⟩
  rw [← eS2] at hP hop
  have hR2 : RA S2 S2 := hop.2.fin (fun k j hk => by rw [eS2]; exact fM_town S1 (xs (z + 1).toNatClampNeg) j hk)
  refine lv_topi (fun b6 eb6 => ?_)
  refine lv_istore (lv' := [(6, .int b6), (5, .int k5), (4, .int z), (3, .ref (r 171)), (2, .ref (r 143)), (1, .ref (r 0)), (0, .ref b0)]) hx hb dL_law_653 hl (by decide) rfl (fun ls hl => ?_)
  refine lv_aload_n hx hb dL_law_655 rfl (lv_at hl 4 rfl) ?_
  refine wc_iV (k := 143) (C := RX7) (As := []) (rest := []) ⟨hx, hb, hml, hown, hts⟩ (c_X7_thrown l D c (gd g (f_X6_town S (xs (z + 1).toNatClampNeg))) hr S2 ) (cwV 0 hts gL_law_X7_thrown rfl rfl rfl (by decide +kernel) ⟨Nat.le_of_ble_eq_true rfl, Nat.le_of_ble_eq_true rfl⟩) (wx_recv hK hP (by decide) qc_143 rfl) hK hP hS hA rfl hl.1 rfl (lv_room (Nat.le_of_ble_eq_true rfl)) dL_law_656 ⟨lx_c hcs.1 (by decide), lx_s hcs.2 (by decide)⟩ (fun H locs hP hS => ?_)
  refine lv_iload hx hb dL_law_659 (lv_at hl 1 rfl) ?_
  refine lv_icmp_eq (tgt := 666) hx hb dL_law_661 (by decide) (fun cx => ?_) (fun cx => ?_)
  rotate_left
  · exact absurd (hop.1.1.trans ek5.symm) cx
  refine lv_iload hx hb dL_law_666 (lv_at hl 1 rfl) ?_
  refine lv_if_ne (tgt := 683) hx hb dL_law_668 (by decide) (fun cy => ?_) (fun cy => ?_)
  · skip
    refine lv_goto (tgt := 1461) hx hb dL_law_683 (by decide) ?_
    have hl := lv_sub (l' := [(4, .int z), (3, .ref (r 171)), (2, .ref (r 143)), (1, .ref (r 0)), (0, .ref b0)]) hl [2, 3, 4, 5, 6] rfl
    refine W.widen (k := cells + 7) (n := slots + 42) (lx_w (by decide)) (lx_w (by decide)) ?_
    exact kk _ _ _ _ _ hR2 hP hS hl
  · skip
    obtain ⟨v, hF⟩ : ∃ v, f_X6_town S (xs (z + 1).toNatClampNeg) = .ok v := by
      cases hF : f_X6_town S (xs (z + 1).toNatClampNeg) with
      | ok v => exact ⟨v, rfl⟩
      | error N => exact absurd (ek5.symm.trans cy) (hop.1.2.2 N hF)
    have hvb : v = b6 := (hop.1.2.1 v hF).trans eb6.symm
    refine lv_aload_n hx hb dL_law_671 rfl (lv_at hl 3 rfl) ?_
    refine lv_iconst (v := 0) hx hb dL_law_672 (by decide) ?_
    refine wx_lld hx hb hK hP dL_law_673 ?_
    refine lv_iload hx hb dL_law_674 (lv_at hl 0 rfl) ?_
    have hg0 : gd g (f_X6_town S (xs (z + 1).toNatClampNeg)) 0 = b6.toInt64 := by rw [hF, ← hvb]; rfl
    refine lv_i2l (v := b6.toInt64) hx hb dL_law_676 rfl ?_
    refine W.lcmp hx hb dL_law_677 ?_
    refine lv_if_eq (tgt := 683) hx hb dL_law_678 (by decide) (fun cw => ?_) (fun cw => ?_)
    rotate_left
    · exact absurd (by rw [hg0]; exact lx_cmp _) cw
    refine lv_goto (tgt := 1461) hx hb dL_law_683 (by decide) ?_
    have hl := lv_sub (l' := [(4, .int z), (3, .ref (r 171)), (2, .ref (r 143)), (1, .ref (r 0)), (0, .ref b0)]) hl [2, 3, 4, 5, 6] rfl
    refine W.widen (k := cells + 7) (n := slots + 42) (lx_w (by decide)) (lx_w (by decide)) ?_
    exact kk _ _ _ _ _ hR2 hP hS hl
set_option maxHeartbeats 4000000 in
set_option maxRecDepth 100000 in
theorem lw_c10 (C : LCx p l s m c0 D r c b b0 L xs) (ht : 7 * t + 7 ≤ L) (hz : z = nI (7 * t)) (hRA : RA S S) (hP : qw_P D r c g S H) (hS : va_S (px_A b) s.heap H locs) (hl : lv_has ls 7 [(4, .int z), (3, .ref (r 171)), (2, .ref (r 143)), (1, .ref (r 0)), (0, .ref b0)]) (hcs : cells + 7 ≤ 601024 ∧ slots + 42 ≤ 7293034)
    (kk : ∀ (S' : qw_St) (g' : Nat → Int64) (H : Heap) (locs : List Loc) (ls : Array Slot), RA S' S' → qw_P D r c g' S' H → va_S (px_A b) s.heap H locs → lv_has ls 7 [(4, .int z), (3, .ref (r 171)), (2, .ref (r 143)), (1, .ref (r 0)), (0, .ref b0)] → W p l e room_1 s m #[Value.ref b0] below meth c0 H locs (cells + 7) (slots + 42) Q (F0 m 1461 ls [])) : W p l e room_1 s m #[Value.ref b0] below meth c0 H locs cells slots Q (F0 m 686 ls []) := by
  obtain ⟨hlT, hx, hb, hml, hown, hts, hr, hK, hX, hbl, hbA, hA, hEW, hL⟩ := C
  refine lv_aload_n hx hb dL_law_686 rfl (lv_at hl 3 rfl) ?_
  refine lv_aload_n hx hb dL_law_687 rfl (lv_at hl 4 rfl) ?_
  refine lv_iload hx hb dL_law_688 (lv_at hl 0 rfl) ?_
  refine lv_iconst (v := 1) hx hb dL_law_690 (by decide) ?_
  refine lv_iadd hx hb dL_law_691 ?_
  refine va_sld hx hb hX hbl hbA hS (lx_in hz ht hL (k := 1) (by omega) rfl) dL_law_692 ?_
  refine lv_aload_n hx hb dL_law_693 rfl (lv_at hl 4 rfl) ?_
  refine lv_iload hx hb dL_law_694 (lv_at hl 0 rfl) ?_
  refine lv_iconst (v := 2) hx hb dL_law_696 (by decide) ?_
  refine lv_iadd hx hb dL_law_697 ?_
  refine va_sld hx hb hX hbl hbA hS (lx_in hz ht hL (k := 2) (by omega) rfl) dL_law_698 ?_
  refine lv_aload_n hx hb dL_law_699 rfl (lv_at hl 4 rfl) ?_
  refine lv_iload hx hb dL_law_700 (lv_at hl 0 rfl) ?_
  refine lv_iconst (v := 3) hx hb dL_law_702 (by decide) ?_
  refine lv_iadd hx hb dL_law_703 ?_
  refine va_sld hx hb hX hbl hbA hS (lx_in hz ht hL (k := 3) (by omega) rfl) dL_law_704 ?_
  refine lv_aload_n hx hb dL_law_705 rfl (lv_at hl 4 rfl) ?_
  refine lv_iload hx hb dL_law_706 (lv_at hl 0 rfl) ?_
  refine lv_iconst (v := 4) hx hb dL_law_708 (by decide) ?_
  refine lv_iadd hx hb dL_law_709 ?_
  refine va_sld hx hb hX hbl hbA hS (lx_in hz ht hL (k := 4) (by omega) rfl) dL_law_710 ?_
  refine lv_aload_n hx hb dL_law_711 rfl (lv_at hl 4 rfl) ?_
  refine lv_iload hx hb dL_law_712 (lv_at hl 0 rfl) ?_
  refine lv_iconst (v := 5) hx hb dL_law_714 (by decide) ?_
  refine lv_iadd hx hb dL_law_715 ?_
  refine va_sld hx hb hX hbl hbA hS (lx_in hz ht hL (k := 5) (by omega) rfl) dL_law_716 ?_
  refine lv_aload_n hx hb dL_law_717 rfl (lv_at hl 4 rfl) ?_
  refine lv_iload hx hb dL_law_718 (lv_at hl 0 rfl) ?_
  refine lv_bipush (v := 6) hx hb dL_law_720 (by decide) ?_
  refine lv_iadd hx hb dL_law_722 ?_
  refine va_sld hx hb hX hbl hbA hS (lx_in hz ht hL (k := 6) (by omega) rfl) dL_law_723 ?_
  refine wl_iS (As := [.ref (r 0), .int (xs (z + 1).toNatClampNeg), .int (xs (z + 2).toNatClampNeg), .int (xs (z + 3).toNatClampNeg), .int (xs (z + 4).toNatClampNeg), .int (xs (z + 5).toNatClampNeg), .int (xs (z + 6).toNatClampNeg)]) (rest := []) ⟨hx, hb, hml, hown, hts⟩ (c_L_goods l hlT D c g hr S (xs (z + 1).toNatClampNeg) (xs (z + 2).toNatClampNeg) (xs (z + 3).toNatClampNeg) (xs (z + 4).toNatClampNeg) (xs (z + 5).toNatClampNeg) (xs (z + 6).toNatClampNeg) hRA.inv.1) (vx_cwSW 7 hts gL_law_L_goods rfl rfl rfl (by decide +kernel) ⟨Nat.le_of_ble_eq_true rfl, Nat.le_of_ble_eq_true rfl⟩) hK hP hS hA (fun U hU hW => hEW.to hS hA hU hW) rfl hl.1 rfl (lv_room (Nat.le_of_ble_eq_true rfl)) dL_law_724 ⟨lx_c hcs.1 (by decide), lx_s hcs.2 (by decide)⟩ (fun H locs hP hS => ?_)
  obtain ⟨S1, eS1⟩ : ∃ Sx : qw_St, Sx = (g_X6_goods S (xs (z + 1).toNatClampNeg) (xs (z + 2).toNatClampNeg) (xs (z + 3).toNatClampNeg) (xs (z + 4).toNatClampNeg) (xs (z + 5).toNatClampNeg) (xs (z + 6).toNatClampNeg)) := ⟨_, rfl⟩
  rw [← eS1] at hP
  have hM1 : RA S S1 := hRA.mid (fun k j hk => by rw [eS1]; exact fC_goods S hRA.towS (xs (z + 1).toNatClampNeg) (xs (z + 2).toNatClampNeg) (xs (z + 3).toNatClampNeg) (xs (z + 4).toNatClampNeg) (xs (z + 5).toNatClampNeg) (xs (z + 6).toNatClampNeg) j hk)
  have hop := op_goods hM1 (xs (z + 1).toNatClampNeg) (xs (z + 2).toNatClampNeg) (xs (z + 3).toNatClampNeg) (xs (z + 4).toNatClampNeg) (xs (z + 5).toNatClampNeg) (xs (z + 6).toNatClampNeg)
  rw [← eS1] at hop
  refine lv_topi (fun k5 ek5 => ?_)
  refine lv_istore (lv' := [(5, .int k5), (4, .int z), (3, .ref (r 171)), (2, .ref (r 143)), (1, .ref (r 0)), (0, .ref b0)]) hx hb dL_law_727 hl (by decide) rfl (fun ls hl => ?_)
  refine lv_aload_n hx hb dL_law_729 rfl (lv_at hl 3 rfl) ?_
  refine lv_aload_n hx hb dL_law_730 rfl (lv_at hl 5 rfl) ?_
  refine lv_iload hx hb dL_law_731 (lv_at hl 1 rfl) ?_
  refine lv_iconst (v := 1) hx hb dL_law_733 (by decide) ?_
  refine lv_iadd hx hb dL_law_734 ?_
  refine va_sld hx hb hX hbl hbA hS (lx_in hz ht hL (k := 1) (by omega) rfl) dL_law_735 ?_
  refine lv_aload_n hx hb dL_law_736 rfl (lv_at hl 5 rfl) ?_
  refine lv_iload hx hb dL_law_737 (lv_at hl 1 rfl) ?_
  refine lv_iconst (v := 2) hx hb dL_law_739 (by decide) ?_
  refine lv_iadd hx hb dL_law_740 ?_
  refine va_sld hx hb hX hbl hbA hS (lx_in hz ht hL (k := 2) (by omega) rfl) dL_law_741 ?_
  refine lv_aload_n hx hb dL_law_742 rfl (lv_at hl 5 rfl) ?_
  refine lv_iload hx hb dL_law_743 (lv_at hl 1 rfl) ?_
  refine lv_iconst (v := 3) hx hb dL_law_745 (by decide) ?_
  refine lv_iadd hx hb dL_law_746 ?_
  refine va_sld hx hb hX hbl hbA hS (lx_in hz ht hL (k := 3) (by omega) rfl) dL_law_747 ?_
  refine lv_aload_n hx hb dL_law_748 rfl (lv_at hl 5 rfl) ?_
  refine lv_iload hx hb dL_law_749 (lv_at hl 1 rfl) ?_
  refine lv_iconst (v := 4) hx hb dL_law_751 (by decide) ?_
  refine lv_iadd hx hb dL_law_752 ?_
  refine va_sld hx hb hX hbl hbA hS (lx_in hz ht hL (k := 4) (by omega) rfl) dL_law_753 ?_
  refine lv_aload_n hx hb dL_law_754 rfl (lv_at hl 5 rfl) ?_
  refine lv_iload hx hb dL_law_755 (lv_at hl 1 rfl) ?_
  refine lv_iconst (v := 5) hx hb dL_law_757 (by decide) ?_
  refine lv_iadd hx hb dL_law_758 ?_
  refine va_sld hx hb hX hbl hbA hS (lx_in hz ht hL (k := 5) (by omega) rfl) dL_law_759 ?_
  refine lv_aload_n hx hb dL_law_760 rfl (lv_at hl 5 rfl) ?_
  refine lv_iload hx hb dL_law_761 (lv_at hl 1 rfl) ?_
  refine lv_bipush (v := 6) hx hb dL_law_763 (by decide) ?_
  refine lv_iadd hx hb dL_law_765 ?_
  refine va_sld hx hb hX hbl hbA hS (lx_in hz ht hL (k := 6) (by omega) rfl) dL_law_766 ?_
  refine wc_vV (k := 143) (C := RX7) (As := [.int (xs (z + 1).toNatClampNeg), .int (xs (z + 2).toNatClampNeg), .int (xs (z + 3).toNatClampNeg), .int (xs (z + 4).toNatClampNeg), .int (xs (z + 5).toNatClampNeg), .int (xs (z + 6).toNatClampNeg)]) (rest := []) ⟨hx, hb, hml, hown, hts⟩ (c_X7_goods l D c g hr S1 (xs (z + 1).toNatClampNeg) (xs (z + 2).toNatClampNeg) (xs (z + 3).toNatClampNeg) (xs (z + 4).toNatClampNeg) (xs (z + 5).toNatClampNeg) (xs (z + 6).toNatClampNeg) hM1.2.2.2.2.2.2.2.2.1.1) (cwV 6 hts gL_law_X7_goods rfl rfl rfl (by decide +kernel) ⟨Nat.le_of_ble_eq_true rfl, Nat.le_of_ble_eq_true rfl⟩) (wx_recv hK hP (by decide) qc_143 rfl) hK hP hS hA rfl hl.1 rfl (lv_room (Nat.le_of_ble_eq_true rfl)) dL_law_767 ⟨lx_c hcs.1 (by decide), lx_s hcs.2 (by decide)⟩ (fun H locs hP hS => ?_)
  obtain ⟨S2, eS2⟩ : ∃ Sx : qw_St, Sx = (g_X7_goods S1 (xs (z + 1).toNatClampNeg) (xs (z + 2).toNatClampNeg) (xs (z + 3).toNatClampNeg) (xs (z + 4).toNatClampNeg) (xs (z + 5).toNatClampNeg) (xs (z + 6).toNatClampNeg)) := ⟨_, rfl⟩
  rw [← eS2] at hP hop
  have hR2 : RA S2 S2 := hop.2.fin (fun k j hk => by rw [eS2]; exact fM_goods S1 (xs (z + 1).toNatClampNeg) (xs (z + 2).toNatClampNeg) (xs (z + 3).toNatClampNeg) (xs (z + 4).toNatClampNeg) (xs (z + 5).toNatClampNeg) (xs (z + 6).toNatClampNeg) j hk)
  refine lv_aload_n hx hb dL_law_770 rfl (lv_at hl 3 rfl) ?_
  refine wc_iV (k := 143) (C := RX7) (As := []) (rest := []) ⟨hx, hb, hml, hown, hts⟩ (c_X7_thrown l D c g hr S2 ) (cwV 0 hts gL_law_X7_thrown rfl rfl rfl (by decide +kernel) ⟨Nat.le_of_ble_eq_true rfl, Nat.le_of_ble_eq_true rfl⟩) (wx_recv hK hP (by decide) qc_143 rfl) hK hP hS hA rfl hl.1 rfl (lv_room (Nat.le_of_ble_eq_true rfl)) dL_law_771 ⟨lx_c hcs.1 (by decide), lx_s hcs.2 (by decide)⟩ (fun H locs hP hS => ?_)
  refine lv_iload hx hb dL_law_774 (lv_at hl 0 rfl) ?_
  refine lv_icmp_eq (tgt := 781) hx hb dL_law_776 (by decide) (fun cx => ?_) (fun cx => ?_)
  rotate_left
  · exact absurd (hop.1.1.trans ek5.symm) cx
  refine lv_goto (tgt := 1461) hx hb dL_law_781 (by decide) ?_
  have hl := lv_sub (l' := [(4, .int z), (3, .ref (r 171)), (2, .ref (r 143)), (1, .ref (r 0)), (0, .ref b0)]) hl [1, 2, 3, 4, 5] rfl
  refine W.widen (k := cells + 7) (n := slots + 42) (lx_w (by decide)) (lx_w (by decide)) ?_
  exact kk _ _ _ _ _ hR2 hP hS hl
set_option maxHeartbeats 4000000 in
set_option maxRecDepth 100000 in
theorem lw_c11 (C : LCx p l s m c0 D r c b b0 L xs) (ht : 7 * t + 7 ≤ L) (hz : z = nI (7 * t)) (hRA : RA S S) (hP : qw_P D r c g S H) (hS : va_S (px_A b) s.heap H locs) (hl : lv_has ls 7 [(4, .int z), (3, .ref (r 171)), (2, .ref (r 143)), (1, .ref (r 0)), (0, .ref b0)]) (hcs : cells + 7 ≤ 601024 ∧ slots + 42 ≤ 7293034)
    (kk : ∀ (S' : qw_St) (g' : Nat → Int64) (H : Heap) (locs : List Loc) (ls : Array Slot), RA S' S' → qw_P D r c g' S' H → va_S (px_A b) s.heap H locs → lv_has ls 7 [(4, .int z), (3, .ref (r 171)), (2, .ref (r 143)), (1, .ref (r 0)), (0, .ref b0)] → W p l e room_1 s m #[Value.ref b0] below meth c0 H locs (cells + 7) (slots + 42) Q (F0 m 1461 ls [])) : W p l e room_1 s m #[Value.ref b0] below meth c0 H locs cells slots Q (F0 m 784 ls []) := by
  obtain ⟨hlT, hx, hb, hml, hown, hts, hr, hK, hX, hbl, hbA, hA, hEW, hL⟩ := C
  refine lv_aload_n hx hb dL_law_784 rfl (lv_at hl 3 rfl) ?_
  refine lv_aload_n hx hb dL_law_785 rfl (lv_at hl 4 rfl) ?_
  refine lv_iload hx hb dL_law_786 (lv_at hl 0 rfl) ?_
  refine lv_iconst (v := 1) hx hb dL_law_788 (by decide) ?_
  refine lv_iadd hx hb dL_law_789 ?_
  refine va_sld hx hb hX hbl hbA hS (lx_in hz ht hL (k := 1) (by omega) rfl) dL_law_790 ?_
  refine lv_aload_n hx hb dL_law_791 rfl (lv_at hl 4 rfl) ?_
  refine lv_iload hx hb dL_law_792 (lv_at hl 0 rfl) ?_
  refine lv_iconst (v := 2) hx hb dL_law_794 (by decide) ?_
  refine lv_iadd hx hb dL_law_795 ?_
  refine va_sld hx hb hX hbl hbA hS (lx_in hz ht hL (k := 2) (by omega) rfl) dL_law_796 ?_
  refine wl_iS (As := [.ref (r 0), .int (xs (z + 1).toNatClampNeg), .int (xs (z + 2).toNatClampNeg)]) (rest := []) ⟨hx, hb, hml, hown, hts⟩ (c_L_spoil l hlT D c g hr S (xs (z + 1).toNatClampNeg) (xs (z + 2).toNatClampNeg) ) (vx_cwSW 3 hts gL_law_L_spoil rfl rfl rfl (by decide +kernel) ⟨Nat.le_of_ble_eq_true rfl, Nat.le_of_ble_eq_true rfl⟩) hK hP hS hA (fun U hU hW => hEW.to hS hA hU hW) rfl hl.1 rfl (lv_room (Nat.le_of_ble_eq_true rfl)) dL_law_797 ⟨lx_c hcs.1 (by decide), lx_s hcs.2 (by decide)⟩ (fun H locs hP hS => ?_)
  obtain ⟨S1, eS1⟩ : ∃ Sx : qw_St, Sx = (g_X6_spoil S (xs (z + 1).toNatClampNeg) (xs (z + 2).toNatClampNeg)) := ⟨_, rfl⟩
  rw [← eS1] at hP
  have hM1 : RA S S1 := hRA.mid (fun k j hk => by rw [eS1]; exact fC_spoil S (xs (z + 1).toNatClampNeg) (xs (z + 2).toNatClampNeg) j hk)
  have hop := op_spoil hM1 (xs (z + 1).toNatClampNeg) (xs (z + 2).toNatClampNeg)
  rw [← eS1] at hop
  refine lv_topi (fun k5 ek5 => ?_)
  refine lv_istore (lv' := [(5, .int k5), (4, .int z), (3, .ref (r 171)), (2, .ref (r 143)), (1, .ref (r 0)), (0, .ref b0)]) hx hb dL_law_800 hl (by decide) rfl (fun ls hl => ?_)
  refine lv_aload_n hx hb dL_law_802 rfl (lv_at hl 3 rfl) ?_
  refine lv_aload_n hx hb dL_law_803 rfl (lv_at hl 5 rfl) ?_
  refine lv_iload hx hb dL_law_804 (lv_at hl 1 rfl) ?_
  refine lv_iconst (v := 1) hx hb dL_law_806 (by decide) ?_
  refine lv_iadd hx hb dL_law_807 ?_
  refine va_sld hx hb hX hbl hbA hS (lx_in hz ht hL (k := 1) (by omega) rfl) dL_law_808 ?_
  refine lv_aload_n hx hb dL_law_809 rfl (lv_at hl 5 rfl) ?_
  refine lv_iload hx hb dL_law_810 (lv_at hl 1 rfl) ?_
  refine lv_iconst (v := 2) hx hb dL_law_812 (by decide) ?_
  refine lv_iadd hx hb dL_law_813 ?_
  refine va_sld hx hb hX hbl hbA hS (lx_in hz ht hL (k := 2) (by omega) rfl) dL_law_814 ?_
  refine wc_vV (k := 143) (C := RX7) (As := [.int (xs (z + 1).toNatClampNeg), .int (xs (z + 2).toNatClampNeg)]) (rest := []) ⟨hx, hb, hml, hown, hts⟩ (c_X7_spoil l D c g hr S1 (xs (z + 1).toNatClampNeg) (xs (z + 2).toNatClampNeg) ) (cwV 2 hts gL_law_X7_spoil rfl rfl rfl (by decide +kernel) ⟨Nat.le_of_ble_eq_true rfl, Nat.le_of_ble_eq_true rfl⟩) (wx_recv hK hP (by decide) qc_143 rfl) hK hP hS hA rfl hl.1 rfl (lv_room (Nat.le_of_ble_eq_true rfl)) dL_law_815 ⟨lx_c hcs.1 (by decide), lx_s hcs.2 (by decide)⟩ (fun H locs hP hS => ?_)
  obtain ⟨S2, eS2⟩ : ∃ Sx : qw_St, Sx = (g_X7_spoil S1 (xs (z + 1).toNatClampNeg) (xs (z + 2).toNatClampNeg)) := ⟨_, rfl⟩
  rw [← eS2] at hP hop
  have hR2 : RA S2 S2 := hop.2.fin (fun k j hk => by rw [eS2]; exact fM_spoil S1 (xs (z + 1).toNatClampNeg) (xs (z + 2).toNatClampNeg) j hk)
  refine lv_aload_n hx hb dL_law_818 rfl (lv_at hl 3 rfl) ?_
  refine wc_iV (k := 143) (C := RX7) (As := []) (rest := []) ⟨hx, hb, hml, hown, hts⟩ (c_X7_thrown l D c g hr S2 ) (cwV 0 hts gL_law_X7_thrown rfl rfl rfl (by decide +kernel) ⟨Nat.le_of_ble_eq_true rfl, Nat.le_of_ble_eq_true rfl⟩) (wx_recv hK hP (by decide) qc_143 rfl) hK hP hS hA rfl hl.1 rfl (lv_room (Nat.le_of_ble_eq_true rfl)) dL_law_819 ⟨lx_c hcs.1 (by decide), lx_s hcs.2 (by decide)⟩ (fun H locs hP hS => ?_)
  refine lv_iload hx hb dL_law_822 (lv_at hl 0 rfl) ?_
  refine lv_icmp_eq (tgt := 829) hx hb dL_law_824 (by decide) (fun cx => ?_) (fun cx => ?_)
  rotate_left
  · exact absurd (hop.1.1.trans ek5.symm) cx
  refine lv_goto (tgt := 1461) hx hb dL_law_829 (by decide) ?_
  have hl := lv_sub (l' := [(4, .int z), (3, .ref (r 171)), (2, .ref (r 143)), (1, .ref (r 0)), (0, .ref b0)]) hl [1, 2, 3, 4, 5] rfl
  refine W.widen (k := cells + 7) (n := slots + 42) (lx_w (by decide)) (lx_w (by decide)) ?_
  exact kk _ _ _ _ _ hR2 hP hS hl
set_option maxHeartbeats 4000000 in
set_option maxRecDepth 100000 in
theorem lw_c12 (C : LCx p l s m c0 D r c b b0 L xs) (ht : 7 * t + 7 ≤ L) (hz : z = nI (7 * t)) (hRA : RA S S) (hP : qw_P D r c g S H) (hS : va_S (px_A b) s.heap H locs) (hl : lv_has ls 7 [(4, .int z), (3, .ref (r 171)), (2, .ref (r 143)), (1, .ref (r 0)), (0, .ref b0)]) (hcs : cells + 7 ≤ 601024 ∧ slots + 42 ≤ 7293034)
    (kk : ∀ (S' : qw_St) (g' : Nat → Int64) (H : Heap) (locs : List Loc) (ls : Array Slot), RA S' S' → qw_P D r c g' S' H → va_S (px_A b) s.heap H locs → lv_has ls 7 [(4, .int z), (3, .ref (r 171)), (2, .ref (r 143)), (1, .ref (r 0)), (0, .ref b0)] → W p l e room_1 s m #[Value.ref b0] below meth c0 H locs (cells + 7) (slots + 42) Q (F0 m 1461 ls [])) : W p l e room_1 s m #[Value.ref b0] below meth c0 H locs cells slots Q (F0 m 832 ls []) := by
  obtain ⟨hlT, hx, hb, hml, hown, hts, hr, hK, hX, hbl, hbA, hA, hEW, hL⟩ := C
  refine lv_aload_n hx hb dL_law_832 rfl (lv_at hl 3 rfl) ?_
  refine lv_aload_n hx hb dL_law_833 rfl (lv_at hl 4 rfl) ?_
  refine lv_iload hx hb dL_law_834 (lv_at hl 0 rfl) ?_
  refine lv_iconst (v := 1) hx hb dL_law_836 (by decide) ?_
  refine lv_iadd hx hb dL_law_837 ?_
  refine va_sld hx hb hX hbl hbA hS (lx_in hz ht hL (k := 1) (by omega) rfl) dL_law_838 ?_
  refine wl_iS (As := [.ref (r 0), .int (xs (z + 1).toNatClampNeg)]) (rest := []) ⟨hx, hb, hml, hown, hts⟩ (c_L_carry l hlT D c g hr S (xs (z + 1).toNatClampNeg) ) (vx_cwSW 2 hts gL_law_L_carry rfl rfl rfl (by decide +kernel) ⟨Nat.le_of_ble_eq_true rfl, Nat.le_of_ble_eq_true rfl⟩) hK hP hS hA (fun U hU hW => hEW.to hS hA hU hW) rfl hl.1 rfl (lv_room (Nat.le_of_ble_eq_true rfl)) dL_law_839 ⟨lx_c hcs.1 (by decide), lx_s hcs.2 (by decide)⟩ (fun H locs hP hS => ?_)
  obtain ⟨S1, eS1⟩ : ∃ Sx : qw_St, Sx = (g_X6_carry S (xs (z + 1).toNatClampNeg)) := ⟨_, rfl⟩
  rw [← eS1] at hP
  have hM1 : RA S S1 := hRA.mid (fun k j hk => by rw [eS1]; exact fC_carry S (xs (z + 1).toNatClampNeg) j hk)
  have hop := op_carry hM1 (xs (z + 1).toNatClampNeg)
  rw [← eS1] at hop
  refine lv_topi (fun k5 ek5 => ?_)
  refine lv_istore (lv' := [(5, .int k5), (4, .int z), (3, .ref (r 171)), (2, .ref (r 143)), (1, .ref (r 0)), (0, .ref b0)]) hx hb dL_law_842 hl (by decide) rfl (fun ls hl => ?_)
  refine lv_aload_n hx hb dL_law_844 rfl (lv_at hl 3 rfl) ?_
  refine lv_aload_n hx hb dL_law_845 rfl (lv_at hl 5 rfl) ?_
  refine lv_iload hx hb dL_law_846 (lv_at hl 1 rfl) ?_
  refine lv_iconst (v := 1) hx hb dL_law_848 (by decide) ?_
  refine lv_iadd hx hb dL_law_849 ?_
  refine va_sld hx hb hX hbl hbA hS (lx_in hz ht hL (k := 1) (by omega) rfl) dL_law_850 ?_
  refine wc_vV (k := 143) (C := RX7) (As := [.int (xs (z + 1).toNatClampNeg)]) (rest := []) ⟨hx, hb, hml, hown, hts⟩ (c_X7_carry l D c g hr S1 (xs (z + 1).toNatClampNeg) ) (cwV 1 hts gL_law_X7_carry rfl rfl rfl (by decide +kernel) ⟨Nat.le_of_ble_eq_true rfl, Nat.le_of_ble_eq_true rfl⟩) (wx_recv hK hP (by decide) qc_143 rfl) hK hP hS hA rfl hl.1 rfl (lv_room (Nat.le_of_ble_eq_true rfl)) dL_law_851 ⟨lx_c hcs.1 (by decide), lx_s hcs.2 (by decide)⟩ (fun H locs hP hS => ?_)
  obtain ⟨S2, eS2⟩ : ∃ Sx : qw_St, Sx = (g_X7_carry S1 (xs (z + 1).toNatClampNeg)) := ⟨_, rfl⟩
  rw [← eS2] at hP hop
  have hR2 : RA S2 S2 := hop.2.fin (fun k j hk => by rw [eS2]; exact fM_carry S1 (xs (z + 1).toNatClampNeg) j hk)
  refine lv_aload_n hx hb dL_law_854 rfl (lv_at hl 3 rfl) ?_
  refine wc_iV (k := 143) (C := RX7) (As := []) (rest := []) ⟨hx, hb, hml, hown, hts⟩ (c_X7_thrown l D c g hr S2 ) (cwV 0 hts gL_law_X7_thrown rfl rfl rfl (by decide +kernel) ⟨Nat.le_of_ble_eq_true rfl, Nat.le_of_ble_eq_true rfl⟩) (wx_recv hK hP (by decide) qc_143 rfl) hK hP hS hA rfl hl.1 rfl (lv_room (Nat.le_of_ble_eq_true rfl)) dL_law_855 ⟨lx_c hcs.1 (by decide), lx_s hcs.2 (by decide)⟩ (fun H locs hP hS => ?_)
  refine lv_iload hx hb dL_law_858 (lv_at hl 0 rfl) ?_
  refine lv_icmp_eq (tgt := 865) hx hb dL_law_860 (by decide) (fun cx => ?_) (fun cx => ?_)
  rotate_left
  · exact absurd (hop.1.1.trans ek5.symm) cx
  refine lv_goto (tgt := 1461) hx hb dL_law_865 (by decide) ?_
  have hl := lv_sub (l' := [(4, .int z), (3, .ref (r 171)), (2, .ref (r 143)), (1, .ref (r 0)), (0, .ref b0)]) hl [1, 2, 3, 4, 5] rfl
  refine W.widen (k := cells + 7) (n := slots + 42) (lx_w (by decide)) (lx_w (by decide)) ?_
  exact kk _ _ _ _ _ hR2 hP hS hl
set_option maxHeartbeats 4000000 in
set_option maxRecDepth 100000 in
theorem lw_c13 (C : LCx p l s m c0 D r c b b0 L xs) (ht : 7 * t + 7 ≤ L) (hz : z = nI (7 * t)) (hRA : RA S S) (hP : qw_P D r c g S H) (hS : va_S (px_A b) s.heap H locs) (hl : lv_has ls 7 [(4, .int z), (3, .ref (r 171)), (2, .ref (r 143)), (1, .ref (r 0)), (0, .ref b0)]) (hcs : cells + 7 ≤ 601024 ∧ slots + 42 ≤ 7293034)
    (kk : ∀ (S' : qw_St) (g' : Nat → Int64) (H : Heap) (locs : List Loc) (ls : Array Slot), RA S' S' → qw_P D r c g' S' H → va_S (px_A b) s.heap H locs → lv_has ls 7 [(4, .int z), (3, .ref (r 171)), (2, .ref (r 143)), (1, .ref (r 0)), (0, .ref b0)] → W p l e room_1 s m #[Value.ref b0] below meth c0 H locs (cells + 7) (slots + 42) Q (F0 m 1461 ls [])) : W p l e room_1 s m #[Value.ref b0] below meth c0 H locs cells slots Q (F0 m 868 ls []) := by
  obtain ⟨hlT, hx, hb, hml, hown, hts, hr, hK, hX, hbl, hbA, hA, hEW, hL⟩ := C
  refine lv_aload_n hx hb dL_law_868 rfl (lv_at hl 3 rfl) ?_
  refine lv_aload_n hx hb dL_law_869 rfl (lv_at hl 4 rfl) ?_
  refine lv_iload hx hb dL_law_870 (lv_at hl 0 rfl) ?_
  refine lv_iconst (v := 1) hx hb dL_law_872 (by decide) ?_
  refine lv_iadd hx hb dL_law_873 ?_
  refine va_sld hx hb hX hbl hbA hS (lx_in hz ht hL (k := 1) (by omega) rfl) dL_law_874 ?_
  refine lv_aload_n hx hb dL_law_875 rfl (lv_at hl 1 rfl) ?_
  refine wl_iS (As := [.ref (r 0), .int (xs (z + 1).toNatClampNeg), .ref (r 171)]) (rest := []) ⟨hx, hb, hml, hown, hts⟩ (c_L_weeks l hlT D c g hr S (xs (z + 1).toNatClampNeg) hRA.inv.1) (vx_cwSW 3 hts gL_law_L_weeks rfl rfl rfl (by decide +kernel) ⟨Nat.le_of_ble_eq_true rfl, Nat.le_of_ble_eq_true rfl⟩) hK hP hS hA (fun U hU hW => hEW.to hS hA hU hW) rfl hl.1 rfl (lv_room (Nat.le_of_ble_eq_true rfl)) dL_law_876 ⟨lx_c hcs.1 (by decide), lx_s hcs.2 (by decide)⟩ (fun H locs hP hS => ?_)
  obtain ⟨S1, eS1⟩ : ∃ Sx : qw_St, Sx = (g_X6_weeks S (xs (z + 1).toNatClampNeg)) := ⟨_, rfl⟩
  rw [← eS1] at hP
  have hM1 : RA S S1 := hRA.mid (fun k j hk => by rw [eS1]; exact fC_weeks S hRA.towS (xs (z + 1).toNatClampNeg) j hk)
  have hop := op_weeks hM1 (xs (z + 1).toNatClampNeg)
  rw [← eS1] at hop
  refine lv_topi (fun k5 ek5 => ?_)
  refine lv_istore (lv' := [(5, .int k5), (4, .int z), (3, .ref (r 171)), (2, .ref (r 143)), (1, .ref (r 0)), (0, .ref b0)]) hx hb dL_law_879 hl (by decide) rfl (fun ls hl => ?_)
  refine lv_aload_n hx hb dL_law_881 rfl (lv_at hl 3 rfl) ?_
  refine lv_aload_n hx hb dL_law_882 rfl (lv_at hl 5 rfl) ?_
  refine lv_iload hx hb dL_law_883 (lv_at hl 1 rfl) ?_
  refine lv_iconst (v := 1) hx hb dL_law_885 (by decide) ?_
  refine lv_iadd hx hb dL_law_886 ?_
  refine va_sld hx hb hX hbl hbA hS (lx_in hz ht hL (k := 1) (by omega) rfl) dL_law_887 ?_
  refine wc_iV (k := 143) (C := RX7) (As := [.int (xs (z + 1).toNatClampNeg)]) (rest := []) ⟨hx, hb, hml, hown, hts⟩ (c_X7_weeks l D c (gd g (f_X6_weeks S (xs (z + 1).toNatClampNeg))) hr S1 (xs (z + 1).toNatClampNeg) hM1.inv.2) (cwV 1 hts gL_law_X7_weeks rfl rfl rfl (by decide +kernel) ⟨Nat.le_of_ble_eq_true rfl, Nat.le_of_ble_eq_true rfl⟩) (wx_recv hK hP (by decide) qc_143 rfl) hK hP hS hA rfl hl.1 rfl (lv_room (Nat.le_of_ble_eq_true rfl)) dL_law_888 ⟨lx_c hcs.1 (by decide), lx_s hcs.2 (by decide)⟩ (fun H locs hP hS => ?_)
  obtain ⟨S2, eS2⟩ : ∃ Sx : qw_St, Sx = (g_X7_weeks S1 (xs (z + 1).toNatClampNeg)) := ⟨_, rfl⟩
  rw [← eS2] at hP hop
  have hR2 : RA S2 S2 := hop.2.fin (fun k j hk => by rw [eS2]; exact fM_weeks S1 (xs (z + 1).toNatClampNeg) j hk)
  refine lv_topi (fun b6 eb6 => ?_)
  refine lv_istore (lv' := [(6, .int b6), (5, .int k5), (4, .int z), (3, .ref (r 171)), (2, .ref (r 143)), (1, .ref (r 0)), (0, .ref b0)]) hx hb dL_law_891 hl (by decide) rfl (fun ls hl => ?_)
  refine lv_aload_n hx hb dL_law_893 rfl (lv_at hl 4 rfl) ?_
  refine wc_iV (k := 143) (C := RX7) (As := []) (rest := []) ⟨hx, hb, hml, hown, hts⟩ (c_X7_thrown l D c (gd g (f_X6_weeks S (xs (z + 1).toNatClampNeg))) hr S2 ) (cwV 0 hts gL_law_X7_thrown rfl rfl rfl (by decide +kernel) ⟨Nat.le_of_ble_eq_true rfl, Nat.le_of_ble_eq_true rfl⟩) (wx_recv hK hP (by decide) qc_143 rfl) hK hP hS hA rfl hl.1 rfl (lv_room (Nat.le_of_ble_eq_true rfl)) dL_law_894 ⟨lx_c hcs.1 (by decide), lx_s hcs.2 (by decide)⟩ (fun H locs hP hS => ?_)
  refine lv_iload hx hb dL_law_897 (lv_at hl 1 rfl) ?_
  refine lv_icmp_eq (tgt := 904) hx hb dL_law_899 (by decide) (fun cx => ?_) (fun cx => ?_)
  rotate_left
  · exact absurd (hop.1.1.trans ek5.symm) cx
  refine lv_iload hx hb dL_law_904 (lv_at hl 1 rfl) ?_
  refine lv_if_ne (tgt := 921) hx hb dL_law_906 (by decide) (fun cy => ?_) (fun cy => ?_)
  · skip
    refine lv_goto (tgt := 1461) hx hb dL_law_921 (by decide) ?_
    have hl := lv_sub (l' := [(4, .int z), (3, .ref (r 171)), (2, .ref (r 143)), (1, .ref (r 0)), (0, .ref b0)]) hl [2, 3, 4, 5, 6] rfl
    refine W.widen (k := cells + 7) (n := slots + 42) (lx_w (by decide)) (lx_w (by decide)) ?_
    exact kk _ _ _ _ _ hR2 hP hS hl
  · skip
    obtain ⟨v, hF⟩ : ∃ v, f_X6_weeks S (xs (z + 1).toNatClampNeg) = .ok v := by
      cases hF : f_X6_weeks S (xs (z + 1).toNatClampNeg) with
      | ok v => exact ⟨v, rfl⟩
      | error N => exact absurd (ek5.symm.trans cy) (hop.1.2.2 N hF)
    have hvb : v = b6 := (hop.1.2.1 v hF).trans eb6.symm
    refine lv_aload_n hx hb dL_law_909 rfl (lv_at hl 3 rfl) ?_
    refine lv_iconst (v := 0) hx hb dL_law_910 (by decide) ?_
    refine wx_lld hx hb hK hP dL_law_911 ?_
    refine lv_iload hx hb dL_law_912 (lv_at hl 0 rfl) ?_
    have hg0 : gd g (f_X6_weeks S (xs (z + 1).toNatClampNeg)) 0 = b6.toInt64 := by rw [hF, ← hvb]; rfl
    refine lv_i2l (v := b6.toInt64) hx hb dL_law_914 rfl ?_
    refine W.lcmp hx hb dL_law_915 ?_
    refine lv_if_eq (tgt := 921) hx hb dL_law_916 (by decide) (fun cw => ?_) (fun cw => ?_)
    rotate_left
    · exact absurd (by rw [hg0]; exact lx_cmp _) cw
    refine lv_goto (tgt := 1461) hx hb dL_law_921 (by decide) ?_
    have hl := lv_sub (l' := [(4, .int z), (3, .ref (r 171)), (2, .ref (r 143)), (1, .ref (r 0)), (0, .ref b0)]) hl [2, 3, 4, 5, 6] rfl
    refine W.widen (k := cells + 7) (n := slots + 42) (lx_w (by decide)) (lx_w (by decide)) ?_
    exact kk _ _ _ _ _ hR2 hP hS hl
set_option maxHeartbeats 4000000 in
set_option maxRecDepth 100000 in
theorem lw_c14 (C : LCx p l s m c0 D r c b b0 L xs) (ht : 7 * t + 7 ≤ L) (hz : z = nI (7 * t)) (hRA : RA S S) (hP : qw_P D r c g S H) (hS : va_S (px_A b) s.heap H locs) (hl : lv_has ls 7 [(4, .int z), (3, .ref (r 171)), (2, .ref (r 143)), (1, .ref (r 0)), (0, .ref b0)]) (hcs : cells + 7 ≤ 601024 ∧ slots + 42 ≤ 7293034)
    (kk : ∀ (S' : qw_St) (g' : Nat → Int64) (H : Heap) (locs : List Loc) (ls : Array Slot), RA S' S' → qw_P D r c g' S' H → va_S (px_A b) s.heap H locs → lv_has ls 7 [(4, .int z), (3, .ref (r 171)), (2, .ref (r 143)), (1, .ref (r 0)), (0, .ref b0)] → W p l e room_1 s m #[Value.ref b0] below meth c0 H locs (cells + 7) (slots + 42) Q (F0 m 1461 ls [])) : W p l e room_1 s m #[Value.ref b0] below meth c0 H locs cells slots Q (F0 m 924 ls []) := by
  obtain ⟨hlT, hx, hb, hml, hown, hts, hr, hK, hX, hbl, hbA, hA, hEW, hL⟩ := C
  refine lv_aload_n hx hb dL_law_924 rfl (lv_at hl 3 rfl) ?_
  refine lv_aload_n hx hb dL_law_925 rfl (lv_at hl 4 rfl) ?_
  refine lv_iload hx hb dL_law_926 (lv_at hl 0 rfl) ?_
  refine lv_iconst (v := 1) hx hb dL_law_928 (by decide) ?_
  refine lv_iadd hx hb dL_law_929 ?_
  refine va_sld hx hb hX hbl hbA hS (lx_in hz ht hL (k := 1) (by omega) rfl) dL_law_930 ?_
  refine lv_aload_n hx hb dL_law_931 rfl (lv_at hl 1 rfl) ?_
  refine wl_iS (As := [.ref (r 0), .int (xs (z + 1).toNatClampNeg), .ref (r 171)]) (rest := []) ⟨hx, hb, hml, hown, hts⟩ (c_L_days l hlT D c g hr S (xs (z + 1).toNatClampNeg) ) (vx_cwSW 3 hts gL_law_L_days rfl rfl rfl (by decide +kernel) ⟨Nat.le_of_ble_eq_true rfl, Nat.le_of_ble_eq_true rfl⟩) hK hP hS hA (fun U hU hW => hEW.to hS hA hU hW) rfl hl.1 rfl (lv_room (Nat.le_of_ble_eq_true rfl)) dL_law_932 ⟨lx_c hcs.1 (by decide), lx_s hcs.2 (by decide)⟩ (fun H locs hP hS => ?_)
  obtain ⟨S1, eS1⟩ : ∃ Sx : qw_St, Sx = (g_X6_days S (xs (z + 1).toNatClampNeg)) := ⟨_, rfl⟩
  rw [← eS1] at hP
  have hM1 : RA S S1 := hRA.mid (fun k j hk => by rw [eS1]; exact fC_days S (xs (z + 1).toNatClampNeg) j hk)
  have hop := op_days hM1 (xs (z + 1).toNatClampNeg)
  rw [← eS1] at hop
  refine lv_topi (fun k5 ek5 => ?_)
  refine lv_istore (lv' := [(5, .int k5), (4, .int z), (3, .ref (r 171)), (2, .ref (r 143)), (1, .ref (r 0)), (0, .ref b0)]) hx hb dL_law_935 hl (by decide) rfl (fun ls hl => ?_)
  refine lv_aload_n hx hb dL_law_937 rfl (lv_at hl 3 rfl) ?_
  refine lv_aload_n hx hb dL_law_938 rfl (lv_at hl 5 rfl) ?_
  refine lv_iload hx hb dL_law_939 (lv_at hl 1 rfl) ?_
  refine lv_iconst (v := 1) hx hb dL_law_941 (by decide) ?_
  refine lv_iadd hx hb dL_law_942 ?_
  refine va_sld hx hb hX hbl hbA hS (lx_in hz ht hL (k := 1) (by omega) rfl) dL_law_943 ?_
  refine wc_iV (k := 143) (C := RX7) (As := [.int (xs (z + 1).toNatClampNeg)]) (rest := []) ⟨hx, hb, hml, hown, hts⟩ (c_X7_days l D c (gd g (f_X6_days S (xs (z + 1).toNatClampNeg))) hr S1 (xs (z + 1).toNatClampNeg) ) (cwV 1 hts gL_law_X7_days rfl rfl rfl (by decide +kernel) ⟨Nat.le_of_ble_eq_true rfl, Nat.le_of_ble_eq_true rfl⟩) (wx_recv hK hP (by decide) qc_143 rfl) hK hP hS hA rfl hl.1 rfl (lv_room (Nat.le_of_ble_eq_true rfl)) dL_law_944 ⟨lx_c hcs.1 (by decide), lx_s hcs.2 (by decide)⟩ (fun H locs hP hS => ?_)
  obtain ⟨S2, eS2⟩ : ∃ Sx : qw_St, Sx = (g_X7_days S1 (xs (z + 1).toNatClampNeg)) := ⟨_, rfl⟩
  rw [← eS2] at hP hop
  have hR2 : RA S2 S2 := hop.2.fin (fun k j hk => by rw [eS2]; exact fM_days S1 (xs (z + 1).toNatClampNeg) j hk)
  refine lv_topi (fun b6 eb6 => ?_)
  refine lv_istore (lv' := [(6, .int b6), (5, .int k5), (4, .int z), (3, .ref (r 171)), (2, .ref (r 143)), (1, .ref (r 0)), (0, .ref b0)]) hx hb dL_law_947 hl (by decide) rfl (fun ls hl => ?_)
  refine lv_aload_n hx hb dL_law_949 rfl (lv_at hl 4 rfl) ?_
  refine wc_iV (k := 143) (C := RX7) (As := []) (rest := []) ⟨hx, hb, hml, hown, hts⟩ (c_X7_thrown l D c (gd g (f_X6_days S (xs (z + 1).toNatClampNeg))) hr S2 ) (cwV 0 hts gL_law_X7_thrown rfl rfl rfl (by decide +kernel) ⟨Nat.le_of_ble_eq_true rfl, Nat.le_of_ble_eq_true rfl⟩) (wx_recv hK hP (by decide) qc_143 rfl) hK hP hS hA rfl hl.1 rfl (lv_room (Nat.le_of_ble_eq_true rfl)) dL_law_950 ⟨lx_c hcs.1 (by decide), lx_s hcs.2 (by decide)⟩ (fun H locs hP hS => ?_)
  refine lv_iload hx hb dL_law_953 (lv_at hl 1 rfl) ?_
  refine lv_icmp_eq (tgt := 960) hx hb dL_law_955 (by decide) (fun cx => ?_) (fun cx => ?_)
  rotate_left
  · exact absurd (hop.1.1.trans ek5.symm) cx
  refine lv_iload hx hb dL_law_960 (lv_at hl 1 rfl) ?_
  refine lv_if_ne (tgt := 977) hx hb dL_law_962 (by decide) (fun cy => ?_) (fun cy => ?_)
  · skip
    refine lv_goto (tgt := 1461) hx hb dL_law_977 (by decide) ?_
    have hl := lv_sub (l' := [(4, .int z), (3, .ref (r 171)), (2, .ref (r 143)), (1, .ref (r 0)), (0, .ref b0)]) hl [2, 3, 4, 5, 6] rfl
    refine W.widen (k := cells + 7) (n := slots + 42) (lx_w (by decide)) (lx_w (by decide)) ?_
    exact kk _ _ _ _ _ hR2 hP hS hl
  · skip
    obtain ⟨v, hF⟩ : ∃ v, f_X6_days S (xs (z + 1).toNatClampNeg) = .ok v := by
      cases hF : f_X6_days S (xs (z + 1).toNatClampNeg) with
      | ok v => exact ⟨v, rfl⟩
      | error N => exact absurd (ek5.symm.trans cy) (hop.1.2.2 N hF)
    have hvb : v = b6 := (hop.1.2.1 v hF).trans eb6.symm
    refine lv_aload_n hx hb dL_law_965 rfl (lv_at hl 3 rfl) ?_
    refine lv_iconst (v := 0) hx hb dL_law_966 (by decide) ?_
    refine wx_lld hx hb hK hP dL_law_967 ?_
    refine lv_iload hx hb dL_law_968 (lv_at hl 0 rfl) ?_
    have hg0 : gd g (f_X6_days S (xs (z + 1).toNatClampNeg)) 0 = b6.toInt64 := by rw [hF, ← hvb]; rfl
    refine lv_i2l (v := b6.toInt64) hx hb dL_law_970 rfl ?_
    refine W.lcmp hx hb dL_law_971 ?_
    refine lv_if_eq (tgt := 977) hx hb dL_law_972 (by decide) (fun cw => ?_) (fun cw => ?_)
    rotate_left
    · exact absurd (by rw [hg0]; exact lx_cmp _) cw
    refine lv_goto (tgt := 1461) hx hb dL_law_977 (by decide) ?_
    have hl := lv_sub (l' := [(4, .int z), (3, .ref (r 171)), (2, .ref (r 143)), (1, .ref (r 0)), (0, .ref b0)]) hl [2, 3, 4, 5, 6] rfl
    refine W.widen (k := cells + 7) (n := slots + 42) (lx_w (by decide)) (lx_w (by decide)) ?_
    exact kk _ _ _ _ _ hR2 hP hS hl
set_option maxHeartbeats 4000000 in
set_option maxRecDepth 100000 in
theorem lw_c15 (C : LCx p l s m c0 D r c b b0 L xs) (ht : 7 * t + 7 ≤ L) (hz : z = nI (7 * t)) (hRA : RA S S) (hP : qw_P D r c g S H) (hS : va_S (px_A b) s.heap H locs) (hl : lv_has ls 7 [(4, .int z), (3, .ref (r 171)), (2, .ref (r 143)), (1, .ref (r 0)), (0, .ref b0)]) (hcs : cells + 7 ≤ 601024 ∧ slots + 42 ≤ 7293034)
    (kk : ∀ (S' : qw_St) (g' : Nat → Int64) (H : Heap) (locs : List Loc) (ls : Array Slot), RA S' S' → qw_P D r c g' S' H → va_S (px_A b) s.heap H locs → lv_has ls 7 [(4, .int z), (3, .ref (r 171)), (2, .ref (r 143)), (1, .ref (r 0)), (0, .ref b0)] → W p l e room_1 s m #[Value.ref b0] below meth c0 H locs (cells + 7) (slots + 42) Q (F0 m 1461 ls [])) : W p l e room_1 s m #[Value.ref b0] below meth c0 H locs cells slots Q (F0 m 980 ls []) := by
  obtain ⟨hlT, hx, hb, hml, hown, hts, hr, hK, hX, hbl, hbA, hA, hEW, hL⟩ := C
  refine lv_aload_n hx hb dL_law_980 rfl (lv_at hl 3 rfl) ?_
  refine lv_aload_n hx hb dL_law_981 rfl (lv_at hl 4 rfl) ?_
  refine lv_iload hx hb dL_law_982 (lv_at hl 0 rfl) ?_
  refine lv_iconst (v := 1) hx hb dL_law_984 (by decide) ?_
  refine lv_iadd hx hb dL_law_985 ?_
  refine va_sld hx hb hX hbl hbA hS (lx_in hz ht hL (k := 1) (by omega) rfl) dL_law_986 ?_
  refine lv_aload_n hx hb dL_law_987 rfl (lv_at hl 4 rfl) ?_
  refine lv_iload hx hb dL_law_988 (lv_at hl 0 rfl) ?_
  refine lv_iconst (v := 2) hx hb dL_law_990 (by decide) ?_
  refine lv_iadd hx hb dL_law_991 ?_
  refine va_sld hx hb hX hbl hbA hS (lx_in hz ht hL (k := 2) (by omega) rfl) dL_law_992 ?_
  refine lv_aload_n hx hb dL_law_993 rfl (lv_at hl 1 rfl) ?_
  refine wl_iS (As := [.ref (r 0), .int (xs (z + 1).toNatClampNeg), .int (xs (z + 2).toNatClampNeg), .ref (r 171)]) (rest := []) ⟨hx, hb, hml, hown, hts⟩ (c_L_force l hlT D c g hr S (xs (z + 1).toNatClampNeg) (xs (z + 2).toNatClampNeg) hRA.inv.1) (vx_cwSW 4 hts gL_law_L_force rfl rfl rfl (by decide +kernel) ⟨Nat.le_of_ble_eq_true rfl, Nat.le_of_ble_eq_true rfl⟩) hK hP hS hA (fun U hU hW => hEW.to hS hA hU hW) rfl hl.1 rfl (lv_room (Nat.le_of_ble_eq_true rfl)) dL_law_994 ⟨lx_c hcs.1 (by decide), lx_s hcs.2 (by decide)⟩ (fun H locs hP hS => ?_)
  obtain ⟨S1, eS1⟩ : ∃ Sx : qw_St, Sx = S := ⟨_, rfl⟩
  have hP : qw_P D r c (gd g (f_X6_force S (xs (z + 1).toNatClampNeg) (xs (z + 2).toNatClampNeg))) S1 H := by rw [eS1]; exact hP
  have hM1 : RA S S1 := hRA.mid (fun k j hk => by rw [eS1])
  have hop := op_force hM1 (xs (z + 1).toNatClampNeg) (xs (z + 2).toNatClampNeg)
  have hop := hop
  refine lv_topi (fun k5 ek5 => ?_)
  refine lv_istore (lv' := [(5, .int k5), (4, .int z), (3, .ref (r 171)), (2, .ref (r 143)), (1, .ref (r 0)), (0, .ref b0)]) hx hb dL_law_997 hl (by decide) rfl (fun ls hl => ?_)
  refine lv_aload_n hx hb dL_law_999 rfl (lv_at hl 3 rfl) ?_
  refine lv_aload_n hx hb dL_law_1000 rfl (lv_at hl 5 rfl) ?_
  refine lv_iload hx hb dL_law_1001 (lv_at hl 1 rfl) ?_
  refine lv_iconst (v := 1) hx hb dL_law_1003 (by decide) ?_
  refine lv_iadd hx hb dL_law_1004 ?_
  refine va_sld hx hb hX hbl hbA hS (lx_in hz ht hL (k := 1) (by omega) rfl) dL_law_1005 ?_
  refine lv_aload_n hx hb dL_law_1006 rfl (lv_at hl 5 rfl) ?_
  refine lv_iload hx hb dL_law_1007 (lv_at hl 1 rfl) ?_
  refine lv_iconst (v := 2) hx hb dL_law_1009 (by decide) ?_
  refine lv_iadd hx hb dL_law_1010 ?_
  refine va_sld hx hb hX hbl hbA hS (lx_in hz ht hL (k := 2) (by omega) rfl) dL_law_1011 ?_
  refine wc_iV (k := 143) (C := RX7) (As := [.int (xs (z + 1).toNatClampNeg), .int (xs (z + 2).toNatClampNeg)]) (rest := []) ⟨hx, hb, hml, hown, hts⟩ (c_X7_force l D c (gd g (f_X6_force S (xs (z + 1).toNatClampNeg) (xs (z + 2).toNatClampNeg))) hr S1 (xs (z + 1).toNatClampNeg) (xs (z + 2).toNatClampNeg) hM1.inv.2) (cwV 2 hts gL_law_X7_force rfl rfl rfl (by decide +kernel) ⟨Nat.le_of_ble_eq_true rfl, Nat.le_of_ble_eq_true rfl⟩) (wx_recv hK hP (by decide) qc_143 rfl) hK hP hS hA rfl hl.1 rfl (lv_room (Nat.le_of_ble_eq_true rfl)) dL_law_1012 ⟨lx_c hcs.1 (by decide), lx_s hcs.2 (by decide)⟩ (fun H locs hP hS => ?_)
  obtain ⟨S2, eS2⟩ : ∃ Sx : qw_St, Sx = (g_X7_force S1 (xs (z + 1).toNatClampNeg) (xs (z + 2).toNatClampNeg)) := ⟨_, rfl⟩
  rw [← eS2] at hP hop
  have hR2 : RA S2 S2 := hop.2.fin (fun k j hk => by rw [eS2]; exact (fM_force S1 (xs (z + 1).toNatClampNeg) (xs (z + 2).toNatClampNeg) j hk).trans (by rw [eS1]))
  refine lv_topi (fun b6 eb6 => ?_)
  refine lv_istore (lv' := [(6, .int b6), (5, .int k5), (4, .int z), (3, .ref (r 171)), (2, .ref (r 143)), (1, .ref (r 0)), (0, .ref b0)]) hx hb dL_law_1015 hl (by decide) rfl (fun ls hl => ?_)
  refine lv_aload_n hx hb dL_law_1017 rfl (lv_at hl 4 rfl) ?_
  refine wc_iV (k := 143) (C := RX7) (As := []) (rest := []) ⟨hx, hb, hml, hown, hts⟩ (c_X7_thrown l D c (gd g (f_X6_force S (xs (z + 1).toNatClampNeg) (xs (z + 2).toNatClampNeg))) hr S2 ) (cwV 0 hts gL_law_X7_thrown rfl rfl rfl (by decide +kernel) ⟨Nat.le_of_ble_eq_true rfl, Nat.le_of_ble_eq_true rfl⟩) (wx_recv hK hP (by decide) qc_143 rfl) hK hP hS hA rfl hl.1 rfl (lv_room (Nat.le_of_ble_eq_true rfl)) dL_law_1018 ⟨lx_c hcs.1 (by decide), lx_s hcs.2 (by decide)⟩ (fun H locs hP hS => ?_)
  refine lv_iload hx hb dL_law_1021 (lv_at hl 1 rfl) ?_
  refine lv_icmp_eq (tgt := 1028) hx hb dL_law_1023 (by decide) (fun cx => ?_) (fun cx => ?_)
  rotate_left
  · exact absurd (hop.1.1.trans ek5.symm) cx
  refine lv_iload hx hb dL_law_1028 (lv_at hl 1 rfl) ?_
  refine lv_if_ne (tgt := 1045) hx hb dL_law_1030 (by decide) (fun cy => ?_) (fun cy => ?_)
  · skip
    refine lv_goto (tgt := 1461) hx hb dL_law_1045 (by decide) ?_
    have hl := lv_sub (l' := [(4, .int z), (3, .ref (r 171)), (2, .ref (r 143)), (1, .ref (r 0)), (0, .ref b0)]) hl [2, 3, 4, 5, 6] rfl
    refine W.widen (k := cells + 7) (n := slots + 42) (lx_w (by decide)) (lx_w (by decide)) ?_
    exact kk _ _ _ _ _ hR2 hP hS hl
  · skip
    obtain ⟨v, hF⟩ : ∃ v, f_X6_force S (xs (z + 1).toNatClampNeg) (xs (z + 2).toNatClampNeg) = .ok v := by
      cases hF : f_X6_force S (xs (z + 1).toNatClampNeg) (xs (z + 2).toNatClampNeg) with
      | ok v => exact ⟨v, rfl⟩
      | error N => exact absurd (ek5.symm.trans cy) (hop.1.2.2 N hF)
    have hvb : v = b6 := (hop.1.2.1 v hF).trans eb6.symm
    refine lv_aload_n hx hb dL_law_1033 rfl (lv_at hl 3 rfl) ?_
    refine lv_iconst (v := 0) hx hb dL_law_1034 (by decide) ?_
    refine wx_lld hx hb hK hP dL_law_1035 ?_
    refine lv_iload hx hb dL_law_1036 (lv_at hl 0 rfl) ?_
    have hg0 : gd g (f_X6_force S (xs (z + 1).toNatClampNeg) (xs (z + 2).toNatClampNeg)) 0 = b6.toInt64 := by rw [hF, ← hvb]; rfl
    refine lv_i2l (v := b6.toInt64) hx hb dL_law_1038 rfl ?_
    refine W.lcmp hx hb dL_law_1039 ?_
    refine lv_if_eq (tgt := 1045) hx hb dL_law_1040 (by decide) (fun cw => ?_) (fun cw => ?_)
    rotate_left
    · exact absurd (by rw [hg0]; exact lx_cmp _) cw
    refine lv_goto (tgt := 1461) hx hb dL_law_1045 (by decide) ?_
    have hl := lv_sub (l' := [(4, .int z), (3, .ref (r 171)), (2, .ref (r 143)), (1, .ref (r 0)), (0, .ref b0)]) hl [2, 3, 4, 5, 6] rfl
    refine W.widen (k := cells + 7) (n := slots + 42) (lx_w (by decide)) (lx_w (by decide)) ?_
    exact kk _ _ _ _ _ hR2 hP hS hl
set_option maxHeartbeats 4000000 in
set_option maxRecDepth 100000 in
theorem lw_c16 (C : LCx p l s m c0 D r c b b0 L xs) (ht : 7 * t + 7 ≤ L) (hz : z = nI (7 * t)) (hRA : RA S S) (hP : qw_P D r c g S H) (hS : va_S (px_A b) s.heap H locs) (hl : lv_has ls 7 [(4, .int z), (3, .ref (r 171)), (2, .ref (r 143)), (1, .ref (r 0)), (0, .ref b0)]) (hcs : cells + 7 ≤ 601024 ∧ slots + 42 ≤ 7293034)
    (kk : ∀ (S' : qw_St) (g' : Nat → Int64) (H : Heap) (locs : List Loc) (ls : Array Slot), RA S' S' → qw_P D r c g' S' H → va_S (px_A b) s.heap H locs → lv_has ls 7 [(4, .int z), (3, .ref (r 171)), (2, .ref (r 143)), (1, .ref (r 0)), (0, .ref b0)] → W p l e room_1 s m #[Value.ref b0] below meth c0 H locs (cells + 7) (slots + 42) Q (F0 m 1461 ls [])) : W p l e room_1 s m #[Value.ref b0] below meth c0 H locs cells slots Q (F0 m 1048 ls []) := by
  obtain ⟨hlT, hx, hb, hml, hown, hts, hr, hK, hX, hbl, hbA, hA, hEW, hL⟩ := C
  refine lv_aload_n hx hb dL_law_1048 rfl (lv_at hl 3 rfl) ?_
  refine lv_aload_n hx hb dL_law_1049 rfl (lv_at hl 4 rfl) ?_
  refine lv_iload hx hb dL_law_1050 (lv_at hl 0 rfl) ?_
  refine lv_iconst (v := 1) hx hb dL_law_1052 (by decide) ?_
  refine lv_iadd hx hb dL_law_1053 ?_
  refine va_sld hx hb hX hbl hbA hS (lx_in hz ht hL (k := 1) (by omega) rfl) dL_law_1054 ?_
  refine lv_aload_n hx hb dL_law_1055 rfl (lv_at hl 4 rfl) ?_
  refine lv_iload hx hb dL_law_1056 (lv_at hl 0 rfl) ?_
  refine lv_iconst (v := 2) hx hb dL_law_1058 (by decide) ?_
  refine lv_iadd hx hb dL_law_1059 ?_
  refine va_sld hx hb hX hbl hbA hS (lx_in hz ht hL (k := 2) (by omega) rfl) dL_law_1060 ?_
  refine lv_aload_n hx hb dL_law_1061 rfl (lv_at hl 4 rfl) ?_
  refine lv_iload hx hb dL_law_1062 (lv_at hl 0 rfl) ?_
  refine lv_iconst (v := 3) hx hb dL_law_1064 (by decide) ?_
  refine lv_iadd hx hb dL_law_1065 ?_
  refine va_sld hx hb hX hbl hbA hS (lx_in hz ht hL (k := 3) (by omega) rfl) dL_law_1066 ?_
  refine lv_if_eq (tgt := 1074) hx hb dL_law_1067 (by decide) (fun cb1067 => ?_) (fun cb1067 => ?_)
  · skip
    refine lv_iconst (v := 0) hx hb dL_law_1074 (by decide) ?_
    refine lv_aload_n hx hb dL_law_1075 rfl (lv_at hl 4 rfl) ?_
    refine lv_iload hx hb dL_law_1076 (lv_at hl 0 rfl) ?_
    refine lv_iconst (v := 4) hx hb dL_law_1078 (by decide) ?_
    refine lv_iadd hx hb dL_law_1079 ?_
    refine va_sld hx hb hX hbl hbA hS (lx_in hz ht hL (k := 4) (by omega) rfl) dL_law_1080 ?_
    refine lv_aload_n hx hb dL_law_1081 rfl (lv_at hl 1 rfl) ?_
    refine wl_iS (As := [.ref (r 0), .int (xs (z + 1).toNatClampNeg), .int (xs (z + 2).toNatClampNeg), .int 0, .int (xs (z + 4).toNatClampNeg), .ref (r 171)]) (rest := []) ⟨hx, hb, hml, hown, hts⟩ (c_L_cap l hlT D c g hr S (xs (z + 1).toNatClampNeg) (xs (z + 2).toNatClampNeg) 0 (xs (z + 4).toNatClampNeg) hRA.inv.1) (vx_cwSW 6 hts gL_law_L_cap rfl rfl rfl (by decide +kernel) ⟨Nat.le_of_ble_eq_true rfl, Nat.le_of_ble_eq_true rfl⟩) hK hP hS hA (fun U hU hW => hEW.to hS hA hU hW) rfl hl.1 rfl (lv_room (Nat.le_of_ble_eq_true rfl)) dL_law_1082 ⟨lx_c hcs.1 (by decide), lx_s hcs.2 (by decide)⟩ (fun H locs hP hS => ?_)
    obtain ⟨S1, eS1⟩ : ∃ Sx : qw_St, Sx = (g_X6_cap S (xs (z + 1).toNatClampNeg) (xs (z + 2).toNatClampNeg) 0 (xs (z + 4).toNatClampNeg)) := ⟨_, rfl⟩
    rw [← eS1] at hP
    have hM1 : RA S S1 := hRA.mid (fun k j hk => by rw [eS1]; exact fC_cap S (xs (z + 1).toNatClampNeg) (xs (z + 2).toNatClampNeg) 0 (xs (z + 4).toNatClampNeg) j hk)
    have hop := op_cap hM1 (xs (z + 1).toNatClampNeg) (xs (z + 2).toNatClampNeg) 0 (xs (z + 4).toNatClampNeg)
    rw [← eS1] at hop
    refine lv_topi (fun k5 ek5 => ?_)
    refine lv_istore (lv' := [(5, .int k5), (4, .int z), (3, .ref (r 171)), (2, .ref (r 143)), (1, .ref (r 0)), (0, .ref b0)]) hx hb dL_law_1085 hl (by decide) rfl (fun ls hl => ?_)
    refine lv_aload_n hx hb dL_law_1087 rfl (lv_at hl 3 rfl) ?_
    refine lv_aload_n hx hb dL_law_1088 rfl (lv_at hl 5 rfl) ?_
    refine lv_iload hx hb dL_law_1089 (lv_at hl 1 rfl) ?_
    refine lv_iconst (v := 1) hx hb dL_law_1091 (by decide) ?_
    refine lv_iadd hx hb dL_law_1092 ?_
    refine va_sld hx hb hX hbl hbA hS (lx_in hz ht hL (k := 1) (by omega) rfl) dL_law_1093 ?_
    refine lv_aload_n hx hb dL_law_1094 rfl (lv_at hl 5 rfl) ?_
    refine lv_iload hx hb dL_law_1095 (lv_at hl 1 rfl) ?_
    refine lv_iconst (v := 2) hx hb dL_law_1097 (by decide) ?_
    refine lv_iadd hx hb dL_law_1098 ?_
    refine va_sld hx hb hX hbl hbA hS (lx_in hz ht hL (k := 2) (by omega) rfl) dL_law_1099 ?_
    refine lv_aload_n hx hb dL_law_1100 rfl (lv_at hl 5 rfl) ?_
    refine lv_iload hx hb dL_law_1101 (lv_at hl 1 rfl) ?_
    refine lv_iconst (v := 3) hx hb dL_law_1103 (by decide) ?_
    refine lv_iadd hx hb dL_law_1104 ?_
    refine va_sld hx hb hX hbl hbA hS (lx_in hz ht hL (k := 3) (by omega) rfl) dL_law_1105 ?_
    refine lv_if_eq (tgt := 1113) hx hb dL_law_1106 (by decide) (fun cx => ?_) (fun cx => ?_)
    rotate_left
    · exact absurd cb1067 cx
    refine lv_iconst (v := 0) hx hb dL_law_1113 (by decide) ?_
    refine lv_aload_n hx hb dL_law_1114 rfl (lv_at hl 5 rfl) ?_
    refine lv_iload hx hb dL_law_1115 (lv_at hl 1 rfl) ?_
    refine lv_iconst (v := 4) hx hb dL_law_1117 (by decide) ?_
    refine lv_iadd hx hb dL_law_1118 ?_
    refine va_sld hx hb hX hbl hbA hS (lx_in hz ht hL (k := 4) (by omega) rfl) dL_law_1119 ?_
    refine wc_iV (k := 143) (C := RX7) (As := [.int (xs (z + 1).toNatClampNeg), .int (xs (z + 2).toNatClampNeg), .int 0, .int (xs (z + 4).toNatClampNeg)]) (rest := []) ⟨hx, hb, hml, hown, hts⟩ (c_X7_cap l D c (gd g (f_X6_cap S (xs (z + 1).toNatClampNeg) (xs (z + 2).toNatClampNeg) 0 (xs (z + 4).toNatClampNeg))) hr S1 (xs (z + 1).toNatClampNeg) (xs (z + 2).toNatClampNeg) 0 (xs (z + 4).toNatClampNeg) hM1.inv.2) (cwV 4 hts gL_law_X7_cap rfl rfl rfl (by decide +kernel) ⟨Nat.le_of_ble_eq_true rfl, Nat.le_of_ble_eq_true rfl⟩) (wx_recv hK hP (by decide) qc_143 rfl) hK hP hS hA rfl hl.1 rfl (lv_room (Nat.le_of_ble_eq_true rfl)) dL_law_1120 ⟨lx_c hcs.1 (by decide), lx_s hcs.2 (by decide)⟩ (fun H locs hP hS => ?_)
    obtain ⟨S2, eS2⟩ : ∃ Sx : qw_St, Sx = (g_X7_cap S1 (xs (z + 1).toNatClampNeg) (xs (z + 2).toNatClampNeg) 0 (xs (z + 4).toNatClampNeg)) := ⟨_, rfl⟩
    rw [← eS2] at hP hop
    have hR2 : RA S2 S2 := hop.2.fin (fun k j hk => by rw [eS2]; exact fM_cap S1 (xs (z + 1).toNatClampNeg) (xs (z + 2).toNatClampNeg) 0 (xs (z + 4).toNatClampNeg) j hk)
    refine lv_topi (fun b6 eb6 => ?_)
    refine lv_istore (lv' := [(6, .int b6), (5, .int k5), (4, .int z), (3, .ref (r 171)), (2, .ref (r 143)), (1, .ref (r 0)), (0, .ref b0)]) hx hb dL_law_1123 hl (by decide) rfl (fun ls hl => ?_)
    refine lv_aload_n hx hb dL_law_1125 rfl (lv_at hl 4 rfl) ?_
    refine wc_iV (k := 143) (C := RX7) (As := []) (rest := []) ⟨hx, hb, hml, hown, hts⟩ (c_X7_thrown l D c (gd g (f_X6_cap S (xs (z + 1).toNatClampNeg) (xs (z + 2).toNatClampNeg) 0 (xs (z + 4).toNatClampNeg))) hr S2 ) (cwV 0 hts gL_law_X7_thrown rfl rfl rfl (by decide +kernel) ⟨Nat.le_of_ble_eq_true rfl, Nat.le_of_ble_eq_true rfl⟩) (wx_recv hK hP (by decide) qc_143 rfl) hK hP hS hA rfl hl.1 rfl (lv_room (Nat.le_of_ble_eq_true rfl)) dL_law_1126 ⟨lx_c hcs.1 (by decide), lx_s hcs.2 (by decide)⟩ (fun H locs hP hS => ?_)
    refine lv_iload hx hb dL_law_1129 (lv_at hl 1 rfl) ?_
    refine lv_icmp_eq (tgt := 1136) hx hb dL_law_1131 (by decide) (fun cx => ?_) (fun cx => ?_)
    rotate_left
    · exact absurd (hop.1.1.trans ek5.symm) cx
    refine lv_iload hx hb dL_law_1136 (lv_at hl 1 rfl) ?_
    refine lv_if_ne (tgt := 1153) hx hb dL_law_1138 (by decide) (fun cy => ?_) (fun cy => ?_)
    · skip
      refine lv_goto (tgt := 1461) hx hb dL_law_1153 (by decide) ?_
      have hl := lv_sub (l' := [(4, .int z), (3, .ref (r 171)), (2, .ref (r 143)), (1, .ref (r 0)), (0, .ref b0)]) hl [2, 3, 4, 5, 6] rfl
      refine W.widen (k := cells + 7) (n := slots + 42) (lx_w (by decide)) (lx_w (by decide)) ?_
      exact kk _ _ _ _ _ hR2 hP hS hl
    · skip
      obtain ⟨v, hF⟩ : ∃ v, f_X6_cap S (xs (z + 1).toNatClampNeg) (xs (z + 2).toNatClampNeg) 0 (xs (z + 4).toNatClampNeg) = .ok v := by
        cases hF : f_X6_cap S (xs (z + 1).toNatClampNeg) (xs (z + 2).toNatClampNeg) 0 (xs (z + 4).toNatClampNeg) with
        | ok v => exact ⟨v, rfl⟩
        | error N => exact absurd (ek5.symm.trans cy) (hop.1.2.2 N hF)
      have hvb : v = b6 := (hop.1.2.1 v hF).trans eb6.symm
      refine lv_aload_n hx hb dL_law_1141 rfl (lv_at hl 3 rfl) ?_
      refine lv_iconst (v := 0) hx hb dL_law_1142 (by decide) ?_
      refine wx_lld hx hb hK hP dL_law_1143 ?_
      refine lv_iload hx hb dL_law_1144 (lv_at hl 0 rfl) ?_
      have hg0 : gd g (f_X6_cap S (xs (z + 1).toNatClampNeg) (xs (z + 2).toNatClampNeg) 0 (xs (z + 4).toNatClampNeg)) 0 = b6.toInt64 := by rw [hF, ← hvb]; rfl
      refine lv_i2l (v := b6.toInt64) hx hb dL_law_1146 rfl ?_
      refine W.lcmp hx hb dL_law_1147 ?_
      refine lv_if_eq (tgt := 1153) hx hb dL_law_1148 (by decide) (fun cw => ?_) (fun cw => ?_)
      rotate_left
      · exact absurd (by rw [hg0]; exact lx_cmp _) cw
      refine lv_goto (tgt := 1461) hx hb dL_law_1153 (by decide) ?_
      have hl := lv_sub (l' := [(4, .int z), (3, .ref (r 171)), (2, .ref (r 143)), (1, .ref (r 0)), (0, .ref b0)]) hl [2, 3, 4, 5, 6] rfl
      refine W.widen (k := cells + 7) (n := slots + 42) (lx_w (by decide)) (lx_w (by decide)) ?_
      exact kk _ _ _ _ _ hR2 hP hS hl
  · skip
    refine lv_iconst (v := 1) hx hb dL_law_1070 (by decide) ?_
    refine lv_goto (tgt := 1075) hx hb dL_law_1071 (by decide) ?_
    refine lv_aload_n hx hb dL_law_1075 rfl (lv_at hl 4 rfl) ?_
    refine lv_iload hx hb dL_law_1076 (lv_at hl 0 rfl) ?_
    refine lv_iconst (v := 4) hx hb dL_law_1078 (by decide) ?_
    refine lv_iadd hx hb dL_law_1079 ?_
    refine va_sld hx hb hX hbl hbA hS (lx_in hz ht hL (k := 4) (by omega) rfl) dL_law_1080 ?_
    refine lv_aload_n hx hb dL_law_1081 rfl (lv_at hl 1 rfl) ?_
    refine wl_iS (As := [.ref (r 0), .int (xs (z + 1).toNatClampNeg), .int (xs (z + 2).toNatClampNeg), .int 1, .int (xs (z + 4).toNatClampNeg), .ref (r 171)]) (rest := []) ⟨hx, hb, hml, hown, hts⟩ (c_L_cap l hlT D c g hr S (xs (z + 1).toNatClampNeg) (xs (z + 2).toNatClampNeg) 1 (xs (z + 4).toNatClampNeg) hRA.inv.1) (vx_cwSW 6 hts gL_law_L_cap rfl rfl rfl (by decide +kernel) ⟨Nat.le_of_ble_eq_true rfl, Nat.le_of_ble_eq_true rfl⟩) hK hP hS hA (fun U hU hW => hEW.to hS hA hU hW) rfl hl.1 rfl (lv_room (Nat.le_of_ble_eq_true rfl)) dL_law_1082 ⟨lx_c hcs.1 (by decide), lx_s hcs.2 (by decide)⟩ (fun H locs hP hS => ?_)
    obtain ⟨S1, eS1⟩ : ∃ Sx : qw_St, Sx = (g_X6_cap S (xs (z + 1).toNatClampNeg) (xs (z + 2).toNatClampNeg) 1 (xs (z + 4).toNatClampNeg)) := ⟨_, rfl⟩
    rw [← eS1] at hP
    have hM1 : RA S S1 := hRA.mid (fun k j hk => by rw [eS1]; exact fC_cap S (xs (z + 1).toNatClampNeg) (xs (z + 2).toNatClampNeg) 1 (xs (z + 4).toNatClampNeg) j hk)
    have hop := op_cap hM1 (xs (z + 1).toNatClampNeg) (xs (z + 2).toNatClampNeg) 1 (xs (z + 4).toNatClampNeg)
    rw [← eS1] at hop
    refine lv_topi (fun k5 ek5 => ?_)
    refine lv_istore (lv' := [(5, .int k5), (4, .int z), (3, .ref (r 171)), (2, .ref (r 143)), (1, .ref (r 0)), (0, .ref b0)]) hx hb dL_law_1085 hl (by decide) rfl (fun ls hl => ?_)
    refine lv_aload_n hx hb dL_law_1087 rfl (lv_at hl 3 rfl) ?_
    refine lv_aload_n hx hb dL_law_1088 rfl (lv_at hl 5 rfl) ?_
    refine lv_iload hx hb dL_law_1089 (lv_at hl 1 rfl) ?_
    refine lv_iconst (v := 1) hx hb dL_law_1091 (by decide) ?_
    refine lv_iadd hx hb dL_law_1092 ?_
    refine va_sld hx hb hX hbl hbA hS (lx_in hz ht hL (k := 1) (by omega) rfl) dL_law_1093 ?_
    refine lv_aload_n hx hb dL_law_1094 rfl (lv_at hl 5 rfl) ?_
    refine lv_iload hx hb dL_law_1095 (lv_at hl 1 rfl) ?_
    refine lv_iconst (v := 2) hx hb dL_law_1097 (by decide) ?_
    refine lv_iadd hx hb dL_law_1098 ?_
    refine va_sld hx hb hX hbl hbA hS (lx_in hz ht hL (k := 2) (by omega) rfl) dL_law_1099 ?_
    refine lv_aload_n hx hb dL_law_1100 rfl (lv_at hl 5 rfl) ?_
    refine lv_iload hx hb dL_law_1101 (lv_at hl 1 rfl) ?_
    refine lv_iconst (v := 3) hx hb dL_law_1103 (by decide) ?_
    refine lv_iadd hx hb dL_law_1104 ?_
    refine va_sld hx hb hX hbl hbA hS (lx_in hz ht hL (k := 3) (by omega) rfl) dL_law_1105 ?_
    refine lv_if_eq (tgt := 1113) hx hb dL_law_1106 (by decide) (fun cx => ?_) (fun cx => ?_)
    · exact absurd cx cb1067
    refine lv_iconst (v := 1) hx hb dL_law_1109 (by decide) ?_
    refine lv_goto (tgt := 1114) hx hb dL_law_1110 (by decide) ?_
    refine lv_aload_n hx hb dL_law_1114 rfl (lv_at hl 5 rfl) ?_
    refine lv_iload hx hb dL_law_1115 (lv_at hl 1 rfl) ?_
    refine lv_iconst (v := 4) hx hb dL_law_1117 (by decide) ?_
    refine lv_iadd hx hb dL_law_1118 ?_
    refine va_sld hx hb hX hbl hbA hS (lx_in hz ht hL (k := 4) (by omega) rfl) dL_law_1119 ?_
    refine wc_iV (k := 143) (C := RX7) (As := [.int (xs (z + 1).toNatClampNeg), .int (xs (z + 2).toNatClampNeg), .int 1, .int (xs (z + 4).toNatClampNeg)]) (rest := []) ⟨hx, hb, hml, hown, hts⟩ (c_X7_cap l D c (gd g (f_X6_cap S (xs (z + 1).toNatClampNeg) (xs (z + 2).toNatClampNeg) 1 (xs (z + 4).toNatClampNeg))) hr S1 (xs (z + 1).toNatClampNeg) (xs (z + 2).toNatClampNeg) 1 (xs (z + 4).toNatClampNeg) hM1.inv.2) (cwV 4 hts gL_law_X7_cap rfl rfl rfl (by decide +kernel) ⟨Nat.le_of_ble_eq_true rfl, Nat.le_of_ble_eq_true rfl⟩) (wx_recv hK hP (by decide) qc_143 rfl) hK hP hS hA rfl hl.1 rfl (lv_room (Nat.le_of_ble_eq_true rfl)) dL_law_1120 ⟨lx_c hcs.1 (by decide), lx_s hcs.2 (by decide)⟩ (fun H locs hP hS => ?_)
    obtain ⟨S2, eS2⟩ : ∃ Sx : qw_St, Sx = (g_X7_cap S1 (xs (z + 1).toNatClampNeg) (xs (z + 2).toNatClampNeg) 1 (xs (z + 4).toNatClampNeg)) := ⟨_, rfl⟩
    rw [← eS2] at hP hop
    have hR2 : RA S2 S2 := hop.2.fin (fun k j hk => by rw [eS2]; exact fM_cap S1 (xs (z + 1).toNatClampNeg) (xs (z + 2).toNatClampNeg) 1 (xs (z + 4).toNatClampNeg) j hk)
    refine lv_topi (fun b6 eb6 => ?_)
    refine lv_istore (lv' := [(6, .int b6), (5, .int k5), (4, .int z), (3, .ref (r 171)), (2, .ref (r 143)), (1, .ref (r 0)), (0, .ref b0)]) hx hb dL_law_1123 hl (by decide) rfl (fun ls hl => ?_)
    refine lv_aload_n hx hb dL_law_1125 rfl (lv_at hl 4 rfl) ?_
    refine wc_iV (k := 143) (C := RX7) (As := []) (rest := []) ⟨hx, hb, hml, hown, hts⟩ (c_X7_thrown l D c (gd g (f_X6_cap S (xs (z + 1).toNatClampNeg) (xs (z + 2).toNatClampNeg) 1 (xs (z + 4).toNatClampNeg))) hr S2 ) (cwV 0 hts gL_law_X7_thrown rfl rfl rfl (by decide +kernel) ⟨Nat.le_of_ble_eq_true rfl, Nat.le_of_ble_eq_true rfl⟩) (wx_recv hK hP (by decide) qc_143 rfl) hK hP hS hA rfl hl.1 rfl (lv_room (Nat.le_of_ble_eq_true rfl)) dL_law_1126 ⟨lx_c hcs.1 (by decide), lx_s hcs.2 (by decide)⟩ (fun H locs hP hS => ?_)
    refine lv_iload hx hb dL_law_1129 (lv_at hl 1 rfl) ?_
    refine lv_icmp_eq (tgt := 1136) hx hb dL_law_1131 (by decide) (fun cx => ?_) (fun cx => ?_)
    rotate_left
    · exact absurd (hop.1.1.trans ek5.symm) cx
    refine lv_iload hx hb dL_law_1136 (lv_at hl 1 rfl) ?_
    refine lv_if_ne (tgt := 1153) hx hb dL_law_1138 (by decide) (fun cy => ?_) (fun cy => ?_)
    · skip
      refine lv_goto (tgt := 1461) hx hb dL_law_1153 (by decide) ?_
      have hl := lv_sub (l' := [(4, .int z), (3, .ref (r 171)), (2, .ref (r 143)), (1, .ref (r 0)), (0, .ref b0)]) hl [2, 3, 4, 5, 6] rfl
      refine W.widen (k := cells + 7) (n := slots + 42) (lx_w (by decide)) (lx_w (by decide)) ?_
      exact kk _ _ _ _ _ hR2 hP hS hl
    · skip
      obtain ⟨v, hF⟩ : ∃ v, f_X6_cap S (xs (z + 1).toNatClampNeg) (xs (z + 2).toNatClampNeg) 1 (xs (z + 4).toNatClampNeg) = .ok v := by
        cases hF : f_X6_cap S (xs (z + 1).toNatClampNeg) (xs (z + 2).toNatClampNeg) 1 (xs (z + 4).toNatClampNeg) with
        | ok v => exact ⟨v, rfl⟩
        | error N => exact absurd (ek5.symm.trans cy) (hop.1.2.2 N hF)
      have hvb : v = b6 := (hop.1.2.1 v hF).trans eb6.symm
      refine lv_aload_n hx hb dL_law_1141 rfl (lv_at hl 3 rfl) ?_
      refine lv_iconst (v := 0) hx hb dL_law_1142 (by decide) ?_
      refine wx_lld hx hb hK hP dL_law_1143 ?_
      refine lv_iload hx hb dL_law_1144 (lv_at hl 0 rfl) ?_
      have hg0 : gd g (f_X6_cap S (xs (z + 1).toNatClampNeg) (xs (z + 2).toNatClampNeg) 1 (xs (z + 4).toNatClampNeg)) 0 = b6.toInt64 := by rw [hF, ← hvb]; rfl
      refine lv_i2l (v := b6.toInt64) hx hb dL_law_1146 rfl ?_
      refine W.lcmp hx hb dL_law_1147 ?_
      refine lv_if_eq (tgt := 1153) hx hb dL_law_1148 (by decide) (fun cw => ?_) (fun cw => ?_)
      rotate_left
      · exact absurd (by rw [hg0]; exact lx_cmp _) cw
      refine lv_goto (tgt := 1461) hx hb dL_law_1153 (by decide) ?_
      have hl := lv_sub (l' := [(4, .int z), (3, .ref (r 171)), (2, .ref (r 143)), (1, .ref (r 0)), (0, .ref b0)]) hl [2, 3, 4, 5, 6] rfl
      refine W.widen (k := cells + 7) (n := slots + 42) (lx_w (by decide)) (lx_w (by decide)) ?_
      exact kk _ _ _ _ _ hR2 hP hS hl
set_option maxHeartbeats 4000000 in
set_option maxRecDepth 100000 in
theorem lw_c17 (C : LCx p l s m c0 D r c b b0 L xs) (ht : 7 * t + 7 ≤ L) (hz : z = nI (7 * t)) (hRA : RA S S) (hP : qw_P D r c g S H) (hS : va_S (px_A b) s.heap H locs) (hl : lv_has ls 7 [(4, .int z), (3, .ref (r 171)), (2, .ref (r 143)), (1, .ref (r 0)), (0, .ref b0)]) (hcs : cells + 7 ≤ 601024 ∧ slots + 42 ≤ 7293034)
    (kk : ∀ (S' : qw_St) (g' : Nat → Int64) (H : Heap) (locs : List Loc) (ls : Array Slot), RA S' S' → qw_P D r c g' S' H → va_S (px_A b) s.heap H locs → lv_has ls 7 [(4, .int z), (3, .ref (r 171)), (2, .ref (r 143)), (1, .ref (r 0)), (0, .ref b0)] → W p l e room_1 s m #[Value.ref b0] below meth c0 H locs (cells + 7) (slots + 42) Q (F0 m 1461 ls [])) : W p l e room_1 s m #[Value.ref b0] below meth c0 H locs cells slots Q (F0 m 1156 ls []) := by
  obtain ⟨hlT, hx, hb, hml, hown, hts, hr, hK, hX, hbl, hbA, hA, hEW, hL⟩ := C
  refine lv_aload_n hx hb dL_law_1156 rfl (lv_at hl 3 rfl) ?_
  refine lv_aload_n hx hb dL_law_1157 rfl (lv_at hl 4 rfl) ?_
  refine lv_iload hx hb dL_law_1158 (lv_at hl 0 rfl) ?_
  refine lv_iconst (v := 1) hx hb dL_law_1160 (by decide) ?_
  refine lv_iadd hx hb dL_law_1161 ?_
  refine va_sld hx hb hX hbl hbA hS (lx_in hz ht hL (k := 1) (by omega) rfl) dL_law_1162 ?_
  refine lv_aload_n hx hb dL_law_1163 rfl (lv_at hl 4 rfl) ?_
  refine lv_iload hx hb dL_law_1164 (lv_at hl 0 rfl) ?_
  refine lv_iconst (v := 2) hx hb dL_law_1166 (by decide) ?_
  refine lv_iadd hx hb dL_law_1167 ?_
  refine va_sld hx hb hX hbl hbA hS (lx_in hz ht hL (k := 2) (by omega) rfl) dL_law_1168 ?_
  refine lv_aload_n hx hb dL_law_1169 rfl (lv_at hl 4 rfl) ?_
  refine lv_iload hx hb dL_law_1170 (lv_at hl 0 rfl) ?_
  refine lv_iconst (v := 3) hx hb dL_law_1172 (by decide) ?_
  refine lv_iadd hx hb dL_law_1173 ?_
  refine va_sld hx hb hX hbl hbA hS (lx_in hz ht hL (k := 3) (by omega) rfl) dL_law_1174 ?_
  refine lv_aload_n hx hb dL_law_1175 rfl (lv_at hl 4 rfl) ?_
  refine lv_iload hx hb dL_law_1176 (lv_at hl 0 rfl) ?_
  refine lv_iconst (v := 4) hx hb dL_law_1178 (by decide) ?_
  refine lv_iadd hx hb dL_law_1179 ?_
  refine va_sld hx hb hX hbl hbA hS (lx_in hz ht hL (k := 4) (by omega) rfl) dL_law_1180 ?_
  refine lv_if_eq (tgt := 1188) hx hb dL_law_1181 (by decide) (fun cb1181 => ?_) (fun cb1181 => ?_)
  · skip
    refine lv_iconst (v := 0) hx hb dL_law_1188 (by decide) ?_
    refine lv_aload_n hx hb dL_law_1189 rfl (lv_at hl 4 rfl) ?_
    refine lv_iload hx hb dL_law_1190 (lv_at hl 0 rfl) ?_
    refine lv_iconst (v := 5) hx hb dL_law_1192 (by decide) ?_
    refine lv_iadd hx hb dL_law_1193 ?_
    refine va_sld hx hb hX hbl hbA hS (lx_in hz ht hL (k := 5) (by omega) rfl) dL_law_1194 ?_
    refine lv_aload_n hx hb dL_law_1195 rfl (lv_at hl 1 rfl) ?_
    refine wl_iS (As := [.ref (r 0), .int (xs (z + 1).toNatClampNeg), .int (xs (z + 2).toNatClampNeg), .int (xs (z + 3).toNatClampNeg), .int 0, .int (xs (z + 5).toNatClampNeg), .ref (r 171)]) (rest := []) ⟨hx, hb, hml, hown, hts⟩ (c_L_judge l hlT D c g hr S (xs (z + 1).toNatClampNeg) (xs (z + 2).toNatClampNeg) (xs (z + 3).toNatClampNeg) 0 (xs (z + 5).toNatClampNeg) hRA.inv.1) (vx_cwSW 7 hts gL_law_L_judge rfl rfl rfl (by decide +kernel) ⟨Nat.le_of_ble_eq_true rfl, Nat.le_of_ble_eq_true rfl⟩) hK hP hS hA (fun U hU hW => hEW.to hS hA hU hW) rfl hl.1 rfl (lv_room (Nat.le_of_ble_eq_true rfl)) dL_law_1196 ⟨lx_c hcs.1 (by decide), lx_s hcs.2 (by decide)⟩ (fun H locs hP hS => ?_)
    obtain ⟨S1, eS1⟩ : ∃ Sx : qw_St, Sx = (g_X6_judge S (xs (z + 1).toNatClampNeg) (xs (z + 2).toNatClampNeg) (xs (z + 3).toNatClampNeg) 0 (xs (z + 5).toNatClampNeg)) := ⟨_, rfl⟩
    rw [← eS1] at hP
    have hM1 : RA S S1 := hRA.mid (fun k j hk => by rw [eS1]; exact fC_judge S (xs (z + 1).toNatClampNeg) (xs (z + 2).toNatClampNeg) (xs (z + 3).toNatClampNeg) 0 (xs (z + 5).toNatClampNeg) j hk)
    have hop := op_judge hM1 (xs (z + 1).toNatClampNeg) (xs (z + 2).toNatClampNeg) (xs (z + 3).toNatClampNeg) 0 (xs (z + 5).toNatClampNeg)
    rw [← eS1] at hop
    refine lv_topi (fun k5 ek5 => ?_)
    refine lv_istore (lv' := [(5, .int k5), (4, .int z), (3, .ref (r 171)), (2, .ref (r 143)), (1, .ref (r 0)), (0, .ref b0)]) hx hb dL_law_1199 hl (by decide) rfl (fun ls hl => ?_)
    refine lv_aload_n hx hb dL_law_1201 rfl (lv_at hl 3 rfl) ?_
    refine lv_aload_n hx hb dL_law_1202 rfl (lv_at hl 5 rfl) ?_
    refine lv_iload hx hb dL_law_1203 (lv_at hl 1 rfl) ?_
    refine lv_iconst (v := 1) hx hb dL_law_1205 (by decide) ?_
    refine lv_iadd hx hb dL_law_1206 ?_
    refine va_sld hx hb hX hbl hbA hS (lx_in hz ht hL (k := 1) (by omega) rfl) dL_law_1207 ?_
    refine lv_aload_n hx hb dL_law_1208 rfl (lv_at hl 5 rfl) ?_
    refine lv_iload hx hb dL_law_1209 (lv_at hl 1 rfl) ?_
    refine lv_iconst (v := 2) hx hb dL_law_1211 (by decide) ?_
    refine lv_iadd hx hb dL_law_1212 ?_
    refine va_sld hx hb hX hbl hbA hS (lx_in hz ht hL (k := 2) (by omega) rfl) dL_law_1213 ?_
    refine lv_aload_n hx hb dL_law_1214 rfl (lv_at hl 5 rfl) ?_
    refine lv_iload hx hb dL_law_1215 (lv_at hl 1 rfl) ?_
    refine lv_iconst (v := 3) hx hb dL_law_1217 (by decide) ?_
    refine lv_iadd hx hb dL_law_1218 ?_
    refine va_sld hx hb hX hbl hbA hS (lx_in hz ht hL (k := 3) (by omega) rfl) dL_law_1219 ?_
    refine lv_aload_n hx hb dL_law_1220 rfl (lv_at hl 5 rfl) ?_
    refine lv_iload hx hb dL_law_1221 (lv_at hl 1 rfl) ?_
    refine lv_iconst (v := 4) hx hb dL_law_1223 (by decide) ?_
    refine lv_iadd hx hb dL_law_1224 ?_
    refine va_sld hx hb hX hbl hbA hS (lx_in hz ht hL (k := 4) (by omega) rfl) dL_law_1225 ?_
    refine lv_if_eq (tgt := 1233) hx hb dL_law_1226 (by decide) (fun cx => ?_) (fun cx => ?_)
    rotate_left
    · exact absurd cb1181 cx
    refine lv_iconst (v := 0) hx hb dL_law_1233 (by decide) ?_
    refine lv_aload_n hx hb dL_law_1234 rfl (lv_at hl 5 rfl) ?_
    refine lv_iload hx hb dL_law_1235 (lv_at hl 1 rfl) ?_
    refine lv_iconst (v := 5) hx hb dL_law_1237 (by decide) ?_
    refine lv_iadd hx hb dL_law_1238 ?_
    refine va_sld hx hb hX hbl hbA hS (lx_in hz ht hL (k := 5) (by omega) rfl) dL_law_1239 ?_
    refine wc_iV (k := 143) (C := RX7) (As := [.int (xs (z + 1).toNatClampNeg), .int (xs (z + 2).toNatClampNeg), .int (xs (z + 3).toNatClampNeg), .int 0, .int (xs (z + 5).toNatClampNeg)]) (rest := []) ⟨hx, hb, hml, hown, hts⟩ (c_X7_judge l D c (gd g (f_X6_judge S (xs (z + 1).toNatClampNeg) (xs (z + 2).toNatClampNeg) (xs (z + 3).toNatClampNeg) 0 (xs (z + 5).toNatClampNeg))) hr S1 (xs (z + 1).toNatClampNeg) (xs (z + 2).toNatClampNeg) (xs (z + 3).toNatClampNeg) 0 (xs (z + 5).toNatClampNeg) hM1.inv.2) (cwV 5 hts gL_law_X7_judge rfl rfl rfl (by decide +kernel) ⟨Nat.le_of_ble_eq_true rfl, Nat.le_of_ble_eq_true rfl⟩) (wx_recv hK hP (by decide) qc_143 rfl) hK hP hS hA rfl hl.1 rfl (lv_room (Nat.le_of_ble_eq_true rfl)) dL_law_1240 ⟨lx_c hcs.1 (by decide), lx_s hcs.2 (by decide)⟩ (fun H locs hP hS => ?_)
    obtain ⟨S2, eS2⟩ : ∃ Sx : qw_St, Sx = (g_X7_judge S1 (xs (z + 1).toNatClampNeg) (xs (z + 2).toNatClampNeg) (xs (z + 3).toNatClampNeg) 0 (xs (z + 5).toNatClampNeg)) := ⟨_, rfl⟩
    rw [← eS2] at hP hop
    have hR2 : RA S2 S2 := hop.2.fin (fun k j hk => by rw [eS2]; exact fM_judge S1 (xs (z + 1).toNatClampNeg) (xs (z + 2).toNatClampNeg) (xs (z + 3).toNatClampNeg) 0 (xs (z + 5).toNatClampNeg) j hk)
    refine lv_topi (fun b6 eb6 => ?_)
    refine lv_istore (lv' := [(6, .int b6), (5, .int k5), (4, .int z), (3, .ref (r 171)), (2, .ref (r 143)), (1, .ref (r 0)), (0, .ref b0)]) hx hb dL_law_1243 hl (by decide) rfl (fun ls hl => ?_)
    refine lv_aload_n hx hb dL_law_1245 rfl (lv_at hl 4 rfl) ?_
    refine wc_iV (k := 143) (C := RX7) (As := []) (rest := []) ⟨hx, hb, hml, hown, hts⟩ (c_X7_thrown l D c (gd g (f_X6_judge S (xs (z + 1).toNatClampNeg) (xs (z + 2).toNatClampNeg) (xs (z + 3).toNatClampNeg) 0 (xs (z + 5).toNatClampNeg))) hr S2 ) (cwV 0 hts gL_law_X7_thrown rfl rfl rfl (by decide +kernel) ⟨Nat.le_of_ble_eq_true rfl, Nat.le_of_ble_eq_true rfl⟩) (wx_recv hK hP (by decide) qc_143 rfl) hK hP hS hA rfl hl.1 rfl (lv_room (Nat.le_of_ble_eq_true rfl)) dL_law_1246 ⟨lx_c hcs.1 (by decide), lx_s hcs.2 (by decide)⟩ (fun H locs hP hS => ?_)
    refine lv_iload hx hb dL_law_1249 (lv_at hl 1 rfl) ?_
    refine lv_icmp_eq (tgt := 1256) hx hb dL_law_1251 (by decide) (fun cx => ?_) (fun cx => ?_)
    rotate_left
    · exact absurd (hop.1.1.trans ek5.symm) cx
    refine lv_iload hx hb dL_law_1256 (lv_at hl 1 rfl) ?_
    refine lv_if_ne (tgt := 1273) hx hb dL_law_1258 (by decide) (fun cy => ?_) (fun cy => ?_)
    · skip
      refine lv_goto (tgt := 1461) hx hb dL_law_1273 (by decide) ?_
      have hl := lv_sub (l' := [(4, .int z), (3, .ref (r 171)), (2, .ref (r 143)), (1, .ref (r 0)), (0, .ref b0)]) hl [2, 3, 4, 5, 6] rfl
      refine W.widen (k := cells + 7) (n := slots + 42) (lx_w (by decide)) (lx_w (by decide)) ?_
      exact kk _ _ _ _ _ hR2 hP hS hl
    · skip
      obtain ⟨v, hF⟩ : ∃ v, f_X6_judge S (xs (z + 1).toNatClampNeg) (xs (z + 2).toNatClampNeg) (xs (z + 3).toNatClampNeg) 0 (xs (z + 5).toNatClampNeg) = .ok v := by
        cases hF : f_X6_judge S (xs (z + 1).toNatClampNeg) (xs (z + 2).toNatClampNeg) (xs (z + 3).toNatClampNeg) 0 (xs (z + 5).toNatClampNeg) with
        | ok v => exact ⟨v, rfl⟩
        | error N => exact absurd (ek5.symm.trans cy) (hop.1.2.2 N hF)
      have hvb : v = b6 := (hop.1.2.1 v hF).trans eb6.symm
      refine lv_aload_n hx hb dL_law_1261 rfl (lv_at hl 3 rfl) ?_
      refine lv_iconst (v := 0) hx hb dL_law_1262 (by decide) ?_
      refine wx_lld hx hb hK hP dL_law_1263 ?_
      refine lv_iload hx hb dL_law_1264 (lv_at hl 0 rfl) ?_
      have hg0 : gd g (f_X6_judge S (xs (z + 1).toNatClampNeg) (xs (z + 2).toNatClampNeg) (xs (z + 3).toNatClampNeg) 0 (xs (z + 5).toNatClampNeg)) 0 = b6.toInt64 := by rw [hF, ← hvb]; rfl
      refine lv_i2l (v := b6.toInt64) hx hb dL_law_1266 rfl ?_
      refine W.lcmp hx hb dL_law_1267 ?_
      refine lv_if_eq (tgt := 1273) hx hb dL_law_1268 (by decide) (fun cw => ?_) (fun cw => ?_)
      rotate_left
      · exact absurd (by rw [hg0]; exact lx_cmp _) cw
      refine lv_goto (tgt := 1461) hx hb dL_law_1273 (by decide) ?_
      have hl := lv_sub (l' := [(4, .int z), (3, .ref (r 171)), (2, .ref (r 143)), (1, .ref (r 0)), (0, .ref b0)]) hl [2, 3, 4, 5, 6] rfl
      refine W.widen (k := cells + 7) (n := slots + 42) (lx_w (by decide)) (lx_w (by decide)) ?_
      exact kk _ _ _ _ _ hR2 hP hS hl
  · skip
    refine lv_iconst (v := 1) hx hb dL_law_1184 (by decide) ?_
    refine lv_goto (tgt := 1189) hx hb dL_law_1185 (by decide) ?_
    refine lv_aload_n hx hb dL_law_1189 rfl (lv_at hl 4 rfl) ?_
    refine lv_iload hx hb dL_law_1190 (lv_at hl 0 rfl) ?_
    refine lv_iconst (v := 5) hx hb dL_law_1192 (by decide) ?_
    refine lv_iadd hx hb dL_law_1193 ?_
    refine va_sld hx hb hX hbl hbA hS (lx_in hz ht hL (k := 5) (by omega) rfl) dL_law_1194 ?_
    refine lv_aload_n hx hb dL_law_1195 rfl (lv_at hl 1 rfl) ?_
    refine wl_iS (As := [.ref (r 0), .int (xs (z + 1).toNatClampNeg), .int (xs (z + 2).toNatClampNeg), .int (xs (z + 3).toNatClampNeg), .int 1, .int (xs (z + 5).toNatClampNeg), .ref (r 171)]) (rest := []) ⟨hx, hb, hml, hown, hts⟩ (c_L_judge l hlT D c g hr S (xs (z + 1).toNatClampNeg) (xs (z + 2).toNatClampNeg) (xs (z + 3).toNatClampNeg) 1 (xs (z + 5).toNatClampNeg) hRA.inv.1) (vx_cwSW 7 hts gL_law_L_judge rfl rfl rfl (by decide +kernel) ⟨Nat.le_of_ble_eq_true rfl, Nat.le_of_ble_eq_true rfl⟩) hK hP hS hA (fun U hU hW => hEW.to hS hA hU hW) rfl hl.1 rfl (lv_room (Nat.le_of_ble_eq_true rfl)) dL_law_1196 ⟨lx_c hcs.1 (by decide), lx_s hcs.2 (by decide)⟩ (fun H locs hP hS => ?_)
    obtain ⟨S1, eS1⟩ : ∃ Sx : qw_St, Sx = (g_X6_judge S (xs (z + 1).toNatClampNeg) (xs (z + 2).toNatClampNeg) (xs (z + 3).toNatClampNeg) 1 (xs (z + 5).toNatClampNeg)) := ⟨_, rfl⟩
    rw [← eS1] at hP
    have hM1 : RA S S1 := hRA.mid (fun k j hk => by rw [eS1]; exact fC_judge S (xs (z + 1).toNatClampNeg) (xs (z + 2).toNatClampNeg) (xs (z + 3).toNatClampNeg) 1 (xs (z + 5).toNatClampNeg) j hk)
    have hop := op_judge hM1 (xs (z + 1).toNatClampNeg) (xs (z + 2).toNatClampNeg) (xs (z + 3).toNatClampNeg) 1 (xs (z + 5).toNatClampNeg)
    rw [← eS1] at hop
    refine lv_topi (fun k5 ek5 => ?_)
    refine lv_istore (lv' := [(5, .int k5), (4, .int z), (3, .ref (r 171)), (2, .ref (r 143)), (1, .ref (r 0)), (0, .ref b0)]) hx hb dL_law_1199 hl (by decide) rfl (fun ls hl => ?_)
    refine lv_aload_n hx hb dL_law_1201 rfl (lv_at hl 3 rfl) ?_
    refine lv_aload_n hx hb dL_law_1202 rfl (lv_at hl 5 rfl) ?_
    refine lv_iload hx hb dL_law_1203 (lv_at hl 1 rfl) ?_
    refine lv_iconst (v := 1) hx hb dL_law_1205 (by decide) ?_
    refine lv_iadd hx hb dL_law_1206 ?_
    refine va_sld hx hb hX hbl hbA hS (lx_in hz ht hL (k := 1) (by omega) rfl) dL_law_1207 ?_
    refine lv_aload_n hx hb dL_law_1208 rfl (lv_at hl 5 rfl) ?_
    refine lv_iload hx hb dL_law_1209 (lv_at hl 1 rfl) ?_
    refine lv_iconst (v := 2) hx hb dL_law_1211 (by decide) ?_
    refine lv_iadd hx hb dL_law_1212 ?_
    refine va_sld hx hb hX hbl hbA hS (lx_in hz ht hL (k := 2) (by omega) rfl) dL_law_1213 ?_
    refine lv_aload_n hx hb dL_law_1214 rfl (lv_at hl 5 rfl) ?_
    refine lv_iload hx hb dL_law_1215 (lv_at hl 1 rfl) ?_
    refine lv_iconst (v := 3) hx hb dL_law_1217 (by decide) ?_
    refine lv_iadd hx hb dL_law_1218 ?_
    refine va_sld hx hb hX hbl hbA hS (lx_in hz ht hL (k := 3) (by omega) rfl) dL_law_1219 ?_
    refine lv_aload_n hx hb dL_law_1220 rfl (lv_at hl 5 rfl) ?_
    refine lv_iload hx hb dL_law_1221 (lv_at hl 1 rfl) ?_
    refine lv_iconst (v := 4) hx hb dL_law_1223 (by decide) ?_
    refine lv_iadd hx hb dL_law_1224 ?_
    refine va_sld hx hb hX hbl hbA hS (lx_in hz ht hL (k := 4) (by omega) rfl) dL_law_1225 ?_
    refine lv_if_eq (tgt := 1233) hx hb dL_law_1226 (by decide) (fun cx => ?_) (fun cx => ?_)
    · exact absurd cx cb1181
    refine lv_iconst (v := 1) hx hb dL_law_1229 (by decide) ?_
    refine lv_goto (tgt := 1234) hx hb dL_law_1230 (by decide) ?_
    refine lv_aload_n hx hb dL_law_1234 rfl (lv_at hl 5 rfl) ?_
    refine lv_iload hx hb dL_law_1235 (lv_at hl 1 rfl) ?_
    refine lv_iconst (v := 5) hx hb dL_law_1237 (by decide) ?_
    refine lv_iadd hx hb dL_law_1238 ?_
    refine va_sld hx hb hX hbl hbA hS (lx_in hz ht hL (k := 5) (by omega) rfl) dL_law_1239 ?_
    refine wc_iV (k := 143) (C := RX7) (As := [.int (xs (z + 1).toNatClampNeg), .int (xs (z + 2).toNatClampNeg), .int (xs (z + 3).toNatClampNeg), .int 1, .int (xs (z + 5).toNatClampNeg)]) (rest := []) ⟨hx, hb, hml, hown, hts⟩ (c_X7_judge l D c (gd g (f_X6_judge S (xs (z + 1).toNatClampNeg) (xs (z + 2).toNatClampNeg) (xs (z + 3).toNatClampNeg) 1 (xs (z + 5).toNatClampNeg))) hr S1 (xs (z + 1).toNatClampNeg) (xs (z + 2).toNatClampNeg) (xs (z + 3).toNatClampNeg) 1 (xs (z + 5).toNatClampNeg) hM1.inv.2) (cwV 5 hts gL_law_X7_judge rfl rfl rfl (by decide +kernel) ⟨Nat.le_of_ble_eq_true rfl, Nat.le_of_ble_eq_true rfl⟩) (wx_recv hK hP (by decide) qc_143 rfl) hK hP hS hA rfl hl.1 rfl (lv_room (Nat.le_of_ble_eq_true rfl)) dL_law_1240 ⟨lx_c hcs.1 (by decide), lx_s hcs.2 (by decide)⟩ (fun H locs hP hS => ?_)
    obtain ⟨S2, eS2⟩ : ∃ Sx : qw_St, Sx = (g_X7_judge S1 (xs (z + 1).toNatClampNeg) (xs (z + 2).toNatClampNeg) (xs (z + 3).toNatClampNeg) 1 (xs (z + 5).toNatClampNeg)) := ⟨_, rfl⟩
    rw [← eS2] at hP hop
    have hR2 : RA S2 S2 := hop.2.fin (fun k j hk => by rw [eS2]; exact fM_judge S1 (xs (z + 1).toNatClampNeg) (xs (z + 2).toNatClampNeg) (xs (z + 3).toNatClampNeg) 1 (xs (z + 5).toNatClampNeg) j hk)
    refine lv_topi (fun b6 eb6 => ?_)
    refine lv_istore (lv' := [(6, .int b6), (5, .int k5), (4, .int z), (3, .ref (r 171)), (2, .ref (r 143)), (1, .ref (r 0)), (0, .ref b0)]) hx hb dL_law_1243 hl (by decide) rfl (fun ls hl => ?_)
    refine lv_aload_n hx hb dL_law_1245 rfl (lv_at hl 4 rfl) ?_
    refine wc_iV (k := 143) (C := RX7) (As := []) (rest := []) ⟨hx, hb, hml, hown, hts⟩ (c_X7_thrown l D c (gd g (f_X6_judge S (xs (z + 1).toNatClampNeg) (xs (z + 2).toNatClampNeg) (xs (z + 3).toNatClampNeg) 1 (xs (z + 5).toNatClampNeg))) hr S2 ) (cwV 0 hts gL_law_X7_thrown rfl rfl rfl (by decide +kernel) ⟨Nat.le_of_ble_eq_true rfl, Nat.le_of_ble_eq_true rfl⟩) (wx_recv hK hP (by decide) qc_143 rfl) hK hP hS hA rfl hl.1 rfl (lv_room (Nat.le_of_ble_eq_true rfl)) dL_law_1246 ⟨lx_c hcs.1 (by decide), lx_s hcs.2 (by decide)⟩ (fun H locs hP hS => ?_)
    refine lv_iload hx hb dL_law_1249 (lv_at hl 1 rfl) ?_
    refine lv_icmp_eq (tgt := 1256) hx hb dL_law_1251 (by decide) (fun cx => ?_) (fun cx => ?_)
    rotate_left
    · exact absurd (hop.1.1.trans ek5.symm) cx
    refine lv_iload hx hb dL_law_1256 (lv_at hl 1 rfl) ?_
    refine lv_if_ne (tgt := 1273) hx hb dL_law_1258 (by decide) (fun cy => ?_) (fun cy => ?_)
    · skip
      refine lv_goto (tgt := 1461) hx hb dL_law_1273 (by decide) ?_
      have hl := lv_sub (l' := [(4, .int z), (3, .ref (r 171)), (2, .ref (r 143)), (1, .ref (r 0)), (0, .ref b0)]) hl [2, 3, 4, 5, 6] rfl
      refine W.widen (k := cells + 7) (n := slots + 42) (lx_w (by decide)) (lx_w (by decide)) ?_
      exact kk _ _ _ _ _ hR2 hP hS hl
    · skip
      obtain ⟨v, hF⟩ : ∃ v, f_X6_judge S (xs (z + 1).toNatClampNeg) (xs (z + 2).toNatClampNeg) (xs (z + 3).toNatClampNeg) 1 (xs (z + 5).toNatClampNeg) = .ok v := by
        cases hF : f_X6_judge S (xs (z + 1).toNatClampNeg) (xs (z + 2).toNatClampNeg) (xs (z + 3).toNatClampNeg) 1 (xs (z + 5).toNatClampNeg) with
        | ok v => exact ⟨v, rfl⟩
        | error N => exact absurd (ek5.symm.trans cy) (hop.1.2.2 N hF)
      have hvb : v = b6 := (hop.1.2.1 v hF).trans eb6.symm
      refine lv_aload_n hx hb dL_law_1261 rfl (lv_at hl 3 rfl) ?_
      refine lv_iconst (v := 0) hx hb dL_law_1262 (by decide) ?_
      refine wx_lld hx hb hK hP dL_law_1263 ?_
      refine lv_iload hx hb dL_law_1264 (lv_at hl 0 rfl) ?_
      have hg0 : gd g (f_X6_judge S (xs (z + 1).toNatClampNeg) (xs (z + 2).toNatClampNeg) (xs (z + 3).toNatClampNeg) 1 (xs (z + 5).toNatClampNeg)) 0 = b6.toInt64 := by rw [hF, ← hvb]; rfl
      refine lv_i2l (v := b6.toInt64) hx hb dL_law_1266 rfl ?_
      refine W.lcmp hx hb dL_law_1267 ?_
      refine lv_if_eq (tgt := 1273) hx hb dL_law_1268 (by decide) (fun cw => ?_) (fun cw => ?_)
      rotate_left
      · exact absurd (by rw [hg0]; exact lx_cmp _) cw
      refine lv_goto (tgt := 1461) hx hb dL_law_1273 (by decide) ?_
      have hl := lv_sub (l' := [(4, .int z), (3, .ref (r 171)), (2, .ref (r 143)), (1, .ref (r 0)), (0, .ref b0)]) hl [2, 3, 4, 5, 6] rfl
      refine W.widen (k := cells + 7) (n := slots + 42) (lx_w (by decide)) (lx_w (by decide)) ?_
      exact kk _ _ _ _ _ hR2 hP hS hl
set_option maxHeartbeats 4000000 in
set_option maxRecDepth 100000 in
theorem lw_c18 (C : LCx p l s m c0 D r c b b0 L xs) (ht : 7 * t + 7 ≤ L) (hz : z = nI (7 * t)) (hRA : RA S S) (hP : qw_P D r c g S H) (hS : va_S (px_A b) s.heap H locs) (hl : lv_has ls 7 [(4, .int z), (3, .ref (r 171)), (2, .ref (r 143)), (1, .ref (r 0)), (0, .ref b0)]) (hcs : cells + 7 ≤ 601024 ∧ slots + 42 ≤ 7293034)
    (kk : ∀ (S' : qw_St) (g' : Nat → Int64) (H : Heap) (locs : List Loc) (ls : Array Slot), RA S' S' → qw_P D r c g' S' H → va_S (px_A b) s.heap H locs → lv_has ls 7 [(4, .int z), (3, .ref (r 171)), (2, .ref (r 143)), (1, .ref (r 0)), (0, .ref b0)] → W p l e room_1 s m #[Value.ref b0] below meth c0 H locs (cells + 7) (slots + 42) Q (F0 m 1461 ls [])) : W p l e room_1 s m #[Value.ref b0] below meth c0 H locs cells slots Q (F0 m 1276 ls []) := by
  obtain ⟨hlT, hx, hb, hml, hown, hts, hr, hK, hX, hbl, hbA, hA, hEW, hL⟩ := C
  refine lv_aload_n hx hb dL_law_1276 rfl (lv_at hl 3 rfl) ?_
  refine lv_aload_n hx hb dL_law_1277 rfl (lv_at hl 4 rfl) ?_
  refine lv_iload hx hb dL_law_1278 (lv_at hl 0 rfl) ?_
  refine lv_iconst (v := 1) hx hb dL_law_1280 (by decide) ?_
  refine lv_iadd hx hb dL_law_1281 ?_
  refine va_sld hx hb hX hbl hbA hS (lx_in hz ht hL (k := 1) (by omega) rfl) dL_law_1282 ?_
  refine lv_aload_n hx hb dL_law_1283 rfl (lv_at hl 4 rfl) ?_
  refine lv_iload hx hb dL_law_1284 (lv_at hl 0 rfl) ?_
  refine lv_iconst (v := 2) hx hb dL_law_1286 (by decide) ?_
  refine lv_iadd hx hb dL_law_1287 ?_
  refine va_sld hx hb hX hbl hbA hS (lx_in hz ht hL (k := 2) (by omega) rfl) dL_law_1288 ?_
  refine lv_aload_n hx hb dL_law_1289 rfl (lv_at hl 4 rfl) ?_
  refine lv_iload hx hb dL_law_1290 (lv_at hl 0 rfl) ?_
  refine lv_iconst (v := 3) hx hb dL_law_1292 (by decide) ?_
  refine lv_iadd hx hb dL_law_1293 ?_
  refine va_sld hx hb hX hbl hbA hS (lx_in hz ht hL (k := 3) (by omega) rfl) dL_law_1294 ?_
  refine lv_aload_n hx hb dL_law_1295 rfl (lv_at hl 1 rfl) ?_
  refine wl_iS (As := [.ref (r 0), .int (xs (z + 1).toNatClampNeg), .int (xs (z + 2).toNatClampNeg), .int (xs (z + 3).toNatClampNeg), .ref (r 171)]) (rest := []) ⟨hx, hb, hml, hown, hts⟩ (c_L_look l hlT D c g hr S (xs (z + 1).toNatClampNeg) (xs (z + 2).toNatClampNeg) (xs (z + 3).toNatClampNeg) hRA.inv.1) (vx_cwSW 5 hts gL_law_L_look rfl rfl rfl (by decide +kernel) ⟨Nat.le_of_ble_eq_true rfl, Nat.le_of_ble_eq_true rfl⟩) hK hP hS hA (fun U hU hW => hEW.to hS hA hU hW) rfl hl.1 rfl (lv_room (Nat.le_of_ble_eq_true rfl)) dL_law_1296 ⟨lx_c hcs.1 (by decide), lx_s hcs.2 (by decide)⟩ (fun H locs hP hS => ?_)
  obtain ⟨S1, eS1⟩ : ∃ Sx : qw_St, Sx = (g_X6_look S (xs (z + 1).toNatClampNeg) (xs (z + 2).toNatClampNeg) (xs (z + 3).toNatClampNeg)) := ⟨_, rfl⟩
  rw [← eS1] at hP
  have hM1 : RA S S1 := hRA.mid (fun k j hk => by rw [eS1]; exact fC_look S (xs (z + 1).toNatClampNeg) (xs (z + 2).toNatClampNeg) (xs (z + 3).toNatClampNeg) j hk)
  have hop := op_look hM1 (xs (z + 1).toNatClampNeg) (xs (z + 2).toNatClampNeg) (xs (z + 3).toNatClampNeg)
  rw [← eS1] at hop
  refine lv_topi (fun k5 ek5 => ?_)
  refine lv_istore (lv' := [(5, .int k5), (4, .int z), (3, .ref (r 171)), (2, .ref (r 143)), (1, .ref (r 0)), (0, .ref b0)]) hx hb dL_law_1299 hl (by decide) rfl (fun ls hl => ?_)
  refine lv_aload_n hx hb dL_law_1301 rfl (lv_at hl 3 rfl) ?_
  refine lv_aload_n hx hb dL_law_1302 rfl (lv_at hl 5 rfl) ?_
  refine lv_iload hx hb dL_law_1303 (lv_at hl 1 rfl) ?_
  refine lv_iconst (v := 1) hx hb dL_law_1305 (by decide) ?_
  refine lv_iadd hx hb dL_law_1306 ?_
  refine va_sld hx hb hX hbl hbA hS (lx_in hz ht hL (k := 1) (by omega) rfl) dL_law_1307 ?_
  refine lv_aload_n hx hb dL_law_1308 rfl (lv_at hl 5 rfl) ?_
  refine lv_iload hx hb dL_law_1309 (lv_at hl 1 rfl) ?_
  refine lv_iconst (v := 2) hx hb dL_law_1311 (by decide) ?_
  refine lv_iadd hx hb dL_law_1312 ?_
  refine va_sld hx hb hX hbl hbA hS (lx_in hz ht hL (k := 2) (by omega) rfl) dL_law_1313 ?_
  refine lv_aload_n hx hb dL_law_1314 rfl (lv_at hl 5 rfl) ?_
  refine lv_iload hx hb dL_law_1315 (lv_at hl 1 rfl) ?_
  refine lv_iconst (v := 3) hx hb dL_law_1317 (by decide) ?_
  refine lv_iadd hx hb dL_law_1318 ?_
  refine va_sld hx hb hX hbl hbA hS (lx_in hz ht hL (k := 3) (by omega) rfl) dL_law_1319 ?_
  refine wc_iV (k := 143) (C := RX7) (As := [.int (xs (z + 1).toNatClampNeg), .int (xs (z + 2).toNatClampNeg), .int (xs (z + 3).toNatClampNeg)]) (rest := []) ⟨hx, hb, hml, hown, hts⟩ (c_X7_look l D c (gd g (f_X6_look S (xs (z + 1).toNatClampNeg) (xs (z + 2).toNatClampNeg) (xs (z + 3).toNatClampNeg))) hr S1 (xs (z + 1).toNatClampNeg) (xs (z + 2).toNatClampNeg) (xs (z + 3).toNatClampNeg) hM1.inv.2) (cwV 3 hts gL_law_X7_look rfl rfl rfl (by decide +kernel) ⟨Nat.le_of_ble_eq_true rfl, Nat.le_of_ble_eq_true rfl⟩) (wx_recv hK hP (by decide) qc_143 rfl) hK hP hS hA rfl hl.1 rfl (lv_room (Nat.le_of_ble_eq_true rfl)) dL_law_1320 ⟨lx_c hcs.1 (by decide), lx_s hcs.2 (by decide)⟩ (fun H locs hP hS => ?_)
  obtain ⟨S2, eS2⟩ : ∃ Sx : qw_St, Sx = (g_X7_look S1 (xs (z + 1).toNatClampNeg) (xs (z + 2).toNatClampNeg) (xs (z + 3).toNatClampNeg)) := ⟨_, rfl⟩
  rw [← eS2] at hP hop
  have hR2 : RA S2 S2 := hop.2.fin (fun k j hk => by rw [eS2]; exact fM_look S1 (xs (z + 1).toNatClampNeg) (xs (z + 2).toNatClampNeg) (xs (z + 3).toNatClampNeg) j hk)
  refine lv_topi (fun b6 eb6 => ?_)
  refine lv_istore (lv' := [(6, .int b6), (5, .int k5), (4, .int z), (3, .ref (r 171)), (2, .ref (r 143)), (1, .ref (r 0)), (0, .ref b0)]) hx hb dL_law_1323 hl (by decide) rfl (fun ls hl => ?_)
  refine lv_aload_n hx hb dL_law_1325 rfl (lv_at hl 4 rfl) ?_
  refine wc_iV (k := 143) (C := RX7) (As := []) (rest := []) ⟨hx, hb, hml, hown, hts⟩ (c_X7_thrown l D c (gd g (f_X6_look S (xs (z + 1).toNatClampNeg) (xs (z + 2).toNatClampNeg) (xs (z + 3).toNatClampNeg))) hr S2 ) (cwV 0 hts gL_law_X7_thrown rfl rfl rfl (by decide +kernel) ⟨Nat.le_of_ble_eq_true rfl, Nat.le_of_ble_eq_true rfl⟩) (wx_recv hK hP (by decide) qc_143 rfl) hK hP hS hA rfl hl.1 rfl (lv_room (Nat.le_of_ble_eq_true rfl)) dL_law_1326 ⟨lx_c hcs.1 (by decide), lx_s hcs.2 (by decide)⟩ (fun H locs hP hS => ?_)
  refine lv_iload hx hb dL_law_1329 (lv_at hl 1 rfl) ?_
  refine lv_icmp_eq (tgt := 1336) hx hb dL_law_1331 (by decide) (fun cx => ?_) (fun cx => ?_)
  rotate_left
  · exact absurd (hop.1.1.trans ek5.symm) cx
  refine lv_iload hx hb dL_law_1336 (lv_at hl 1 rfl) ?_
  refine lv_if_ne (tgt := 1353) hx hb dL_law_1338 (by decide) (fun cy => ?_) (fun cy => ?_)
  · skip
    refine lv_goto (tgt := 1461) hx hb dL_law_1353 (by decide) ?_
    have hl := lv_sub (l' := [(4, .int z), (3, .ref (r 171)), (2, .ref (r 143)), (1, .ref (r 0)), (0, .ref b0)]) hl [2, 3, 4, 5, 6] rfl
    refine W.widen (k := cells + 7) (n := slots + 42) (lx_w (by decide)) (lx_w (by decide)) ?_
    exact kk _ _ _ _ _ hR2 hP hS hl
  · skip
    obtain ⟨v, hF⟩ : ∃ v, f_X6_look S (xs (z + 1).toNatClampNeg) (xs (z + 2).toNatClampNeg) (xs (z + 3).toNatClampNeg) = .ok v := by
      cases hF : f_X6_look S (xs (z + 1).toNatClampNeg) (xs (z + 2).toNatClampNeg) (xs (z + 3).toNatClampNeg) with
      | ok v => exact ⟨v, rfl⟩
      | error N => exact absurd (ek5.symm.trans cy) (hop.1.2.2 N hF)
    have hvb : v = b6 := (hop.1.2.1 v hF).trans eb6.symm
    refine lv_aload_n hx hb dL_law_1341 rfl (lv_at hl 3 rfl) ?_
    refine lv_iconst (v := 0) hx hb dL_law_1342 (by decide) ?_
    refine wx_lld hx hb hK hP dL_law_1343 ?_
    refine lv_iload hx hb dL_law_1344 (lv_at hl 0 rfl) ?_
    have hg0 : gd g (f_X6_look S (xs (z + 1).toNatClampNeg) (xs (z + 2).toNatClampNeg) (xs (z + 3).toNatClampNeg)) 0 = b6.toInt64 := by rw [hF, ← hvb]; rfl
    refine lv_i2l (v := b6.toInt64) hx hb dL_law_1346 rfl ?_
    refine W.lcmp hx hb dL_law_1347 ?_
    refine lv_if_eq (tgt := 1353) hx hb dL_law_1348 (by decide) (fun cw => ?_) (fun cw => ?_)
    rotate_left
    · exact absurd (by rw [hg0]; exact lx_cmp _) cw
    refine lv_goto (tgt := 1461) hx hb dL_law_1353 (by decide) ?_
    have hl := lv_sub (l' := [(4, .int z), (3, .ref (r 171)), (2, .ref (r 143)), (1, .ref (r 0)), (0, .ref b0)]) hl [2, 3, 4, 5, 6] rfl
    refine W.widen (k := cells + 7) (n := slots + 42) (lx_w (by decide)) (lx_w (by decide)) ?_
    exact kk _ _ _ _ _ hR2 hP hS hl
set_option maxHeartbeats 4000000 in
set_option maxRecDepth 100000 in
theorem lw_c19 (C : LCx p l s m c0 D r c b b0 L xs) (ht : 7 * t + 7 ≤ L) (hz : z = nI (7 * t)) (hRA : RA S S) (hP : qw_P D r c g S H) (hS : va_S (px_A b) s.heap H locs) (hl : lv_has ls 7 [(4, .int z), (3, .ref (r 171)), (2, .ref (r 143)), (1, .ref (r 0)), (0, .ref b0)]) (hcs : cells + 7 ≤ 601024 ∧ slots + 42 ≤ 7293034)
    (kk : ∀ (S' : qw_St) (g' : Nat → Int64) (H : Heap) (locs : List Loc) (ls : Array Slot), RA S' S' → qw_P D r c g' S' H → va_S (px_A b) s.heap H locs → lv_has ls 7 [(4, .int z), (3, .ref (r 171)), (2, .ref (r 143)), (1, .ref (r 0)), (0, .ref b0)] → W p l e room_1 s m #[Value.ref b0] below meth c0 H locs (cells + 7) (slots + 42) Q (F0 m 1461 ls [])) : W p l e room_1 s m #[Value.ref b0] below meth c0 H locs cells slots Q (F0 m 1356 ls []) := by
  obtain ⟨hlT, hx, hb, hml, hown, hts, hr, hK, hX, hbl, hbA, hA, hEW, hL⟩ := C
  refine lv_aload_n hx hb dL_law_1356 rfl (lv_at hl 3 rfl) ?_
  refine lv_aload_n hx hb dL_law_1357 rfl (lv_at hl 4 rfl) ?_
  refine lv_iload hx hb dL_law_1358 (lv_at hl 0 rfl) ?_
  refine lv_iconst (v := 1) hx hb dL_law_1360 (by decide) ?_
  refine lv_iadd hx hb dL_law_1361 ?_
  refine va_sld hx hb hX hbl hbA hS (lx_in hz ht hL (k := 1) (by omega) rfl) dL_law_1362 ?_
  refine lv_aload_n hx hb dL_law_1363 rfl (lv_at hl 4 rfl) ?_
  refine lv_iload hx hb dL_law_1364 (lv_at hl 0 rfl) ?_
  refine lv_iconst (v := 2) hx hb dL_law_1366 (by decide) ?_
  refine lv_iadd hx hb dL_law_1367 ?_
  refine va_sld hx hb hX hbl hbA hS (lx_in hz ht hL (k := 2) (by omega) rfl) dL_law_1368 ?_
  refine lv_aload_n hx hb dL_law_1369 rfl (lv_at hl 4 rfl) ?_
  refine lv_iload hx hb dL_law_1370 (lv_at hl 0 rfl) ?_
  refine lv_iconst (v := 3) hx hb dL_law_1372 (by decide) ?_
  refine lv_iadd hx hb dL_law_1373 ?_
  refine va_sld hx hb hX hbl hbA hS (lx_in hz ht hL (k := 3) (by omega) rfl) dL_law_1374 ?_
  refine lv_aload_n hx hb dL_law_1375 rfl (lv_at hl 1 rfl) ?_
  refine wl_iS (As := [.ref (r 0), .int (xs (z + 1).toNatClampNeg), .int (xs (z + 2).toNatClampNeg), .int (xs (z + 3).toNatClampNeg), .ref (r 171)]) (rest := []) ⟨hx, hb, hml, hown, hts⟩ (c_L_buys l hlT D c g hr S (xs (z + 1).toNatClampNeg) (xs (z + 2).toNatClampNeg) (xs (z + 3).toNatClampNeg) hRA.inv.1) (vx_cwSW 5 hts gL_law_L_buys rfl rfl rfl (by decide +kernel) ⟨Nat.le_of_ble_eq_true rfl, Nat.le_of_ble_eq_true rfl⟩) hK hP hS hA (fun U hU hW => hEW.to hS hA hU hW) rfl hl.1 rfl (lv_room (Nat.le_of_ble_eq_true rfl)) dL_law_1376 ⟨lx_c hcs.1 (by decide), lx_s hcs.2 (by decide)⟩ (fun H locs hP hS => ?_)
  obtain ⟨S1, eS1⟩ : ∃ Sx : qw_St, Sx = (g_X6_buys S (xs (z + 1).toNatClampNeg) (xs (z + 2).toNatClampNeg) (xs (z + 3).toNatClampNeg)) := ⟨_, rfl⟩
  rw [← eS1] at hP
  have hM1 : RA S S1 := hRA.mid (fun k j hk => by rw [eS1]; exact fC_buys S (xs (z + 1).toNatClampNeg) (xs (z + 2).toNatClampNeg) (xs (z + 3).toNatClampNeg) j hk)
  have hop := op_buys hM1 (xs (z + 1).toNatClampNeg) (xs (z + 2).toNatClampNeg) (xs (z + 3).toNatClampNeg)
  rw [← eS1] at hop
  refine lv_topi (fun k5 ek5 => ?_)
  refine lv_istore (lv' := [(5, .int k5), (4, .int z), (3, .ref (r 171)), (2, .ref (r 143)), (1, .ref (r 0)), (0, .ref b0)]) hx hb dL_law_1379 hl (by decide) rfl (fun ls hl => ?_)
  refine lv_aload_n hx hb dL_law_1381 rfl (lv_at hl 3 rfl) ?_
  refine lv_aload_n hx hb dL_law_1382 rfl (lv_at hl 5 rfl) ?_
  refine lv_iload hx hb dL_law_1383 (lv_at hl 1 rfl) ?_
  refine lv_iconst (v := 1) hx hb dL_law_1385 (by decide) ?_
  refine lv_iadd hx hb dL_law_1386 ?_
  refine va_sld hx hb hX hbl hbA hS (lx_in hz ht hL (k := 1) (by omega) rfl) dL_law_1387 ?_
  refine lv_aload_n hx hb dL_law_1388 rfl (lv_at hl 5 rfl) ?_
  refine lv_iload hx hb dL_law_1389 (lv_at hl 1 rfl) ?_
  refine lv_iconst (v := 2) hx hb dL_law_1391 (by decide) ?_
  refine lv_iadd hx hb dL_law_1392 ?_
  refine va_sld hx hb hX hbl hbA hS (lx_in hz ht hL (k := 2) (by omega) rfl) dL_law_1393 ?_
  refine lv_aload_n hx hb dL_law_1394 rfl (lv_at hl 5 rfl) ?_
  refine lv_iload hx hb dL_law_1395 (lv_at hl 1 rfl) ?_
  refine lv_iconst (v := 3) hx hb dL_law_1397 (by decide) ?_
  refine lv_iadd hx hb dL_law_1398 ?_
  refine va_sld hx hb hX hbl hbA hS (lx_in hz ht hL (k := 3) (by omega) rfl) dL_law_1399 ?_
  refine wc_iV (k := 143) (C := RX7) (As := [.int (xs (z + 1).toNatClampNeg), .int (xs (z + 2).toNatClampNeg), .int (xs (z + 3).toNatClampNeg)]) (rest := []) ⟨hx, hb, hml, hown, hts⟩ (c_X7_buys l D c (gd g (f_X6_buys S (xs (z + 1).toNatClampNeg) (xs (z + 2).toNatClampNeg) (xs (z + 3).toNatClampNeg))) hr S1 (xs (z + 1).toNatClampNeg) (xs (z + 2).toNatClampNeg) (xs (z + 3).toNatClampNeg) hM1.inv.2) (cwV 3 hts gL_law_X7_buys rfl rfl rfl (by decide +kernel) ⟨Nat.le_of_ble_eq_true rfl, Nat.le_of_ble_eq_true rfl⟩) (wx_recv hK hP (by decide) qc_143 rfl) hK hP hS hA rfl hl.1 rfl (lv_room (Nat.le_of_ble_eq_true rfl)) dL_law_1400 ⟨lx_c hcs.1 (by decide), lx_s hcs.2 (by decide)⟩ (fun H locs hP hS => ?_)
  obtain ⟨S2, eS2⟩ : ∃ Sx : qw_St, Sx = (g_X7_buys S1 (xs (z + 1).toNatClampNeg) (xs (z + 2).toNatClampNeg) (xs (z + 3).toNatClampNeg)) := ⟨_, rfl⟩
  rw [← eS2] at hP hop
  have hR2 : RA S2 S2 := hop.2.fin (fun k j hk => by rw [eS2]; exact fM_buys S1 (xs (z + 1).toNatClampNeg) (xs (z + 2).toNatClampNeg) (xs (z + 3).toNatClampNeg) j hk)
  refine lv_topi (fun b6 eb6 => ?_)
  refine lv_istore (lv' := [(6, .int b6), (5, .int k5), (4, .int z), (3, .ref (r 171)), (2, .ref (r 143)), (1, .ref (r 0)), (0, .ref b0)]) hx hb dL_law_1403 hl (by decide) rfl (fun ls hl => ?_)
  refine lv_aload_n hx hb dL_law_1405 rfl (lv_at hl 4 rfl) ?_
  refine wc_iV (k := 143) (C := RX7) (As := []) (rest := []) ⟨hx, hb, hml, hown, hts⟩ (c_X7_thrown l D c (gd g (f_X6_buys S (xs (z + 1).toNatClampNeg) (xs (z + 2).toNatClampNeg) (xs (z + 3).toNatClampNeg))) hr S2 ) (cwV 0 hts gL_law_X7_thrown rfl rfl rfl (by decide +kernel) ⟨Nat.le_of_ble_eq_true rfl, Nat.le_of_ble_eq_true rfl⟩) (wx_recv hK hP (by decide) qc_143 rfl) hK hP hS hA rfl hl.1 rfl (lv_room (Nat.le_of_ble_eq_true rfl)) dL_law_1406 ⟨lx_c hcs.1 (by decide), lx_s hcs.2 (by decide)⟩ (fun H locs hP hS => ?_)
  refine lv_iload hx hb dL_law_1409 (lv_at hl 1 rfl) ?_
  refine lv_icmp_eq (tgt := 1416) hx hb dL_law_1411 (by decide) (fun cx => ?_) (fun cx => ?_)
  rotate_left
  · exact absurd (hop.1.1.trans ek5.symm) cx
  refine lv_iload hx hb dL_law_1416 (lv_at hl 1 rfl) ?_
  refine lv_if_ne (tgt := 1433) hx hb dL_law_1418 (by decide) (fun cy => ?_) (fun cy => ?_)
  · skip
    refine lv_goto (tgt := 1461) hx hb dL_law_1433 (by decide) ?_
    have hl := lv_sub (l' := [(4, .int z), (3, .ref (r 171)), (2, .ref (r 143)), (1, .ref (r 0)), (0, .ref b0)]) hl [2, 3, 4, 5, 6] rfl
    refine W.widen (k := cells + 7) (n := slots + 42) (lx_w (by decide)) (lx_w (by decide)) ?_
    exact kk _ _ _ _ _ hR2 hP hS hl
  · skip
    obtain ⟨v, hF⟩ : ∃ v, f_X6_buys S (xs (z + 1).toNatClampNeg) (xs (z + 2).toNatClampNeg) (xs (z + 3).toNatClampNeg) = .ok v := by
      cases hF : f_X6_buys S (xs (z + 1).toNatClampNeg) (xs (z + 2).toNatClampNeg) (xs (z + 3).toNatClampNeg) with
      | ok v => exact ⟨v, rfl⟩
      | error N => exact absurd (ek5.symm.trans cy) (hop.1.2.2 N hF)
    have hvb : v = b6 := (hop.1.2.1 v hF).trans eb6.symm
    refine lv_aload_n hx hb dL_law_1421 rfl (lv_at hl 3 rfl) ?_
    refine lv_iconst (v := 0) hx hb dL_law_1422 (by decide) ?_
    refine wx_lld hx hb hK hP dL_law_1423 ?_
    refine lv_iload hx hb dL_law_1424 (lv_at hl 0 rfl) ?_
    have hg0 : gd g (f_X6_buys S (xs (z + 1).toNatClampNeg) (xs (z + 2).toNatClampNeg) (xs (z + 3).toNatClampNeg)) 0 = b6.toInt64 := by rw [hF, ← hvb]; rfl
    refine lv_i2l (v := b6.toInt64) hx hb dL_law_1426 rfl ?_
    refine W.lcmp hx hb dL_law_1427 ?_
    refine lv_if_eq (tgt := 1433) hx hb dL_law_1428 (by decide) (fun cw => ?_) (fun cw => ?_)
    rotate_left
    · exact absurd (by rw [hg0]; exact lx_cmp _) cw
    refine lv_goto (tgt := 1461) hx hb dL_law_1433 (by decide) ?_
    have hl := lv_sub (l' := [(4, .int z), (3, .ref (r 171)), (2, .ref (r 143)), (1, .ref (r 0)), (0, .ref b0)]) hl [2, 3, 4, 5, 6] rfl
    refine W.widen (k := cells + 7) (n := slots + 42) (lx_w (by decide)) (lx_w (by decide)) ?_
    exact kk _ _ _ _ _ hR2 hP hS hl
set_option maxHeartbeats 4000000 in
set_option maxRecDepth 100000 in
theorem lw_c20 (C : LCx p l s m c0 D r c b b0 L xs) (ht : 7 * t + 7 ≤ L) (hz : z = nI (7 * t)) (hRA : RA S S) (hP : qw_P D r c g S H) (hS : va_S (px_A b) s.heap H locs) (hl : lv_has ls 7 [(4, .int z), (3, .ref (r 171)), (2, .ref (r 143)), (1, .ref (r 0)), (0, .ref b0)]) (hcs : cells + 7 ≤ 601024 ∧ slots + 42 ≤ 7293034)
    (kk : ∀ (S' : qw_St) (g' : Nat → Int64) (H : Heap) (locs : List Loc) (ls : Array Slot), RA S' S' → qw_P D r c g' S' H → va_S (px_A b) s.heap H locs → lv_has ls 7 [(4, .int z), (3, .ref (r 171)), (2, .ref (r 143)), (1, .ref (r 0)), (0, .ref b0)] → W p l e room_1 s m #[Value.ref b0] below meth c0 H locs (cells + 7) (slots + 42) Q (F0 m 1461 ls [])) : W p l e room_1 s m #[Value.ref b0] below meth c0 H locs cells slots Q (F0 m 1436 ls []) := by
  obtain ⟨hlT, hx, hb, hml, hown, hts, hr, hK, hX, hbl, hbA, hA, hEW, hL⟩ := C
  refine lv_aload_n hx hb dL_law_1436 rfl (lv_at hl 3 rfl) ?_
  refine lv_aload_n hx hb dL_law_1437 rfl (lv_at hl 4 rfl) ?_
  refine lv_iload hx hb dL_law_1438 (lv_at hl 0 rfl) ?_
  refine lv_iconst (v := 1) hx hb dL_law_1440 (by decide) ?_
  refine lv_iadd hx hb dL_law_1441 ?_
  refine va_sld hx hb hX hbl hbA hS (lx_in hz ht hL (k := 1) (by omega) rfl) dL_law_1442 ?_
  refine wc_iV (k := 0) (C := RX6) (As := [.int (xs (z + 1).toNatClampNeg)]) (rest := []) ⟨hx, hb, hml, hown, hts⟩ (c_X6_count l D c g hr S (xs (z + 1).toNatClampNeg) hRA.inv.1) (cwV 1 hts gL_law_X6_count rfl rfl rfl (by decide +kernel) ⟨Nat.le_of_ble_eq_true rfl, Nat.le_of_ble_eq_true rfl⟩) (wx_recv hK hP (by decide) qc_0 rfl) hK hP hS hA rfl hl.1 rfl (lv_room (Nat.le_of_ble_eq_true rfl)) dL_law_1443 ⟨lx_r hcs.1, lx_r2 hcs.2⟩ (fun H locs hP hS => ?_)
  obtain ⟨S1, eS1⟩ : ∃ Sx : qw_St, Sx = (g_X6_count S (xs (z + 1).toNatClampNeg)) := ⟨_, rfl⟩
  rw [← eS1] at hP
  have hM1 : RA S S1 := hRA.mid (fun k j hk => by rw [eS1]; exact fC_count S (xs (z + 1).toNatClampNeg) j hk)
  have hop := op_count hM1 (xs (z + 1).toNatClampNeg)
  rw [← eS1] at hop
  refine lv_aload_n hx hb dL_law_1446 rfl (lv_at hl 2 rfl) ?_
  refine lv_aload_n hx hb dL_law_1447 rfl (lv_at hl 4 rfl) ?_
  refine lv_iload hx hb dL_law_1448 (lv_at hl 0 rfl) ?_
  refine lv_iconst (v := 1) hx hb dL_law_1450 (by decide) ?_
  refine lv_iadd hx hb dL_law_1451 ?_
  refine va_sld hx hb hX hbl hbA hS (lx_in hz ht hL (k := 1) (by omega) rfl) dL_law_1452 ?_
  refine wc_iV (k := 143) (C := RX7) (As := [.int (xs (z + 1).toNatClampNeg)]) (rest := [.int (f_X6_count S (xs (z + 1).toNatClampNeg))]) ⟨hx, hb, hml, hown, hts⟩ (c_X7_count l D c g hr S1 (xs (z + 1).toNatClampNeg) hM1.inv.2) (cwV 1 hts gL_law_X7_count rfl rfl rfl (by decide +kernel) ⟨Nat.le_of_ble_eq_true rfl, Nat.le_of_ble_eq_true rfl⟩) (wx_recv hK hP (by decide) qc_143 rfl) hK hP hS hA rfl hl.1 rfl (lv_room (Nat.le_of_ble_eq_true rfl)) dL_law_1453 ⟨lx_r hcs.1, lx_r2 hcs.2⟩ (fun H locs hP hS => ?_)
  obtain ⟨S2, eS2⟩ : ∃ Sx : qw_St, Sx = (g_X7_count S1 (xs (z + 1).toNatClampNeg)) := ⟨_, rfl⟩
  rw [← eS2] at hP hop
  have hR2 : RA S2 S2 := hop.2.fin (fun k j hk => by rw [eS2]; exact fM_count S1 (xs (z + 1).toNatClampNeg) j hk)
  refine lv_icmp_eq (tgt := 1461) hx hb dL_law_1456 (by decide) (fun cx => ?_) (fun cx => ?_)
  rotate_left
  · exact absurd hop.1 cx
  refine W.widen (k := cells + 7) (n := slots + 42) (by omega) (by omega) ?_
  exact kk _ _ _ _ _ hR2 hP hS hl
end LWC
