/-! 06: returns, throws, calls over WR. My own. -/
section
variable {K : KT} {G : GT} {own : String} {cc : ByteArray} {nL : Nat} {ret : Option FieldType} {rm : Room} {tb : List ExceptionTableEntry} {P : Hp → Prop} {lv : List (Option Value)} {k n pc sz mc ms : Nat} {h0 : Hp} {PV : Option Value → Hp → Prop} {PX : String → Hp → Prop}
theorem R_iret (C : CX K G (AH h0 sz) own cc nL ret rm tb) {v : Int32} (d : decode cc pc = .ok (.ireturn, 1)) (hr : ret = some .int) (hk : k ≤ mc) (hn : n ≤ ms) (hp : ∀ h, P h → PV (some (.int v)) h) : WR K G (AH h0 sz) (QM K G h0 sz mc ms PV) P lv k n pc [.int v] :=
  fun h H locs ls h0 h1 h2 h3 h4 => W.widen hk hn (W.iret C.ex C.cd (C.rt.trans hr) (fun t ht hW => ⟨⟨_, h, rfl, hp h h0, by rw [ht]; exact h1, h2⟩, h3.F ht⟩) h3.2.2 d C.lk)
theorem R_zret (C : CX K G (AH h0 sz) own cc nL ret rm tb) {v : Int32} {ty : FieldType} (d : decode cc pc = .ok (.ireturn, 1)) (hr : ret = some ty) (hty : narrow ty (.int v) = .int v) (hk : k ≤ mc) (hn : n ≤ ms) (hp : ∀ h, P h → PV (some (.int v)) h) : WR K G (AH h0 sz) (QM K G h0 sz mc ms PV) P lv k n pc [.int v] :=
  fun h H locs ls h0 h1 h2 h3 h4 => W.widen hk hn (W.zret C.ex C.cd (C.rt.trans hr) hty (fun t ht hW => ⟨⟨_, h, rfl, hp h h0, by rw [ht]; exact h1, h2⟩, h3.F ht⟩) h3.2.2 d C.lk)
theorem R_vret (C : CX K G (AH h0 sz) own cc nL ret rm tb) (d : decode cc pc = .ok (.return_, 1)) (hr : ret = none) (hk : k ≤ mc) (hn : n ≤ ms) (hp : ∀ h, P h → PV none h) : WR K G (AH h0 sz) (QM K G h0 sz mc ms PV) P lv k n pc [] :=
  fun h H locs ls h0 h1 h2 h3 h4 => W.widen hk hn (W.vret C.ex C.cd (C.rt.trans hr) (fun t ht hW => ⟨⟨_, h, rfl, hp h h0, by rw [ht]; exact h1, h2⟩, h3.F ht⟩) h3.2.2 d C.lk)
theorem R_aret (C : CX K G (AH h0 sz) own cc nL ret rm tb) {v : Value} {ty : FieldType} (d : decode cc pc = .ok (.areturn, 1)) (hr : ret = some ty) (hty : (∃ n, ty = .object n) ∨ ∃ t, ty = .array t) (hv : v = .null ∨ ∃ a, v = .ref a) (hk : k ≤ mc) (hn : n ≤ ms) (hp : ∀ h, P h → PV (some v) h) : WR K G (AH h0 sz) (QM K G h0 sz mc ms PV) P lv k n pc [v] :=
  fun h H locs ls h0 h1 h2 h3 h4 => W.widen hk hn (W.aret C.ex C.cd (C.rt.trans hr) hty hv (fun t ht hW => ⟨⟨_, h, rfl, hp h h0, by rw [ht]; exact h1, h2⟩, h3.F ht⟩) h3.2.2 d C.lk)
/-- in a method that may throw, a plain return -/
theorem R_ok {A : Nat → Prop} {st : List Value} (kk : WR K G A (QM K G h0 sz mc ms PV) P lv k n pc st) : WR K G A (QE K G h0 sz mc ms PV PX) P lv k n pc st :=
  fun h H locs ls h0 h1 h2 h3 h4 => vx_ret (kk h H locs ls h0 h1 h2 h3 h4)
/-- an exception goes on to the caller -/
theorem X_out (C : CX K G (AH h0 sz) own cc nL ret rm []) {P1 : Hp → Prop} {E : String} {st : List Value} (hk : k ≤ mc) (hn : n ≤ ms) (hp : ∀ h, P1 h → PX E h) : WX K G (AH h0 sz) (QE K G h0 sz mc ms PV PX) P1 lv k n pc st E :=
  fun h H locs ls q ce h0 h1 h2 h3 h4 g1 g2 g3 => vx_out (by rw [C.tab]; exact fun x hx => by cases hx) C.lk g1 g2 g3 (fun t ht hW => ⟨⟨h, hp h h0, by rw [ht]; exact h1, h2⟩, h3.F ht⟩) h3.2.2 hk hn
end
theorem X_none {K : KT} {G : GT} {A : Nat → Prop} {Q : State → Prop} {lv : List (Option Value)} {k n pc : Nat} {st : List Value} {E : String} {P1 : Hp → Prop} (h9 : ∀ h, ¬ P1 h) : WX K G A Q P1 lv k n pc st E := fun h H locs ls q ce h0 => absurd h0 (h9 h)
section
variable {K : KT} {G : GT} {A : Nat → Prop} {own : String} {cc : ByteArray} {nL : Nat} {ret : Option FieldType} {rm : Room} {tb : List ExceptionTableEntry} {Q : State → Prop} {P : Hp → Prop} {lv : List (Option Value)} {k n pc : Nat} {st0 rest : List Value}
/-- the callee's start, from the caller's state -/
theorem pre_of (C : CX K G A own cc nL ret rm tb) {h : Hp} {H : Heap} {locs : List Loc} {vs : List Value} (h1 : Rep G.1 h H) (h2 : ∀ a, h a ≠ none → A a) (h3 : va_S A K.s.heap H locs) : ∀ U : State, U.heap = H → K.s.WarmedH U.vm → PRE G h H.size vs vs.toArray U := by
  intro U hU hW
  refine ⟨rfl, by rw [hU], by rw [hU]; exact h1, va_K.moved hW.alike C.kn, ?_⟩
  rw [hU]
  refine ST.warm hW ((C.st.kept h3.2.1).narrow (fun q hq => ?_))
  rcases hq with hq | hq
  · exact h2 q hq
  · exact C.fr q (Nat.le_trans h3.1 hq)
theorem sub_of (C : CX K G A own cc nL ret rm tb) {h : Hp} {H : Heap} {locs : List Loc} (h2 : ∀ a, h a ≠ none → A a) (h3 : va_S A K.s.heap H locs) : ∀ q, AH h H.size q → A q := fun q hq => hq.elim (h2 q) (fun z => C.fr q (Nat.le_trans h3.1 z))
/-- behind a call that may throw -/
theorem fin_T (C : CX K G A own cc nL ret rm tb) {h : Hp} {H : Heap} {locs : List Loc} {ls : Array Slot} {mc ms : Nat} {PV : Option Value → Hp → Prop} {PX : String → Hp → Prop} {a9 : Array Value} (h2 : ∀ a, h a ≠ none → A a) (h3 : va_S A K.s.heap H locs) (h4 : LV ls lv)
    (run : vx_Run K.p K.l K.e K.R K.s K.m K.args K.below K.meth K.c H locs k n mc ms (F0 K.m pc ls st0) rest (QV G h H.size PV a9) (XV G h H.size PX) (AH h H.size))
    (kx : ∀ E, WX K G A Q (PX E) lv (k + mc) (n + ms) pc rest E) (kk : ∀ v, WR K G A Q (PV v) lv (k + mc) (n + ms) (pc + 3) (v.toList ++ rest)) : W K.p K.l K.e K.R K.s K.m K.args K.below K.meth K.c H locs k n Q (F0 K.m pc ls st0) := by
  have hf := sub_of C h2 h3
  intro T hT X
  rcases run T hT X with ⟨v, st₀, t, T', L, e0, X', hL, e1, e2, ⟨⟨v', hh, hv, hp, hrep, hdom⟩, hF⟩, st⟩ | ⟨q, st₀, t, T', L, E, ce, e0, X', hL, e1, e2, ⟨⟨hh, hp, hrep, hdom⟩, hF⟩, hce, hcv, hcl, st⟩
  · cases hv
    obtain ⟨k1, k2, k3⟩ := vx_keep e0 e1 h3 (fun q _ hq => hf q hq) hf hL hF
    obtain ⟨t2, a1, b1⟩ := kk v hh T'.heap (locs ++ L) ls hp (by rw [e1]; exact hrep) (fun a ha => hf a (hdom a ha)) k3 h4 T' rfl X'
    exact ⟨t2, st t2 a1, b1⟩
  · obtain ⟨k1, k2, k3⟩ := vx_keep e0 e1 h3 (fun q _ hq => hf q hq) hf hL hF
    obtain ⟨t2, a1, b1⟩ := kx E hh T'.heap (locs ++ L) ls q ce hp (by rw [e1]; exact hrep) (fun a ha => hf a (hdom a ha)) k3 h4 (by rw [e1]; exact hce) hcv hcl T' rfl X'
    exact ⟨t2, st.trans a1, b1⟩
/-- behind a call that returns -/
theorem fin_N (C : CX K G A own cc nL ret rm tb) {h : Hp} {H : Heap} {locs : List Loc} {ls : Array Slot} {mc ms : Nat} {PV : Option Value → Hp → Prop} {a9 : Array Value} (h2 : ∀ a, h a ≠ none → A a) (h3 : va_S A K.s.heap H locs) (h4 : LV ls lv)
    (run : va_Run K.p K.l K.e K.R K.s K.m K.args K.below K.meth K.c H locs k n mc ms (F0 K.m pc ls st0) rest (QV G h H.size PV a9) (AH h H.size))
    (kk : ∀ v, WR K G A Q (PV v) lv (k + mc) (n + ms) (pc + 3) (v.toList ++ rest)) : W K.p K.l K.e K.R K.s K.m K.args K.below K.meth K.c H locs k n Q (F0 K.m pc ls st0) := by
  have hf := sub_of C h2 h3
  intro T hT X
  obtain ⟨v, st₀, t, T', L, e0, X', hL, e1, e2, ⟨⟨v', hh, hv, hp, hrep, hdom⟩, hF⟩, st⟩ := run T hT X
  cases hv
  obtain ⟨k1, k2, k3⟩ := vx_keep e0 e1 h3 (fun q _ hq => hf q hq) hf hL hF
  obtain ⟨t2, a1, b1⟩ := kk v hh T'.heap (locs ++ L) ls hp (by rw [e1]; exact hrep) (fun a ha => hf a (hdom a ha)) k3 h4 T' rfl X'
  exact ⟨t2, st t2 a1, b1⟩
/-- what a caller must have for a callee of depth dp -/
abbrev fitD (rm : Room) (k n dp mc ms mL : Nat) (rest : List Value) : Prop := (6 + dp + 1 ≤ rm.frames ∧ 8 + (mL + 11) + (120 + 40 * dp) ≤ rm.locals) ∧ (k + mc ≤ rm.cells ∧ n + ms ≤ rm.slots) ∧ (rest.map fun v => v.category).sum ≤ 8
abbrev sigD (y : MethodName) (j : Nat) : Prop := y.cls ≠ "java/lang/invoke/MethodHandle" ∧ y.cls ≠ "java/lang/invoke/VarHandle" ∧ (parseMethodDescriptor y.desc).map (fun d => d.parameters.length) = some j
/-- the receiver is an object of class ci -/
def isOb (P : Hp → Prop) (a : Nat) (cls : String) : Prop := ∀ h, P h → ∃ (ci : Nat) (fs : List Value) (T : u_T) (N : Nat), h a = some (ob ci fs) ∧ vwCl[ci]? = some (cls, T, N)
theorem isOb.recv (C : CX K G A own cc nL ret rm tb) {a : Nat} {cls : String} (hr : isOb P a cls) {h : Hp} {H : Heap} (h0 : P h) (h1 : Rep G.1 h H) : ∃ cellB : Cell, H[a]? = some cellB ∧ cellB.vm.isStatics = false ∧ K.s.vm.findClass cls = some cellB.cls := by
  obtain ⟨ci, fs, T, N, e1, e2⟩ := hr h h0
  exact va_recv C.kn (h1.one e1) (q0 := 0) e2 rfl
/-- a call by invokevirtual of a method that may throw -/
theorem R_callVT (C : CX K G A own cc nL ret rm tb) {y : MethodName} {cc' : ByteArray} {mL' : Nat} {ret' : Option FieldType} {dp mc ms a idx : Nat} {vs : List Value} {PV : Hp → Option Value → Hp → Prop} {PX : Hp → String → Hp → Prop} (d : decode cc pc = .ok (.invokevirtual idx, 3))
    (hM : ∀ h, P h → CT K.l y cc' mL' ret' dp mc ms (.ref a :: vs) G h (PV h) (PX h)) (hrecv : isOb P a y.cls)
    (hw : Cond.methodLink own idx y ∈ BIG ∧ Cond.instanceMethod y ∈ BIG ∧ Cond.selects y.cls y y ∈ BIG ∧ Cond.initialized y.cls ∈ BIG ∧ Cond.code y cc' mL' ret' ∈ BIG) (hd : sigD y vs.length) (hR : fitD rm k n dp mc ms mL' rest) (hlen : lv.length = nL) (hst : st0 = vs.reverse ++ .ref a :: rest)
    (kx : ∀ h, P h → ∀ E, WX K G A Q (PX h E) lv (k + mc) (n + ms) pc rest E) (kk : ∀ h, P h → ∀ v, WR K G A Q (PV h v) lv (k + mc) (n + ms) (pc + 3) (v.toList ++ rest)) : WR K G A Q P lv k n pc st0 := by
  intro h H locs ls h0 h1 h2 h3 h4
  have hR' := C.rom
  have cb : CallB K.R K.s K.args own idx y cc' mL' ret' (.code y cc' mL' ret' :: BIG) (rmD dp mc ms) mc ms vs.length := callB_of vs.length C.ts (wsGood hw.2.2.2.2) rfl rfl rfl (C.ts _ hw.2.2.2.1) (C.ts _ hw.1) hd (by rw [hR']; exact hR.1)
  exact fin_T C h2 h3 h4 (vx_runV (C := y.cls) (As := vs) (rest := rest) ⟨C.ex, C.cd, C.mxl, C.ow, C.ts⟩ (hM h h0 H.size) ⟨cb, C.ts _ hw.2.1, C.ts _ hw.2.2.1⟩ ⟨PRE.blind, hrecv.recv C h0 h1, pre_of C h1 h2 h3⟩ rfl rfl (h4.1.trans hlen) hst (lv_room hR.2.2) d (by rw [hR']; exact hR.2.1)) (kx h h0) (kk h h0)
theorem R_callVN (C : CX K G A own cc nL ret rm tb) {y : MethodName} {cc' : ByteArray} {mL' : Nat} {ret' : Option FieldType} {dp mc ms a idx : Nat} {vs : List Value} {PV : Hp → Option Value → Hp → Prop} (d : decode cc pc = .ok (.invokevirtual idx, 3))
    (hM : ∀ h, P h → CN K.l y cc' mL' ret' dp mc ms (.ref a :: vs) G h (PV h)) (hrecv : isOb P a y.cls)
    (hw : Cond.methodLink own idx y ∈ BIG ∧ Cond.instanceMethod y ∈ BIG ∧ Cond.selects y.cls y y ∈ BIG ∧ Cond.initialized y.cls ∈ BIG ∧ Cond.code y cc' mL' ret' ∈ BIG) (hd : sigD y vs.length) (hR : fitD rm k n dp mc ms mL' rest) (hlen : lv.length = nL) (hst : st0 = vs.reverse ++ .ref a :: rest)
    (kk : ∀ h, P h → ∀ v, WR K G A Q (PV h v) lv (k + mc) (n + ms) (pc + 3) (v.toList ++ rest)) : WR K G A Q P lv k n pc st0 := by
  intro h H locs ls h0 h1 h2 h3 h4
  have hR' := C.rom
  have cb : CallB K.R K.s K.args own idx y cc' mL' ret' (.code y cc' mL' ret' :: BIG) (rmD dp mc ms) mc ms vs.length := callB_of vs.length C.ts (wsGood hw.2.2.2.2) rfl rfl rfl (C.ts _ hw.2.2.2.1) (C.ts _ hw.1) hd (by rw [hR']; exact hR.1)
  exact fin_N C h2 h3 h4 (va_runV (C := y.cls) (As := vs) (rest := rest) ⟨C.ex, C.cd, C.mxl, C.ow, C.ts⟩ (hM h h0 H.size) ⟨cb, C.ts _ hw.2.1, C.ts _ hw.2.2.1⟩ ⟨PRE.blind, hrecv.recv C h0 h1, pre_of C h1 h2 h3⟩ rfl rfl (h4.1.trans hlen) hst (lv_room hR.2.2) d (by rw [hR']; exact hR.2.1)) (kk h h0)
/-- .. on a receiver whose cell is known otherwise -/
theorem R_callVK (C : CX K G A own cc nL ret rm tb) {y : MethodName} {cc' : ByteArray} {mL' : Nat} {ret' : Option FieldType} {dp mc ms a idx : Nat} {vs : List Value} {PV : Hp → Option Value → Hp → Prop} (d : decode cc pc = .ok (.invokevirtual idx, 3))
    (hM : ∀ h, P h → CN K.l y cc' mL' ret' dp mc ms (.ref a :: vs) G h (PV h)) (hrecv : ∀ H locs, va_S A K.s.heap H locs → ∃ cellB : Cell, H[a]? = some cellB ∧ cellB.vm.isStatics = false ∧ K.s.vm.findClass y.cls = some cellB.cls)
    (hw : Cond.methodLink own idx y ∈ BIG ∧ Cond.instanceMethod y ∈ BIG ∧ Cond.selects y.cls y y ∈ BIG ∧ Cond.initialized y.cls ∈ BIG ∧ Cond.code y cc' mL' ret' ∈ BIG) (hd : sigD y vs.length) (hR : fitD rm k n dp mc ms mL' rest) (hlen : lv.length = nL) (hst : st0 = vs.reverse ++ .ref a :: rest)
    (kk : ∀ h, P h → ∀ v, WR K G A Q (PV h v) lv (k + mc) (n + ms) (pc + 3) (v.toList ++ rest)) : WR K G A Q P lv k n pc st0 := by
  intro h H locs ls h0 h1 h2 h3 h4
  have hR' := C.rom
  have cb : CallB K.R K.s K.args own idx y cc' mL' ret' (.code y cc' mL' ret' :: BIG) (rmD dp mc ms) mc ms vs.length := callB_of vs.length C.ts (wsGood hw.2.2.2.2) rfl rfl rfl (C.ts _ hw.2.2.2.1) (C.ts _ hw.1) hd (by rw [hR']; exact hR.1)
  exact fin_N C h2 h3 h4 (va_runV (C := y.cls) (As := vs) (rest := rest) ⟨C.ex, C.cd, C.mxl, C.ow, C.ts⟩ (hM h h0 H.size) ⟨cb, C.ts _ hw.2.1, C.ts _ hw.2.2.1⟩ ⟨PRE.blind, hrecv H locs h3, pre_of C h1 h2 h3⟩ rfl rfl (h4.1.trans hlen) hst (lv_room hR.2.2) d (by rw [hR']; exact hR.2.1)) (kk h h0)
/-- a static call -/
theorem R_callST (C : CX K G A own cc nL ret rm tb) {y : MethodName} {cc' : ByteArray} {mL' : Nat} {ret' : Option FieldType} {dp mc ms idx : Nat} {vs : List Value} {PV : Hp → Option Value → Hp → Prop} {PX : Hp → String → Hp → Prop} (d : decode cc pc = .ok (.invokestatic idx, 3))
    (hM : ∀ h, P h → CT K.l y cc' mL' ret' dp mc ms vs G h (PV h) (PX h))
    (hw : Cond.methodLink own idx y ∈ BIG ∧ Cond.static y ∈ BIG ∧ Cond.initialized y.cls ∈ BIG ∧ Cond.code y cc' mL' ret' ∈ BIG) (hd : sigD y vs.length) (hR : fitD rm k n dp mc ms mL' rest) (hlen : lv.length = nL) (hst : st0 = vs.reverse ++ rest)
    (kx : ∀ h, P h → ∀ E, WX K G A Q (PX h E) lv (k + mc) (n + ms) pc rest E) (kk : ∀ h, P h → ∀ v, WR K G A Q (PV h v) lv (k + mc) (n + ms) (pc + 3) (v.toList ++ rest)) : WR K G A Q P lv k n pc st0 := by
  intro h H locs ls h0 h1 h2 h3 h4
  have hR' := C.rom
  have cb : CallB K.R K.s K.args own idx y cc' mL' ret' (.code y cc' mL' ret' :: BIG) (rmD dp mc ms) mc ms vs.length := callB_of vs.length C.ts (wsGood hw.2.2.2) rfl rfl rfl (C.ts _ hw.2.2.1) (C.ts _ hw.1) hd (by rw [hR']; exact hR.1)
  exact fin_T C h2 h3 h4 (vx_runS (As := vs) (rest := rest) ⟨C.ex, C.cd, C.mxl, C.ow, C.ts⟩ (hM h h0 H.size) ⟨cb, C.ts _ hw.2.1⟩ ⟨PRE.blind, pre_of C h1 h2 h3⟩ rfl rfl (h4.1.trans hlen) hst (lv_room hR.2.2) d (by rw [hR']; exact hR.2.1)) (kx h h0) (kk h h0)
theorem R_callSN (C : CX K G A own cc nL ret rm tb) {y : MethodName} {cc' : ByteArray} {mL' : Nat} {ret' : Option FieldType} {dp mc ms idx : Nat} {vs : List Value} {PV : Hp → Option Value → Hp → Prop} (d : decode cc pc = .ok (.invokestatic idx, 3))
    (hM : ∀ h, P h → CN K.l y cc' mL' ret' dp mc ms vs G h (PV h))
    (hw : Cond.methodLink own idx y ∈ BIG ∧ Cond.static y ∈ BIG ∧ Cond.initialized y.cls ∈ BIG ∧ Cond.code y cc' mL' ret' ∈ BIG) (hd : sigD y vs.length) (hR : fitD rm k n dp mc ms mL' rest) (hlen : lv.length = nL) (hst : st0 = vs.reverse ++ rest)
    (kk : ∀ h, P h → ∀ v, WR K G A Q (PV h v) lv (k + mc) (n + ms) (pc + 3) (v.toList ++ rest)) : WR K G A Q P lv k n pc st0 := by
  intro h H locs ls h0 h1 h2 h3 h4
  have hR' := C.rom
  have cb : CallB K.R K.s K.args own idx y cc' mL' ret' (.code y cc' mL' ret' :: BIG) (rmD dp mc ms) mc ms vs.length := callB_of vs.length C.ts (wsGood hw.2.2.2) rfl rfl rfl (C.ts _ hw.2.2.1) (C.ts _ hw.1) hd (by rw [hR']; exact hR.1)
  exact fin_N C h2 h3 h4 (va_runS (As := vs) (rest := rest) ⟨C.ex, C.cd, C.mxl, C.ow, C.ts⟩ (hM h h0 H.size) ⟨cb, C.ts _ hw.2.1⟩ ⟨PRE.blind, pre_of C h1 h2 h3⟩ rfl rfl (h4.1.trans hlen) hst (lv_room hR.2.2) d (by rw [hR']; exact hR.2.1)) (kk h h0)
/-- a constructor -/
theorem R_callI (C : CX K G A own cc nL ret rm tb) {y : MethodName} {cc' : ByteArray} {mL' : Nat} {dp mc ms a idx : Nat} {vs : List Value} {PV : Hp → Option Value → Hp → Prop} (d : decode cc pc = .ok (.invokespecial idx, 3))
    (hM : ∀ h, P h → CN K.l y cc' mL' none dp mc ms (.ref a :: vs) G h (PV h)) (hy : y.name = "<init>")
    (hw : Cond.methodLink own idx y ∈ BIG ∧ Cond.instanceMethod y ∈ BIG ∧ Cond.initialized y.cls ∈ BIG ∧ Cond.code y cc' mL' none ∈ BIG) (hd : sigD y vs.length) (hR : fitD rm k n dp mc ms mL' rest) (hlen : lv.length = nL) (hst : st0 = vs.reverse ++ .ref a :: rest)
    (kk : ∀ h, P h → ∀ v, WR K G A Q (PV h v) lv (k + mc) (n + ms) (pc + 3) (v.toList ++ rest)) : WR K G A Q P lv k n pc st0 := by
  intro h H locs ls h0 h1 h2 h3 h4
  have hR' := C.rom
  have cb : CallB K.R K.s K.args own idx y cc' mL' none (.code y cc' mL' none :: BIG) (rmD dp mc ms) mc ms vs.length := callB_of vs.length C.ts (wsGood hw.2.2.2) rfl rfl rfl (C.ts _ hw.2.2.1) (C.ts _ hw.1) hd (by rw [hR']; exact hR.1)
  exact fin_N C h2 h3 h4 (va_runI (As := vs) (rest := rest) ⟨C.ex, C.cd, C.mxl, C.ow, C.ts⟩ (hM h h0 H.size) ⟨cb, hy, C.ts _ hw.2.1⟩ ⟨PRE.blind, pre_of C h1 h2 h3⟩ rfl rfl (h4.1.trans hlen) hst (lv_room hR.2.2) d (by rw [hR']; exact hR.2.1)) (kk h h0)
end
/-! throws: 'throw new E("text")' in WellRights -/
def xnm : List String := ["java/lang/RuntimeException", "java/lang/Exception"]
section
variable {K : KT} {G : GT} {cc : ByteArray} {nL : Nat} {ret : Option FieldType} {rm : Room} {P : Hp → Prop} {lv : List (Option Value)} {k n pc sz mc ms : Nat} {h0 : Hp} {PV : Option Value → Hp → Prop} {PX : String → Hp → Prop} {st : List Value}
theorem R_throw (C : CX K G (AH h0 sz) RX1 cc nL ret rm []) {E tx : String} {ik is ic sa : Nat} (d0 : decode cc pc = .ok (.new ik, 3)) (d3 : decode cc (pc + 3) = .ok (.dup, 1)) (d4 : decode cc (pc + 4) = .ok (.ldc is, 2)) (d6 : decode cc (pc + 6) = .ok (.invokespecial ic, 3)) (d9 : decode cc (pc + 9) = .ok (.athrow, 1))
    (hfit : Bundle.fit E = true) (hnm : ∀ x ∈ xnm, Bundle.fit x = true) (hk : Cond.classLink RX1 ik E ∈ BIG) (hini : Cond.initialized E ∈ BIG) (hstr : vk_R RX1 is tx sa K.s) (ha1 : ∀ w ∈ (vx_atS RX1 ic E xnm).filter goodWord, w ∈ BIG) (ha2 : ∀ w ∈ (vx_atS RX1 ic E xnm).filter (fun w => !goodWord w), w ∈ [Cond.castable E E, .declares (Bundle.initS "java/lang/RuntimeException"), .declares (Bundle.initS "java/lang/Exception"), .declares (Bundle.initS Bundle.tN)]) (hca : va_Nw (.castable E E) K.s)
    (hg : (Cond.classLink RX1 ik E :: Cond.initialized E :: vx_atS RX1 ic E xnm).all vx_ot = true) (hlen : lv.length = nL) (hR : (5 < rm.frames ∧ (st.map fun v => v.category).sum + 82 ≤ rm.locals) ∧ k + 1 ≤ rm.cells ∧ n + 6 ≤ rm.slots) (hc : k + 1 ≤ mc ∧ n + 6 ≤ ms)
    (hp : ∀ h, P h → PX E h) : WR K G (AH h0 sz) (QE K G h0 sz mc ms PV PX) P lv k n pc st := by
  intro h H locs ls g0 h1 h2 h3 h4
  have hat : ∀ w ∈ vx_atS RX1 ic E xnm, w.before K.args K.s = true := vx_hat (fun w hw => C.ts _ (ha1 w hw)) ha2 (vx_c (va_Nw.use rfl hca) (vx_c (va_Nw.use rfl C.st.2.2.2.2.2.2.2.1.2.2.2.1) (vx_c (va_Nw.use rfl C.st.2.2.2.2.2.2.2.1.2.2.2.2.1) (vx_c (va_Nw.use rfl C.st.2.2.2.2.2.2.2.1.2.2.2.2.2.1) vx_n))))
  exact vx_throwS C.ex C.cd C.ntr C.ow hfit hnm (C.ts _ hk) (C.ts _ hini) hstr hat (List.all_eq_true.mp hg) C.st.2.2.2.2.1.2.1 C.st.2.2.2.2.1.2.2 h3 (by rw [h4.1, hlen, C.mxl]) d0 d3 d4 d6 d9 (by rw [C.tab]; exact fun x hx => by cases hx) (by rw [C.rom]; exact hR.1.1) (by rw [C.rom]; exact hR.1.2) (by rw [C.rom]; exact hR.2.1) (by rw [C.rom]; exact hR.2.2) C.lk
    (fun t hv hz hq => ⟨⟨h, hp h g0, fun a e he => va_at.kept (h1 a e he) (hq a (h1.lt he)), h2⟩, ⟨Nat.le_trans h3.1 hz, fun q z1 z2 => (hq q (Nat.lt_of_lt_of_le z1 h3.1)).trans (h3.2.1 q z1 z2)⟩⟩) h3.2.2 hc.1 hc.2
theorem xnm_fit : ∀ x ∈ xnm, Bundle.fit x = true := by decide +kernel
theorem R_thrIOB (C : CX K G (AH h0 sz) RX1 cc nL ret rm []) {tx : String} {is sa : Nat} (d0 : decode cc pc = .ok (.new 90, 3)) (d3 : decode cc (pc + 3) = .ok (.dup, 1)) (d4 : decode cc (pc + 4) = .ok (.ldc is, 2)) (d6 : decode cc (pc + 6) = .ok (.invokespecial 94, 3)) (d9 : decode cc (pc + 9) = .ok (.athrow, 1)) (hstr : vk_R RX1 is tx sa K.s) (hlen : lv.length = nL) (hR : (5 < rm.frames ∧ (st.map fun v => v.category).sum + 82 ≤ rm.locals) ∧ k + 1 ≤ rm.cells ∧ n + 6 ≤ rm.slots) (hc : k + 1 ≤ mc ∧ n + 6 ≤ ms)
    (hp : ∀ h, P h → PX eIOB h) : WR K G (AH h0 sz) (QE K G h0 sz mc ms PV PX) P lv k n pc st :=
  R_throw C d0 d3 d4 d6 d9 (by decide +kernel) xnm_fit kt_IOB_c kt_IOB_i hstr kx_IOB (by decide +kernel) C.st.2.2.2.2.2.2.2.1.2.1 (by decide +kernel) hlen hR hc hp
theorem R_thrIAE (C : CX K G (AH h0 sz) RX1 cc nL ret rm []) {tx : String} {is sa : Nat} (d0 : decode cc pc = .ok (.new 168, 3)) (d3 : decode cc (pc + 3) = .ok (.dup, 1)) (d4 : decode cc (pc + 4) = .ok (.ldc is, 2)) (d6 : decode cc (pc + 6) = .ok (.invokespecial 172, 3)) (d9 : decode cc (pc + 9) = .ok (.athrow, 1)) (hstr : vk_R RX1 is tx sa K.s) (hlen : lv.length = nL) (hR : (5 < rm.frames ∧ (st.map fun v => v.category).sum + 82 ≤ rm.locals) ∧ k + 1 ≤ rm.cells ∧ n + 6 ≤ rm.slots) (hc : k + 1 ≤ mc ∧ n + 6 ≤ ms)
    (hp : ∀ h, P h → PX eIAE h) : WR K G (AH h0 sz) (QE K G h0 sz mc ms PV PX) P lv k n pc st :=
  R_throw C d0 d3 d4 d6 d9 (by decide +kernel) xnm_fit kt_IAE_c kt_IAE_i hstr kx_IAE (by decide +kernel) C.st.2.2.2.2.2.2.2.1.2.2.1 (by decide +kernel) hlen hR hc hp
theorem R_thrISE (C : CX K G (AH h0 sz) RX1 cc nL ret rm []) {tx : String} {is sa : Nat} (d0 : decode cc pc = .ok (.new 45, 3)) (d3 : decode cc (pc + 3) = .ok (.dup, 1)) (d4 : decode cc (pc + 4) = .ok (.ldc is, 2)) (d6 : decode cc (pc + 6) = .ok (.invokespecial 49, 3)) (d9 : decode cc (pc + 9) = .ok (.athrow, 1)) (hstr : vk_R RX1 is tx sa K.s) (hlen : lv.length = nL) (hR : (5 < rm.frames ∧ (st.map fun v => v.category).sum + 82 ≤ rm.locals) ∧ k + 1 ≤ rm.cells ∧ n + 6 ≤ rm.slots) (hc : k + 1 ≤ mc ∧ n + 6 ≤ ms)
    (hp : ∀ h, P h → PX eISE h) : WR K G (AH h0 sz) (QE K G h0 sz mc ms PV PX) P lv k n pc st :=
  R_throw C d0 d3 d4 d6 d9 (by decide +kernel) xnm_fit kt_ISE_c kt_ISE_i hstr kx_ISE (by decide +kernel) C.st.2.2.2.2.2.2.2.1.1 (by decide +kernel) hlen hR hc hp
end
