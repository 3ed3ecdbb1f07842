/-! ===== BEGIN words of one list among another's, by their places ===== -/
theorem goodIn_r {big : List Cond} (ws : List Cond) (ps : List Nat) (hp : ws = ps.filterMap (fun i => big[i]?)) (h : ws.all goodWord = true) : GoodIn big ws := by
  intro w hw
  have h1 := List.all_eq_true.mp h w hw
  rw [hp] at hw
  obtain ⟨i, -, hi⟩ := List.mem_filterMap.mp hw
  have hm : w ∈ big := by first | exact List.mem_of_getElem? hi | exact List.getElem?_mem hi
  exact ⟨hm, good_of_word h1⟩
theorem goodIn_app {big a b : List Cond} (ha : GoodIn big a) (hb : GoodIn big b) : GoodIn big (a ++ b) := fun w h => (List.mem_append.mp h).elim (ha w) (hb w)
theorem goodIn_ca {big a b : List Cond} {c : Cond} (ha : GoodIn big (c :: a)) (hb : GoodIn big b) : GoodIn big (c :: (a ++ b)) := fun w h => (List.mem_cons.mp h).elim (fun e => ha w (List.mem_cons.mpr (Or.inl e))) (fun h => (List.mem_append.mp h).elim (fun h => ha w (List.mem_cons.mpr (Or.inr h))) (hb w))
theorem goodIn_sub {big ws : List Cond} (hm : ∀ w ∈ ws, w ∈ big) (h : ws.all goodWord = true) : GoodIn big ws := fun w hw => ⟨hm w hw, good_of_word (List.all_eq_true.mp h w hw)⟩
/-! ===== END ===== -/

/-! ===== BEGIN exceptions that leave a method, and their catching by the caller (launches without stack traces) ===== -/
section VXA
/-! The laws vx_back, vx_callV, vx_callS, vx_callSW, vx_throw0, vx_throwS follow proofs of the library, with one case more: JvmDerived/Free/Laws.lean (Back.of_free), Shelf42/LK1.lean (callV, callS), Shelf/KitTraced.lean (throwNew0V, throwNewS). -/
/-- where a method has thrown q: the class by its name, the cell, what was written, the world -/
def vx_T (XC : String → State → State → Prop) (st : State) (q : Addr) (t : State) (mc ms : Nat) (free : Addr → Prop) : Prop :=
  ∃ (E : String) (ce : Cell) (L : List Loc), XC E st t ∧ t.heap[q]? = some ce ∧ ce.vm = .none ∧ st.vm.findClass E = some ce.cls ∧ st.WarmedH t.vm ∧ st.sameButNew ({ t with vm := st.vm } : State) L mc ms ∧ ∀ z ∈ L, free z.base
def vx_Q (Qc : Array Value → State → Outcome → State → Prop) (XC : String → State → State → Prop) (mc ms : Nat) (free : Addr → Prop) : Array Value → State → Outcome → State → Prop := fun a st o t =>
  (Qc a st o t ∧ ∃ L, FrameEnd st o t L mc ms ∧ ∀ q ∈ L, free q.base) ∨ ∃ q, o = .threw q ∧ vx_T XC st q t mc ms free
/-- a callee that returns or throws -/
def vx_Met (l : Launch) (y : MethodName) (ws : List Cond) (rm : Room) (Pc : Array Value → State → Prop) (Qc : Array Value → State → Outcome → State → Prop) (XC : String → State → State → Prop) (mc ms : Nat) (free : Addr → Prop) : Prop :=
  MetFree l y (headSpec ws rm) Pc (fun _ _ _ _ _ => True) (vx_Q Qc XC mc ms free)
def vx_Post (XC : String → State → State → Prop) (mc ms : Nat) (free : Addr → Prop) : Pt → Array Value → Addr → Pt → Prop := fun A a q B =>
  ∃ (g : JFrame) (mk : MethodId) (t : State) (L : List Loc) (E : String) (ce : Cell), B.U.heap = t.heap ∧ B.U.vm = t.vm ∧ XC E (A.U.calling g mk a) t ∧ t.heap[q]? = some ce ∧ ce.vm = .none ∧ A.U.vm.findClass E = some ce.cls ∧ B.locs = A.locs ++ L ∧ (∀ z ∈ L, free z.base) ∧ B.cells = A.cells + mc ∧ B.slots = A.slots + ms
def vx_Back (l : Launch) (R : Room) (p : Program) (e : Env) (below : List Frame) (s : State) (sargs : Array Value) (y : MethodName) (len W9 : Nat)
    (Pre : Pt → Array Value → Prop) (Post : Pt → Array Value → Option Value → Pt → Prop) (PostX : Pt → Array Value → Addr → Pt → Prop) : Prop :=
  ∀ (m : MethodId) (meth : Method) (c : Code) (A : Pt) (g : JFrame) (ig : Instr) (mk : MethodId) (a : Array Value),
    Stand p l e R s m sargs below meth c A.U A.locs A.cells A.slots → g.method = m → g.locals.size = c.maxLocals → decode c.code g.pc = .ok (ig, len) →
    2 * g.monitorRoom + (g.stack.map fun v => v.category).sum ≤ W9 → A.U.methodNamed? y = some mk → Pre A a →
    (∃ (v : Option Value) (B : Pt), Stand p l e R s m sargs below meth c B.U B.locs B.cells B.slots ∧ Post A a v B ∧
      Steps p.tables e below (doInvoke e (A.U.setTop g) [] mk a).1 (B.U.setTop { g with pc := g.pc + len, stack := v.toList ++ g.stack })) ∨
    (∃ (q : Addr) (B : Pt), Stand p l e R s m sargs below meth c B.U B.locs B.cells B.slots ∧ PostX A a q B ∧
      Steps p.tables e below (doInvoke e (A.U.setTop g) [] mk a).1 ((B.U.setTop g).pushFrame (.throwing q)))
section Payer
variable {l : Launch} {R : Room} {p : Program} {e : Env} {below : List Frame} {s : State} {sargs : Array Value} {y : MethodName} {len W9 : Nat}
theorem vx_back {ws : List Cond} {rm : Room} {Pc : Array Value → State → Prop} {Qc : Array Value → State → Outcome → State → Prop} {XC : String → State → State → Prop} {mc ms : Nat} {free : Addr → Prop} {bytes : ByteArray} {maxL : Nat} {ret : Option FieldType}
    (hM : vx_Met l y ws rm Pc Qc XC mc ms free) (hblind : FrameBlind Pc) (hrc : rm.cells = mc) (hrs : rm.slots = ms)
    (hframes : rm.frames + 1 ≤ R.frames) (hlocals : W9 + (maxL + 11) + rm.locals ≤ R.locals)
    (hws : ∀ w ∈ ws, ∀ a' U, s.WarmedH U.vm → w.before a' U = true) (hcode : Cond.code y bytes maxL ret ∈ ws) (hinit : ∀ a' U, s.WarmedH U.vm → (Cond.initialized y.cls).before a' U = true) :
    vx_Back l R p e below s sargs y len W9 (PreOf R mc ms Pc) (PostOf Qc mc ms free) (vx_Post XC mc ms free) := by
  intro m meth c A g ig mk a X hg hsize hdg hW hn hp
  have h1 : (headSpec ws rm).pre.before a A.U = true := atoms_intro fun w hw => hws w hw _ _ X.warmed
  have h2 : (Cond.code y bytes maxL ret).before a A.U = true := hws _ hcode _ _ X.warmed
  have h3 : (Cond.initialized y.cls).before a A.U = true := hinit _ _ X.warmed
  have h4 : A.cells + (headSpec ws rm).room.cells ≤ R.cells := by rw [show (headSpec ws rm).room.cells = mc from hrc]; exact hp.1
  have h5 : A.slots + (headSpec ws rm).room.slots ≤ R.slots := by rw [show (headSpec ws rm).room.slots = ms from hrs]; exact hp.2.1
  have hPc : Pc a (A.U.calling g mk a) := hblind _ _ _ _ hp.2.2
  obtain ⟨U, Ls, c0, s0⟩ := A
  dsimp only [Pt.U, Pt.locs, Pt.cells, Pt.slots] at h1 h2 h3 h4 h5 X hn hPc ⊢
  obtain ⟨methY, cY, hmY, hcY, -, hlY, -, -, -, -⟩ := Cond.code_spec hn h2
  obtain ⟨kY, hkY, -⟩ := className_of_methodNamed hn
  have hinitY : kY.init = .initialized := Cond.initialized_spec (findClass_of_methodNamed hn) hkY h3
  have h : At U g.method c below := by rw [hg]; exact X.here
  have hlocals9 : W9 + (maxL + 11) + (headSpec ws rm).room.locals ≤ R.locals := hlocals
  have happ : (headSpec ws rm).appliesLoose y e.platform (U.calling g mk a) = true :=
    Spec.appliesLoose_calling (g := g) h hdg hn hkY hinitY
      (X.room_calling (g := g) (R' := (headSpec ws rm).room) hsize hmY hcY hframes (by rw [hlY]; omega) h4 h5) h1
  obtain ⟨mid, hmid⟩ := h.above
  have hfr : (U.setTop g).frames = (.java g :: mid) ++ below := by rw [State.frames_setTop' g h.top, hmid]; rfl
  obtain ⟨o, s₂, hsteps, -, hend, hq⟩ := Steps.callFree hM p X.admits X.cas X.clock (acts := []) hfr happ hPc trivial
  have hq' : vx_Q Qc XC mc ms free a (U.calling g mk a) o s₂ := hq
  rw [State.frames_setTop' g h.top] at hend
  obtain ⟨g₀, hg0⟩ := Option.isSome_iff_exists.mp h.top
  obtain ⟨r, hr⟩ := State.topJava?_eq_some.mp hg0
  have hr' : (({ U with heap := s₂.heap, slotsUsed := s₂.slotsUsed } : State).setVm s₂.vm).frames = .java g₀ :: r := hr
  rcases hq' with ⟨hqc, L, hfe, hL⟩ | ⟨q, rfl, E, ce, L, hx, hce, hcv, hcl, hW₂, hsm, hL⟩
  · obtain ⟨⟨v, rfl⟩, hW₂, e2, q2, q3, q4, q5, q6⟩ := id hfe
    have e3 : s₂ = ({ (U.calling g mk a).setFrames s₂.frames with heap := s₂.heap, slotsUsed := s₂.slotsUsed } : State).setVm s₂.vm := by
      have : s₂ = ({ s₂ with vm := (U.calling g mk a).vm } : State).setVm s₂.vm := rfl
      rw [e2] at this
      exact this
    obtain ⟨c₂, i₂, len₂, hc₂, hd₂, hf₂⟩ := hend
    have hW' : U.WarmedH s₂.vm := hW₂
    have hcc : c₂ = c := by
      have h1 : s₂.code? g.method = U.code? g.method := by
        rw [State.code?_eq, State.code?_eq, hW'.alike.method?]
      exact Option.some.inj (hc₂.symm.trans (h1.trans h.code))
    subst hcc
    have hlen : len₂ = len := by rw [hdg] at hd₂; cases hd₂; rfl
    subst hlen
    have hs₂ : s₂ = (({ U with heap := s₂.heap, slotsUsed := s₂.slotsUsed } : State).setVm s₂.vm).setTop { g with pc := g.pc + len₂, stack := v.toList ++ g.stack } := by
      refine e3.trans ?_
      rw [hf₂, State.calling_eq h.top, State.setFrames_setFrames, State.setTop_of_frames _ hr', hr]
      rfl
    have hsame : U.sameButNew ({ U with heap := s₂.heap, slotsUsed := s₂.slotsUsed } : State) L mc ms := by
      refine ⟨?_, q2, q3, q4, q5, q6⟩
      obtain ⟨t, ht, -⟩ := State.frames_cons hr
      show ({ U with heap := s₂.heap, slotsUsed := s₂.slotsUsed } : State) = { U.setFrames U.frames with heap := s₂.heap, slotsUsed := s₂.slotsUsed }
      rw [State.setFrames_self ht]
    subst hg
    refine Or.inl ⟨v, ⟨(({ U with heap := s₂.heap, slotsUsed := s₂.slotsUsed } : State).setVm s₂.vm), Ls ++ L, c0 + mc, s0 + ms⟩,
      ⟨X.admits, X.cas, X.clock, X.frames, X.room, X.hears, X.method, X.code, (X.here.setHeapUsed s₂.heap s₂.slotsUsed).setVm hW'.alike, X.tail, State.WarmedH.trans X.warmed hW', X.limits, X.bytes, X.same.trans (hsame.setVm s.vm)⟩,
      ⟨g, mk, s₂, L, rfl, rfl, hqc, rfl, hL, rfl, rfl⟩, ?_⟩
    show Steps p.tables e below _ ((({ U with heap := s₂.heap, slotsUsed := s₂.slotsUsed } : State).setVm s₂.vm).setTop { g with pc := g.pc + len₂, stack := v.toList ++ g.stack })
    rw [← hs₂]
    exact hsteps
  · obtain ⟨e2, q2, q3, q4, q5, q6⟩ := id hsm
    have e3 : s₂ = ({ (U.calling g mk a).setFrames s₂.frames with heap := s₂.heap, slotsUsed := s₂.slotsUsed } : State).setVm s₂.vm := by
      have : s₂ = ({ s₂ with vm := (U.calling g mk a).vm } : State).setVm s₂.vm := rfl
      rw [e2] at this
      exact this
    have hf₂ : s₂.frames = .throwing q :: .java g :: U.frames.tail := hend
    have hW' : U.WarmedH s₂.vm := hW₂
    have hs₂ : s₂ = ((({ U with heap := s₂.heap, slotsUsed := s₂.slotsUsed } : State).setVm s₂.vm).setTop g).pushFrame (.throwing q) := by
      refine e3.trans ?_
      rw [hf₂, State.calling_eq h.top, State.setFrames_setFrames, State.pushFrame, State.frames_setTop _ hr', State.setTop_of_frames _ hr', State.setFrames_setFrames, hr]
      rfl
    have hsame : U.sameButNew ({ U with heap := s₂.heap, slotsUsed := s₂.slotsUsed } : State) L mc ms := by
      refine ⟨?_, q2, q3, q4, q5, q6⟩
      obtain ⟨t, ht, -⟩ := State.frames_cons hr
      show ({ U with heap := s₂.heap, slotsUsed := s₂.slotsUsed } : State) = { U.setFrames U.frames with heap := s₂.heap, slotsUsed := s₂.slotsUsed }
      rw [State.setFrames_self ht]
    subst hg
    refine Or.inr ⟨q, ⟨(({ U with heap := s₂.heap, slotsUsed := s₂.slotsUsed } : State).setVm s₂.vm), Ls ++ L, c0 + mc, s0 + ms⟩,
      ⟨X.admits, X.cas, X.clock, X.frames, X.room, X.hears, X.method, X.code, (X.here.setHeapUsed s₂.heap s₂.slotsUsed).setVm hW'.alike, X.tail, State.WarmedH.trans X.warmed hW', X.limits, X.bytes, X.same.trans (hsame.setVm s.vm)⟩,
      ⟨g, mk, s₂, L, E, ce, rfl, rfl, hx, hce, hcv, hcl, rfl, hL, rfl, rfl⟩, ?_⟩
    show Steps p.tables e below _ (((({ U with heap := s₂.heap, slotsUsed := s₂.slotsUsed } : State).setVm s₂.vm).setTop g).pushFrame (.throwing q))
    rw [← hs₂]
    exact hsteps
end Payer
section Calls
variable {p : Program} {l : Launch} {e : Env} {R : Room} {s : State} {m : MethodId} {args : Array Value} {below : List Frame} {meth : Method} {c : Code} {T : State} {locs : List Loc} {cells slots : Nat}
theorem vx_callV (X : Stand p l e R s m args below meth c T locs cells slots) (hexec : p.tables.exec = Jvm.exec) {own C : String} {index : Nat} {y : MethodName} {bytes : ByteArray} {maxL : Nat} {ret : Option FieldType}
    (hown : s.vm.findClass own = some m.cls) (hlink : (Cond.methodLink own index y).before args s = true) (hinst : (Cond.instanceMethod y).before args s = true) (hsel : (Cond.selects C y y).before args s = true)
    (hcode : (Cond.code y bytes maxL ret).before args s = true) (hy : y.cls ≠ "java/lang/invoke/MethodHandle" ∧ y.cls ≠ "java/lang/invoke/VarHandle")
    {W9 : Nat} {Pre : Pt → Array Value → Prop} {Post : Pt → Array Value → Option Value → Pt → Prop} {PostX : Pt → Array Value → Addr → Pt → Prop} (hK : vx_Back l R p e below s args y 3 W9 Pre Post PostX)
    {b : Addr} {cellB : Cell} (hcell : T.heap[b]? = some cellB) (hobj : cellB.vm.isStatics = false) (hcls : s.vm.findClass C = some cellB.cls)
    {g : JFrame} (hg : g.method = m) (hsize : g.locals.size = c.maxLocals) {argsL rest : List Value} (hlen : ∀ sig, parseMethodDescriptor y.desc = some sig → argsL.length = sig.parameters.length)
    (hstack : g.stack = argsL.reverse ++ .ref b :: rest) (hW : 2 * g.monitorRoom + (rest.map fun v => v.category).sum ≤ W9) (hdg : decode c.code g.pc = .ok (.invokevirtual index, 3))
    (hpre : ∀ vm₁, s.WarmedH vm₁ → Pre ⟨T.setVm vm₁, locs, cells, slots⟩ (Value.ref b :: argsL).toArray) :
    (∃ (v : Option Value) (vm₁ : Vm) (B : Pt), s.WarmedH vm₁ ∧ Stand p l e R s m args below meth c B.U B.locs B.cells B.slots ∧ Post ⟨T.setVm vm₁, locs, cells, slots⟩ (Value.ref b :: argsL).toArray v B ∧
      ∀ target, Steps p.tables e below (B.U.setTop { g with pc := g.pc + 3, stack := v.toList ++ rest }) target → Steps p.tables e below (T.setTop g) target) ∨
    (∃ (q : Addr) (vm₁ : Vm) (B : Pt), s.WarmedH vm₁ ∧ Stand p l e R s m args below meth c B.U B.locs B.cells B.slots ∧ PostX ⟨T.setVm vm₁, locs, cells, slots⟩ (Value.ref b :: argsL).toArray q B ∧
      Steps p.tables e below (T.setTop g) ((B.U.setTop { g with stack := rest }).pushFrame (.throwing q))) := by
  obtain ⟨mk, methM, hnamed, hmethM, hstM, habM⟩ := Cond.instanceMethod_spec hinst
  obtain ⟨methM', cM, hmethM', -, -, -, -, -, -, hsigM⟩ := Cond.code_spec hnamed hcode
  cases hmethM.symm.trans hmethM'
  obtain ⟨c2, r2, m2, q1, q2, q3, q4, kP, hkP, hkPi⟩ := Cond.selects_spec hsel
  cases hcls.symm.trans q1
  cases (State.methodFound?_of_named hnamed hy).symm.trans q2
  cases hnamed.symm.trans q3
  have hselP : selectMethod e.platform s.vm cellB.cls mk = .method mk := by rw [Launch.admits_selectMethod X.admits]; exact q4
  obtain ⟨vm₁, X₁, hstep₁⟩ := X.invokevirtual hexec hown hlink hnamed hmethM hstM hkP hkPi hy (a := b) (cell := cellB) hcell
    (fun z h => by rw [h] at hobj; cases hobj) hselP hmethM habM hkP hkPi (g := g) hg (argsL := argsL) (rest := rest) (hlen _ hsigM) hstack hdg
  rcases hK m meth c ⟨T.setVm vm₁, locs, cells, slots⟩ { g with stack := rest } (.invokevirtual index) mk (Value.ref b :: argsL).toArray X₁ hg hsize hdg hW (X₁.named hnamed) (hpre vm₁ X₁.warmed) with ⟨v, B, X', hpost, hsteps⟩ | ⟨q, B, X', hpost, hsteps⟩
  · exact Or.inl ⟨v, vm₁, B, X₁.warmed, X', hpost, fun target h => hstep₁ _ fun acts => by rw [doInvoke_state]; exact hsteps.trans h⟩
  · exact Or.inr ⟨q, vm₁, B, X₁.warmed, X', hpost, hstep₁ _ fun acts => by rw [doInvoke_state]; exact hsteps⟩
theorem vx_callS (X : Stand p l e R s m args below meth c T locs cells slots) (hexec : p.tables.exec = Jvm.exec) {own : String} {index : Nat} {y : MethodName} {bytes : ByteArray} {maxL : Nat} {ret : Option FieldType}
    (hown : s.vm.findClass own = some m.cls) (hlink : (Cond.methodLink own index y).before args s = true) (hstat : (Cond.static y).before args s = true) (hinit : (Cond.initialized y.cls).before args s = true)
    (hcode : (Cond.code y bytes maxL ret).before args s = true) (hy : y.cls ≠ "java/lang/invoke/MethodHandle" ∧ y.cls ≠ "java/lang/invoke/VarHandle")
    {W9 : Nat} {Pre : Pt → Array Value → Prop} {Post : Pt → Array Value → Option Value → Pt → Prop} {PostX : Pt → Array Value → Addr → Pt → Prop} (hK : vx_Back l R p e below s args y 3 W9 Pre Post PostX)
    {g : JFrame} (hg : g.method = m) (hsize : g.locals.size = c.maxLocals) {argsL rest : List Value} (hlen : ∀ sig, parseMethodDescriptor y.desc = some sig → argsL.length = sig.parameters.length)
    (hstack : g.stack = argsL.reverse ++ rest) (hW : 2 * g.monitorRoom + (rest.map fun v => v.category).sum ≤ W9) (hdg : decode c.code g.pc = .ok (.invokestatic index, 3))
    (hpre : ∀ vm₁, s.WarmedH vm₁ → Pre ⟨T.setVm vm₁, locs, cells, slots⟩ argsL.toArray) :
    (∃ (v : Option Value) (vm₁ : Vm) (B : Pt), s.WarmedH vm₁ ∧ Stand p l e R s m args below meth c B.U B.locs B.cells B.slots ∧ Post ⟨T.setVm vm₁, locs, cells, slots⟩ argsL.toArray v B ∧
      ∀ target, Steps p.tables e below (B.U.setTop { g with pc := g.pc + 3, stack := v.toList ++ rest }) target → Steps p.tables e below (T.setTop g) target) ∨
    (∃ (q : Addr) (vm₁ : Vm) (B : Pt), s.WarmedH vm₁ ∧ Stand p l e R s m args below meth c B.U B.locs B.cells B.slots ∧ PostX ⟨T.setVm vm₁, locs, cells, slots⟩ argsL.toArray q B ∧
      Steps p.tables e below (T.setTop g) ((B.U.setTop { g with stack := rest }).pushFrame (.throwing q))) := by
  obtain ⟨mk, hnamed⟩ := Cond.code_named hcode
  obtain ⟨methM, cM, hmethM, -, -, -, -, -, -, hsigM⟩ := Cond.code_spec hnamed hcode
  have hstatic : methM.isStatic = true := Cond.static_spec hnamed hmethM hstat
  obtain ⟨kP, hkP, -⟩ := className_of_methodNamed hnamed
  have hinitP : kP.init = .initialized := Cond.initialized_spec (findClass_of_methodNamed hnamed) hkP hinit
  obtain ⟨vm₁, X₁, hstep₁⟩ := X.invokestatic hexec hown hlink hnamed hmethM hstatic hkP hinitP hy (g := g) hg (argsL := argsL) (rest := rest) (hlen _ hsigM) hstack hdg
  rcases hK m meth c ⟨T.setVm vm₁, locs, cells, slots⟩ { g with stack := rest } (.invokestatic index) mk argsL.toArray X₁ hg hsize hdg hW (X₁.named hnamed) (hpre vm₁ X₁.warmed) with ⟨v, B, X', hpost, hsteps⟩ | ⟨q, B, X', hpost, hsteps⟩
  · exact Or.inl ⟨v, vm₁, B, X₁.warmed, X', hpost, fun target h => hstep₁ _ fun acts => by rw [doInvoke_state]; exact hsteps.trans h⟩
  · exact Or.inr ⟨q, vm₁, B, X₁.warmed, X', hpost, hstep₁ _ fun acts => by rw [doInvoke_state]; exact hsteps⟩
end Calls
theorem vx_cls {s : State} {T : State} {vm₁ : Vm} {E : String} {k : ClassId} (hW : s.WarmedH vm₁) (h : (T.setVm vm₁).vm.findClass E = some k) : s.vm.findClass E = some k := by
  have h1 : vm₁.findClass E = some k := h
  rw [hW.alike.findClass] at h1
  exact h1
/-- the method's frame g, with q thrown over it -/
def vx_W (p : Program) (l : Launch) (e : Env) (R : Room) (s : State) (m : MethodId) (args : Array Value) (below : List Frame) (meth : Method) (c : Code) (H : Heap) (locs : List Loc) (cells slots : Nat) (Q : State → Prop) (g : JFrame) (q : Addr) : Prop :=
  ∀ T : State, T.heap = H → Stand p l e R s m args below meth c T locs cells slots → ∃ t, Steps p.tables e below ((T.setTop g).pushFrame (.throwing q)) t ∧ Q t
def vx_Run (p : Program) (l : Launch) (e : Env) (R : Room) (s : State) (m : MethodId) (args : Array Value) (below : List Frame) (meth : Method) (c : Code) (H : Heap) (locs : List Loc) (cells slots mc ms : Nat) (g : JFrame) (rest : List Value) (Qa : State → Outcome → State → Prop) (XC : String → State → State → Prop) (free : Addr → Prop) : Prop :=
  ∀ T : State, T.heap = H → Stand p l e R s m args below meth c T locs cells slots →
    (∃ (v : Option Value) (st₀ t T' : State) (L : List Loc), st₀.heap = H ∧ Stand p l e R s m args below meth c T' (locs ++ L) (cells + mc) (slots + ms) ∧ (∀ q ∈ L, free q.base) ∧ T'.heap = t.heap ∧ T'.vm = t.vm ∧ Qa st₀ (.returned v) t ∧
      Goes p e below T g T' { g with pc := g.pc + 3, stack := v.toList ++ rest }) ∨
    (∃ (q : Addr) (st₀ t T' : State) (L : List Loc) (E : String) (ce : Cell), st₀.heap = H ∧ Stand p l e R s m args below meth c T' (locs ++ L) (cells + mc) (slots + ms) ∧ (∀ z ∈ L, free z.base) ∧ T'.heap = t.heap ∧ T'.vm = t.vm ∧ XC E st₀ t ∧ t.heap[q]? = some ce ∧ ce.vm = .none ∧ s.vm.findClass E = some ce.cls ∧
      Steps p.tables e below (T.setTop g) ((T'.setTop { g with stack := rest }).pushFrame (.throwing q)))
def vx_X {S : Type} (px : S → Prop) (B : String → S → State → Prop) (A : Nat → Prop) : String → State → State → Prop := fun E st t => ∃ u : S, px u ∧ B E u t ∧ va_F A st t
section Runs
variable {p : Program} {l : Launch} {e : Env} {R : Room} {s : State} {m : MethodId} {args : Array Value} {below : List Frame} {meth : Method} {c : Code} {H : Heap} {locs : List Loc} {cells slots : Nat}
variable {y : MethodName} {bytes cc : ByteArray} {maxL nL mc ms n index : Nat} {ret : Option FieldType} {ws : List Cond} {rm : Room} {Pc : Array Value → State → Prop} {Qc : Array Value → State → Outcome → State → Prop} {XC : String → State → State → Prop} {free : Addr → Prop} {Ts : List Cond} {own C : String} {b : Addr} {As rest : List Value} {g : JFrame}
theorem vx_callBack (cb : CallB R s args own index y bytes maxL ret ws rm mc ms n) (hM : vx_Met l y ws rm Pc Qc XC mc ms free) (hbl : FrameBlind Pc) : vx_Back l R p e below s args y 3 8 (PreOf R mc ms Pc) (PostOf Qc mc ms free) (vx_Post XC mc ms free) := by
  obtain ⟨hrc, hrs, hfr, hlo, hws, hcw, -, hini, -⟩ := cb
  exact vx_back (bytes := bytes) (maxL := maxL) (ret := ret) hM hbl hrc hrs hfr hlo hws hcw (fun a' U hW => word_at hW (Or.inl (by first | rfl | simp [Cond.onTables, Cond.keeps, Cond.steady])) hini)
theorem vx_runV (S : CallFix p m c cc nL s args Ts own) (hM : vx_Met l y ws rm Pc Qc XC mc ms free) (cw : CallW R s args own C index y bytes maxL ret ws rm mc ms n) (hp : PreV s H C b Pc As)
    (hg : g.method = m) (hn : As.length = n) (hsize : g.locals.size = nL) (hstack : g.stack = As.reverse ++ .ref b :: rest) (hW : 2 * g.monitorRoom + (rest.map fun v => v.category).sum ≤ 8) (hdg : decode cc g.pc = .ok (.invokevirtual index, 3)) (hf : cells + mc ≤ R.cells ∧ slots + ms ≤ R.slots) :
    vx_Run p l e R s m args below meth c H locs cells slots mc ms g rest (Qc (Value.ref b :: As).toArray) XC free := by
  have hK : vx_Back l R p e below s args y 3 8 (PreOf R mc ms Pc) (PostOf Qc mc ms free) (vx_Post XC mc ms free) := vx_callBack cw.1 hM hp.1
  obtain ⟨⟨-, -, -, -, -, -, hcode, -, hy, hlen, hl⟩, hin, hse⟩ := cw
  obtain ⟨hx, hb, hml, ho, -⟩ := S
  obtain ⟨-, ⟨cellB, hcB, hoB, hclB⟩, hPc⟩ := hp
  intro T hT X
  rcases vx_callV X hx (C := C) (bytes := bytes) (maxL := maxL) (ret := ret) ho hl hin hse hcode hy hK (by rw [hT]; exact hcB) hoB hclB hg (hsize.trans hml.symm) (argsL := As) (rest := rest) (fun sig h => hn.trans (hlen sig h)) hstack hW (by rw [hb]; exact hdg)
    (fun vm₁ hW₁ => ⟨hf.1, hf.2, hPc (T.setVm vm₁) hT hW₁⟩) with ⟨v, vm₁, ⟨U', l2, c2, s2⟩, hW₁, X', ⟨g', mk, t, L, e1, e2, hq, h1, hL, h2, h3⟩, st⟩ | ⟨q, vm₁, ⟨U', l2, c2, s2⟩, hW₁, X', ⟨g', mk, t, L, E, ce, e1, e2, hq, hce, hcv, hcl, h1, hL, h2, h3⟩, st⟩
  · dsimp only [Pt.U, Pt.locs, Pt.cells, Pt.slots] at X' e1 e2 h1 h2 h3 st
    subst h1; subst h2; subst h3
    exact Or.inl ⟨v, (T.setVm vm₁).calling g' mk (Value.ref b :: As).toArray, t, U', L, hT, X', hL, e1, e2, hq, st⟩
  · dsimp only [Pt.U, Pt.locs, Pt.cells, Pt.slots] at X' e1 e2 h1 h2 h3 st hcl
    subst h1; subst h2; subst h3
    exact Or.inr ⟨q, (T.setVm vm₁).calling g' mk (Value.ref b :: As).toArray, t, U', L, E, ce, hT, X', hL, e1, e2, hq, hce, hcv, vx_cls hW₁ hcl, st⟩
theorem vx_runS (S : CallFix p m c cc nL s args Ts own) (hM : vx_Met l y ws rm Pc Qc XC mc ms free) (cw : CallB R s args own index y bytes maxL ret ws rm mc ms n ∧ (Cond.static y).before args s = true) (hp : PreS s H Pc As)
    (hg : g.method = m) (hn : As.length = n) (hsize : g.locals.size = nL) (hstack : g.stack = As.reverse ++ rest) (hW : 2 * g.monitorRoom + (rest.map fun v => v.category).sum ≤ 8) (hdg : decode cc g.pc = .ok (.invokestatic index, 3)) (hf : cells + mc ≤ R.cells ∧ slots + ms ≤ R.slots) :
    vx_Run p l e R s m args below meth c H locs cells slots mc ms g rest (Qc As.toArray) XC free := by
  have hK : vx_Back l R p e below s args y 3 8 (PreOf R mc ms Pc) (PostOf Qc mc ms free) (vx_Post XC mc ms free) := vx_callBack cw.1 hM hp.1
  obtain ⟨⟨-, -, -, -, -, -, hcode, hini, hy, hlen, hl⟩, hstt⟩ := cw
  obtain ⟨hx, hb, hml, ho, -⟩ := S
  intro T hT X
  rcases vx_callS X hx (bytes := bytes) (maxL := maxL) (ret := ret) ho hl hstt hini hcode hy hK hg (hsize.trans hml.symm) (argsL := As) (rest := rest) (fun sig h => hn.trans (hlen sig h)) hstack hW (by rw [hb]; exact hdg)
    (fun vm₁ hW₁ => ⟨hf.1, hf.2, hp.2 (T.setVm vm₁) hT hW₁⟩) with ⟨v, vm₁, ⟨U', l2, c2, s2⟩, hW₁, X', ⟨g', mk, t, L, e1, e2, hq, h1, hL, h2, h3⟩, st⟩ | ⟨q, vm₁, ⟨U', l2, c2, s2⟩, hW₁, X', ⟨g', mk, t, L, E, ce, e1, e2, hq, hce, hcv, hcl, h1, hL, h2, h3⟩, st⟩
  · dsimp only [Pt.U, Pt.locs, Pt.cells, Pt.slots] at X' e1 e2 h1 h2 h3 st
    subst h1; subst h2; subst h3
    exact Or.inl ⟨v, (T.setVm vm₁).calling g' mk As.toArray, t, U', L, hT, X', hL, e1, e2, hq, st⟩
  · dsimp only [Pt.U, Pt.locs, Pt.cells, Pt.slots] at X' e1 e2 h1 h2 h3 st hcl
    subst h1; subst h2; subst h3
    exact Or.inr ⟨q, (T.setVm vm₁).calling g' mk As.toArray, t, U', L, E, ce, hT, X', hL, e1, e2, hq, hce, hcv, vx_cls hW₁ hcl, st⟩
end Runs
section Rows
variable {p : Program} {l : Launch} {e : Env} {R : Room} {s : State} {m : MethodId} {args : Array Value} {below : List Frame} {meth : Method} {c : Code} {H : Heap} {locs : List Loc} {cells slots : Nat} {Q : State → Prop}
variable {mc ms : Nat} {free : Addr → Prop} {A0 A1 : Nat → Prop} {H0 : Heap} {a : Array Value} {pc : Nat} {ls : Array Slot} {st0 rest : List Value}
theorem vx_keep {st₀ t T' : State} {L : List Loc} (h0 : st₀.heap = H) (e1 : T'.heap = t.heap) (hS : va_S A0 H0 H locs) (hA : ∀ q, q < H.size → A1 q → A0 q) (hf : ∀ q, free q → A0 q) (hL : ∀ q ∈ L, free q.base) (hF : va_F A1 st₀ t) :
    H.size ≤ T'.heap.size ∧ (∀ q : Nat, q < H.size → ¬ A1 q → T'.heap[q]? = H[q]?) ∧ va_S A0 H0 T'.heap (locs ++ L) := by
  obtain ⟨hz, hk⟩ := hF
  rw [h0] at hz hk
  exact ⟨by rw [e1]; exact hz, fun q h1 h2 => by rw [e1]; exact hk q h1 h2,
    ⟨Nat.le_trans hS.1 (by rw [e1]; exact hz), fun q h1 h2 => by rw [e1, hk q (Nat.lt_of_lt_of_le h1 hS.1) (fun z => h2 (hA q (Nat.lt_of_lt_of_le h1 hS.1) z))]; exact hS.2.1 q h1 h2, fun q hq => by
      rcases List.mem_append.mp hq with h | h
      · exact hS.2.2 q h
      · exact hf _ (hL q h)⟩⟩
theorem vx_calli {S SX : Type} {post : Int32 → S → Prop} {px : SX → Prop} {B : S → State → Prop} {BX : String → SX → State → Prop} {AX : Nat → Prop} (hr : vx_Run p l e R s m args below meth c H locs cells slots mc ms (F0 m pc ls st0) rest (va_Qi post B A1 a) (vx_X px BX AX) free) (hS : va_S A0 H0 H locs) (hA : ∀ q, q < H.size → A1 q → A0 q) (hf : ∀ q, free q → A0 q) (hAX : ∀ q, q < H.size → AX q → A0 q)
    (kx : ∀ (E : String) (ce : Cell) (q9 : Addr) (u : SX) (t : State) (H1 : Heap) (locs1 : List Loc), t.heap = H1 → s.vm.Alike t.vm → px u → BX E u t → H.size ≤ H1.size → (∀ q : Nat, q < H.size → ¬ AX q → H1[q]? = H[q]?) → va_S A0 H0 H1 locs1 → H1[q9]? = some ce → ce.vm = .none → s.vm.findClass E = some ce.cls → vx_W p l e R s m args below meth c H1 locs1 (cells + mc) (slots + ms) Q (F0 m pc ls rest) q9)
    (kk : ∀ (r : Int32) (u : S) (t : State) (H1 : Heap) (locs1 : List Loc), t.heap = H1 → s.vm.Alike t.vm → post r u → B u t → H.size ≤ H1.size → (∀ q : Nat, q < H.size → ¬ A1 q → H1[q]? = H[q]?) → va_S A0 H0 H1 locs1 → W p l e R s m args below meth c H1 locs1 (cells + mc) (slots + ms) Q (F0 m (pc + 3) ls (.int r :: rest))) : W p l e R s m args below meth c H locs cells slots Q (F0 m pc ls st0) := by
  intro T hT X
  rcases hr T hT X with ⟨v, st₀, t, T', L, h0, X', hL, e1, e2, ⟨⟨r, u, hv, hp, hb⟩, hF⟩, st⟩ | ⟨q, st₀, t, T', L, E, ce, h0, X', hL, e1, e2, ⟨u, hp, hb, hF⟩, hce, hcv, hcl, st⟩
  · cases hv
    obtain ⟨k1, k2, k3⟩ := vx_keep h0 e1 hS hA hf hL hF
    obtain ⟨t2, a1, b1⟩ := kk r u t T'.heap (locs ++ L) e1.symm (by rw [← e2]; exact X'.warmed.alike) hp hb k1 k2 k3 T' rfl X'
    exact ⟨t2, st t2 a1, b1⟩
  · obtain ⟨k1, k2, k3⟩ := vx_keep h0 e1 hS hAX hf hL hF
    obtain ⟨t2, a1, b1⟩ := kx E ce q u t T'.heap (locs ++ L) e1.symm (by rw [← e2]; exact X'.warmed.alike) hp hb k1 k2 k3 (by rw [e1]; exact hce) hcv hcl T' rfl X'
    exact ⟨t2, st.trans a1, b1⟩
theorem vx_calll {S SX : Type} {post : Int64 → S → Prop} {px : SX → Prop} {B : S → State → Prop} {BX : String → SX → State → Prop} {AX : Nat → Prop} (hr : vx_Run p l e R s m args below meth c H locs cells slots mc ms (F0 m pc ls st0) rest (va_Ql post B A1 a) (vx_X px BX AX) free) (hS : va_S A0 H0 H locs) (hA : ∀ q, q < H.size → A1 q → A0 q) (hf : ∀ q, free q → A0 q) (hAX : ∀ q, q < H.size → AX q → A0 q)
    (kx : ∀ (E : String) (ce : Cell) (q9 : Addr) (u : SX) (t : State) (H1 : Heap) (locs1 : List Loc), t.heap = H1 → s.vm.Alike t.vm → px u → BX E u t → H.size ≤ H1.size → (∀ q : Nat, q < H.size → ¬ AX q → H1[q]? = H[q]?) → va_S A0 H0 H1 locs1 → H1[q9]? = some ce → ce.vm = .none → s.vm.findClass E = some ce.cls → vx_W p l e R s m args below meth c H1 locs1 (cells + mc) (slots + ms) Q (F0 m pc ls rest) q9)
    (kk : ∀ (r : Int64) (u : S) (t : State) (H1 : Heap) (locs1 : List Loc), t.heap = H1 → s.vm.Alike t.vm → post r u → B u t → H.size ≤ H1.size → (∀ q : Nat, q < H.size → ¬ A1 q → H1[q]? = H[q]?) → va_S A0 H0 H1 locs1 → W p l e R s m args below meth c H1 locs1 (cells + mc) (slots + ms) Q (F0 m (pc + 3) ls (.long r :: rest))) : W p l e R s m args below meth c H locs cells slots Q (F0 m pc ls st0) := by
  intro T hT X
  rcases hr T hT X with ⟨v, st₀, t, T', L, h0, X', hL, e1, e2, ⟨⟨r, u, hv, hp, hb⟩, hF⟩, st⟩ | ⟨q, st₀, t, T', L, E, ce, h0, X', hL, e1, e2, ⟨u, hp, hb, hF⟩, hce, hcv, hcl, st⟩
  · cases hv
    obtain ⟨k1, k2, k3⟩ := vx_keep h0 e1 hS hA hf hL hF
    obtain ⟨t2, a1, b1⟩ := kk r u t T'.heap (locs ++ L) e1.symm (by rw [← e2]; exact X'.warmed.alike) hp hb k1 k2 k3 T' rfl X'
    exact ⟨t2, st t2 a1, b1⟩
  · obtain ⟨k1, k2, k3⟩ := vx_keep h0 e1 hS hAX hf hL hF
    obtain ⟨t2, a1, b1⟩ := kx E ce q u t T'.heap (locs ++ L) e1.symm (by rw [← e2]; exact X'.warmed.alike) hp hb k1 k2 k3 (by rw [e1]; exact hce) hcv hcl T' rfl X'
    exact ⟨t2, st.trans a1, b1⟩
theorem vx_callf {S SX : Type} {post : UInt32 → S → Prop} {px : SX → Prop} {B : S → State → Prop} {BX : String → SX → State → Prop} {AX : Nat → Prop} (hr : vx_Run p l e R s m args below meth c H locs cells slots mc ms (F0 m pc ls st0) rest (va_Qf post B A1 a) (vx_X px BX AX) free) (hS : va_S A0 H0 H locs) (hA : ∀ q, q < H.size → A1 q → A0 q) (hf : ∀ q, free q → A0 q) (hAX : ∀ q, q < H.size → AX q → A0 q)
    (kx : ∀ (E : String) (ce : Cell) (q9 : Addr) (u : SX) (t : State) (H1 : Heap) (locs1 : List Loc), t.heap = H1 → s.vm.Alike t.vm → px u → BX E u t → H.size ≤ H1.size → (∀ q : Nat, q < H.size → ¬ AX q → H1[q]? = H[q]?) → va_S A0 H0 H1 locs1 → H1[q9]? = some ce → ce.vm = .none → s.vm.findClass E = some ce.cls → vx_W p l e R s m args below meth c H1 locs1 (cells + mc) (slots + ms) Q (F0 m pc ls rest) q9)
    (kk : ∀ (r : UInt32) (u : S) (t : State) (H1 : Heap) (locs1 : List Loc), t.heap = H1 → s.vm.Alike t.vm → post r u → B u t → H.size ≤ H1.size → (∀ q : Nat, q < H.size → ¬ A1 q → H1[q]? = H[q]?) → va_S A0 H0 H1 locs1 → W p l e R s m args below meth c H1 locs1 (cells + mc) (slots + ms) Q (F0 m (pc + 3) ls (.float r :: rest))) : W p l e R s m args below meth c H locs cells slots Q (F0 m pc ls st0) := by
  intro T hT X
  rcases hr T hT X with ⟨v, st₀, t, T', L, h0, X', hL, e1, e2, ⟨⟨r, u, hv, hp, hb⟩, hF⟩, st⟩ | ⟨q, st₀, t, T', L, E, ce, h0, X', hL, e1, e2, ⟨u, hp, hb, hF⟩, hce, hcv, hcl, st⟩
  · cases hv
    obtain ⟨k1, k2, k3⟩ := vx_keep h0 e1 hS hA hf hL hF
    obtain ⟨t2, a1, b1⟩ := kk r u t T'.heap (locs ++ L) e1.symm (by rw [← e2]; exact X'.warmed.alike) hp hb k1 k2 k3 T' rfl X'
    exact ⟨t2, st t2 a1, b1⟩
  · obtain ⟨k1, k2, k3⟩ := vx_keep h0 e1 hS hAX hf hL hF
    obtain ⟨t2, a1, b1⟩ := kx E ce q u t T'.heap (locs ++ L) e1.symm (by rw [← e2]; exact X'.warmed.alike) hp hb k1 k2 k3 (by rw [e1]; exact hce) hcv hcl T' rfl X'
    exact ⟨t2, st.trans a1, b1⟩
theorem vx_calld {S SX : Type} {post : UInt64 → S → Prop} {px : SX → Prop} {B : S → State → Prop} {BX : String → SX → State → Prop} {AX : Nat → Prop} (hr : vx_Run p l e R s m args below meth c H locs cells slots mc ms (F0 m pc ls st0) rest (va_Qd post B A1 a) (vx_X px BX AX) free) (hS : va_S A0 H0 H locs) (hA : ∀ q, q < H.size → A1 q → A0 q) (hf : ∀ q, free q → A0 q) (hAX : ∀ q, q < H.size → AX q → A0 q)
    (kx : ∀ (E : String) (ce : Cell) (q9 : Addr) (u : SX) (t : State) (H1 : Heap) (locs1 : List Loc), t.heap = H1 → s.vm.Alike t.vm → px u → BX E u t → H.size ≤ H1.size → (∀ q : Nat, q < H.size → ¬ AX q → H1[q]? = H[q]?) → va_S A0 H0 H1 locs1 → H1[q9]? = some ce → ce.vm = .none → s.vm.findClass E = some ce.cls → vx_W p l e R s m args below meth c H1 locs1 (cells + mc) (slots + ms) Q (F0 m pc ls rest) q9)
    (kk : ∀ (r : UInt64) (u : S) (t : State) (H1 : Heap) (locs1 : List Loc), t.heap = H1 → s.vm.Alike t.vm → post r u → B u t → H.size ≤ H1.size → (∀ q : Nat, q < H.size → ¬ A1 q → H1[q]? = H[q]?) → va_S A0 H0 H1 locs1 → W p l e R s m args below meth c H1 locs1 (cells + mc) (slots + ms) Q (F0 m (pc + 3) ls (.double r :: rest))) : W p l e R s m args below meth c H locs cells slots Q (F0 m pc ls st0) := by
  intro T hT X
  rcases hr T hT X with ⟨v, st₀, t, T', L, h0, X', hL, e1, e2, ⟨⟨r, u, hv, hp, hb⟩, hF⟩, st⟩ | ⟨q, st₀, t, T', L, E, ce, h0, X', hL, e1, e2, ⟨u, hp, hb, hF⟩, hce, hcv, hcl, st⟩
  · cases hv
    obtain ⟨k1, k2, k3⟩ := vx_keep h0 e1 hS hA hf hL hF
    obtain ⟨t2, a1, b1⟩ := kk r u t T'.heap (locs ++ L) e1.symm (by rw [← e2]; exact X'.warmed.alike) hp hb k1 k2 k3 T' rfl X'
    exact ⟨t2, st t2 a1, b1⟩
  · obtain ⟨k1, k2, k3⟩ := vx_keep h0 e1 hS hAX hf hL hF
    obtain ⟨t2, a1, b1⟩ := kx E ce q u t T'.heap (locs ++ L) e1.symm (by rw [← e2]; exact X'.warmed.alike) hp hb k1 k2 k3 (by rw [e1]; exact hce) hcv hcl T' rfl X'
    exact ⟨t2, st.trans a1, b1⟩
theorem vx_callv {S SX : Type} {post : S → Prop} {px : SX → Prop} {B : S → State → Prop} {BX : String → SX → State → Prop} {AX : Nat → Prop} (hr : vx_Run p l e R s m args below meth c H locs cells slots mc ms (F0 m pc ls st0) rest (va_Qv post B A1 a) (vx_X px BX AX) free) (hS : va_S A0 H0 H locs) (hA : ∀ q, q < H.size → A1 q → A0 q) (hf : ∀ q, free q → A0 q) (hAX : ∀ q, q < H.size → AX q → A0 q)
    (kx : ∀ (E : String) (ce : Cell) (q9 : Addr) (u : SX) (t : State) (H1 : Heap) (locs1 : List Loc), t.heap = H1 → s.vm.Alike t.vm → px u → BX E u t → H.size ≤ H1.size → (∀ q : Nat, q < H.size → ¬ AX q → H1[q]? = H[q]?) → va_S A0 H0 H1 locs1 → H1[q9]? = some ce → ce.vm = .none → s.vm.findClass E = some ce.cls → vx_W p l e R s m args below meth c H1 locs1 (cells + mc) (slots + ms) Q (F0 m pc ls rest) q9)
    (kk : ∀ (u : S) (t : State) (H1 : Heap) (locs1 : List Loc), t.heap = H1 → s.vm.Alike t.vm → post u → B u t → H.size ≤ H1.size → (∀ q : Nat, q < H.size → ¬ A1 q → H1[q]? = H[q]?) → va_S A0 H0 H1 locs1 → W p l e R s m args below meth c H1 locs1 (cells + mc) (slots + ms) Q (F0 m (pc + 3) ls (rest))) : W p l e R s m args below meth c H locs cells slots Q (F0 m pc ls st0) := by
  intro T hT X
  rcases hr T hT X with ⟨v, st₀, t, T', L, h0, X', hL, e1, e2, ⟨⟨u, hv, hp, hb⟩, hF⟩, st⟩ | ⟨q, st₀, t, T', L, E, ce, h0, X', hL, e1, e2, ⟨u, hp, hb, hF⟩, hce, hcv, hcl, st⟩
  · cases hv
    obtain ⟨k1, k2, k3⟩ := vx_keep h0 e1 hS hA hf hL hF
    obtain ⟨t2, a1, b1⟩ := kk u t T'.heap (locs ++ L) e1.symm (by rw [← e2]; exact X'.warmed.alike) hp hb k1 k2 k3 T' rfl X'
    exact ⟨t2, st t2 a1, b1⟩
  · obtain ⟨k1, k2, k3⟩ := vx_keep h0 e1 hS hAX hf hL hF
    obtain ⟨t2, a1, b1⟩ := kx E ce q u t T'.heap (locs ++ L) e1.symm (by rw [← e2]; exact X'.warmed.alike) hp hb k1 k2 k3 (by rw [e1]; exact hce) hcv hcl T' rfl X'
    exact ⟨t2, st.trans a1, b1⟩
/-- caught by the row x of this method's table; the rows ahead don't take it -/
theorem vx_catch {own name : String} {E : String} {ce : Cell} {q : Addr} (hown : s.vm.findClass own = some m.cls) (pre : List ExceptionTableEntry) (x : ExceptionTableEntry) (suf : List ExceptionTableEntry) (hsplit : c.exceptionTable.toList = pre ++ x :: suf)
    (hpass : ∀ z ∈ pre, covers z pc = false ∨ (z.catchType ≠ 0 ∧ ∃ nm : String, (Cond.classLink own z.catchType nm).before args s = true ∧ va_Nc E nm s)) (hx : covers x pc = true) (h0 : x.catchType ≠ 0)
    (hlink : (Cond.classLink own x.catchType name).before args s = true) (hcast : (Cond.castable E name).before args s = true) (hcell : H[q]? = some ce) (hv : ce.vm = .none) (hcl : s.vm.findClass E = some ce.cls)
    (kk : W p l e R s m args below meth c H locs cells slots Q (F0 m x.handlerPc ls [.ref q])) : vx_W p l e R s m args below meth c H locs cells slots Q (F0 m pc ls rest) q := by
  intro T hT X
  have hpl : e.platform.magicAccessors = ({} : Platform).magicAccessors := by rw [X.admits.platform]
  obtain ⟨c3, c4, hc3, hc4, hasg⟩ := Cond.castable_spec hcast
  cases Option.some.inj (hc3.symm.trans hcl)
  obtain ⟨c5, hc5, hcl5⟩ := Cond.classLink_spec hown hlink e.platform hpl
  cases Option.some.inj (hc4.symm.trans hc5)
  obtain ⟨vm', X', st⟩ := X.thenCaughtThrough q (g := F0 m pc ls rest) rfl (Steps.refl _) (by rw [hT]; exact hcell) (by rw [hv]; rfl) (by obtain ⟨k9, h9, -⟩ := Vm.findClass_spec hcl; exact ⟨k9, h9⟩) pre x suf hsplit
    (fun z hz => by
      rcases hpass z hz with h | ⟨hz0, nm, hl1, hn1⟩
      · exact Or.inl h
      · obtain ⟨c6, hc6, hcl6⟩ := Cond.classLink_spec hown hl1 e.platform hpl
        obtain ⟨a8, b8, h1, h2, h3⟩ := hn1
        cases Option.some.inj (h1.symm.trans hcl)
        cases Option.some.inj (h2.symm.trans hc6)
        exact Or.inr ⟨hz0, _, hcl6, h3⟩) hx (Or.inr ⟨h0, c4, hcl5, hasg⟩)
  obtain ⟨t, a1, b1⟩ := kk (T.setVm vm') hT X'
  exact ⟨t, st.trans a1, b1⟩
end Rows
section Ends
variable {p : Program} {l : Launch} {e : Env} {R : Room} {s : State} {m : MethodId} {args : Array Value} {below : List Frame} {meth : Method} {c : Code} {H : Heap} {locs : List Loc} {cells slots : Nat} {Q : State → Prop}
variable {mc ms : Nat} {free : Addr → Prop} {A0 A1 : Nat → Prop} {H0 : Heap} {a : Array Value} {ls : Array Slot} {st0 rest : List Value}
variable {Qc : Array Value → State → Outcome → State → Prop} {XC : String → State → State → Prop}
/-- what a body that may throw owes at its end -/
def vx_MQ (below : List Frame) (Qc : Array Value → State → Outcome → State → Prop) (XC : String → State → State → Prop) (a : Array Value) (s : State) (mc ms : Nat) (free : Addr → Prop) : State → Prop := fun t =>
  ∃ o, t.status = .running ∧ Ended t below o ∧ vx_Q Qc XC mc ms free a s o t
theorem vx_ret {g : JFrame} {mc ms : Nat} (k : W p l e R s m args below meth c H locs cells slots (MQ below Qc args s mc ms free) g) : W p l e R s m args below meth c H locs cells slots (vx_MQ below Qc XC args s mc ms free) g := by
  intro T hT X
  obtain ⟨t, a1, o, b1, b2, b3, b4⟩ := k T hT X
  exact ⟨t, a1, o, b1, b2, Or.inl ⟨b3, b4⟩⟩
/-- not caught here: it goes on to the caller -/
theorem vx_widen {g : JFrame} {q : Addr} {k n : Nat} (h1 : cells ≤ k) (h2 : slots ≤ n) (kk : vx_W p l e R s m args below meth c H locs k n Q g q) : vx_W p l e R s m args below meth c H locs cells slots Q g q := fun T hT X => kk T hT (stand_widen X h1 h2)
theorem vx_out {pc : Nat} {E : String} {ce : Cell} {q : Addr} {mc ms : Nat} (hout : ∀ x ∈ c.exceptionTable.toList, covers x pc = false) (hlocks : meth.locks = false) (hcell : H[q]? = some ce) (hv : ce.vm = .none) (hcl : s.vm.findClass E = some ce.cls)
    (hx : ∀ t : State, t.heap = H → s.vm.Alike t.vm → XC E s t) (hf : ∀ z ∈ locs, free z.base) (hc : cells ≤ mc) (hs : slots ≤ ms) :
    vx_W p l e R s m args below meth c H locs cells slots (vx_MQ below Qc XC args s mc ms free) (F0 m pc ls rest) q := by
  intro T hT X
  obtain ⟨st1, hrun, hend, hW, hsm⟩ := X.leaveThrown q (g := F0 m pc ls rest) rfl rfl rfl hout hlocks
  have hcell9 : (T.setFrames (.throwing q :: below)).heap[q]? = some ce := by
    show T.heap[q]? = some ce
    rw [hT]; exact hcell
  exact ⟨_, st1, .threw q, hrun, hend, Or.inr ⟨q, rfl, E, ce, locs, hx _ hT hW.alike, hcell9, hv, hcl, hW, hsm.mono hc hs, hf⟩⟩
theorem vx_frame {U : State} {k n : Nat} (h : s.sameButNew ({ U with vm := s.vm } : State) locs k n) : s.heap.size ≤ U.heap.size ∧ ∀ q : Nat, q < s.heap.size → (∀ z ∈ locs, z.base ≠ q) → U.heap[q]? = s.heap[q]? := by
  obtain ⟨-, h2, -, -, -, h6⟩ := h
  refine ⟨h2, fun q hq hz => ?_⟩
  obtain ⟨c9, e1, e2, e3, e4⟩ := h6 q _ (Array.getElem?_eq_getElem hq)
  have hs : c9.slots = (s.heap[q]).slots := Array.ext_getElem? fun i => e4 i fun hm => hz _ hm rfl
  have h9 : c9 = s.heap[q] := by
    rw [hs] at e2
    exact e2
  have e5 : U.heap[q]? = some c9 := e1
  rw [e5, h9, Array.getElem?_eq_getElem hq]
/-- the words of a throw but the four that speak of the heap -/
def vx_no (w : Cond) : Bool := decide (w ≠ .isRef (.static Bundle.tN "UNASSIGNED_STACK" Bundle.steD)) && decide (w ≠ .isRef (.static Bundle.tN "SUPPRESSED_SENTINEL" Bundle.listD)) && decide (w ≠ .laysStatic Bundle.tN "UNASSIGNED_STACK" Bundle.steD) && decide (w ≠ .laysStatic Bundle.tN "SUPPRESSED_SENTINEL" Bundle.listD)
def vx_at0 (own : String) (ic : Nat) (X : String) (names : List String) : List Cond := (Bundle.ownAtoms0 own ic X names).filter vx_no
def vx_atS (own : String) (ic : Nat) (X : String) (names : List String) : List Cond := (Bundle.ownAtoms own ic X names).filter vx_no
/-- a word that the tables alone decide, or a good one -/
def vx_ot (w : Cond) : Bool := w.onTables || goodWord w
theorem vx_ot_at {args a' : Array Value} {s U : State} {w : Cond} (hW : s.WarmedH U.vm) (hvm : s.vm = U.vm) (hg : vx_ot w = true) (h : w.before args s = true) : w.before a' U = true := by
  simp only [vx_ot, Bool.or_eq_true] at hg
  rcases hg with hg | hg
  · exact va_tabs hg hvm h
  · exact word_at hW (good_of_word hg) h
/-- a list's words: the good ones out of the method's own list, the others by premises of their own -/
theorem vx_hat {args : Array Value} {s : State} {L B : List Cond} (h1 : ∀ w ∈ L.filter goodWord, w.before args s = true) (h2 : ∀ w ∈ L.filter (fun w => !goodWord w), w ∈ B) (h3 : ∀ w ∈ B, w.before args s = true) : ∀ w ∈ L, w.before args s = true := by
  intro w hw
  by_cases g : goodWord w = true
  · exact h1 w (List.mem_filter.mpr ⟨hw, g⟩)
  · refine h3 w (h2 w (List.mem_filter.mpr ⟨hw, ?_⟩))
    show (!goodWord w) = true
    cases hgw : goodWord w
    · rfl
    · exact absurd hgw g
theorem vx_c {args : Array Value} {s : State} {w : Cond} {B : List Cond} (h : w.before args s = true) (t : ∀ w ∈ B, w.before args s = true) : ∀ w' ∈ w :: B, w'.before args s = true := fun w' h' => (List.mem_cons.mp h').elim (fun e => by rw [e]; exact h) (t w')
theorem vx_n {args : Array Value} {s : State} : ∀ w ∈ ([] : List Cond), w.before args s = true := fun _ h => nomatch h
theorem vx_own {args : Array Value} {s : State} {L : List Cond} (h1 : ∀ w ∈ L.filter vx_no, w.before args s = true)
    (hU : (Cond.isRef (.static Bundle.tN "UNASSIGNED_STACK" Bundle.steD)).before args s = true) (hN : (Cond.isRef (.static Bundle.tN "SUPPRESSED_SENTINEL" Bundle.listD)).before args s = true)
    (lU : (Cond.laysStatic Bundle.tN "UNASSIGNED_STACK" Bundle.steD).before args s = true) (lN : (Cond.laysStatic Bundle.tN "SUPPRESSED_SENTINEL" Bundle.listD).before args s = true) : ∀ w ∈ L, w.before args s = true := by
  intro w hw
  by_cases e1 : w = .isRef (.static Bundle.tN "UNASSIGNED_STACK" Bundle.steD)
  · rw [e1]; exact hU
  · by_cases e2 : w = .isRef (.static Bundle.tN "SUPPRESSED_SENTINEL" Bundle.listD)
    · rw [e2]; exact hN
    · by_cases e3 : w = .laysStatic Bundle.tN "UNASSIGNED_STACK" Bundle.steD
      · rw [e3]; exact lU
      · by_cases e4 : w = .laysStatic Bundle.tN "SUPPRESSED_SENTINEL" Bundle.listD
        · rw [e4]; exact lN
        · exact h1 w (List.mem_filter.mpr ⟨hw, by unfold vx_no; rw [decide_eq_true e1, decide_eq_true e2, decide_eq_true e3, decide_eq_true e4]; rfl⟩)
/-- where a static field lies, its class's statics cell in H -/
def vx_L (C n d : String) (A : Nat → Prop) (U : State) (H : Heap) : Prop := ∃ (c : ClassId) (k : Class) (i : Nat) (f : Field) (a : Nat) (cell : Cell), U.vm.findClass C = some c ∧ U.fieldFound? C n d = some (c, k, i, f) ∧ f.isStatic = true ∧ k.statics = some a ∧ H[a]? = some cell ∧ cell.vm.isStatics = true ∧ cell.cls = c ∧ f.slot < cell.slots.size ∧ k.staticTypes[f.slot]? = some f.type ∧ ¬ A a
theorem vx_L.moved {C n d : String} {A : Nat → Prop} {u U : State} {H : Heap} (hvm : u.vm.Alike U.vm) (h : vx_L C n d A u H) : vx_L C n d A U H := by
  obtain ⟨c, k, i, f, a, cell, h1, h2, h3, h4, h5, h6, h7, h8, h9, h10⟩ := h
  obtain ⟨k', hi', he⟩ := State.fieldFound?_setVm hvm h2
  exact ⟨c, k', i, f, a, cell, by rw [hvm.findClass]; exact h1, hi', h3, by rw [he]; exact h4, h5, h6, h7, h8, by rw [he]; exact h9, h10⟩
theorem vx_L.kept {C n d : String} {A : Nat → Prop} {U : State} {H H1 : Heap} (h : vx_L C n d A U H) (hq : ∀ a : Nat, a < H.size → ¬ A a → H1[a]? = H[a]?) : vx_L C n d A U H1 := by
  obtain ⟨c, k, i, f, a, cell, h1, h2, h3, h4, h5, h6, h7, h8, h9, h10⟩ := h
  exact ⟨c, k, i, f, a, cell, h1, h2, h3, h4, by rw [hq a (Array.getElem?_eq_some_iff.mp h5).1 h10]; exact h5, h6, h7, h8, h9, h10⟩
theorem vx_L.narrow {C n d : String} {A B : Nat → Prop} {U : State} {H : Heap} (h : vx_L C n d A U H) (hAB : ∀ q, B q → A q) : vx_L C n d B U H := by
  obtain ⟨c, k, i, f, a, cell, h1, h2, h3, h4, h5, h6, h7, h8, h9, h10⟩ := h
  exact ⟨c, k, i, f, a, cell, h1, h2, h3, h4, h5, h6, h7, h8, h9, fun z => h10 (hAB _ z)⟩
theorem vx_L.word {C n d : String} {A : Nat → Prop} {s : State} {args : Array Value} (h : vx_L C n d A s s.heap) : (Cond.laysStatic C n d).before args s = true := by
  obtain ⟨c, k, i, f, a, cell, h1, h2, h3, h4, h5, h6, h7, h8, h9, -⟩ := h
  show (Cond.laysStatic C n d).holds args s none s [] = true
  exact Cond.laysStatic_of h1 h2 h3 h4 h5 h6 h7 h8 h9
/-- .. and what it holds: null or some reference -/
def vx_Zq (C n d : String) (A : Nat → Prop) (U : State) (H : Heap) : Prop := va_Zq C n d A U H ∧ vx_L C n d A U H
theorem vx_Zq.moved {C n d : String} {A : Nat → Prop} {u U : State} {H : Heap} (hvm : u.vm.Alike U.vm) (h : vx_Zq C n d A u H) : vx_Zq C n d A U H := ⟨va_Zq.moved hvm h.1, vx_L.moved hvm h.2⟩
theorem vx_Zq.kept {C n d : String} {A : Nat → Prop} {U : State} {H H1 : Heap} (h : vx_Zq C n d A U H) (hq : ∀ a : Nat, a < H.size → ¬ A a → H1[a]? = H[a]?) : vx_Zq C n d A U H1 := ⟨va_Zq.kept h.1 hq, vx_L.kept h.2 hq⟩
theorem vx_Zq.narrow {C n d : String} {A B : Nat → Prop} {U : State} {H : Heap} (h : vx_Zq C n d A U H) (hAB : ∀ q, B q → A q) : vx_Zq C n d B U H := ⟨va_Zq.narrow h.1 hAB, vx_L.narrow h.2 hAB⟩
theorem vx_Zqof {args : Array Value} {s : State} {C n d : String} {A : Nat → Prop} (hl : (Cond.laysStatic C n d).before args s = true) (hini : (Cond.initialized C).before args s = true) (h : (Cond.isRef (.static C n d)).before args s = true) (hA : ∀ a : Nat, a < s.heap.size → ¬ A a) : vx_Zq C n d A s s.heap := by
  refine ⟨va_Zqof hl hini h hA, ?_⟩
  obtain ⟨c, k, i, f, a, cell, h1, h2, h3, h4, h5, h6, h7, h8, h9⟩ := Cond.laysStatic_spec hl
  exact ⟨c, k, i, f, a, cell, h1, h2, h3, h4, h5, h6, h7, h8, h9, hA a (Array.getElem?_eq_some_iff.mp h5).1⟩
theorem vx_isRef {C n d : String} {v : Value} {A : Nat → Prop} {s : State} {args : Array Value} (h : va_Z C n d v A s s.heap) (hv : v.isRef = true) : (Cond.isRef (.static C n d)).before args s = true := by
  obtain ⟨cf, kf, fi, f, a, cell, h1, h2, h3, h4, h5, h6, h7, -⟩ := h
  have he : (Term.static C n d).eval args s none [] s = some v := by
    simp [Term.eval, State.fieldNamed?, h1, h2, h4, h5, h6, h7]
  simp only [Cond.before, Cond.holds, Cond.value, he]
  cases v <;> simp_all [Value.isRef]
theorem vx_isRefq {C n d : String} {A : Nat → Prop} {s : State} {args : Array Value} (h : va_Zq C n d A s s.heap) : (Cond.isRef (.static C n d)).before args s = true := by
  rcases h with h | ⟨t, h⟩
  · exact vx_isRef h rfl
  · exact vx_isRef h rfl
/-- the same frame, seen from here: as if the method were called anew in this heap -/
theorem vx_rebase {T : State} (X : Stand p l e R s m args below meth c T locs cells slots) {R' : Room} (hf : R'.frames ≤ R.frames) (hl : R'.locals ≤ R.locals) (hc : cells + R'.cells ≤ R.cells) (hs : slots + R'.slots ≤ R.slots) :
    Stand p l e R' ((T.setVm s.vm).setFrames (.invoking m args :: below)) m args below meth c T [] 0 0 := by
  have htop : (T.setVm s.vm).topJava?.isSome := X.here.top
  have hF : ((T.setVm s.vm).setFrames (.invoking m args :: below)).frames = .invoking m args :: below := State.frames_setFrames _ (State.cur_lt_of_top htop)
  obtain ⟨g₀, hg0⟩ := Option.isSome_iff_exists.mp htop
  obtain ⟨r, hr⟩ := State.topJava?_eq_some.mp hg0
  have hl9 : e.platform.stackLimits (T.setVm s.vm).me = e.platform.stackLimits s.me := X.limits
  have hb9 : (T.setVm s.vm).me.stackBytes = s.me.stackBytes := X.bytes
  refine ⟨X.admits, X.cas, X.clock, hF, ?_, X.hears, X.method, X.code, X.here, X.tail, X.warmed, ?_, ?_, ?_⟩
  · have h := X.room
    have hU : ((T.setVm s.vm).setFrames (.invoking m args :: below)).localsInUse = s.localsInUse := by
      rw [State.localsInUse_invoking hF (meth := meth) (c := c) X.method X.code, State.localsInUse_invoking X.frames X.method X.code]
    simp only [State.hasRoom, Bool.and_eq_true, decide_eq_true_eq] at h ⊢
    obtain ⟨⟨⟨⟨h1, h2, h3, h4, h5, h6⟩, h7⟩, h8⟩, h9⟩ := h
    rw [X.frames, List.length_cons] at h2 h3
    have q1 := X.heapSize
    have q2 := X.used
    simp only [hF, hU, List.length_cons, State.stackLimits_setFrames, State.stackBytes_setFrames, hl9, hb9]
    refine ⟨⟨⟨⟨by omega, by omega, by omega, by omega, by omega, h6⟩, ?_⟩, ?_⟩, X.book⟩
    · show T.heap.size + R'.cells ≤ e.platform.maxCells
      omega
    · show T.slotsUsed + R'.slots ≤ e.platform.maxSlots
      omega
  · rw [State.stackLimits_setFrames]; rfl
  · rw [State.stackBytes_setFrames]; rfl
  · refine ⟨?_, Nat.le_refl _, Nat.le_refl _, ?_, ?_, fun a c9 h9 => ⟨c9, h9, rfl, rfl, fun _ _ => rfl⟩⟩
    · obtain ⟨t, ht, -⟩ := State.frames_cons hr
      show T.setVm s.vm = { ((T.setVm s.vm).setFrames (.invoking m args :: below)).setFrames (T.setVm s.vm).frames with heap := T.heap, slotsUsed := T.slotsUsed }
      rw [State.setFrames_setFrames, State.setFrames_self ht]
      rfl
    · show T.slotsUsed = T.slotsUsed + ((T.heap.toList.drop T.heap.size).map (·.slots.size)).sum
      rw [List.drop_eq_nil_of_le (Nat.le_of_eq Array.length_toList)]
      rfl
    · show ((T.heap.toList.drop T.heap.size).map (·.slots.size)).sum ≤ 0
      rw [List.drop_eq_nil_of_le (Nat.le_of_eq Array.length_toList)]
      exact Nat.le_refl _
/-- 'throw new E()': new; dup; invokespecial; athrow -/
theorem vx_throw0 {cc : ByteArray} {pc : Nat} (hexec : p.tables.exec = Jvm.exec) (hb : c.code = cc) (hl : l.stackTraces = false) {own cls : String} {names : List String} {ik ic mc ms : Nat} {A : Nat → Prop}
    (hown : s.vm.findClass own = some m.cls) (hcls : Bundle.fit cls = true) (hnames : ∀ n ∈ names, Bundle.fit n = true)
    (hk : (Cond.classLink own ik cls).before args s = true) (hini : (Cond.initialized cls).before args s = true) (hat : ∀ w ∈ vx_at0 own ic cls names, w.before args s = true)
    (hgood : ∀ w ∈ Cond.classLink own ik cls :: Cond.initialized cls :: vx_at0 own ic cls names, vx_ot w = true)
    (hU : vx_Zq Bundle.tN "UNASSIGNED_STACK" Bundle.steD A s s.heap) (hN : vx_Zq Bundle.tN "SUPPRESSED_SENTINEL" Bundle.listD A s s.heap) (hS : va_S A s.heap H locs) (hsize : ls.size = c.maxLocals)
    (d0 : decode cc pc = .ok (.new ik, 3)) (d3 : decode cc (pc + 3) = .ok (.dup, 1)) (d4 : decode cc (pc + 4) = .ok (.invokespecial ic, 3)) (d7 : decode cc (pc + 7) = .ok (.athrow, 1))
    (hout : ∀ x ∈ c.exceptionTable.toList, covers x (pc + 7) = false)
    (hRframes : names.length + 3 < R.frames) (hRlocals : (rest.map fun v => v.category).sum + (13 * (names.length + 1) + 42) ≤ R.locals) (hRcells : cells + 1 ≤ R.cells) (hRslots : slots + 6 ≤ R.slots) (hlocks : meth.locks = false)
    (hx : ∀ t : State, s.vm.Alike t.vm → H.size ≤ t.heap.size → (∀ q : Nat, q < H.size → t.heap[q]? = H[q]?) → XC cls s t)
    (hf : ∀ z ∈ locs, free z.base) (hc : cells + 1 ≤ mc) (hs : slots + 6 ≤ ms) :
    W p l e R s m args below meth c H locs cells slots (vx_MQ below Qc XC args s mc ms free) (F0 m pc ls rest) := by
  intro T hT X
  have htr : e.platform.stackTraces = false := (show e.platform.stackTraces = l.stackTraces by rw [X.admits.platform]).trans hl
  have Y := vx_rebase X (R' := { frames := R.frames, locals := R.locals, cells := 1, slots := 6 }) (Nat.le_refl _) (Nat.le_refl _) hRcells hRslots
  obtain ⟨s', hA⟩ : ∃ z, z = (T.setVm s.vm).setFrames (.invoking m args :: below) := ⟨_, rfl⟩
  rw [← hA] at Y
  have hvm : s'.vm = s.vm := by rw [hA]; rfl
  have hhp : s'.heap = H := by rw [hA]; exact hT
  have hW0 : s.WarmedH s'.vm := by rw [hvm]; exact State.WarmedH.refl s
  have hat' : ∀ w ∈ vx_at0 own ic cls names, w.before args s' = true := fun w hw => vx_ot_at hW0 hvm.symm (hgood w (List.mem_cons_of_mem _ (List.mem_cons_of_mem _ hw))) (hat w hw)
  have hk' : (Cond.classLink own ik cls).before args s' = true := vx_ot_at hW0 hvm.symm (hgood _ List.mem_cons_self) hk
  have hini' : (Cond.initialized cls).before args s' = true := vx_ot_at hW0 hvm.symm (hgood _ (List.mem_cons_of_mem _ List.mem_cons_self)) hini
  have hU' : vx_Zq Bundle.tN "UNASSIGNED_STACK" Bundle.steD A s' s'.heap := by rw [hhp]; exact vx_Zq.moved hW0.alike (hU.kept hS.2.1)
  have hN' : vx_Zq Bundle.tN "SUPPRESSED_SENTINEL" Bundle.listD A s' s'.heap := by rw [hhp]; exact vx_Zq.moved hW0.alike (hN.kept hS.2.1)
  have h : ∀ w ∈ Bundle.ownAtoms0 own ic cls names, w.before args s' = true := vx_own hat' (vx_isRefq hU'.1) (vx_isRefq hN'.1) hU'.2.word hN'.2.word
  have hown' : s'.vm.findClass own = some m.cls := by rw [hvm]; exact hown
  have hins : (Cond.instantiable cls 6).before args s' = true := h _ (by simp [Bundle.ownAtoms0])
  obtain ⟨vm₁, cX, kX, hfX, hkX, -, -, X₁, st1⟩ := Y.newCold hexec (own := own) (C := cls) (index := ik) (n := 6) hown' hk' hins hini'
    (g := F0 m pc ls rest) rfl (by rw [hb]; exact d0) (Nat.le_refl _) (Nat.le_refl _)
  generalize hT1 : (T.setVm vm₁).pushCell { cls := cX, slots := kX.instanceTypes.map defaultValue, vm := .none } = T1 at X₁ st1
  have hcat : (Value.ref T.heap.size).category = 1 := rfl
  have hcellA : T1.heap[T.heap.size]? = some (freshCell cX kX) := by rw [← hT1]; exact State.heap_pushCell_size _ _
  have d3' : decode c.code (pc + 3) = .ok (.dup, 1) := by rw [hb]; exact d3
  obtain ⟨U, hsteps, hrun, hend, hW, hsame, ce, hce, hO⟩ := X₁.ctorThrow0 hexec htr (own := own) (cls := cls) (names := names) (ic := ic) hown' hcls hnames h (fun x hx => nomatch hx) hfX hkX hcellA (by rw [hhp, hT]; exact Nat.le_refl _)
    (g := { method := m, pc := pc + 4, locals := ls, stack := .ref T.heap.size :: .ref T.heap.size :: rest, locked := none }) rfl hsize rfl rfl (rest := rest) rfl
    (by rw [hb]; exact d4) (by rw [hb]; exact d7) hout hRframes (by simp only [List.map_cons, List.sum_cons, hcat]; omega) hlocks
  obtain ⟨f1, f2⟩ := vx_frame hsame
  rw [hhp] at f1 f2
  have hWs : s.WarmedH U.vm := State.WarmedH.trans hW0 hW
  have hcl : s.vm.findClass cls = some ce.cls := by
    have h9 := hO.cls
    rw [hvm] at h9
    exact h9
  have hall : s.sameButNew ({ U with vm := s.vm } : State) locs mc ms := by
    subst hA
    obtain ⟨e1, e2⟩ := hsame
    rw [State.setFrames_setFrames] at e1
    have h2 : (T.setVm s.vm).sameButNew ({ U with vm := s.vm } : State) [] (0 + 1) (0 + 6) := ⟨e1, e2⟩
    have h3 := X.same.trans h2
    rw [List.append_nil] at h3
    exact h3.mono hc hs
  refine ⟨U, ?_, .threw T.heap.size, hrun, hend, Or.inr ⟨T.heap.size, rfl, cls, ce, locs, hx U hWs.alike f1 (fun q hq => f2 q hq (fun z hz => nomatch hz)), hce, hO.vm, hcl, hWs, hall, hf⟩⟩
  refine st1 _ ?_
  show Steps p.tables e below (T1.setTop { method := m, pc := pc + 3, locals := ls, stack := .ref T.heap.size :: rest, locked := none }) _
  jvm_step X₁.here [X₁.here.top, hexec, d3', Value.category]
  exact hsteps
/-- 'throw new E("text")': new; dup; ldc; invokespecial; athrow -/
theorem vx_throwS {cc : ByteArray} {pc : Nat} (hexec : p.tables.exec = Jvm.exec) (hb : c.code = cc) (hl : l.stackTraces = false) {own cls text : String} {names : List String} {ik is ic mc ms sa : Nat} {A : Nat → Prop}
    (hown : s.vm.findClass own = some m.cls) (hcls : Bundle.fit cls = true) (hnames : ∀ n ∈ names, Bundle.fit n = true)
    (hk : (Cond.classLink own ik cls).before args s = true) (hini : (Cond.initialized cls).before args s = true) (hstr : vk_R own is text sa s) (hat : ∀ w ∈ vx_atS own ic cls names, w.before args s = true)
    (hgood : ∀ w ∈ Cond.classLink own ik cls :: Cond.initialized cls :: vx_atS own ic cls names, vx_ot w = true)
    (hU : vx_Zq Bundle.tN "UNASSIGNED_STACK" Bundle.steD A s s.heap) (hN : vx_Zq Bundle.tN "SUPPRESSED_SENTINEL" Bundle.listD A s s.heap) (hS : va_S A s.heap H locs) (hsize : ls.size = c.maxLocals)
    (d0 : decode cc pc = .ok (.new ik, 3)) (d3 : decode cc (pc + 3) = .ok (.dup, 1)) (d4 : decode cc (pc + 4) = .ok (.ldc is, 2)) (d6 : decode cc (pc + 6) = .ok (.invokespecial ic, 3)) (d9 : decode cc (pc + 9) = .ok (.athrow, 1))
    (hout : ∀ x ∈ c.exceptionTable.toList, covers x (pc + 9) = false)
    (hRframes : names.length + 3 < R.frames) (hRlocals : (rest.map fun v => v.category).sum + (13 * (names.length + 1) + 43) ≤ R.locals) (hRcells : cells + 1 ≤ R.cells) (hRslots : slots + 6 ≤ R.slots) (hlocks : meth.locks = false)
    (hx : ∀ t : State, s.vm.Alike t.vm → H.size ≤ t.heap.size → (∀ q : Nat, q < H.size → t.heap[q]? = H[q]?) → XC cls s t)
    (hf : ∀ z ∈ locs, free z.base) (hc : cells + 1 ≤ mc) (hs : slots + 6 ≤ ms) :
    W p l e R s m args below meth c H locs cells slots (vx_MQ below Qc XC args s mc ms free) (F0 m pc ls rest) := by
  intro T hT X
  have htr : e.platform.stackTraces = false := (show e.platform.stackTraces = l.stackTraces by rw [X.admits.platform]).trans hl
  have Y := vx_rebase X (R' := { frames := R.frames, locals := R.locals, cells := 1, slots := 6 }) (Nat.le_refl _) (Nat.le_refl _) hRcells hRslots
  obtain ⟨s', hA⟩ : ∃ z, z = (T.setVm s.vm).setFrames (.invoking m args :: below) := ⟨_, rfl⟩
  rw [← hA] at Y
  have hvm : s'.vm = s.vm := by rw [hA]; rfl
  have hhp : s'.heap = H := by rw [hA]; exact hT
  have hW0 : s.WarmedH s'.vm := by rw [hvm]; exact State.WarmedH.refl s
  have hat' : ∀ w ∈ vx_atS own ic cls names, w.before args s' = true := fun w hw => vx_ot_at hW0 hvm.symm (hgood w (List.mem_cons_of_mem _ (List.mem_cons_of_mem _ hw))) (hat w hw)
  have hk' : (Cond.classLink own ik cls).before args s' = true := vx_ot_at hW0 hvm.symm (hgood _ List.mem_cons_self) hk
  have hini' : (Cond.initialized cls).before args s' = true := vx_ot_at hW0 hvm.symm (hgood _ (List.mem_cons_of_mem _ List.mem_cons_self)) hini
  have hU' : vx_Zq Bundle.tN "UNASSIGNED_STACK" Bundle.steD A s' s'.heap := by rw [hhp]; exact vx_Zq.moved hW0.alike (hU.kept hS.2.1)
  have hN' : vx_Zq Bundle.tN "SUPPRESSED_SENTINEL" Bundle.listD A s' s'.heap := by rw [hhp]; exact vx_Zq.moved hW0.alike (hN.kept hS.2.1)
  have h : ∀ w ∈ Bundle.ownAtoms own ic cls names, w.before args s' = true := vx_own hat' (vx_isRefq hU'.1) (vx_isRefq hN'.1) hU'.2.word hN'.2.word
  have hown' : s'.vm.findClass own = some m.cls := by rw [hvm]; exact hown
  have hins : (Cond.instantiable cls 6).before args s' = true := h _ (by simp [Bundle.ownAtoms])
  obtain ⟨vm₁, cX, kX, hfX, hkX, -, -, X₁, st1⟩ := Y.newCold hexec (own := own) (C := cls) (index := ik) (n := 6) hown' hk' hins hini'
    (g := F0 m pc ls rest) rfl (by rw [hb]; exact d0) (Nat.le_refl _) (Nat.le_refl _)
  generalize hT1 : (T.setVm vm₁).pushCell { cls := cX, slots := kX.instanceTypes.map defaultValue, vm := .none } = T1 at X₁ st1
  have hcat : (Value.ref T.heap.size).category = 1 := rfl
  have hcellA : T1.heap[T.heap.size]? = some (freshCell cX kX) := by rw [← hT1]; exact State.heap_pushCell_size _ _
  have d3' : decode c.code (pc + 3) = .ok (.dup, 1) := by rw [hb]; exact d3
  have d4' : decode c.code (pc + 4) = .ok (.ldc is, 2) := by rw [hb]; exact d4
  have hstr' : vk_R own is text sa s' := vk_R.warm hW0 hstr
  obtain ⟨U, hsteps, hrun, hend, hW, hsame, ce, hce, hO⟩ := X₁.ctorThrowS hexec htr (own := own) (cls := cls) (names := names) (ic := ic) hown' hcls hnames h (fun x hx => nomatch hx) hfX hkX hcellA (by rw [hhp, hT]; exact Nat.le_refl _) (msg := .ref sa) rfl
    (g := { method := m, pc := pc + 6, locals := ls, stack := .ref sa :: .ref T.heap.size :: .ref T.heap.size :: rest, locked := none }) rfl hsize rfl rfl (rest := rest) rfl
    (by rw [hb]; exact d6) (by rw [hb]; exact d9) hout hRframes (by simp only [List.map_cons, List.sum_cons, hcat]; omega) hlocks
  obtain ⟨f1, f2⟩ := vx_frame hsame
  rw [hhp] at f1 f2
  have hWs : s.WarmedH U.vm := State.WarmedH.trans hW0 hW
  have hcl : s.vm.findClass cls = some ce.cls := by
    have h9 := hO.cls
    rw [hvm] at h9
    exact h9
  have hall : s.sameButNew ({ U with vm := s.vm } : State) locs mc ms := by
    subst hA
    obtain ⟨e1, e2⟩ := hsame
    rw [State.setFrames_setFrames] at e1
    have h2 : (T.setVm s.vm).sameButNew ({ U with vm := s.vm } : State) [] (0 + 1) (0 + 6) := ⟨e1, e2⟩
    have h3 := X.same.trans h2
    rw [List.append_nil] at h3
    exact h3.mono hc hs
  refine ⟨U, ?_, .threw T.heap.size, hrun, hend, Or.inr ⟨T.heap.size, rfl, cls, ce, locs, hx U hWs.alike f1 (fun q hq => f2 q hq (fun z hz => nomatch hz)), hce, hO.vm, hcl, hWs, hall, hf⟩⟩
  refine st1 _ ?_
  show Steps p.tables e below (T1.setTop { method := m, pc := pc + 3, locals := ls, stack := .ref T.heap.size :: rest, locked := none }) _
  jvm_step X₁.here [X₁.here.top, hexec, d3', Value.category]
  exact X₁.ldcString hexec (own := own) (text := text) (index := is) (a := sa) hown' hstr'.1 hstr'.2
    (g := { method := m, pc := pc + 4, locals := ls, stack := .ref T.heap.size :: .ref T.heap.size :: rest, locked := none }) rfl d4' _ hsteps
/-- 'throw new E("text")', the text by a wide index -/
theorem vx_throwSW {cc : ByteArray} {pc : Nat} (hexec : p.tables.exec = Jvm.exec) (hb : c.code = cc) (hl : l.stackTraces = false) {own cls text : String} {names : List String} {ik is ic mc ms sa : Nat} {A : Nat → Prop}
    (hown : s.vm.findClass own = some m.cls) (hcls : Bundle.fit cls = true) (hnames : ∀ n ∈ names, Bundle.fit n = true)
    (hk : (Cond.classLink own ik cls).before args s = true) (hini : (Cond.initialized cls).before args s = true) (hstr : vk_R own is text sa s) (hat : ∀ w ∈ vx_atS own ic cls names, w.before args s = true)
    (hgood : ∀ w ∈ Cond.classLink own ik cls :: Cond.initialized cls :: vx_atS own ic cls names, vx_ot w = true)
    (hU : vx_Zq Bundle.tN "UNASSIGNED_STACK" Bundle.steD A s s.heap) (hN : vx_Zq Bundle.tN "SUPPRESSED_SENTINEL" Bundle.listD A s s.heap) (hS : va_S A s.heap H locs) (hsize : ls.size = c.maxLocals)
    (d0 : decode cc pc = .ok (.new ik, 3)) (d3 : decode cc (pc + 3) = .ok (.dup, 1)) (d4 : decode cc (pc + 4) = .ok (.ldc_w is, 3)) (d7 : decode cc (pc + 7) = .ok (.invokespecial ic, 3)) (d10 : decode cc (pc + 10) = .ok (.athrow, 1))
    (hout : ∀ x ∈ c.exceptionTable.toList, covers x (pc + 10) = false)
    (hRframes : names.length + 3 < R.frames) (hRlocals : (rest.map fun v => v.category).sum + (13 * (names.length + 1) + 43) ≤ R.locals) (hRcells : cells + 1 ≤ R.cells) (hRslots : slots + 6 ≤ R.slots) (hlocks : meth.locks = false)
    (hx : ∀ t : State, s.vm.Alike t.vm → H.size ≤ t.heap.size → (∀ q : Nat, q < H.size → t.heap[q]? = H[q]?) → XC cls s t)
    (hf : ∀ z ∈ locs, free z.base) (hc : cells + 1 ≤ mc) (hs : slots + 6 ≤ ms) :
    W p l e R s m args below meth c H locs cells slots (vx_MQ below Qc XC args s mc ms free) (F0 m pc ls rest) := by
  intro T hT X
  have htr : e.platform.stackTraces = false := (show e.platform.stackTraces = l.stackTraces by rw [X.admits.platform]).trans hl
  have Y := vx_rebase X (R' := { frames := R.frames, locals := R.locals, cells := 1, slots := 6 }) (Nat.le_refl _) (Nat.le_refl _) hRcells hRslots
  obtain ⟨s', hA⟩ : ∃ z, z = (T.setVm s.vm).setFrames (.invoking m args :: below) := ⟨_, rfl⟩
  rw [← hA] at Y
  have hvm : s'.vm = s.vm := by rw [hA]; rfl
  have hhp : s'.heap = H := by rw [hA]; exact hT
  have hW0 : s.WarmedH s'.vm := by rw [hvm]; exact State.WarmedH.refl s
  have hat' : ∀ w ∈ vx_atS own ic cls names, w.before args s' = true := fun w hw => vx_ot_at hW0 hvm.symm (hgood w (List.mem_cons_of_mem _ (List.mem_cons_of_mem _ hw))) (hat w hw)
  have hk' : (Cond.classLink own ik cls).before args s' = true := vx_ot_at hW0 hvm.symm (hgood _ List.mem_cons_self) hk
  have hini' : (Cond.initialized cls).before args s' = true := vx_ot_at hW0 hvm.symm (hgood _ (List.mem_cons_of_mem _ List.mem_cons_self)) hini
  have hU' : vx_Zq Bundle.tN "UNASSIGNED_STACK" Bundle.steD A s' s'.heap := by rw [hhp]; exact vx_Zq.moved hW0.alike (hU.kept hS.2.1)
  have hN' : vx_Zq Bundle.tN "SUPPRESSED_SENTINEL" Bundle.listD A s' s'.heap := by rw [hhp]; exact vx_Zq.moved hW0.alike (hN.kept hS.2.1)
  have h : ∀ w ∈ Bundle.ownAtoms own ic cls names, w.before args s' = true := vx_own hat' (vx_isRefq hU'.1) (vx_isRefq hN'.1) hU'.2.word hN'.2.word
  have hown' : s'.vm.findClass own = some m.cls := by rw [hvm]; exact hown
  have hins : (Cond.instantiable cls 6).before args s' = true := h _ (by simp [Bundle.ownAtoms])
  obtain ⟨vm₁, cX, kX, hfX, hkX, -, -, X₁, st1⟩ := Y.newCold hexec (own := own) (C := cls) (index := ik) (n := 6) hown' hk' hins hini'
    (g := F0 m pc ls rest) rfl (by rw [hb]; exact d0) (Nat.le_refl _) (Nat.le_refl _)
  generalize hT1 : (T.setVm vm₁).pushCell { cls := cX, slots := kX.instanceTypes.map defaultValue, vm := .none } = T1 at X₁ st1
  have hcat : (Value.ref T.heap.size).category = 1 := rfl
  have hcellA : T1.heap[T.heap.size]? = some (freshCell cX kX) := by rw [← hT1]; exact State.heap_pushCell_size _ _
  have d3' : decode c.code (pc + 3) = .ok (.dup, 1) := by rw [hb]; exact d3
  have d4' : decode c.code (pc + 4) = .ok (.ldc_w is, 3) := by rw [hb]; exact d4
  have hstr' : vk_R own is text sa s' := vk_R.warm hW0 hstr
  obtain ⟨U, hsteps, hrun, hend, hW, hsame, ce, hce, hO⟩ := X₁.ctorThrowS hexec htr (own := own) (cls := cls) (names := names) (ic := ic) hown' hcls hnames h (fun x hx => nomatch hx) hfX hkX hcellA (by rw [hhp, hT]; exact Nat.le_refl _) (msg := .ref sa) rfl
    (g := { method := m, pc := pc + 7, locals := ls, stack := .ref sa :: .ref T.heap.size :: .ref T.heap.size :: rest, locked := none }) rfl hsize rfl rfl (rest := rest) rfl
    (by rw [hb]; exact d7) (by rw [hb]; exact d10) hout hRframes (by simp only [List.map_cons, List.sum_cons, hcat]; omega) hlocks
  obtain ⟨f1, f2⟩ := vx_frame hsame
  rw [hhp] at f1 f2
  have hWs : s.WarmedH U.vm := State.WarmedH.trans hW0 hW
  have hcl : s.vm.findClass cls = some ce.cls := by
    have h9 := hO.cls
    rw [hvm] at h9
    exact h9
  have hall : s.sameButNew ({ U with vm := s.vm } : State) locs mc ms := by
    subst hA
    obtain ⟨e1, e2⟩ := hsame
    rw [State.setFrames_setFrames] at e1
    have h2 : (T.setVm s.vm).sameButNew ({ U with vm := s.vm } : State) [] (0 + 1) (0 + 6) := ⟨e1, e2⟩
    have h3 := X.same.trans h2
    rw [List.append_nil] at h3
    exact h3.mono hc hs
  refine ⟨U, ?_, .threw T.heap.size, hrun, hend, Or.inr ⟨T.heap.size, rfl, cls, ce, locs, hx U hWs.alike f1 (fun q hq => f2 q hq (fun z hz => nomatch hz)), hce, hO.vm, hcl, hWs, hall, hf⟩⟩
  refine st1 _ ?_
  show Steps p.tables e below (T1.setTop { method := m, pc := pc + 3, locals := ls, stack := .ref T.heap.size :: rest, locked := none }) _
  jvm_step X₁.here [X₁.here.top, hexec, d3', Value.category]
  exact X₁.ldcStringW hexec (own := own) (text := text) (index := is) (a := sa) hown' hstr'.1 hstr'.2
    (g := { method := m, pc := pc + 4, locals := ls, stack := .ref T.heap.size :: .ref T.heap.size :: rest, locked := none }) rfl d4' _ hsteps
end Ends
section Bodies
variable {l : Launch}
theorem vx_ofW {y : MethodName} {ws ws' : List Cond} {rm : Room} {Pc : Array Value → State → Prop} {Qc : Array Value → State → Outcome → State → Prop} {XC : String → State → State → Prop} {mc ms : Nat} {free : Addr → Prop} {cc : ByteArray} {maxL : Nat} {ret : Option FieldType}
    (hy : plainName y.cls = true) (hw : ws = Cond.code y cc maxL ret :: ws')
    (body : ∀ p e s m args below meth c s₁, BodyLoose p l y (headSpec ws rm) cc maxL ret e s m args below meth c s₁ → c.maxLocals = maxL → (∀ x ∈ c.exceptionTable.toList, False) → Pc args s →
      W p l e (headSpec ws rm).room s m args below meth c s.heap [] 0 0 (vx_MQ below Qc XC args s mc ms free) (entryFrame m args maxL)) : vx_Met l y ws rm Pc Qc XC mc ms free := by
  refine MetFree.of_bodyS (code := cc) (maxLocals := maxL) (ret := ret) hy ?_ ?_
  · intro args s m h hn
    obtain ⟨meth, c, h1, h2, h3, h4, h5, h6, -, -⟩ := Cond.code_spec hn (atoms_spec (ws := ws) h _ (by rw [hw]; exact List.mem_cons_self))
    exact ⟨meth, c, h1, h2, h3, h4, h5, h6⟩
  · intro p e s m args below meth c s₁ B hml hP _
    have hh0 : s₁.heap = s.heap := by rw [B.state]; rfl
    have ht : ∀ x ∈ c.exceptionTable.toList, False := by
      obtain ⟨meth9, c9, h1, h2, -, -, -, -, h7, -⟩ := Cond.code_spec B.named (atoms_spec (ws := ws) B.pre _ (by rw [hw]; exact List.mem_cons_self))
      cases Option.some.inj (h1.symm.trans B.method)
      cases Option.some.inj (h2.symm.trans (Stand.of_body B).code)
      intro x hx
      rw [Array.isEmpty_iff.mp h7] at hx
      cases hx
    obtain ⟨t, a1, o, b1, b2, b3⟩ := body p e s m args below meth c s₁ B hml ht hP s₁ hh0 (Stand.of_body B)
    exact ⟨t, o, a1, b1, b2, b3⟩
/-- the table of a body with handlers -/
theorem vx_table {p : Program} {x y : MethodName} {S : Spec} {cc bytes : ByteArray} {maxL maxL' : Nat} {ret ret' : Option FieldType} {e : Env} {s s₁ : State} {m : MethodId} {args : Array Value} {below : List Frame} {meth : Method} {c : Code} {hh : List (Nat × Nat × Nat × Nat)}
    (B : BodyLoose p l y S cc maxL ret e s m args below meth c s₁) (h : (Cond.codeWith y bytes maxL' ret' hh).before args s = true) : c.exceptionTable.toList = tableOf hh := by
  obtain ⟨m9, meth9, c9, hn9, h1, h2, -, -, h6, -⟩ := Cond.codeWith_spec h
  cases Option.some.inj (hn9.symm.trans B.named)
  cases Option.some.inj (h1.symm.trans B.method)
  cases Option.some.inj (h2.symm.trans (Stand.of_body B).code)
  rw [← h6, table_eq]
end Bodies
end VXA
/-! ===== END ===== -/
/-! ===== BEGIN a static call of a method with an exception table ===== -/
section VXS
variable {p : Program} {l : Launch} {e : Env} {R : Room} {s : State} {m : MethodId} {args : Array Value} {below : List Frame} {meth : Method} {c : Code} {T : State} {H : Heap} {locs : List Loc} {cells slots : Nat}
abbrev vx_CSW (R : Room) (s : State) (args : Array Value) (own : String) (index : Nat) (y : MethodName) (bytes : ByteArray) (maxL : Nat) (ret : Option FieldType) (hh : List (Nat × Nat × Nat × Nat)) (ws : List Cond) (rm : Room) (mc ms n : Nat) : Prop :=
  (rm.cells = mc ∧ rm.slots = ms ∧ rm.frames + 1 ≤ R.frames ∧ 8 + (maxL + 11) + rm.locals ≤ R.locals ∧ (∀ w ∈ ws, ∀ (a' : Array Value) (U : State), s.WarmedH U.vm → w.before a' U = true) ∧ Cond.codeWith y bytes maxL ret hh ∈ ws) ∧
  (Cond.codeWith y bytes maxL ret hh).before args s = true ∧ (Cond.initialized y.cls).before args s = true ∧ (y.cls ≠ "java/lang/invoke/MethodHandle" ∧ y.cls ≠ "java/lang/invoke/VarHandle") ∧
  (∀ sig, parseMethodDescriptor y.desc = some sig → n = sig.parameters.length) ∧ (Cond.methodLink own index y).before args s = true ∧ (Cond.static y).before args s = true
theorem vx_cwSW {own : String} {index maxL mc ms : Nat} {y : MethodName} {bytes : ByteArray} {ret : Option FieldType} {hh : List (Nat × Nat × Nat × Nat)} {Ts ws ws' : List Cond} {rm : Room} (n : Nat) (ht : ∀ w ∈ Ts, w.before args s = true) (hT : GoodIn Ts (va_wsS own index y ws)) (hw : ws = Cond.codeWith y bytes maxL ret hh :: ws') (hrc : rm.cells = mc) (hrs : rm.slots = ms)
    (hd : y.cls ≠ "java/lang/invoke/MethodHandle" ∧ y.cls ≠ "java/lang/invoke/VarHandle" ∧ (parseMethodDescriptor y.desc).map (fun d => d.parameters.length) = some n) (hR : rm.frames + 1 ≤ R.frames ∧ 8 + (maxL + 11) + rm.locals ≤ R.locals) :
    vx_CSW R s args own index y bytes maxL ret hh ws rm mc ms n := by
  have ok : ∀ w ∈ va_wsS own index y ws, w.before args s = true := fun w h => ht w (hT w h).1
  have hG : GoodIn Ts ws := fun w h => hT w (by unfold va_wsS; exact List.mem_append_right _ h)
  have hc : Cond.codeWith y bytes maxL ret hh ∈ ws := by rw [hw]; exact List.mem_cons_self
  refine ⟨⟨hrc, hrs, hR.1, hR.2, pay_in ht hG, hc⟩, ht _ (hG _ hc).1, ok _ (by simp [va_wsS]), ⟨hd.1, hd.2.1⟩, fun sig h => ?_, ok _ (by simp [va_wsS]), ok _ (by simp [va_wsS])⟩
  have h2 := hd.2.2
  rw [h] at h2
  exact (Option.some.inj h2).symm
theorem vx_callSW (X : Stand p l e R s m args below meth c T locs cells slots) (hexec : p.tables.exec = Jvm.exec) {own : String} {index : Nat} {y : MethodName} {bytes : ByteArray} {maxL : Nat} {ret : Option FieldType} {hh : List (Nat × Nat × Nat × Nat)}
    (hown : s.vm.findClass own = some m.cls) (hlink : (Cond.methodLink own index y).before args s = true) (hstat : (Cond.static y).before args s = true) (hinit : (Cond.initialized y.cls).before args s = true)
    (hcode : (Cond.codeWith y bytes maxL ret hh).before args s = true) (hy : y.cls ≠ "java/lang/invoke/MethodHandle" ∧ y.cls ≠ "java/lang/invoke/VarHandle")
    {W9 : Nat} {Pre : Pt → Array Value → Prop} {Post : Pt → Array Value → Option Value → Pt → Prop} (hK : Back l R p e below s args y 3 W9 Pre Post)
    {g : JFrame} (hg : g.method = m) (hsize : g.locals.size = c.maxLocals) {argsL rest : List Value} (hlen : ∀ sig, parseMethodDescriptor y.desc = some sig → argsL.length = sig.parameters.length)
    (hstack : g.stack = argsL.reverse ++ rest) (hW : 2 * g.monitorRoom + (rest.map fun v => v.category).sum ≤ W9) (hdg : decode c.code g.pc = .ok (.invokestatic index, 3))
    (hpre : ∀ vm₁, s.WarmedH vm₁ → Pre ⟨T.setVm vm₁, locs, cells, slots⟩ argsL.toArray) :
    ∃ (v : Option Value) (vm₁ : Vm) (B : Pt), s.WarmedH vm₁ ∧ Stand p l e R s m args below meth c B.U B.locs B.cells B.slots ∧ Post ⟨T.setVm vm₁, locs, cells, slots⟩ argsL.toArray v B ∧
      ∀ target, Steps p.tables e below (B.U.setTop { g with pc := g.pc + 3, stack := v.toList ++ rest }) target → Steps p.tables e below (T.setTop g) target := by
  obtain ⟨mk, methM, cM, hnamed, hmethM, -, -, -, -, -, -, hsigM⟩ := Cond.codeWith_spec hcode
  have hstatic : methM.isStatic = true := Cond.static_spec hnamed hmethM hstat
  obtain ⟨kP, hkP, -⟩ := className_of_methodNamed hnamed
  have hinitP : kP.init = .initialized := Cond.initialized_spec (findClass_of_methodNamed hnamed) hkP hinit
  obtain ⟨vm₁, X₁, hstep₁⟩ := X.invokestatic hexec hown hlink hnamed hmethM hstatic hkP hinitP hy (g := g) hg (argsL := argsL) (rest := rest) (hlen _ hsigM) hstack hdg
  obtain ⟨v, B, X', hpost, hsteps⟩ := hK m meth c ⟨T.setVm vm₁, locs, cells, slots⟩ { g with stack := rest } (.invokestatic index) mk argsL.toArray X₁ hg hsize hdg hW (X₁.named hnamed) (hpre vm₁ X₁.warmed)
  exact ⟨v, vm₁, B, X₁.warmed, X', hpost, fun target h => hstep₁ _ fun acts => by rw [doInvoke_state]; exact hsteps.trans h⟩
theorem vx_runSW {y : MethodName} {bytes cc : ByteArray} {maxL nL mc ms n index : Nat} {ret : Option FieldType} {hh : List (Nat × Nat × Nat × Nat)} {ws : List Cond} {rm : Room} {Pc : Array Value → State → Prop} {Qc : Array Value → State → Outcome → State → Prop} {free : Addr → Prop} {Ts : List Cond} {own : String} {As rest : List Value} {g : JFrame}
    (S : CallFix p m c cc nL s args Ts own) (hM : Met l y ws rm Pc Qc mc ms free) (cw : vx_CSW R s args own index y bytes maxL ret hh ws rm mc ms n) (hp : PreS s H Pc As)
    (hg : g.method = m) (hn : As.length = n) (hsize : g.locals.size = nL) (hstack : g.stack = As.reverse ++ rest) (hW : 2 * g.monitorRoom + (rest.map fun v => v.category).sum ≤ 8) (hdg : decode cc g.pc = .ok (.invokestatic index, 3)) (hf : cells + mc ≤ R.cells ∧ slots + ms ≤ R.slots) :
    va_Run p l e R s m args below meth c H locs cells slots mc ms g rest (Qc As.toArray) (free) := by
  obtain ⟨⟨hrc, hrs, hfr, hlo, hws, hcw⟩, hcode, hini, hy, hlen, hl, hstt⟩ := cw
  have hK : Back l R p e below s args y 3 8 (PreOf R mc ms Pc) (PostOf Qc mc ms free) := va_backW (hh := hh) (bytes := bytes) (maxL := maxL) (ret := ret) hM hp.1 hrc hrs hfr hlo hws hcw (fun a' U hW => word_at hW (Or.inl (by first | rfl | simp [Cond.onTables, Cond.keeps, Cond.steady])) hini)
  obtain ⟨hx, hb, hml, ho, -⟩ := S
  intro T hT X
  obtain ⟨v, vm₁, ⟨U', l2, c2, s2⟩, hW₁, X', ⟨g', mk, t, L, e1, e2, hq, h1, hL, h2, h3⟩, st⟩ := vx_callSW X hx (hh := hh) (bytes := bytes) (maxL := maxL) (ret := ret) ho hl hstt hini hcode hy hK hg (hsize.trans hml.symm) (argsL := As) (rest := rest) (fun sig h => hn.trans (hlen sig h)) hstack hW (by rw [hb]; exact hdg)
    (fun vm₁ hW₁ => ⟨hf.1, hf.2, hp.2 (T.setVm vm₁) hT hW₁⟩)
  dsimp only [Pt.U, Pt.locs, Pt.cells, Pt.slots] at X' e1 e2 h1 h2 h3 st
  subst h1; subst h2; subst h3
  exact ⟨v, (T.setVm vm₁).calling g' mk As.toArray, t, U', L, hT, X', hL, e1, e2, hq, st⟩
/-- not caught here, past rows that name other classes: it goes on to the caller -/
theorem vx_outP {p : Program} {l : Launch} {e : Env} {R : Room} {s : State} {m : MethodId} {args : Array Value} {below : List Frame} {meth : Method} {c : Code} {H : Heap} {locs : List Loc} {cells slots : Nat} {free : Addr → Prop} {ls : Array Slot} {rest : List Value} {Qc : Array Value → State → Outcome → State → Prop} {XC : String → State → State → Prop}
    {pc : Nat} {own E : String} {ce : Cell} {q : Addr} {mc ms : Nat} (hown : s.vm.findClass own = some m.cls) (hlocks : meth.locks = false)
    (hpass : ∀ z ∈ c.exceptionTable.toList, covers z pc = false ∨ (z.catchType ≠ 0 ∧ ∃ nm : String, (Cond.classLink own z.catchType nm).before args s = true ∧ va_Nc E nm s)) (hcell : H[q]? = some ce) (hv : ce.vm = .none) (hcl : s.vm.findClass E = some ce.cls)
    (hx : ∀ t : State, t.heap = H → s.vm.Alike t.vm → XC E s t) (hf : ∀ z ∈ locs, free z.base) (hc : cells ≤ mc) (hs : slots ≤ ms) :
    vx_W p l e R s m args below meth c H locs cells slots (vx_MQ below Qc XC args s mc ms free) (F0 m pc ls rest) q := by
  intro T hT X
  have hpl : e.platform.magicAccessors = ({} : Platform).magicAccessors := by rw [X.admits.platform]
  obtain ⟨vm', hW', X', st⟩ := X.outThrough hlocks q (g := F0 m pc ls rest) rfl rfl rfl (cell := ce) (by rw [hT]; exact hcell) (by rw [hv]; rfl)
    (by obtain ⟨k9, h9, -⟩ := Vm.findClass_spec hcl; exact ⟨k9, h9⟩) (fun z hz => by
      rcases hpass z hz with h | ⟨hz0, nm, hl1, hn1⟩
      · exact Or.inl h
      · obtain ⟨c6, hc6, hcl6⟩ := Cond.classLink_spec hown hl1 e.platform hpl
        obtain ⟨a8, b8, h1, h2, h3⟩ := hn1
        cases Option.some.inj (h1.symm.trans hcl)
        cases Option.some.inj (h2.symm.trans hc6)
        exact Or.inr ⟨hz0, _, hcl6, h3⟩)
  obtain ⟨g₀, hfr⟩ := X'.frames_eq
  have hcell9 : ((T.setVm vm').setFrames (.throwing q :: below)).heap[q]? = some ce := by
    show T.heap[q]? = some ce
    rw [hT]; exact hcell
  have hend : Ended ((T.setVm vm').setFrames (.throwing q :: below)) below (.threw q) := State.frames_setFrames _ (State.cur_lt_of_frames hfr)
  refine ⟨(T.setVm vm').setFrames (.throwing q :: below), ?_, .threw q, X'.here.running, hend, Or.inr ⟨q, rfl, E, ce, locs, hx _ hT (X'.ends _).1.alike, hcell9, hv, hcl, (X'.ends _).1, (X'.ends _).2.mono hc hs, hf⟩⟩
  rw [X.pushThrowing_eq]
  exact st
/-- a thing of a world lies in the heap -/
theorem vx_lt {D : va_G} {cl : List vw_C} {ws : va_W} {H1 : Heap} (h : va_P D cl ws H1) {k : Nat} {q : Nat × va_E} (hk : ws[k]? = some q) : q.1 < H1.size := (h k q hk).lt
end VXS
/-! ===== END ===== -/
/-! ===== BEGIN methods with a table of their own: called by a name, returning or throwing ===== -/
section VXH
/-! vx_backW, vx_callVX, vx_callSX, vx_callVW, vx_runVW, vx_runVX, vx_runSX, vx_ofWH follow the same proofs as their sisters above (Free/Laws.lean, Shelf42/LK1.lean); vx_outP calls Shelf42/NT130.lean (outThrough). -/
section
variable {l : Launch} {R : Room} {p : Program} {e : Env} {below : List Frame} {s : State} {sargs : Array Value} {y : MethodName} {len W9 : Nat}
theorem vx_backW {ws : List Cond} {rm : Room} {Pc : Array Value → State → Prop} {Qc : Array Value → State → Outcome → State → Prop} {XC : String → State → State → Prop} {mc ms : Nat} {free : Addr → Prop} {bytes : ByteArray} {maxL : Nat} {ret : Option FieldType} {hh : List (Nat × Nat × Nat × Nat)}
    (hM : vx_Met l y ws rm Pc Qc XC mc ms free) (hblind : FrameBlind Pc) (hrc : rm.cells = mc) (hrs : rm.slots = ms)
    (hframes : rm.frames + 1 ≤ R.frames) (hlocals : W9 + (maxL + 11) + rm.locals ≤ R.locals)
    (hws : ∀ w ∈ ws, ∀ a' U, s.WarmedH U.vm → w.before a' U = true) (hcode : Cond.codeWith y bytes maxL ret hh ∈ ws) (hinit : ∀ a' U, s.WarmedH U.vm → (Cond.initialized y.cls).before a' U = true) :
    vx_Back l R p e below s sargs y len W9 (PreOf R mc ms Pc) (PostOf Qc mc ms free) (vx_Post XC mc ms free) := by
  intro m meth c A g ig mk a X hg hsize hdg hW hn hp
  have h1 : (headSpec ws rm).pre.before a A.U = true := atoms_intro fun w hw => hws w hw _ _ X.warmed
  have h2 : (Cond.codeWith y bytes maxL ret hh).before a A.U = true := hws _ hcode _ _ X.warmed
  have h3 : (Cond.initialized y.cls).before a A.U = true := hinit _ _ X.warmed
  have h4 : A.cells + (headSpec ws rm).room.cells ≤ R.cells := by rw [show (headSpec ws rm).room.cells = mc from hrc]; exact hp.1
  have h5 : A.slots + (headSpec ws rm).room.slots ≤ R.slots := by rw [show (headSpec ws rm).room.slots = ms from hrs]; exact hp.2.1
  have hPc : Pc a (A.U.calling g mk a) := hblind _ _ _ _ hp.2.2
  obtain ⟨U, Ls, c0, s0⟩ := A
  dsimp only [Pt.U, Pt.locs, Pt.cells, Pt.slots] at h1 h2 h3 h4 h5 X hn hPc ⊢
  obtain ⟨m9, methY, cY, hn9, hmY, hcY, -, hlY, -⟩ := Cond.codeWith_spec h2
  cases Option.some.inj (hn9.symm.trans hn)
  obtain ⟨kY, hkY, -⟩ := className_of_methodNamed hn
  have hinitY : kY.init = .initialized := Cond.initialized_spec (findClass_of_methodNamed hn) hkY h3
  have h : At U g.method c below := by rw [hg]; exact X.here
  have hlocals9 : W9 + (maxL + 11) + (headSpec ws rm).room.locals ≤ R.locals := hlocals
  have happ : (headSpec ws rm).appliesLoose y e.platform (U.calling g mk a) = true :=
    Spec.appliesLoose_calling (g := g) h hdg hn hkY hinitY
      (X.room_calling (g := g) (R' := (headSpec ws rm).room) hsize hmY hcY hframes (by rw [hlY]; omega) h4 h5) h1
  obtain ⟨mid, hmid⟩ := h.above
  have hfr : (U.setTop g).frames = (.java g :: mid) ++ below := by rw [State.frames_setTop' g h.top, hmid]; rfl
  obtain ⟨o, s₂, hsteps, -, hend, hq⟩ := Steps.callFree hM p X.admits X.cas X.clock (acts := []) hfr happ hPc trivial
  have hq' : vx_Q Qc XC mc ms free a (U.calling g mk a) o s₂ := hq
  rw [State.frames_setTop' g h.top] at hend
  obtain ⟨g₀, hg0⟩ := Option.isSome_iff_exists.mp h.top
  obtain ⟨r, hr⟩ := State.topJava?_eq_some.mp hg0
  have hr' : (({ U with heap := s₂.heap, slotsUsed := s₂.slotsUsed } : State).setVm s₂.vm).frames = .java g₀ :: r := hr
  rcases hq' with ⟨hqc, L, hfe, hL⟩ | ⟨q, rfl, E, ce, L, hx, hce, hcv, hcl, hW₂, hsm, hL⟩
  · obtain ⟨⟨v, rfl⟩, hW₂, e2, q2, q3, q4, q5, q6⟩ := id hfe
    have e3 : s₂ = ({ (U.calling g mk a).setFrames s₂.frames with heap := s₂.heap, slotsUsed := s₂.slotsUsed } : State).setVm s₂.vm := by
      have : s₂ = ({ s₂ with vm := (U.calling g mk a).vm } : State).setVm s₂.vm := rfl
      rw [e2] at this
      exact this
    obtain ⟨c₂, i₂, len₂, hc₂, hd₂, hf₂⟩ := hend
    have hW' : U.WarmedH s₂.vm := hW₂
    have hcc : c₂ = c := by
      have h1 : s₂.code? g.method = U.code? g.method := by
        rw [State.code?_eq, State.code?_eq, hW'.alike.method?]
      exact Option.some.inj (hc₂.symm.trans (h1.trans h.code))
    subst hcc
    have hlen : len₂ = len := by rw [hdg] at hd₂; cases hd₂; rfl
    subst hlen
    have hs₂ : s₂ = (({ U with heap := s₂.heap, slotsUsed := s₂.slotsUsed } : State).setVm s₂.vm).setTop { g with pc := g.pc + len₂, stack := v.toList ++ g.stack } := by
      refine e3.trans ?_
      rw [hf₂, State.calling_eq h.top, State.setFrames_setFrames, State.setTop_of_frames _ hr', hr]
      rfl
    have hsame : U.sameButNew ({ U with heap := s₂.heap, slotsUsed := s₂.slotsUsed } : State) L mc ms := by
      refine ⟨?_, q2, q3, q4, q5, q6⟩
      obtain ⟨t, ht, -⟩ := State.frames_cons hr
      show ({ U with heap := s₂.heap, slotsUsed := s₂.slotsUsed } : State) = { U.setFrames U.frames with heap := s₂.heap, slotsUsed := s₂.slotsUsed }
      rw [State.setFrames_self ht]
    subst hg
    refine Or.inl ⟨v, ⟨(({ U with heap := s₂.heap, slotsUsed := s₂.slotsUsed } : State).setVm s₂.vm), Ls ++ L, c0 + mc, s0 + ms⟩,
      ⟨X.admits, X.cas, X.clock, X.frames, X.room, X.hears, X.method, X.code, (X.here.setHeapUsed s₂.heap s₂.slotsUsed).setVm hW'.alike, X.tail, State.WarmedH.trans X.warmed hW', X.limits, X.bytes, X.same.trans (hsame.setVm s.vm)⟩,
      ⟨g, mk, s₂, L, rfl, rfl, hqc, rfl, hL, rfl, rfl⟩, ?_⟩
    show Steps p.tables e below _ ((({ U with heap := s₂.heap, slotsUsed := s₂.slotsUsed } : State).setVm s₂.vm).setTop { g with pc := g.pc + len₂, stack := v.toList ++ g.stack })
    rw [← hs₂]
    exact hsteps
  · obtain ⟨e2, q2, q3, q4, q5, q6⟩ := id hsm
    have e3 : s₂ = ({ (U.calling g mk a).setFrames s₂.frames with heap := s₂.heap, slotsUsed := s₂.slotsUsed } : State).setVm s₂.vm := by
      have : s₂ = ({ s₂ with vm := (U.calling g mk a).vm } : State).setVm s₂.vm := rfl
      rw [e2] at this
      exact this
    have hf₂ : s₂.frames = .throwing q :: .java g :: U.frames.tail := hend
    have hW' : U.WarmedH s₂.vm := hW₂
    have hs₂ : s₂ = ((({ U with heap := s₂.heap, slotsUsed := s₂.slotsUsed } : State).setVm s₂.vm).setTop g).pushFrame (.throwing q) := by
      refine e3.trans ?_
      rw [hf₂, State.calling_eq h.top, State.setFrames_setFrames, State.pushFrame, State.frames_setTop _ hr', State.setTop_of_frames _ hr', State.setFrames_setFrames, hr]
      rfl
    have hsame : U.sameButNew ({ U with heap := s₂.heap, slotsUsed := s₂.slotsUsed } : State) L mc ms := by
      refine ⟨?_, q2, q3, q4, q5, q6⟩
      obtain ⟨t, ht, -⟩ := State.frames_cons hr
      show ({ U with heap := s₂.heap, slotsUsed := s₂.slotsUsed } : State) = { U.setFrames U.frames with heap := s₂.heap, slotsUsed := s₂.slotsUsed }
      rw [State.setFrames_self ht]
    subst hg
    refine Or.inr ⟨q, ⟨(({ U with heap := s₂.heap, slotsUsed := s₂.slotsUsed } : State).setVm s₂.vm), Ls ++ L, c0 + mc, s0 + ms⟩,
      ⟨X.admits, X.cas, X.clock, X.frames, X.room, X.hears, X.method, X.code, (X.here.setHeapUsed s₂.heap s₂.slotsUsed).setVm hW'.alike, X.tail, State.WarmedH.trans X.warmed hW', X.limits, X.bytes, X.same.trans (hsame.setVm s.vm)⟩,
      ⟨g, mk, s₂, L, E, ce, rfl, rfl, hx, hce, hcv, hcl, rfl, hL, rfl, rfl⟩, ?_⟩
    show Steps p.tables e below _ (((({ U with heap := s₂.heap, slotsUsed := s₂.slotsUsed } : State).setVm s₂.vm).setTop g).pushFrame (.throwing q))
    rw [← hs₂]
    exact hsteps
end
variable {p : Program} {l : Launch} {e : Env} {R : Room} {s : State} {m : MethodId} {args : Array Value} {below : List Frame} {meth : Method} {c : Code} {T : State} {H : Heap} {locs : List Loc} {cells slots : Nat}
theorem vx_callVX (X : Stand p l e R s m args below meth c T locs cells slots) (hexec : p.tables.exec = Jvm.exec) {own C : String} {index : Nat} {y : MethodName} {bytes : ByteArray} {maxL : Nat} {ret : Option FieldType} {hh : List (Nat × Nat × Nat × Nat)}
    (hown : s.vm.findClass own = some m.cls) (hlink : (Cond.methodLink own index y).before args s = true) (hinst : (Cond.instanceMethod y).before args s = true) (hsel : (Cond.selects C y y).before args s = true)
    (hcode : (Cond.codeWith y bytes maxL ret hh).before args s = true) (hy : y.cls ≠ "java/lang/invoke/MethodHandle" ∧ y.cls ≠ "java/lang/invoke/VarHandle")
    {W9 : Nat} {Pre : Pt → Array Value → Prop} {Post : Pt → Array Value → Option Value → Pt → Prop} {PostX : Pt → Array Value → Addr → Pt → Prop} (hK : vx_Back l R p e below s args y 3 W9 Pre Post PostX)
    {b : Addr} {cellB : Cell} (hcell : T.heap[b]? = some cellB) (hobj : cellB.vm.isStatics = false) (hcls : s.vm.findClass C = some cellB.cls)
    {g : JFrame} (hg : g.method = m) (hsize : g.locals.size = c.maxLocals) {argsL rest : List Value} (hlen : ∀ sig, parseMethodDescriptor y.desc = some sig → argsL.length = sig.parameters.length)
    (hstack : g.stack = argsL.reverse ++ .ref b :: rest) (hW : 2 * g.monitorRoom + (rest.map fun v => v.category).sum ≤ W9) (hdg : decode c.code g.pc = .ok (.invokevirtual index, 3))
    (hpre : ∀ vm₁, s.WarmedH vm₁ → Pre ⟨T.setVm vm₁, locs, cells, slots⟩ (Value.ref b :: argsL).toArray) :
    (∃ (v : Option Value) (vm₁ : Vm) (B : Pt), s.WarmedH vm₁ ∧ Stand p l e R s m args below meth c B.U B.locs B.cells B.slots ∧ Post ⟨T.setVm vm₁, locs, cells, slots⟩ (Value.ref b :: argsL).toArray v B ∧
      ∀ target, Steps p.tables e below (B.U.setTop { g with pc := g.pc + 3, stack := v.toList ++ rest }) target → Steps p.tables e below (T.setTop g) target) ∨
    (∃ (q : Addr) (vm₁ : Vm) (B : Pt), s.WarmedH vm₁ ∧ Stand p l e R s m args below meth c B.U B.locs B.cells B.slots ∧ PostX ⟨T.setVm vm₁, locs, cells, slots⟩ (Value.ref b :: argsL).toArray q B ∧
      Steps p.tables e below (T.setTop g) ((B.U.setTop { g with stack := rest }).pushFrame (.throwing q))) := by
  obtain ⟨mk, methM, hnamed, hmethM, hstM, habM⟩ := Cond.instanceMethod_spec hinst
  obtain ⟨m8, methM', cM, hn8, hmethM', -, -, -, -, -, -, hsigM⟩ := Cond.codeWith_spec hcode
  cases Option.some.inj (hn8.symm.trans hnamed)
  cases hmethM.symm.trans hmethM'
  obtain ⟨c2, r2, m2, q1, q2, q3, q4, kP, hkP, hkPi⟩ := Cond.selects_spec hsel
  cases hcls.symm.trans q1
  cases (State.methodFound?_of_named hnamed hy).symm.trans q2
  cases hnamed.symm.trans q3
  have hselP : selectMethod e.platform s.vm cellB.cls mk = .method mk := by rw [Launch.admits_selectMethod X.admits]; exact q4
  obtain ⟨vm₁, X₁, hstep₁⟩ := X.invokevirtual hexec hown hlink hnamed hmethM hstM hkP hkPi hy (a := b) (cell := cellB) hcell
    (fun z h => by rw [h] at hobj; cases hobj) hselP hmethM habM hkP hkPi (g := g) hg (argsL := argsL) (rest := rest) (hlen _ hsigM) hstack hdg
  rcases hK m meth c ⟨T.setVm vm₁, locs, cells, slots⟩ { g with stack := rest } (.invokevirtual index) mk (Value.ref b :: argsL).toArray X₁ hg hsize hdg hW (X₁.named hnamed) (hpre vm₁ X₁.warmed) with ⟨v, B, X', hpost, hsteps⟩ | ⟨q, B, X', hpost, hsteps⟩
  · exact Or.inl ⟨v, vm₁, B, X₁.warmed, X', hpost, fun target h => hstep₁ _ fun acts => by rw [doInvoke_state]; exact hsteps.trans h⟩
  · exact Or.inr ⟨q, vm₁, B, X₁.warmed, X', hpost, hstep₁ _ fun acts => by rw [doInvoke_state]; exact hsteps⟩
theorem vx_callSX (X : Stand p l e R s m args below meth c T locs cells slots) (hexec : p.tables.exec = Jvm.exec) {own : String} {index : Nat} {y : MethodName} {bytes : ByteArray} {maxL : Nat} {ret : Option FieldType} {hh : List (Nat × Nat × Nat × Nat)}
    (hown : s.vm.findClass own = some m.cls) (hlink : (Cond.methodLink own index y).before args s = true) (hstat : (Cond.static y).before args s = true) (hinit : (Cond.initialized y.cls).before args s = true)
    (hcode : (Cond.codeWith y bytes maxL ret hh).before args s = true) (hy : y.cls ≠ "java/lang/invoke/MethodHandle" ∧ y.cls ≠ "java/lang/invoke/VarHandle")
    {W9 : Nat} {Pre : Pt → Array Value → Prop} {Post : Pt → Array Value → Option Value → Pt → Prop} {PostX : Pt → Array Value → Addr → Pt → Prop} (hK : vx_Back l R p e below s args y 3 W9 Pre Post PostX)
    {g : JFrame} (hg : g.method = m) (hsize : g.locals.size = c.maxLocals) {argsL rest : List Value} (hlen : ∀ sig, parseMethodDescriptor y.desc = some sig → argsL.length = sig.parameters.length)
    (hstack : g.stack = argsL.reverse ++ rest) (hW : 2 * g.monitorRoom + (rest.map fun v => v.category).sum ≤ W9) (hdg : decode c.code g.pc = .ok (.invokestatic index, 3))
    (hpre : ∀ vm₁, s.WarmedH vm₁ → Pre ⟨T.setVm vm₁, locs, cells, slots⟩ argsL.toArray) :
    (∃ (v : Option Value) (vm₁ : Vm) (B : Pt), s.WarmedH vm₁ ∧ Stand p l e R s m args below meth c B.U B.locs B.cells B.slots ∧ Post ⟨T.setVm vm₁, locs, cells, slots⟩ argsL.toArray v B ∧
      ∀ target, Steps p.tables e below (B.U.setTop { g with pc := g.pc + 3, stack := v.toList ++ rest }) target → Steps p.tables e below (T.setTop g) target) ∨
    (∃ (q : Addr) (vm₁ : Vm) (B : Pt), s.WarmedH vm₁ ∧ Stand p l e R s m args below meth c B.U B.locs B.cells B.slots ∧ PostX ⟨T.setVm vm₁, locs, cells, slots⟩ argsL.toArray q B ∧
      Steps p.tables e below (T.setTop g) ((B.U.setTop { g with stack := rest }).pushFrame (.throwing q))) := by
  obtain ⟨mk, methM, cM, hnamed, hmethM, -, -, -, -, -, -, hsigM⟩ := Cond.codeWith_spec hcode
  have hstatic : methM.isStatic = true := Cond.static_spec hnamed hmethM hstat
  obtain ⟨kP, hkP, -⟩ := className_of_methodNamed hnamed
  have hinitP : kP.init = .initialized := Cond.initialized_spec (findClass_of_methodNamed hnamed) hkP hinit
  obtain ⟨vm₁, X₁, hstep₁⟩ := X.invokestatic hexec hown hlink hnamed hmethM hstatic hkP hinitP hy (g := g) hg (argsL := argsL) (rest := rest) (hlen _ hsigM) hstack hdg
  rcases hK m meth c ⟨T.setVm vm₁, locs, cells, slots⟩ { g with stack := rest } (.invokestatic index) mk argsL.toArray X₁ hg hsize hdg hW (X₁.named hnamed) (hpre vm₁ X₁.warmed) with ⟨v, B, X', hpost, hsteps⟩ | ⟨q, B, X', hpost, hsteps⟩
  · exact Or.inl ⟨v, vm₁, B, X₁.warmed, X', hpost, fun target h => hstep₁ _ fun acts => by rw [doInvoke_state]; exact hsteps.trans h⟩
  · exact Or.inr ⟨q, vm₁, B, X₁.warmed, X', hpost, hstep₁ _ fun acts => by rw [doInvoke_state]; exact hsteps⟩
theorem vx_callVW (X : Stand p l e R s m args below meth c T locs cells slots) (hexec : p.tables.exec = Jvm.exec) {own C : String} {index : Nat} {y : MethodName} {bytes : ByteArray} {maxL : Nat} {ret : Option FieldType} {hh : List (Nat × Nat × Nat × Nat)}
    (hown : s.vm.findClass own = some m.cls) (hlink : (Cond.methodLink own index y).before args s = true) (hinst : (Cond.instanceMethod y).before args s = true) (hsel : (Cond.selects C y y).before args s = true)
    (hcode : (Cond.codeWith y bytes maxL ret hh).before args s = true) (hy : y.cls ≠ "java/lang/invoke/MethodHandle" ∧ y.cls ≠ "java/lang/invoke/VarHandle")
    {W9 : Nat} {Pre : Pt → Array Value → Prop} {Post : Pt → Array Value → Option Value → Pt → Prop} (hK : Back l R p e below s args y 3 W9 Pre Post)
    {b : Addr} {cellB : Cell} (hcell : T.heap[b]? = some cellB) (hobj : cellB.vm.isStatics = false) (hcls : s.vm.findClass C = some cellB.cls)
    {g : JFrame} (hg : g.method = m) (hsize : g.locals.size = c.maxLocals) {argsL rest : List Value} (hlen : ∀ sig, parseMethodDescriptor y.desc = some sig → argsL.length = sig.parameters.length)
    (hstack : g.stack = argsL.reverse ++ .ref b :: rest) (hW : 2 * g.monitorRoom + (rest.map fun v => v.category).sum ≤ W9) (hdg : decode c.code g.pc = .ok (.invokevirtual index, 3))
    (hpre : ∀ vm₁, s.WarmedH vm₁ → Pre ⟨T.setVm vm₁, locs, cells, slots⟩ (Value.ref b :: argsL).toArray) :
    ∃ (v : Option Value) (vm₁ : Vm) (B : Pt), s.WarmedH vm₁ ∧ Stand p l e R s m args below meth c B.U B.locs B.cells B.slots ∧ Post ⟨T.setVm vm₁, locs, cells, slots⟩ (Value.ref b :: argsL).toArray v B ∧
      ∀ target, Steps p.tables e below (B.U.setTop { g with pc := g.pc + 3, stack := v.toList ++ rest }) target → Steps p.tables e below (T.setTop g) target := by
  obtain ⟨mk, methM, hnamed, hmethM, hstM, habM⟩ := Cond.instanceMethod_spec hinst
  obtain ⟨m8, methM', cM, hn8, hmethM', -, -, -, -, -, -, hsigM⟩ := Cond.codeWith_spec hcode
  cases Option.some.inj (hn8.symm.trans hnamed)
  cases hmethM.symm.trans hmethM'
  obtain ⟨c2, r2, m2, q1, q2, q3, q4, kP, hkP, hkPi⟩ := Cond.selects_spec hsel
  cases hcls.symm.trans q1
  cases (State.methodFound?_of_named hnamed hy).symm.trans q2
  cases hnamed.symm.trans q3
  have hselP : selectMethod e.platform s.vm cellB.cls mk = .method mk := by rw [Launch.admits_selectMethod X.admits]; exact q4
  obtain ⟨vm₁, X₁, hstep₁⟩ := X.invokevirtual hexec hown hlink hnamed hmethM hstM hkP hkPi hy (a := b) (cell := cellB) hcell
    (fun z h => by rw [h] at hobj; cases hobj) hselP hmethM habM hkP hkPi (g := g) hg (argsL := argsL) (rest := rest) (hlen _ hsigM) hstack hdg
  obtain ⟨v, B, X', hpost, hsteps⟩ := hK m meth c ⟨T.setVm vm₁, locs, cells, slots⟩ { g with stack := rest } (.invokevirtual index) mk (Value.ref b :: argsL).toArray X₁ hg hsize hdg hW (X₁.named hnamed) (hpre vm₁ X₁.warmed)
  exact ⟨v, vm₁, B, X₁.warmed, X', hpost, fun target h => hstep₁ _ fun acts => by rw [doInvoke_state]; exact hsteps.trans h⟩
abbrev vx_CVW (R : Room) (s : State) (args : Array Value) (own C : String) (index : Nat) (y : MethodName) (bytes : ByteArray) (maxL : Nat) (ret : Option FieldType) (hh : List (Nat × Nat × Nat × Nat)) (ws : List Cond) (rm : Room) (mc ms n : Nat) : Prop :=
  (rm.cells = mc ∧ rm.slots = ms ∧ rm.frames + 1 ≤ R.frames ∧ 8 + (maxL + 11) + rm.locals ≤ R.locals ∧ (∀ w ∈ ws, ∀ (a' : Array Value) (U : State), s.WarmedH U.vm → w.before a' U = true) ∧ Cond.codeWith y bytes maxL ret hh ∈ ws) ∧
  (Cond.codeWith y bytes maxL ret hh).before args s = true ∧ (Cond.initialized y.cls).before args s = true ∧ (y.cls ≠ "java/lang/invoke/MethodHandle" ∧ y.cls ≠ "java/lang/invoke/VarHandle") ∧
  (∀ sig, parseMethodDescriptor y.desc = some sig → n = sig.parameters.length) ∧ (Cond.methodLink own index y).before args s = true ∧ (Cond.instanceMethod y).before args s = true ∧ (Cond.selects C y y).before args s = true
theorem vx_cwVW {own C : String} {index maxL mc ms : Nat} {y : MethodName} {bytes : ByteArray} {ret : Option FieldType} {hh : List (Nat × Nat × Nat × Nat)} {Ts ws ws' : List Cond} {rm : Room} (n : Nat) (ht : ∀ w ∈ Ts, w.before args s = true) (hT : GoodIn Ts (wsV own index C y ws)) (hw : ws = Cond.codeWith y bytes maxL ret hh :: ws') (hrc : rm.cells = mc) (hrs : rm.slots = ms)
    (hd : y.cls = C ∧ y.cls ≠ "java/lang/invoke/MethodHandle" ∧ y.cls ≠ "java/lang/invoke/VarHandle" ∧ (parseMethodDescriptor y.desc).map (fun d => d.parameters.length) = some n) (hR : rm.frames + 1 ≤ R.frames ∧ 8 + (maxL + 11) + rm.locals ≤ R.locals) :
    vx_CVW R s args own C index y bytes maxL ret hh ws rm mc ms n := by
  obtain ⟨hC, hd⟩ := hd
  subst hC
  have ok : ∀ w ∈ wsV own index y.cls y ws, w.before args s = true := fun w h => ht w (hT w h).1
  have hG : GoodIn Ts ws := fun w h => hT w (by unfold wsV; exact List.mem_append_right _ h)
  have hc : Cond.codeWith y bytes maxL ret hh ∈ ws := by rw [hw]; exact List.mem_cons_self
  refine ⟨⟨hrc, hrs, hR.1, hR.2, pay_in ht hG, hc⟩, ht _ (hG _ hc).1, ok _ (by simp [wsV]), ⟨hd.1, hd.2.1⟩, fun sig h => ?_, ok _ (by simp [wsV]), ok _ (by simp [wsV]), ok _ (by simp [wsV])⟩
  have h2 := hd.2.2
  rw [h] at h2
  exact (Option.some.inj h2).symm
theorem vx_runVW {y : MethodName} {bytes cc : ByteArray} {maxL nL mc ms n index : Nat} {ret : Option FieldType} {hh : List (Nat × Nat × Nat × Nat)} {ws : List Cond} {rm : Room} {Pc : Array Value → State → Prop} {Qc : Array Value → State → Outcome → State → Prop} {free : Addr → Prop} {Ts : List Cond} {own C : String} {b : Addr} {As rest : List Value} {g : JFrame}
    (S : CallFix p m c cc nL s args Ts own) (hM : Met l y ws rm Pc Qc mc ms free) (cw : vx_CVW R s args own C index y bytes maxL ret hh ws rm mc ms n) (hp : PreV s H C b Pc As)
    (hg : g.method = m) (hn : As.length = n) (hsize : g.locals.size = nL) (hstack : g.stack = As.reverse ++ .ref b :: rest) (hW : 2 * g.monitorRoom + (rest.map fun v => v.category).sum ≤ 8) (hdg : decode cc g.pc = .ok (.invokevirtual index, 3)) (hf : cells + mc ≤ R.cells ∧ slots + ms ≤ R.slots) :
    va_Run p l e R s m args below meth c H locs cells slots mc ms g rest (Qc (Value.ref b :: As).toArray) free := by
  obtain ⟨⟨hrc, hrs, hfr, hlo, hws, hcw⟩, hcode, hini, hy, hlen, hl, hin, hse⟩ := cw
  have hK : Back l R p e below s args y 3 8 (PreOf R mc ms Pc) (PostOf Qc mc ms free) := va_backW (hh := hh) (bytes := bytes) (maxL := maxL) (ret := ret) hM hp.1 hrc hrs hfr hlo hws hcw (fun a' U hW => word_at hW (Or.inl (by first | rfl | simp [Cond.onTables, Cond.keeps, Cond.steady])) hini)
  obtain ⟨hx, hb, hml, ho, -⟩ := S
  obtain ⟨-, ⟨cellB, hcB, hoB, hclB⟩, hPc⟩ := hp
  intro T hT X
  obtain ⟨v, vm₁, ⟨U', l2, c2, s2⟩, hW₁, X', ⟨g', mk, t, L, e1, e2, hq, h1, hL, h2, h3⟩, st⟩ := vx_callVW X hx (C := C) (hh := hh) (bytes := bytes) (maxL := maxL) (ret := ret) ho hl hin hse hcode hy hK (by rw [hT]; exact hcB) hoB hclB hg (hsize.trans hml.symm) (argsL := As) (rest := rest) (fun sig h => hn.trans (hlen sig h)) hstack hW (by rw [hb]; exact hdg)
    (fun vm₁ hW₁ => ⟨hf.1, hf.2, hPc (T.setVm vm₁) hT hW₁⟩)
  dsimp only [Pt.U, Pt.locs, Pt.cells, Pt.slots] at X' e1 e2 h1 h2 h3 st
  subst h1; subst h2; subst h3
  exact ⟨v, (T.setVm vm₁).calling g' mk (Value.ref b :: As).toArray, t, U', L, hT, X', hL, e1, e2, hq, st⟩
section
variable {y : MethodName} {bytes cc : ByteArray} {maxL nL mc ms n index : Nat} {ret : Option FieldType} {ws : List Cond} {rm : Room} {Pc : Array Value → State → Prop} {Qc : Array Value → State → Outcome → State → Prop} {XC : String → State → State → Prop} {free : Addr → Prop} {Ts : List Cond} {own C : String} {b : Addr} {As rest : List Value} {g : JFrame}
theorem vx_runVX {hh : List (Nat × Nat × Nat × Nat)} (S : CallFix p m c cc nL s args Ts own) (hM : vx_Met l y ws rm Pc Qc XC mc ms free) (cw : vx_CVW R s args own C index y bytes maxL ret hh ws rm mc ms n) (hp : PreV s H C b Pc As)
    (hg : g.method = m) (hn : As.length = n) (hsize : g.locals.size = nL) (hstack : g.stack = As.reverse ++ .ref b :: rest) (hW : 2 * g.monitorRoom + (rest.map fun v => v.category).sum ≤ 8) (hdg : decode cc g.pc = .ok (.invokevirtual index, 3)) (hf : cells + mc ≤ R.cells ∧ slots + ms ≤ R.slots) :
    vx_Run p l e R s m args below meth c H locs cells slots mc ms g rest (Qc (Value.ref b :: As).toArray) XC free := by
  obtain ⟨⟨hrc, hrs, hfr, hlo, hws, hcw⟩, hcode, hini, hy, hlen, hl, hin, hse⟩ := cw
  have hK : vx_Back l R p e below s args y 3 8 (PreOf R mc ms Pc) (PostOf Qc mc ms free) (vx_Post XC mc ms free) := vx_backW (hh := hh) (bytes := bytes) (maxL := maxL) (ret := ret) hM hp.1 hrc hrs hfr hlo hws hcw (fun a' U hW => word_at hW (Or.inl (by first | rfl | simp [Cond.onTables, Cond.keeps, Cond.steady])) hini)
  obtain ⟨hx, hb, hml, ho, -⟩ := S
  obtain ⟨-, ⟨cellB, hcB, hoB, hclB⟩, hPc⟩ := hp
  intro T hT X
  rcases vx_callVX X hx (C := C) (hh := hh) (bytes := bytes) (maxL := maxL) (ret := ret) ho hl hin hse hcode hy hK (by rw [hT]; exact hcB) hoB hclB hg (hsize.trans hml.symm) (argsL := As) (rest := rest) (fun sig h => hn.trans (hlen sig h)) hstack hW (by rw [hb]; exact hdg)
    (fun vm₁ hW₁ => ⟨hf.1, hf.2, hPc (T.setVm vm₁) hT hW₁⟩) with ⟨v, vm₁, ⟨U', l2, c2, s2⟩, hW₁, X', ⟨g', mk, t, L, e1, e2, hq, h1, hL, h2, h3⟩, st⟩ | ⟨q, vm₁, ⟨U', l2, c2, s2⟩, hW₁, X', ⟨g', mk, t, L, E, ce, e1, e2, hq, hce, hcv, hcl, h1, hL, h2, h3⟩, st⟩
  · dsimp only [Pt.U, Pt.locs, Pt.cells, Pt.slots] at X' e1 e2 h1 h2 h3 st
    subst h1; subst h2; subst h3
    exact Or.inl ⟨v, (T.setVm vm₁).calling g' mk (Value.ref b :: As).toArray, t, U', L, hT, X', hL, e1, e2, hq, st⟩
  · dsimp only [Pt.U, Pt.locs, Pt.cells, Pt.slots] at X' e1 e2 h1 h2 h3 st hcl
    subst h1; subst h2; subst h3
    exact Or.inr ⟨q, (T.setVm vm₁).calling g' mk (Value.ref b :: As).toArray, t, U', L, E, ce, hT, X', hL, e1, e2, hq, hce, hcv, vx_cls hW₁ hcl, st⟩
theorem vx_runSX {hh : List (Nat × Nat × Nat × Nat)} (S : CallFix p m c cc nL s args Ts own) (hM : vx_Met l y ws rm Pc Qc XC mc ms free) (cw : vx_CSW R s args own index y bytes maxL ret hh ws rm mc ms n) (hp : PreS s H Pc As)
    (hg : g.method = m) (hn : As.length = n) (hsize : g.locals.size = nL) (hstack : g.stack = As.reverse ++ rest) (hW : 2 * g.monitorRoom + (rest.map fun v => v.category).sum ≤ 8) (hdg : decode cc g.pc = .ok (.invokestatic index, 3)) (hf : cells + mc ≤ R.cells ∧ slots + ms ≤ R.slots) :
    vx_Run p l e R s m args below meth c H locs cells slots mc ms g rest (Qc As.toArray) XC free := by
  obtain ⟨⟨hrc, hrs, hfr, hlo, hws, hcw⟩, hcode, hini, hy, hlen, hl, hstt⟩ := cw
  have hK : vx_Back l R p e below s args y 3 8 (PreOf R mc ms Pc) (PostOf Qc mc ms free) (vx_Post XC mc ms free) := vx_backW (hh := hh) (bytes := bytes) (maxL := maxL) (ret := ret) hM hp.1 hrc hrs hfr hlo hws hcw (fun a' U hW => word_at hW (Or.inl (by first | rfl | simp [Cond.onTables, Cond.keeps, Cond.steady])) hini)
  obtain ⟨hx, hb, hml, ho, -⟩ := S
  intro T hT X
  rcases vx_callSX X hx (hh := hh) (bytes := bytes) (maxL := maxL) (ret := ret) ho hl hstt hini hcode hy hK hg (hsize.trans hml.symm) (argsL := As) (rest := rest) (fun sig h => hn.trans (hlen sig h)) hstack hW (by rw [hb]; exact hdg)
    (fun vm₁ hW₁ => ⟨hf.1, hf.2, hp.2 (T.setVm vm₁) hT hW₁⟩) with ⟨v, vm₁, ⟨U', l2, c2, s2⟩, hW₁, X', ⟨g', mk, t, L, e1, e2, hq, h1, hL, h2, h3⟩, st⟩ | ⟨q, vm₁, ⟨U', l2, c2, s2⟩, hW₁, X', ⟨g', mk, t, L, E, ce, e1, e2, hq, hce, hcv, hcl, h1, hL, h2, h3⟩, st⟩
  · dsimp only [Pt.U, Pt.locs, Pt.cells, Pt.slots] at X' e1 e2 h1 h2 h3 st
    subst h1; subst h2; subst h3
    exact Or.inl ⟨v, (T.setVm vm₁).calling g' mk As.toArray, t, U', L, hT, X', hL, e1, e2, hq, st⟩
  · dsimp only [Pt.U, Pt.locs, Pt.cells, Pt.slots] at X' e1 e2 h1 h2 h3 st hcl
    subst h1; subst h2; subst h3
    exact Or.inr ⟨q, (T.setVm vm₁).calling g' mk As.toArray, t, U', L, E, ce, hT, X', hL, e1, e2, hq, hce, hcv, vx_cls hW₁ hcl, st⟩
end
end VXH
theorem vx_ofWH {l : Launch} {y : MethodName} {ws ws' : List Cond} {rm : Room} {Pc : Array Value → State → Prop} {Qc : Array Value → State → Outcome → State → Prop} {XC : String → State → State → Prop} {mc ms : Nat} {free : Addr → Prop} {cc : ByteArray} {maxL : Nat} {ret : Option FieldType} {hh : List (Nat × Nat × Nat × Nat)}
    (hy : plainName y.cls = true) (hw : ws = Cond.codeWith y cc maxL ret hh :: ws')
    (body : ∀ p e s m args below meth c s₁, BodyLoose p l y (headSpec ws rm) cc maxL ret e s m args below meth c s₁ → c.maxLocals = maxL → Pc args s →
      W p l e (headSpec ws rm).room s m args below meth c s.heap [] 0 0 (vx_MQ below Qc XC args s mc ms free) (entryFrame m args maxL)) : vx_Met l y ws rm Pc Qc XC mc ms free := by
  refine MetFree.of_bodyS (code := cc) (maxLocals := maxL) (ret := ret) hy ?_ ?_
  · intro args s m h hn
    obtain ⟨m9, meth, c, hn9, h1, h2, h3, h4, -, h5, h6, -⟩ := Cond.codeWith_spec (atoms_spec (ws := ws) h _ (by rw [hw]; exact List.mem_cons_self))
    cases hn.symm.trans hn9
    exact ⟨meth, c, h1, h2, h3, h4, h5, h6⟩
  · intro p e s m args below meth c s₁ B hml hP _
    have hh0 : s₁.heap = s.heap := by rw [B.state]; rfl
    obtain ⟨t, a1, o, b1, b2, b3⟩ := body p e s m args below meth c s₁ B hml hP s₁ hh0 (Stand.of_body B)
    exact ⟨t, o, a1, b1, b2, b3⟩
/-! ===== END ===== -/

/-! ===== BEGIN printed: names, fields, word lists, decode rows ===== -/
def RX0 : String := "WellRights$Well"
def TX0 : u_T := fun k => match k with
  | 0 => ("WellRights$Well", "number", "I", true)
  | 1 => ("WellRights$Well", "layer", "I", true)
  | 2 => ("WellRights$Well", "place", "I", true)
  | 3 => ("WellRights$Well", "limit", "I", true)
  | 4 => ("WellRights$Well", "age", "I", true)
  | 5 => ("WellRights$Well", "right", "I", true)
  | 6 => ("WellRights$Well", "text", "Ljava/lang/String;", true)
  | 7 => ("WellRights$Well", "lentTo", "[I", true)
  | 8 => ("WellRights$Well", "level", "I", false)
  | 9 => ("WellRights$Well", "planned", "I", false)
  | 10 => ("WellRights$Well", "drew", "I", false)
  | 11 => ("WellRights$Well", "told", "I", false)
  | 12 => ("WellRights$Well", "meterWorks", "Z", false)
  | 13 => ("WellRights$Well", "power", "I", false)
  | 14 => ("WellRights$Well", "bank", "I", false)
  | _ => ("WellRights$Well", "fines", "I", false)
def tyX0 : Nat → FieldType := fun k => match k with
  | 0 => .int
  | 1 => .int
  | 2 => .int
  | 3 => .int
  | 4 => .int
  | 5 => .int
  | 6 => .object "java/lang/String"
  | 7 => .array .int
  | 8 => .int
  | 9 => .int
  | 10 => .int
  | 11 => .int
  | 12 => .boolean
  | 13 => .int
  | 14 => .int
  | _ => .int
abbrev wsX00 : List Cond := u_ws RX0 TX0 16
theorem nmX0 : ∀ a, a < 16 → ∀ b, b < 16 → a ≠ b → (TX0 a).2.1 ≠ (TX0 b).2.1 := by decide +kernel
theorem tyX0_ok : ∀ k, k < 16 → parseFieldDescriptor (TX0 k).2.2.1 = some (tyX0 k) := by decide +kernel
abbrev cX0_init : ByteArray := prog_2_method_1_code
def yX0_init : MethodName := ⟨RX0, "<init>", "(IIIIIII)V"⟩
abbrev cX0_textOf : ByteArray := prog_2_method_2_code
def yX0_textOf : MethodName := ⟨RX0, "textOf", "(III)Ljava/lang/String;"⟩
abbrev cX0_bit : ByteArray := prog_2_method_3_code
def yX0_bit : MethodName := ⟨RX0, "bit", "()I"⟩
abbrev cX0_isIn : ByteArray := prog_2_method_4_code
def yX0_isIn : MethodName := ⟨RX0, "isIn", "(I)Z"⟩
abbrev cX0_isOlderThan : ByteArray := prog_2_method_5_code
def yX0_isOlderThan : MethodName := ⟨RX0, "isOlderThan", "(LWellRights$Well;)Z"⟩
abbrev cX0_drawUnder : ByteArray := prog_2_method_6_code
def yX0_drawUnder : MethodName := ⟨RX0, "drawUnder", "(I)I"⟩
abbrev cX0_reachedFrom : ByteArray := prog_2_method_7_code
def yX0_reachedFrom : MethodName := ⟨RX0, "reachedFrom", "(II)I"⟩
def RX1 : String := "WellRights"
def TX1 : u_T := fun k => match k with
  | 0 => ("WellRights", "wells", "Ljava/util/ArrayList;", true)
  | 1 => ("WellRights", "recharges", "[I", true)
  | 2 => ("WellRights", "pondPlaces", "[I", true)
  | 3 => ("WellRights", "pondCount", "I", false)
  | 4 => ("WellRights", "fund", "I", false)
  | _ => ("WellRights", "years", "I", false)
def tyX1 : Nat → FieldType := fun k => match k with
  | 0 => .object "java/util/ArrayList"
  | 1 => .array .int
  | 2 => .array .int
  | 3 => .int
  | 4 => .int
  | _ => .int
abbrev wsX10 : List Cond := u_ws RX1 TX1 6
theorem nmX1 : ∀ a, a < 6 → ∀ b, b < 6 → a ≠ b → (TX1 a).2.1 ≠ (TX1 b).2.1 := by decide +kernel
theorem tyX1_ok : ∀ k, k < 6 → parseFieldDescriptor (TX1 k).2.2.1 = some (tyX1 k) := by decide +kernel
abbrev cX1_init : ByteArray := prog_1_method_1_code
def yX1_init : MethodName := ⟨RX1, "<init>", "()V"⟩
abbrev cX1_addWell : ByteArray := prog_1_method_2_code
def yX1_addWell : MethodName := ⟨RX1, "addWell", "(IIIIII)I"⟩
abbrev cX1_plan : ByteArray := prog_1_method_3_code
def yX1_plan : MethodName := ⟨RX1, "plan", "(II)I"⟩
abbrev cX1_setRecharge : ByteArray := prog_1_method_4_code
def yX1_setRecharge : MethodName := ⟨RX1, "setRecharge", "(II)I"⟩
abbrev cX1_reach : ByteArray := prog_1_method_5_code
def yX1_reach : MethodName := ⟨RX1, "reach", "(II)I"⟩
abbrev cX1_level : ByteArray := prog_1_method_6_code
def yX1_level : MethodName := ⟨RX1, "level", "(I)I"⟩
abbrev cX1_sign : ByteArray := prog_1_method_7_code
def yX1_sign : MethodName := ⟨RX1, "sign", "(II)C"⟩
abbrev cX1_year : ByteArray := prog_1_method_8_code
def yX1_year : MethodName := ⟨RX1, "year", "()I"⟩
abbrev cX1_years : ByteArray := prog_1_method_9_code
def yX1_years : MethodName := ⟨RX1, "years", "()I"⟩
abbrev cX1_wouldStop : ByteArray := prog_1_method_10_code
def yX1_wouldStop : MethodName := ⟨RX1, "wouldStop", "()I"⟩
abbrev cX1_drew : ByteArray := prog_1_method_11_code
def yX1_drew : MethodName := ⟨RX1, "drew", "(I)I"⟩
abbrev cX1_told : ByteArray := prog_1_method_12_code
def yX1_told : MethodName := ⟨RX1, "told", "(I)I"⟩
abbrev cX1_toggleMeter : ByteArray := prog_1_method_13_code
def yX1_toggleMeter : MethodName := ⟨RX1, "toggleMeter", "(I)Z"⟩
abbrev cX1_power : ByteArray := prog_1_method_14_code
def yX1_power : MethodName := ⟨RX1, "power", "(II)I"⟩
abbrev cX1_bank : ByteArray := prog_1_method_15_code
def yX1_bank : MethodName := ⟨RX1, "bank", "(I)I"⟩
abbrev cX1_lend : ByteArray := prog_1_method_16_code
def yX1_lend : MethodName := ⟨RX1, "lend", "(III)I"⟩
abbrev cX1_callBack : ByteArray := prog_1_method_17_code
def yX1_callBack : MethodName := ⟨RX1, "callBack", "(II)I"⟩
abbrev cX1_fines : ByteArray := prog_1_method_18_code
def yX1_fines : MethodName := ⟨RX1, "fines", "(I)I"⟩
abbrev cX1_fund : ByteArray := prog_1_method_19_code
def yX1_fund : MethodName := ⟨RX1, "fund", "()I"⟩
abbrev cX1_build : ByteArray := prog_1_method_20_code
def yX1_build : MethodName := ⟨RX1, "build", "(I)I"⟩
abbrev cX1_wellAt : ByteArray := prog_1_method_21_code
def yX1_wellAt : MethodName := ⟨RX1, "wellAt", "(I)LWellRights$Well;"⟩
abbrev cX1_requireLayer : ByteArray := prog_1_method_22_code
def yX1_requireLayer : MethodName := ⟨RX1, "requireLayer", "(I)V"⟩
abbrev cX1_requireWithin : ByteArray := prog_1_method_23_code
def yX1_requireWithin : MethodName := ⟨RX1, "requireWithin", "(III)V"⟩
abbrev cX1_requireDifferent : ByteArray := prog_1_method_24_code
def yX1_requireDifferent : MethodName := ⟨RX1, "requireDifferent", "(II)V"⟩
abbrev cX1_whoIsStopped : ByteArray := prog_1_method_25_code
def yX1_whoIsStopped : MethodName := ⟨RX1, "whoIsStopped", "()I"⟩
abbrev cX1_nextToStop : ByteArray := prog_1_method_26_code
def yX1_nextToStop : MethodName := ⟨RX1, "nextToStop", "(I)LWellRights$Well;"⟩
abbrev cX1_youngestDrawerOn : ByteArray := prog_1_method_27_code
def yX1_youngestDrawerOn : MethodName := ⟨RX1, "youngestDrawerOn", "(LWellRights$Well;I)LWellRights$Well;"⟩
abbrev cX1_levelBehind : ByteArray := prog_1_method_28_code
def yX1_levelBehind : MethodName := ⟨RX1, "levelBehind", "(LWellRights$Well;I)I"⟩
abbrev cX1_hundredths : ByteArray := prog_1_method_29_code
def yX1_hundredths : MethodName := ⟨RX1, "hundredths", "(II)I"⟩
abbrev cX1_shrinkBanks : ByteArray := prog_1_method_30_code
def yX1_shrinkBanks : MethodName := ⟨RX1, "shrinkBanks", "()V"⟩
abbrev cX1_drawWater : ByteArray := prog_1_method_31_code
def yX1_drawWater : MethodName := ⟨RX1, "drawWater", "(I)V"⟩
abbrev cX1_tellWater : ByteArray := prog_1_method_32_code
def yX1_tellWater : MethodName := ⟨RX1, "tellWater", "()V"⟩
abbrev cX1_meanOfWorkingMeters : ByteArray := prog_1_method_33_code
def yX1_meanOfWorkingMeters : MethodName := ⟨RX1, "meanOfWorkingMeters", "(I)I"⟩
abbrev cX1_settleRights : ByteArray := prog_1_method_34_code
def yX1_settleRights : MethodName := ⟨RX1, "settleRights", "(I)V"⟩
abbrev cX1_chargeAbove : ByteArray := prog_1_method_35_code
def yX1_chargeAbove : MethodName := ⟨RX1, "chargeAbove", "(LWellRights$Well;I)V"⟩
abbrev cX1_forgetPower : ByteArray := prog_1_method_36_code
def yX1_forgetPower : MethodName := ⟨RX1, "forgetPower", "()V"⟩
def RX2 : String := "WellRightsModel"
def TX2 : u_T := fun k => match k with
  | _ => ("", "", "", false)
def tyX2 : Nat → FieldType := fun k => match k with
  | _ => .int
abbrev wsX20 : List Cond := u_ws RX2 TX2 0
theorem nmX2 : ∀ a, a < 0 → ∀ b, b < 0 → a ≠ b → (TX2 a).2.1 ≠ (TX2 b).2.1 := by decide +kernel
theorem tyX2_ok : ∀ k, k < 0 → parseFieldDescriptor (TX2 k).2.2.1 = some (tyX2 k) := by decide +kernel
def RJx145de : String := "java/io/Serializable"
def TJx145de : u_T := fun k => match k with
  | _ => ("", "", "", false)
def tyJx145de : Nat → FieldType := fun k => match k with
  | _ => .int
abbrev wsJx145de0 : List Cond := u_ws RJx145de TJx145de 0
theorem nmJx145de : ∀ a, a < 0 → ∀ b, b < 0 → a ≠ b → (TJx145de a).2.1 ≠ (TJx145de b).2.1 := by decide +kernel
theorem tyJx145de_ok : ∀ k, k < 0 → parseFieldDescriptor (TJx145de k).2.2.1 = some (tyJx145de k) := by decide +kernel
def RJ5 : String := "java/lang/AbstractStringBuilder"
def TJ5 : u_T := fun k => match k with
  | _ => ("", "", "", false)
def tyJ5 : Nat → FieldType := fun k => match k with
  | _ => .int
abbrev wsJ50 : List Cond := u_ws RJ5 TJ5 0
theorem nmJ5 : ∀ a, a < 0 → ∀ b, b < 0 → a ≠ b → (TJ5 a).2.1 ≠ (TJ5 b).2.1 := by decide +kernel
theorem tyJ5_ok : ∀ k, k < 0 → parseFieldDescriptor (TJ5 k).2.2.1 = some (tyJ5 k) := by decide +kernel
abbrev cJ5_init_d00df : ByteArray := prog_6_method_2_code
def yJ5_init_d00df : MethodName := ⟨RJ5, "<init>", "(I)V"⟩
abbrev cJ5_length_8abf5 : ByteArray := prog_6_method_6_code
def yJ5_length_8abf5 : MethodName := ⟨RJ5, "length", "()I"⟩
abbrev cJ5_ensureCapacityInternal_d00df : ByteArray := prog_6_method_9_code
def yJ5_ensureCapacityInternal_d00df : MethodName := ⟨RJ5, "ensureCapacityInternal", "(I)V"⟩
abbrev cJ5_newCapacity_0f7a4 : ByteArray := prog_6_method_10_code
def yJ5_newCapacity_0f7a4 : MethodName := ⟨RJ5, "newCapacity", "(I)I"⟩
abbrev cJ5_inflate_da8c8 : ByteArray := prog_6_method_11_code
def yJ5_inflate_da8c8 : MethodName := ⟨RJ5, "inflate", "()V"⟩
abbrev cJ5_append_cf1ce : ByteArray := prog_6_method_22_code
def yJ5_append_cf1ce : MethodName := ⟨RJ5, "append", "(Ljava/lang/String;)Ljava/lang/AbstractStringBuilder;"⟩
abbrev cJ5_appendNull_278bc : ByteArray := prog_6_method_26_code
def yJ5_appendNull_278bc : MethodName := ⟨RJ5, "appendNull", "()Ljava/lang/AbstractStringBuilder;"⟩
abbrev cJ5_append_3fe6f : ByteArray := prog_6_method_31_code
def yJ5_append_3fe6f : MethodName := ⟨RJ5, "append", "(C)Ljava/lang/AbstractStringBuilder;"⟩
abbrev cJ5_append_c97b9 : ByteArray := prog_6_method_32_code
def yJ5_append_c97b9 : MethodName := ⟨RJ5, "append", "(I)Ljava/lang/AbstractStringBuilder;"⟩
abbrev cJ5_getValue_6d5f1 : ByteArray := prog_6_method_64_code
def yJ5_getValue_6d5f1 : MethodName := ⟨RJ5, "getValue", "()[B"⟩
abbrev cJ5_isLatin1_aae02 : ByteArray := prog_6_method_68_code
def yJ5_isLatin1_aae02 : MethodName := ⟨RJ5, "isLatin1", "()Z"⟩
abbrev cJ5_inflateIfNeededFor_a7421 : ByteArray := prog_6_method_71_code
def yJ5_inflateIfNeededFor_a7421 : MethodName := ⟨RJ5, "inflateIfNeededFor", "(Ljava/lang/String;)V"⟩
abbrev cJ5_putStringAt_47b60 : ByteArray := prog_6_method_73_code
def yJ5_putStringAt_47b60 : MethodName := ⟨RJ5, "putStringAt", "(ILjava/lang/String;)V"⟩
def RJx2cfe8 : String := "java/lang/Appendable"
def TJx2cfe8 : u_T := fun k => match k with
  | _ => ("", "", "", false)
def tyJx2cfe8 : Nat → FieldType := fun k => match k with
  | _ => .int
abbrev wsJx2cfe80 : List Cond := u_ws RJx2cfe8 TJx2cfe8 0
theorem nmJx2cfe8 : ∀ a, a < 0 → ∀ b, b < 0 → a ≠ b → (TJx2cfe8 a).2.1 ≠ (TJx2cfe8 b).2.1 := by decide +kernel
theorem tyJx2cfe8_ok : ∀ k, k < 0 → parseFieldDescriptor (TJx2cfe8 k).2.2.1 = some (tyJx2cfe8 k) := by decide +kernel
def RJx9f9b0 : String := "java/lang/CharSequence"
def TJx9f9b0 : u_T := fun k => match k with
  | _ => ("", "", "", false)
def tyJx9f9b0 : Nat → FieldType := fun k => match k with
  | _ => .int
abbrev wsJx9f9b00 : List Cond := u_ws RJx9f9b0 TJx9f9b0 0
theorem nmJx9f9b0 : ∀ a, a < 0 → ∀ b, b < 0 → a ≠ b → (TJx9f9b0 a).2.1 ≠ (TJx9f9b0 b).2.1 := by decide +kernel
theorem tyJx9f9b0_ok : ∀ k, k < 0 → parseFieldDescriptor (TJx9f9b0 k).2.2.1 = some (tyJx9f9b0 k) := by decide +kernel
def RJx8e188 : String := "java/lang/Cloneable"
def TJx8e188 : u_T := fun k => match k with
  | _ => ("", "", "", false)
def tyJx8e188 : Nat → FieldType := fun k => match k with
  | _ => .int
abbrev wsJx8e1880 : List Cond := u_ws RJx8e188 TJx8e188 0
theorem nmJx8e188 : ∀ a, a < 0 → ∀ b, b < 0 → a ≠ b → (TJx8e188 a).2.1 ≠ (TJx8e188 b).2.1 := by decide +kernel
theorem tyJx8e188_ok : ∀ k, k < 0 → parseFieldDescriptor (TJx8e188 k).2.2.1 = some (tyJx8e188 k) := by decide +kernel
def RJxb160c : String := "java/lang/Comparable"
def TJxb160c : u_T := fun k => match k with
  | _ => ("", "", "", false)
def tyJxb160c : Nat → FieldType := fun k => match k with
  | _ => .int
abbrev wsJxb160c0 : List Cond := u_ws RJxb160c TJxb160c 0
theorem nmJxb160c : ∀ a, a < 0 → ∀ b, b < 0 → a ≠ b → (TJxb160c a).2.1 ≠ (TJxb160c b).2.1 := by decide +kernel
theorem tyJxb160c_ok : ∀ k, k < 0 → parseFieldDescriptor (TJxb160c k).2.2.1 = some (tyJxb160c k) := by decide +kernel
def RJ6 : String := "java/lang/Integer"
def TJ6 : u_T := fun k => match k with
  | _ => ("", "", "", false)
def tyJ6 : Nat → FieldType := fun k => match k with
  | _ => .int
abbrev wsJ60 : List Cond := u_ws RJ6 TJ6 0
theorem nmJ6 : ∀ a, a < 0 → ∀ b, b < 0 → a ≠ b → (TJ6 a).2.1 ≠ (TJ6 b).2.1 := by decide +kernel
theorem tyJ6_ok : ∀ k, k < 0 → parseFieldDescriptor (TJ6 k).2.2.1 = some (tyJ6 k) := by decide +kernel
abbrev cJ6_getChars_ba4f3 : ByteArray := prog_15_method_12_code
def yJ6_getChars_ba4f3 : MethodName := ⟨RJ6, "getChars", "(II[B)I"⟩
abbrev cJ6_stringSize_0f7a4 : ByteArray := prog_15_method_13_code
def yJ6_stringSize_0f7a4 : MethodName := ⟨RJ6, "stringSize", "(I)I"⟩
abbrev cJ6_bitCount_0f7a4 : ByteArray := prog_15_method_49_code
def yJ6_bitCount_0f7a4 : MethodName := ⟨RJ6, "bitCount", "(I)I"⟩
def RJxab1ab : String := "java/lang/Iterable"
def TJxab1ab : u_T := fun k => match k with
  | _ => ("", "", "", false)
def tyJxab1ab : Nat → FieldType := fun k => match k with
  | _ => .int
abbrev wsJxab1ab0 : List Cond := u_ws RJxab1ab TJxab1ab 0
theorem nmJxab1ab : ∀ a, a < 0 → ∀ b, b < 0 → a ≠ b → (TJxab1ab a).2.1 ≠ (TJxab1ab b).2.1 := by decide +kernel
theorem tyJxab1ab_ok : ∀ k, k < 0 → parseFieldDescriptor (TJxab1ab k).2.2.1 = some (tyJxab1ab k) := by decide +kernel
def RJ9 : String := "java/lang/Math"
def TJ9 : u_T := fun k => match k with
  | _ => ("", "", "", false)
def tyJ9 : Nat → FieldType := fun k => match k with
  | _ => .int
abbrev wsJ90 : List Cond := u_ws RJ9 TJ9 0
theorem nmJ9 : ∀ a, a < 0 → ∀ b, b < 0 → a ≠ b → (TJ9 a).2.1 ≠ (TJ9 b).2.1 := by decide +kernel
theorem tyJ9_ok : ∀ k, k < 0 → parseFieldDescriptor (TJ9 k).2.2.1 = some (tyJ9 k) := by decide +kernel
abbrev cJ9_abs_0f7a4 : ByteArray := prog_17_method_59_code
def yJ9_abs_0f7a4 : MethodName := ⟨RJ9, "abs", "(I)I"⟩
abbrev cJ9_max_7cf53 : ByteArray := prog_17_method_65_code
def yJ9_max_7cf53 : MethodName := ⟨RJ9, "max", "(II)I"⟩
abbrev cJ9_min_7cf53 : ByteArray := prog_17_method_69_code
def yJ9_min_7cf53 : MethodName := ⟨RJ9, "min", "(II)I"⟩
def RJxd2413 : String := "java/lang/Number"
def TJxd2413 : u_T := fun k => match k with
  | _ => ("", "", "", false)
def tyJxd2413 : Nat → FieldType := fun k => match k with
  | _ => .int
abbrev wsJxd24130 : List Cond := u_ws RJxd2413 TJxd2413 0
theorem nmJxd2413 : ∀ a, a < 0 → ∀ b, b < 0 → a ≠ b → (TJxd2413 a).2.1 ≠ (TJxd2413 b).2.1 := by decide +kernel
theorem tyJxd2413_ok : ∀ k, k < 0 → parseFieldDescriptor (TJxd2413 k).2.2.1 = some (tyJxd2413 k) := by decide +kernel
def RJ0 : String := "java/lang/String"
def TJ0 : u_T := fun k => match k with
  | 0 => ("java/lang/String", "value", "[B", true)
  | 1 => ("java/lang/String", "coder", "B", true)
  | 2 => ("java/lang/String", "hash", "I", false)
  | _ => ("java/lang/String", "hashIsZero", "Z", false)
def tyJ0 : Nat → FieldType := fun k => match k with
  | 0 => .array .byte
  | 1 => .byte
  | 2 => .int
  | _ => .boolean
abbrev wsJ00 : List Cond := u_ws RJ0 TJ0 4
theorem nmJ0 : ∀ a, a < 4 → ∀ b, b < 4 → a ≠ b → (TJ0 a).2.1 ≠ (TJ0 b).2.1 := by decide +kernel
theorem tyJ0_ok : ∀ k, k < 4 → parseFieldDescriptor (TJ0 k).2.2.1 = some (tyJ0 k) := by decide +kernel
abbrev cJ0_init_81219 : ByteArray := prog_20_method_53_code
def yJ0_init_81219 : MethodName := ⟨RJ0, "<init>", "(Ljava/lang/StringBuilder;)V"⟩
abbrev cJ0_length_8abf5 : ByteArray := prog_20_method_54_code
def yJ0_length_8abf5 : MethodName := ⟨RJ0, "length", "()I"⟩
abbrev cJ0_charAt_5068e : ByteArray := prog_20_method_56_code
def yJ0_charAt_5068e : MethodName := ⟨RJ0, "charAt", "(I)C"⟩
abbrev cJ0_getBytes_840e7 : ByteArray := prog_20_method_147_code
def yJ0_getBytes_840e7 : MethodName := ⟨RJ0, "getBytes", "([BIB)V"⟩
abbrev cJ0_init_db425 : ByteArray := prog_20_method_150_code
def yJ0_init_db425 : MethodName := ⟨RJ0, "<init>", "(Ljava/lang/AbstractStringBuilder;Ljava/lang/Void;)V"⟩
abbrev cJ0_coder_7d493 : ByteArray := prog_20_method_152_code
def yJ0_coder_7d493 : MethodName := ⟨RJ0, "coder", "()B"⟩
abbrev cJ0_isLatin1_aae02 : ByteArray := prog_20_method_154_code
def yJ0_isLatin1_aae02 : MethodName := ⟨RJ0, "isLatin1", "()Z"⟩
abbrev cJ0_checkIndex_df160 : ByteArray := prog_20_method_155_code
def yJ0_checkIndex_df160 : MethodName := ⟨RJ0, "checkIndex", "(II)V"⟩
abbrev cJ0_checkBoundsOffCount_cabcc : ByteArray := prog_20_method_157_code
def yJ0_checkBoundsOffCount_cabcc : MethodName := ⟨RJ0, "checkBoundsOffCount", "(III)I"⟩
abbrev cJ0_checkBoundsBeginEnd_23922 : ByteArray := prog_20_method_158_code
def yJ0_checkBoundsBeginEnd_23922 : MethodName := ⟨RJ0, "checkBoundsBeginEnd", "(III)V"⟩
def RJ4 : String := "java/lang/StringBuilder"
def TJ4 : u_T := fun k => match k with
  | 0 => ("java/lang/AbstractStringBuilder", "value", "[B", false)
  | 1 => ("java/lang/AbstractStringBuilder", "coder", "B", false)
  | 2 => ("java/lang/AbstractStringBuilder", "maybeLatin1", "Z", false)
  | _ => ("java/lang/AbstractStringBuilder", "count", "I", false)
def tyJ4 : Nat → FieldType := fun k => match k with
  | 0 => .array .byte
  | 1 => .byte
  | 2 => .boolean
  | _ => .int
abbrev wsJ40 : List Cond := u_ws RJ4 TJ4 4
theorem nmJ4 : ∀ a, a < 4 → ∀ b, b < 4 → a ≠ b → (TJ4 a).2.1 ≠ (TJ4 b).2.1 := by decide +kernel
theorem tyJ4_ok : ∀ k, k < 4 → parseFieldDescriptor (TJ4 k).2.2.1 = some (tyJ4 k) := by decide +kernel
abbrev cJ4_init_da8c8 : ByteArray := prog_21_method_1_code
def yJ4_init_da8c8 : MethodName := ⟨RJ4, "<init>", "()V"⟩
abbrev cJ4_append_15ec4 : ByteArray := prog_21_method_7_code
def yJ4_append_15ec4 : MethodName := ⟨RJ4, "append", "(Ljava/lang/String;)Ljava/lang/StringBuilder;"⟩
abbrev cJ4_append_cf468 : ByteArray := prog_21_method_14_code
def yJ4_append_cf468 : MethodName := ⟨RJ4, "append", "(C)Ljava/lang/StringBuilder;"⟩
abbrev cJ4_append_bf812 : ByteArray := prog_21_method_15_code
def yJ4_append_bf812 : MethodName := ⟨RJ4, "append", "(I)Ljava/lang/StringBuilder;"⟩
abbrev cJ4_toString_0e30d : ByteArray := prog_21_method_42_code
def yJ4_toString_0e30d : MethodName := ⟨RJ4, "toString", "()Ljava/lang/String;"⟩
abbrev cJ4_length_8abf5 : ByteArray := prog_21_method_93_code
def yJ4_length_8abf5 : MethodName := ⟨RJ4, "length", "()I"⟩
def RJ1 : String := "java/lang/StringLatin1"
def TJ1 : u_T := fun k => match k with
  | _ => ("", "", "", false)
def tyJ1 : Nat → FieldType := fun k => match k with
  | _ => .int
abbrev wsJ10 : List Cond := u_ws RJ1 TJ1 0
theorem nmJ1 : ∀ a, a < 0 → ∀ b, b < 0 → a ≠ b → (TJ1 a).2.1 ≠ (TJ1 b).2.1 := by decide +kernel
theorem tyJ1_ok : ∀ k, k < 0 → parseFieldDescriptor (TJ1 k).2.2.1 = some (tyJ1 k) := by decide +kernel
abbrev cJ1_charAt_3b067 : ByteArray := prog_22_method_2_code
def yJ1_charAt_3b067 : MethodName := ⟨RJ1, "charAt", "([BI)C"⟩
abbrev cJ1_canEncode_fc78d : ByteArray := prog_22_method_3_code
def yJ1_canEncode_fc78d : MethodName := ⟨RJ1, "canEncode", "(C)Z"⟩
abbrev cJ1_inflate_0e8fd : ByteArray := prog_22_method_50_code
def yJ1_inflate_0e8fd : MethodName := ⟨RJ1, "inflate", "([BI[BII)V"⟩
def RJ2 : String := "java/lang/StringUTF16"
def TJ2 : u_T := fun k => match k with
  | _ => ("", "", "", false)
def tyJ2 : Nat → FieldType := fun k => match k with
  | _ => .int
abbrev wsJ20 : List Cond := u_ws RJ2 TJ2 0
theorem nmJ2 : ∀ a, a < 0 → ∀ b, b < 0 → a ≠ b → (TJ2 a).2.1 ≠ (TJ2 b).2.1 := by decide +kernel
theorem tyJ2_ok : ∀ k, k < 0 → parseFieldDescriptor (TJ2 k).2.2.1 = some (tyJ2 k) := by decide +kernel
abbrev cJ2_newBytesFor_77867 : ByteArray := prog_23_method_2_code
def yJ2_newBytesFor_77867 : MethodName := ⟨RJ2, "newBytesFor", "(I)[B"⟩
abbrev cJ2_newBytesLength_0f7a4 : ByteArray := prog_23_method_3_code
def yJ2_newBytesLength_0f7a4 : MethodName := ⟨RJ2, "newBytesLength", "(I)I"⟩
abbrev cJ2_putChar_b72d1 : ByteArray := prog_23_method_4_code
def yJ2_putChar_b72d1 : MethodName := ⟨RJ2, "putChar", "([BII)V"⟩
abbrev cJ2_getChar_3b067 : ByteArray := prog_23_method_5_code
def yJ2_getChar_3b067 : MethodName := ⟨RJ2, "getChar", "([BI)C"⟩
abbrev cJ2_length_9d52b : ByteArray := prog_23_method_6_code
def yJ2_length_9d52b : MethodName := ⟨RJ2, "length", "([B)I"⟩
abbrev cJ2_coderFromArrayLen_85cad : ByteArray := prog_23_method_15_code
def yJ2_coderFromArrayLen_85cad : MethodName := ⟨RJ2, "coderFromArrayLen", "([BI)B"⟩
abbrev cJ2_compress_39247 : ByteArray := prog_23_method_17_code
def yJ2_compress_39247 : MethodName := ⟨RJ2, "compress", "([BII)[B"⟩
abbrev cJ2_compress_5af95 : ByteArray := prog_23_method_22_code
def yJ2_compress_5af95 : MethodName := ⟨RJ2, "compress", "([BI[BII)I"⟩
abbrev cJ2_putCharSB_b72d1 : ByteArray := prog_23_method_71_code
def yJ2_putCharSB_b72d1 : MethodName := ⟨RJ2, "putCharSB", "([BII)V"⟩
abbrev cJ2_getChars_46870 : ByteArray := prog_23_method_77_code
def yJ2_getChars_46870 : MethodName := ⟨RJ2, "getChars", "(III[B)I"⟩
abbrev cJ2_putCharsAt_cd4e5 : ByteArray := prog_23_method_81_code
def yJ2_putCharsAt_cd4e5 : MethodName := ⟨RJ2, "putCharsAt", "([BICCCC)I"⟩
abbrev cJ2_charAt_3b067 : ByteArray := prog_23_method_83_code
def yJ2_charAt_3b067 : MethodName := ⟨RJ2, "charAt", "([BI)C"⟩
abbrev cJ2_inflate_0e8fd : ByteArray := prog_23_method_86_code
def yJ2_inflate_0e8fd : MethodName := ⟨RJ2, "inflate", "([BI[BII)V"⟩
abbrev cJ2_getChars_ba4f3 : ByteArray := prog_23_method_89_code
def yJ2_getChars_ba4f3 : MethodName := ⟨RJ2, "getChars", "(II[B)I"⟩
abbrev cJ2_checkIndex_2214a : ByteArray := prog_23_method_91_code
def yJ2_checkIndex_2214a : MethodName := ⟨RJ2, "checkIndex", "(I[B)V"⟩
abbrev cJ2_checkBoundsBeginEnd_d044e : ByteArray := prog_23_method_93_code
def yJ2_checkBoundsBeginEnd_d044e : MethodName := ⟨RJ2, "checkBoundsBeginEnd", "(II[B)V"⟩
abbrev cJ2_checkBoundsOffCount_d044e : ByteArray := prog_23_method_94_code
def yJ2_checkBoundsOffCount_d044e : MethodName := ⟨RJ2, "checkBoundsOffCount", "(II[B)V"⟩
def RJ10 : String := "java/lang/System"
def TJ10 : u_T := fun k => match k with
  | _ => ("", "", "", false)
def tyJ10 : Nat → FieldType := fun k => match k with
  | _ => .int
abbrev wsJ100 : List Cond := u_ws RJ10 TJ10 0
theorem nmJ10 : ∀ a, a < 0 → ∀ b, b < 0 → a ≠ b → (TJ10 a).2.1 ≠ (TJ10 b).2.1 := by decide +kernel
theorem tyJ10_ok : ∀ k, k < 0 → parseFieldDescriptor (TJ10 k).2.2.1 = some (tyJ10 k) := by decide +kernel
def RJxfd54e : String := "java/lang/constant/Constable"
def TJxfd54e : u_T := fun k => match k with
  | _ => ("", "", "", false)
def tyJxfd54e : Nat → FieldType := fun k => match k with
  | _ => .int
abbrev wsJxfd54e0 : List Cond := u_ws RJxfd54e TJxfd54e 0
theorem nmJxfd54e : ∀ a, a < 0 → ∀ b, b < 0 → a ≠ b → (TJxfd54e a).2.1 ≠ (TJxfd54e b).2.1 := by decide +kernel
theorem tyJxfd54e_ok : ∀ k, k < 0 → parseFieldDescriptor (TJxfd54e k).2.2.1 = some (tyJxfd54e k) := by decide +kernel
def RJx3cf43 : String := "java/lang/constant/ConstantDesc"
def TJx3cf43 : u_T := fun k => match k with
  | _ => ("", "", "", false)
def tyJx3cf43 : Nat → FieldType := fun k => match k with
  | _ => .int
abbrev wsJx3cf430 : List Cond := u_ws RJx3cf43 TJx3cf43 0
theorem nmJx3cf43 : ∀ a, a < 0 → ∀ b, b < 0 → a ≠ b → (TJx3cf43 a).2.1 ≠ (TJx3cf43 b).2.1 := by decide +kernel
theorem tyJx3cf43_ok : ∀ k, k < 0 → parseFieldDescriptor (TJx3cf43 k).2.2.1 = some (tyJx3cf43 k) := by decide +kernel
def RJxa1e45 : String := "java/util/AbstractCollection"
def TJxa1e45 : u_T := fun k => match k with
  | _ => ("", "", "", false)
def tyJxa1e45 : Nat → FieldType := fun k => match k with
  | _ => .int
abbrev wsJxa1e450 : List Cond := u_ws RJxa1e45 TJxa1e45 0
theorem nmJxa1e45 : ∀ a, a < 0 → ∀ b, b < 0 → a ≠ b → (TJxa1e45 a).2.1 ≠ (TJxa1e45 b).2.1 := by decide +kernel
theorem tyJxa1e45_ok : ∀ k, k < 0 → parseFieldDescriptor (TJxa1e45 k).2.2.1 = some (tyJxa1e45 k) := by decide +kernel
abbrev cJxa1e45_init_da8c8 : ByteArray := prog_28_method_1_code
def yJxa1e45_init_da8c8 : MethodName := ⟨RJxa1e45, "<init>", "()V"⟩
def RJxc12de : String := "java/util/AbstractList"
def TJxc12de : u_T := fun k => match k with
  | _ => ("", "", "", false)
def tyJxc12de : Nat → FieldType := fun k => match k with
  | _ => .int
abbrev wsJxc12de0 : List Cond := u_ws RJxc12de TJxc12de 0
theorem nmJxc12de : ∀ a, a < 0 → ∀ b, b < 0 → a ≠ b → (TJxc12de a).2.1 ≠ (TJxc12de b).2.1 := by decide +kernel
theorem tyJxc12de_ok : ∀ k, k < 0 → parseFieldDescriptor (TJxc12de k).2.2.1 = some (tyJxc12de k) := by decide +kernel
abbrev cJxc12de_init_da8c8 : ByteArray := prog_29_method_1_code
def yJxc12de_init_da8c8 : MethodName := ⟨RJxc12de, "<init>", "()V"⟩
def RJx4a65c : String := "java/util/ArrayList"
def TJx4a65c : u_T := fun k => match k with
  | 0 => ("java/util/AbstractList", "modCount", "I", false)
  | 1 => ("java/util/ArrayList", "elementData", "[Ljava/lang/Object;", false)
  | _ => ("java/util/ArrayList", "size", "I", false)
def tyJx4a65c : Nat → FieldType := fun k => match k with
  | 0 => .int
  | 1 => .array (.object "java/lang/Object")
  | _ => .int
abbrev wsJx4a65c0 : List Cond := u_ws RJx4a65c TJx4a65c 3
theorem nmJx4a65c : ∀ a, a < 3 → ∀ b, b < 3 → a ≠ b → (TJx4a65c a).2.1 ≠ (TJx4a65c b).2.1 := by decide +kernel
theorem tyJx4a65c_ok : ∀ k, k < 3 → parseFieldDescriptor (TJx4a65c k).2.2.1 = some (tyJx4a65c k) := by decide +kernel
abbrev cJx4a65c_init_da8c8 : ByteArray := prog_30_method_2_code
def yJx4a65c_init_da8c8 : MethodName := ⟨RJx4a65c, "<init>", "()V"⟩
abbrev cJx4a65c_grow_92f84 : ByteArray := prog_30_method_6_code
def yJx4a65c_grow_92f84 : MethodName := ⟨RJx4a65c, "grow", "(I)[Ljava/lang/Object;"⟩
abbrev cJx4a65c_grow_d5877 : ByteArray := prog_30_method_7_code
def yJx4a65c_grow_d5877 : MethodName := ⟨RJx4a65c, "grow", "()[Ljava/lang/Object;"⟩
abbrev cJx4a65c_size_8abf5 : ByteArray := prog_30_method_8_code
def yJx4a65c_size_8abf5 : MethodName := ⟨RJx4a65c, "size", "()I"⟩
abbrev cJx4a65c_elementData_915e3 : ByteArray := prog_30_method_18_code
def yJx4a65c_elementData_915e3 : MethodName := ⟨RJx4a65c, "elementData", "(I)Ljava/lang/Object;"⟩
abbrev cJx4a65c_get_915e3 : ByteArray := prog_30_method_20_code
def yJx4a65c_get_915e3 : MethodName := ⟨RJx4a65c, "get", "(I)Ljava/lang/Object;"⟩
abbrev cJx4a65c_add_72be8 : ByteArray := prog_30_method_24_code
def yJx4a65c_add_72be8 : MethodName := ⟨RJx4a65c, "add", "(Ljava/lang/Object;[Ljava/lang/Object;I)V"⟩
abbrev cJx4a65c_add_9ea2d : ByteArray := prog_30_method_25_code
def yJx4a65c_add_9ea2d : MethodName := ⟨RJx4a65c, "add", "(Ljava/lang/Object;)Z"⟩
def RJ7 : String := "java/util/Arrays"
def TJ7 : u_T := fun k => match k with
  | _ => ("", "", "", false)
def tyJ7 : Nat → FieldType := fun k => match k with
  | _ => .int
abbrev wsJ70 : List Cond := u_ws RJ7 TJ7 0
theorem nmJ7 : ∀ a, a < 0 → ∀ b, b < 0 → a ≠ b → (TJ7 a).2.1 ≠ (TJ7 b).2.1 := by decide +kernel
theorem tyJ7_ok : ∀ k, k < 0 → parseFieldDescriptor (TJ7 k).2.2.1 = some (tyJ7 k) := by decide +kernel
abbrev cJ7_copyOf_1904c : ByteArray := prog_31_method_119_code
def yJ7_copyOf_1904c : MethodName := ⟨RJ7, "copyOf", "([Ljava/lang/Object;I)[Ljava/lang/Object;"⟩
abbrev cJ7_copyOf_6403c : ByteArray := prog_31_method_120_code
def yJ7_copyOf_6403c : MethodName := ⟨RJ7, "copyOf", "([Ljava/lang/Object;ILjava/lang/Class;)[Ljava/lang/Object;"⟩
abbrev cJ7_copyOf_9075b : ByteArray := prog_31_method_121_code
def yJ7_copyOf_9075b : MethodName := ⟨RJ7, "copyOf", "([BI)[B"⟩
abbrev cJ7_checkLength_df160 : ByteArray := prog_31_method_131_code
def yJ7_checkLength_df160 : MethodName := ⟨RJ7, "checkLength", "(II)V"⟩
abbrev cJ7_copyOfRange_39247 : ByteArray := prog_31_method_132_code
def yJ7_copyOfRange_39247 : MethodName := ⟨RJ7, "copyOfRange", "([BII)[B"⟩
abbrev cJ7_copyOfRangeByte_39247 : ByteArray := prog_31_method_133_code
def yJ7_copyOfRangeByte_39247 : MethodName := ⟨RJ7, "copyOfRangeByte", "([BII)[B"⟩
def RJx5ef63 : String := "java/util/Collection"
def TJx5ef63 : u_T := fun k => match k with
  | _ => ("", "", "", false)
def tyJx5ef63 : Nat → FieldType := fun k => match k with
  | _ => .int
abbrev wsJx5ef630 : List Cond := u_ws RJx5ef63 TJx5ef63 0
theorem nmJx5ef63 : ∀ a, a < 0 → ∀ b, b < 0 → a ≠ b → (TJx5ef63 a).2.1 ≠ (TJx5ef63 b).2.1 := by decide +kernel
theorem tyJx5ef63_ok : ∀ k, k < 0 → parseFieldDescriptor (TJx5ef63 k).2.2.1 = some (tyJx5ef63 k) := by decide +kernel
def RJxbd725 : String := "java/util/List"
def TJxbd725 : u_T := fun k => match k with
  | _ => ("", "", "", false)
def tyJxbd725 : Nat → FieldType := fun k => match k with
  | _ => .int
abbrev wsJxbd7250 : List Cond := u_ws RJxbd725 TJxbd725 0
theorem nmJxbd725 : ∀ a, a < 0 → ∀ b, b < 0 → a ≠ b → (TJxbd725 a).2.1 ≠ (TJxbd725 b).2.1 := by decide +kernel
theorem tyJxbd725_ok : ∀ k, k < 0 → parseFieldDescriptor (TJxbd725 k).2.2.1 = some (tyJxbd725 k) := by decide +kernel
def RJ15 : String := "java/util/Objects"
def TJ15 : u_T := fun k => match k with
  | _ => ("", "", "", false)
def tyJ15 : Nat → FieldType := fun k => match k with
  | _ => .int
abbrev wsJ150 : List Cond := u_ws RJ15 TJ15 0
theorem nmJ15 : ∀ a, a < 0 → ∀ b, b < 0 → a ≠ b → (TJ15 a).2.1 ≠ (TJ15 b).2.1 := by decide +kernel
theorem tyJ15_ok : ∀ k, k < 0 → parseFieldDescriptor (TJ15 k).2.2.1 = some (tyJ15 k) := by decide +kernel
abbrev cJ15_checkIndex_7cf53 : ByteArray := prog_34_method_17_code
def yJ15_checkIndex_7cf53 : MethodName := ⟨RJ15, "checkIndex", "(II)I"⟩
def RJxf0a74 : String := "java/util/RandomAccess"
def TJxf0a74 : u_T := fun k => match k with
  | _ => ("", "", "", false)
def tyJxf0a74 : Nat → FieldType := fun k => match k with
  | _ => .int
abbrev wsJxf0a740 : List Cond := u_ws RJxf0a74 TJxf0a74 0
theorem nmJxf0a74 : ∀ a, a < 0 → ∀ b, b < 0 → a ≠ b → (TJxf0a74 a).2.1 ≠ (TJxf0a74 b).2.1 := by decide +kernel
theorem tyJxf0a74_ok : ∀ k, k < 0 → parseFieldDescriptor (TJxf0a74 k).2.2.1 = some (tyJxf0a74 k) := by decide +kernel
def RJxa66e6 : String := "java/util/SequencedCollection"
def TJxa66e6 : u_T := fun k => match k with
  | _ => ("", "", "", false)
def tyJxa66e6 : Nat → FieldType := fun k => match k with
  | _ => .int
abbrev wsJxa66e60 : List Cond := u_ws RJxa66e6 TJxa66e6 0
theorem nmJxa66e6 : ∀ a, a < 0 → ∀ b, b < 0 → a ≠ b → (TJxa66e6 a).2.1 ≠ (TJxa66e6 b).2.1 := by decide +kernel
theorem tyJxa66e6_ok : ∀ k, k < 0 → parseFieldDescriptor (TJxa66e6 k).2.2.1 = some (tyJxa66e6 k) := by decide +kernel
def RJ8 : String := "jdk/internal/util/ArraysSupport"
def TJ8 : u_T := fun k => match k with
  | _ => ("", "", "", false)
def tyJ8 : Nat → FieldType := fun k => match k with
  | _ => .int
abbrev wsJ80 : List Cond := u_ws RJ8 TJ8 0
theorem nmJ8 : ∀ a, a < 0 → ∀ b, b < 0 → a ≠ b → (TJ8 a).2.1 ≠ (TJ8 b).2.1 := by decide +kernel
theorem tyJ8_ok : ∀ k, k < 0 → parseFieldDescriptor (TJ8 k).2.2.1 = some (tyJ8 k) := by decide +kernel
abbrev cJ8_newLength_cabcc : ByteArray := prog_37_method_27_code
def yJ8_newLength_cabcc : MethodName := ⟨RJ8, "newLength", "(III)I"⟩
abbrev cJ8_hugeLength_7cf53 : ByteArray := prog_37_method_28_code
def yJ8_hugeLength_7cf53 : MethodName := ⟨RJ8, "hugeLength", "(II)I"⟩
def RJ3 : String := "jdk/internal/util/Preconditions"
def TJ3 : u_T := fun k => match k with
  | _ => ("", "", "", false)
def tyJ3 : Nat → FieldType := fun k => match k with
  | _ => .int
abbrev wsJ30 : List Cond := u_ws RJ3 TJ3 0
theorem nmJ3 : ∀ a, a < 0 → ∀ b, b < 0 → a ≠ b → (TJ3 a).2.1 ≠ (TJ3 b).2.1 := by decide +kernel
theorem tyJ3_ok : ∀ k, k < 0 → parseFieldDescriptor (TJ3 k).2.2.1 = some (tyJ3 k) := by decide +kernel
abbrev cJ3_checkIndex_8e157 : ByteArray := prog_38_method_11_code
def yJ3_checkIndex_8e157 : MethodName := ⟨RJ3, "checkIndex", "(IILjava/util/function/BiFunction;)I"⟩
abbrev cJ3_checkFromToIndex_8c36e : ByteArray := prog_38_method_12_code
def yJ3_checkFromToIndex_8c36e : MethodName := ⟨RJ3, "checkFromToIndex", "(IIILjava/util/function/BiFunction;)I"⟩
abbrev cJ3_checkFromIndexSize_8c36e : ByteArray := prog_38_method_13_code
def yJ3_checkFromIndexSize_8c36e : MethodName := ⟨RJ3, "checkFromIndexSize", "(IIILjava/util/function/BiFunction;)I"⟩
def RL : String := "WellRightsLaw"
abbrev cL_cell : ByteArray := method_2_code
def yL_cell : MethodName := ⟨RL, "cell", "([II)I"⟩
abbrev cL_low : ByteArray := method_3_code
def yL_low : MethodName := ⟨RL, "low", "(II)I"⟩
abbrev cL_calls : ByteArray := method_4_code
def yL_calls : MethodName := ⟨RL, "calls", "(LWellRights;IIII)I"⟩
abbrev cL_reach : ByteArray := method_5_code
def yL_reach : MethodName := ⟨RL, "reach", "(III[I)I"⟩
abbrev cL_size : ByteArray := method_6_code
def yL_size : MethodName := ⟨RL, "size", "(I)I"⟩
abbrev cL_ranks : ByteArray := method_7_code
def yL_ranks : MethodName := ⟨RL, "ranks", "([I[I[I)V"⟩
abbrev cL_behind : ByteArray := method_8_code
def yL_behind : MethodName := ⟨RL, "behind", "(I[I[I[I)V"⟩
abbrev cL_stops : ByteArray := method_9_code
def yL_stops : MethodName := ⟨RL, "stops", "([I[I[I[I)I"⟩
abbrev cL_mean : ByteArray := method_10_code
def yL_mean : MethodName := ⟨RL, "mean", "(I[I[I[I)I"⟩
abbrev cL_year : ByteArray := method_11_code
def yL_year : MethodName := ⟨RL, "year", "([I[I[I[I[I)I"⟩
abbrev cL_isSo : ByteArray := method_12_code
def yL_isSo : MethodName := ⟨RL, "isSo", "(LWellRights;I[I[I[I[I[I)Z"⟩
abbrev cL_adds : ByteArray := method_13_code
def yL_adds : MethodName := ⟨RL, "adds", "(LWellRights;I[I[I)Z"⟩
abbrev cL_lends : ByteArray := method_14_code
def yL_lends : MethodName := ⟨RL, "lends", "(LWellRights;I[I[I[I)Z"⟩
abbrev cL_law : ByteArray := code
def yL_law : MethodName := ⟨RL, "law", "([I)Z"⟩
def wsL_law0_r1 : List Cond := [Cond.classLink RL 11 RX1, Cond.instantiable RX1 6, Cond.initialized RX1, Cond.arrayClass .int, Cond.methodLink RL 96 yX1_init, Cond.instanceMethod yX1_init, Cond.code yX1_init cX1_init 1 none, Cond.methodLink RX1 1 objectInit, Cond.instanceMethod objectInit, Cond.code objectInit ⟨#[0xb1]⟩ 1 none, Cond.classLink RX1 7 RJx4a65c, Cond.instantiable RJx4a65c 3, Cond.initialized RJx4a65c, Cond.fieldLink RX1 10 "WellRights" "wells" "Ljava/util/ArrayList;", Cond.fieldLink RX1 16 "WellRights" "recharges" "[I", Cond.fieldLink RX1 20 "WellRights" "pondPlaces" "[I", Cond.fieldLink RX1 23 "WellRights" "pondCount" "I", Cond.fieldLink RX1 27 "WellRights" "fund" "I", Cond.fieldLink RX1 30 "WellRights" "years" "I", Cond.methodLink RX1 9 yJx4a65c_init_da8c8, Cond.instanceMethod yJx4a65c_init_da8c8, Cond.code yJx4a65c_init_da8c8 cJx4a65c_init_da8c8 1 none, Cond.fieldLink RJx4a65c 39 "java/util/ArrayList" "DEFAULTCAPACITY_EMPTY_ELEMENTDATA" "[Ljava/lang/Object;", Cond.fieldLink RJx4a65c 9 "java/util/ArrayList" "elementData" "[Ljava/lang/Object;"]
def wsL_law0_r2 : List Cond := [Cond.methodLink RJx4a65c 1 yJxc12de_init_da8c8, Cond.instanceMethod yJxc12de_init_da8c8, Cond.initialized RJxc12de, Cond.code yJxc12de_init_da8c8 cJxc12de_init_da8c8 1 none, Cond.fieldLink RJxc12de 7 "java/util/AbstractList" "modCount" "I", Cond.methodLink RJxc12de 1 yJxa1e45_init_da8c8, Cond.instanceMethod yJxa1e45_init_da8c8, Cond.initialized RJxa1e45, Cond.code yJxa1e45_init_da8c8 cJxa1e45_init_da8c8 1 none, Cond.methodLink RJxa1e45 1 objectInit, Cond.methodLink RL 97 yL_cell, Cond.static yL_cell, Cond.initialized RL, Cond.code yL_cell cL_cell 2 (some .int), Cond.constant RL 7 (51719), Cond.constant RL 8 (1897143), Cond.methodLink RL 60 yL_low, Cond.static yL_low, Cond.code yL_low cL_low 2 (some .int), Cond.constant RL 9 (2147483647), Cond.methodLink RL 101 yL_adds, Cond.static yL_adds, Cond.code yL_adds cL_adds 5 (some .boolean), Cond.methodLink RL 85 yX1_addWell]
def wsL_law0_r3 : List Cond := [Cond.instanceMethod yX1_addWell, Cond.selects RX1 yX1_addWell yX1_addWell, Cond.code yX1_addWell cX1_addWell 8 (some .int), Cond.classLink RX1 45 "java/lang/IllegalStateException", Cond.initialized "java/lang/IllegalStateException", Cond.classLink RX1 52 RX0, Cond.instantiable RX0 16, Cond.initialized RX0, Cond.methodLink RX1 33 yX1_requireLayer, Cond.static yX1_requireLayer, Cond.code yX1_requireLayer cX1_requireLayer 1 none, Cond.classLink RX1 90 "java/lang/IndexOutOfBoundsException", Cond.initialized "java/lang/IndexOutOfBoundsException", Cond.methodLink RX1 37 yX1_requireWithin, Cond.static yX1_requireWithin, Cond.code yX1_requireWithin cX1_requireWithin 3 none, Cond.classLink RX1 168 "java/lang/IllegalArgumentException", Cond.initialized "java/lang/IllegalArgumentException", Cond.methodLink RX1 41 yJx4a65c_size_8abf5, Cond.instanceMethod yJx4a65c_size_8abf5, Cond.selects RJx4a65c yJx4a65c_size_8abf5 yJx4a65c_size_8abf5, Cond.code yJx4a65c_size_8abf5 cJx4a65c_size_8abf5 1 (some .int), Cond.fieldLink RJx4a65c 48 "java/util/ArrayList" "size" "I", Cond.methodLink RX1 54 yX0_init]
def wsL_law0_r4 : List Cond := [Cond.instanceMethod yX0_init, Cond.code yX0_init cX0_init 8 none, Cond.methodLink RX0 3 objectInit, Cond.fieldLink RX0 9 "WellRights$Well" "number" "I", Cond.fieldLink RX0 15 "WellRights$Well" "layer" "I", Cond.fieldLink RX0 18 "WellRights$Well" "place" "I", Cond.fieldLink RX0 21 "WellRights$Well" "level" "I", Cond.fieldLink RX0 24 "WellRights$Well" "limit" "I", Cond.fieldLink RX0 27 "WellRights$Well" "age" "I", Cond.fieldLink RX0 30 "WellRights$Well" "right" "I", Cond.fieldLink RX0 37 "WellRights$Well" "text" "Ljava/lang/String;", Cond.fieldLink RX0 41 "WellRights$Well" "lentTo" "[I", Cond.fieldLink RX0 45 "WellRights$Well" "meterWorks" "Z", Cond.methodLink RX0 33 yX0_textOf, Cond.static yX0_textOf, Cond.code yX0_textOf cX0_textOf 4 (some (.object "java/lang/String")), Cond.classLink RX0 49 RJ4, Cond.instantiable RJ4 4, Cond.initialized RJ4, Cond.methodLink RX0 51 yJ4_init_da8c8, Cond.instanceMethod yJ4_init_da8c8, Cond.code yJ4_init_da8c8 cJ4_init_da8c8 1 none, Cond.methodLink RJ4 1 yJ5_init_d00df, Cond.instanceMethod yJ5_init_d00df]
def wsL_law0_r5 : List Cond := [Cond.initialized RJ5, Cond.code yJ5_init_d00df cJ5_init_d00df 2 none, Cond.methodLink RJ5 3 objectInit, Cond.fieldLink RJ5 18 "java/lang/String" "COMPACT_STRINGS" "Z", Cond.arrayClass .byte, Cond.fieldLink RJ5 15 "java/lang/AbstractStringBuilder" "value" "[B", Cond.fieldLink RJ5 22 "java/lang/AbstractStringBuilder" "coder" "B", Cond.methodLink RJ5 26 yJ2_newBytesFor_77867, Cond.static yJ2_newBytesFor_77867, Cond.initialized RJ2, Cond.code yJ2_newBytesFor_77867 cJ2_newBytesFor_77867 1 (some (.array .byte)), Cond.methodLink RJ2 11 yJ2_newBytesLength_0f7a4, Cond.static yJ2_newBytesLength_0f7a4, Cond.code yJ2_newBytesLength_0f7a4 cJ2_newBytesLength_0f7a4 1 (some .int), Cond.constant RJ2 20 (1073741823), Cond.methodLink RX0 53 yJ4_append_15ec4, Cond.instanceMethod yJ4_append_15ec4, Cond.selects RJ4 yJ4_append_15ec4 yJ4_append_15ec4, Cond.code yJ4_append_15ec4 cJ4_append_15ec4 2 (some (.object "java/lang/StringBuilder")), Cond.methodLink RJ4 29 yJ5_append_cf1ce, Cond.sameMethod "java/lang/AbstractStringBuilder" "java/lang/AbstractStringBuilder" "append" "(Ljava/lang/String;)Ljava/lang/AbstractStringBuilder;", Cond.superclass RJ4 RJ5, Cond.instanceMethod yJ5_append_cf1ce, Cond.code yJ5_append_cf1ce cJ5_append_cf1ce 3 (some (.object "java/lang/AbstractStringBuilder"))]
def wsL_law0_r6 : List Cond := [Cond.fieldLink RJ5 79 "java/lang/AbstractStringBuilder" "count" "I", Cond.methodLink RJ5 204 ⟨"java/lang/AbstractStringBuilder", "appendNull", "()Ljava/lang/AbstractStringBuilder;"⟩, Cond.sameMethod "java/lang/AbstractStringBuilder" "java/lang/AbstractStringBuilder" "appendNull" "()Ljava/lang/AbstractStringBuilder;", Cond.selects RJ4 ⟨"java/lang/AbstractStringBuilder", "appendNull", "()Ljava/lang/AbstractStringBuilder;"⟩ yJ5_appendNull_278bc, Cond.instanceMethod yJ5_appendNull_278bc, Cond.code yJ5_appendNull_278bc cJ5_appendNull_278bc 3 (some (.object "java/lang/AbstractStringBuilder")), Cond.methodLink RJ5 100 ⟨"java/lang/AbstractStringBuilder", "ensureCapacityInternal", "(I)V"⟩, Cond.sameMethod "java/lang/AbstractStringBuilder" "java/lang/AbstractStringBuilder" "ensureCapacityInternal" "(I)V", Cond.selects RJ4 ⟨"java/lang/AbstractStringBuilder", "ensureCapacityInternal", "(I)V"⟩ yJ5_ensureCapacityInternal_d00df, Cond.instanceMethod yJ5_ensureCapacityInternal_d00df, Cond.code yJ5_ensureCapacityInternal_d00df cJ5_ensureCapacityInternal_d00df 3 none, Cond.methodLink RJ5 104 ⟨"java/lang/AbstractStringBuilder", "newCapacity", "(I)I"⟩, Cond.sameMethod "java/lang/AbstractStringBuilder" "java/lang/AbstractStringBuilder" "newCapacity" "(I)I", Cond.selects RJ4 ⟨"java/lang/AbstractStringBuilder", "newCapacity", "(I)I"⟩ yJ5_newCapacity_0f7a4, Cond.instanceMethod yJ5_newCapacity_0f7a4, Cond.code yJ5_newCapacity_0f7a4 cJ5_newCapacity_0f7a4 6 (some .int), Cond.constant RJ5 39 (2147483647), Cond.methodLink RJ5 114 yJ8_newLength_cabcc, Cond.static yJ8_newLength_cabcc, Cond.initialized RJ8, Cond.code yJ8_newLength_cabcc cJ8_newLength_cabcc 4 (some .int), Cond.methodLink RJ8 194 Lib.Math.max.name, Cond.static Lib.Math.max.name, Cond.initialized "java/lang/Math"]
def wsL_law0_r7 : List Cond := [Cond.code Lib.Math.max.name Lib.Math.max.code 2 (some .int), Cond.constant RJ8 200 (2147483639), Cond.methodLink RJ8 201 yJ8_hugeLength_7cf53, Cond.static yJ8_hugeLength_7cf53, Cond.code yJ8_hugeLength_7cf53 cJ8_hugeLength_7cf53 3 (some .int), Cond.methodLink RJ5 108 yJ7_copyOf_9075b, Cond.static yJ7_copyOf_9075b, Cond.initialized RJ7, Cond.code yJ7_copyOf_9075b cJ7_copyOf_9075b 3 (some (.array .byte)), Cond.methodLink RJ7 310 ⟨"[B", "clone", "()Ljava/lang/Object;"⟩, Cond.sameMethod "[B" "java/lang/Object" "clone" "()Ljava/lang/Object;", Cond.native ⟨"java/lang/Object", "clone", "()Ljava/lang/Object;"⟩, Cond.instanceMethod ⟨"java/lang/Object", "clone", "()Ljava/lang/Object;"⟩, Cond.selects "[B" ⟨"[B", "clone", "()Ljava/lang/Object;"⟩ ⟨"java/lang/Object", "clone", "()Ljava/lang/Object;"⟩, Cond.classLink RJ7 311 "[B", Cond.methodLink RJ7 304 Lib.Math.min.name, Cond.static Lib.Math.min.name, Cond.code Lib.Math.min.name Lib.Math.min.code 2 (some .int), Cond.methodLink RJ7 150 arraycopyName, Cond.native arraycopyName, Cond.static arraycopyName, Cond.initialized "java/lang/System", Cond.methodLink RJ5 83 ⟨"java/lang/AbstractStringBuilder", "isLatin1", "()Z"⟩, Cond.sameMethod "java/lang/AbstractStringBuilder" "java/lang/AbstractStringBuilder" "isLatin1" "()Z"]
def wsL_law0_r8 : List Cond := [Cond.selects RJ4 ⟨"java/lang/AbstractStringBuilder", "isLatin1", "()Z"⟩ yJ5_isLatin1_aae02, Cond.instanceMethod yJ5_isLatin1_aae02, Cond.code yJ5_isLatin1_aae02 cJ5_isLatin1_aae02 1 (some .boolean), Cond.methodLink RJ5 226 yJ2_putCharsAt_cd4e5, Cond.static yJ2_putCharsAt_cd4e5, Cond.code yJ2_putCharsAt_cd4e5 cJ2_putCharsAt_cd4e5 7 (some .int), Cond.fieldLink RJ2 44 "java/lang/StringUTF16" "$assertionsDisabled" "Z", Cond.methodLink RJ2 96 yJ2_checkBoundsBeginEnd_d044e, Cond.static yJ2_checkBoundsBeginEnd_d044e, Cond.code yJ2_checkBoundsBeginEnd_d044e cJ2_checkBoundsBeginEnd_d044e 3 none, Cond.methodLink RJ2 48 yJ2_length_9d52b, Cond.static yJ2_length_9d52b, Cond.code yJ2_length_9d52b cJ2_length_9d52b 1 (some .int), Cond.methodLink RJ2 241 yJ0_checkBoundsBeginEnd_23922, Cond.static yJ0_checkBoundsBeginEnd_23922, Cond.initialized RJ0, Cond.code yJ0_checkBoundsBeginEnd_23922 cJ0_checkBoundsBeginEnd_23922 3 none, Cond.fieldLink RJ0 1053 "jdk/internal/util/Preconditions" "SIOOBE_FORMATTER" "Ljava/util/function/BiFunction;", Cond.methodLink RJ0 1062 yJ3_checkFromToIndex_8c36e, Cond.static yJ3_checkFromToIndex_8c36e, Cond.initialized RJ3, Cond.code yJ3_checkFromToIndex_8c36e cJ3_checkFromToIndex_8c36e 4 (some .int), Cond.methodLink RJ2 111 yJ2_putChar_b72d1, Cond.static yJ2_putChar_b72d1]
def wsL_law0_r9 : List Cond := [Cond.code yJ2_putChar_b72d1 cJ2_putChar_b72d1 3 none, Cond.fieldLink RJ2 59 "java/lang/StringUTF16" "HI_BYTE_SHIFT" "I", Cond.fieldLink RJ2 63 "java/lang/StringUTF16" "LO_BYTE_SHIFT" "I", Cond.methodLink RJ5 32 yJ0_length_8abf5, Cond.instanceMethod yJ0_length_8abf5, Cond.selects RJ0 yJ0_length_8abf5 yJ0_length_8abf5, Cond.code yJ0_length_8abf5 cJ0_length_8abf5 1 (some .int), Cond.fieldLink RJ0 9 "java/lang/String" "value" "[B", Cond.methodLink RJ0 335 yJ0_coder_7d493, Cond.instanceMethod yJ0_coder_7d493, Cond.selects RJ0 yJ0_coder_7d493 yJ0_coder_7d493, Cond.code yJ0_coder_7d493 cJ0_coder_7d493 1 (some .byte), Cond.fieldLink RJ0 38 "java/lang/String" "COMPACT_STRINGS" "Z", Cond.fieldLink RJ0 15 "java/lang/String" "coder" "B", Cond.methodLink RJ5 208 ⟨"java/lang/AbstractStringBuilder", "putStringAt", "(ILjava/lang/String;)V"⟩, Cond.sameMethod "java/lang/AbstractStringBuilder" "java/lang/AbstractStringBuilder" "putStringAt" "(ILjava/lang/String;)V", Cond.selects RJ4 ⟨"java/lang/AbstractStringBuilder", "putStringAt", "(ILjava/lang/String;)V"⟩ yJ5_putStringAt_47b60, Cond.instanceMethod yJ5_putStringAt_47b60, Cond.code yJ5_putStringAt_47b60 cJ5_putStringAt_47b60 3 none, Cond.methodLink RJ5 397 ⟨"java/lang/AbstractStringBuilder", "inflateIfNeededFor", "(Ljava/lang/String;)V"⟩, Cond.sameMethod "java/lang/AbstractStringBuilder" "java/lang/AbstractStringBuilder" "inflateIfNeededFor" "(Ljava/lang/String;)V", Cond.selects RJ4 ⟨"java/lang/AbstractStringBuilder", "inflateIfNeededFor", "(Ljava/lang/String;)V"⟩ yJ5_inflateIfNeededFor_a7421, Cond.instanceMethod yJ5_inflateIfNeededFor_a7421, Cond.code yJ5_inflateIfNeededFor_a7421 cJ5_inflateIfNeededFor_a7421 2 none]
def wsL_law0_r10 : List Cond := [Cond.methodLink RJ5 40 yJ0_coder_7d493, Cond.methodLink RJ5 195 ⟨"java/lang/AbstractStringBuilder", "inflate", "()V"⟩, Cond.sameMethod "java/lang/AbstractStringBuilder" "java/lang/AbstractStringBuilder" "inflate" "()V", Cond.selects RJ4 ⟨"java/lang/AbstractStringBuilder", "inflate", "()V"⟩ yJ5_inflate_da8c8, Cond.instanceMethod yJ5_inflate_da8c8, Cond.code yJ5_inflate_da8c8 cJ5_inflate_da8c8 2 none, Cond.methodLink RJ5 125 yJ1_inflate_0e8fd, Cond.static yJ1_inflate_0e8fd, Cond.initialized RJ1, Cond.code yJ1_inflate_0e8fd cJ1_inflate_0e8fd 5 none, Cond.methodLink RJ1 240 yJ2_inflate_0e8fd, Cond.static yJ2_inflate_0e8fd, Cond.code yJ2_inflate_0e8fd cJ2_inflate_0e8fd 6 none, Cond.methodLink RJ2 173 yJ2_checkBoundsOffCount_d044e, Cond.static yJ2_checkBoundsOffCount_d044e, Cond.code yJ2_checkBoundsOffCount_d044e cJ2_checkBoundsOffCount_d044e 3 none, Cond.methodLink RJ2 419 yJ0_checkBoundsOffCount_cabcc, Cond.static yJ0_checkBoundsOffCount_cabcc, Cond.code yJ0_checkBoundsOffCount_cabcc cJ0_checkBoundsOffCount_cabcc 3 (some .int), Cond.methodLink RJ0 1065 yJ3_checkFromIndexSize_8c36e, Cond.static yJ3_checkFromIndexSize_8c36e, Cond.code yJ3_checkFromIndexSize_8c36e cJ3_checkFromIndexSize_8c36e 4 (some .int), Cond.methodLink RJ5 399 yJ0_getBytes_840e7, Cond.instanceMethod yJ0_getBytes_840e7]
def wsL_law0_r11 : List Cond := [Cond.selects RJ0 yJ0_getBytes_840e7 yJ0_getBytes_840e7, Cond.code yJ0_getBytes_840e7 cJ0_getBytes_840e7 4 none, Cond.methodLink RJ0 212 arraycopyName, Cond.methodLink RJ0 106 yJ1_inflate_0e8fd, Cond.methodLink RX0 57 yJ4_append_bf812, Cond.instanceMethod yJ4_append_bf812, Cond.selects RJ4 yJ4_append_bf812 yJ4_append_bf812, Cond.code yJ4_append_bf812 cJ4_append_bf812 2 (some (.object "java/lang/StringBuilder")), Cond.methodLink RJ4 53 yJ5_append_c97b9, Cond.sameMethod "java/lang/AbstractStringBuilder" "java/lang/AbstractStringBuilder" "append" "(I)Ljava/lang/AbstractStringBuilder;", Cond.instanceMethod yJ5_append_c97b9, Cond.code yJ5_append_c97b9 cJ5_append_c97b9 4 (some (.object "java/lang/AbstractStringBuilder")), Cond.methodLink RJ5 245 yJ6_stringSize_0f7a4, Cond.static yJ6_stringSize_0f7a4, Cond.initialized RJ6, Cond.code yJ6_stringSize_0f7a4 cJ6_stringSize_0f7a4 4 (some .int), Cond.methodLink RJ5 248 yJ6_getChars_ba4f3, Cond.static yJ6_getChars_ba4f3, Cond.code yJ6_getChars_ba4f3 cJ6_getChars_ba4f3 7 (some .int), Cond.fieldLink RJ6 83 "java/lang/Integer" "DigitOnes" "[B", Cond.fieldLink RJ6 87 "java/lang/Integer" "DigitTens" "[B", Cond.methodLink RJ5 251 yJ2_getChars_46870, Cond.static yJ2_getChars_46870, Cond.code yJ2_getChars_46870 cJ2_getChars_46870 5 (some .int)]
def wsL_law0_r12 : List Cond := [Cond.methodLink RJ2 393 yJ2_getChars_ba4f3, Cond.static yJ2_getChars_ba4f3, Cond.code yJ2_getChars_ba4f3 cJ2_getChars_ba4f3 7 (some .int), Cond.fieldLink RJ2 403 "java/lang/Integer" "DigitOnes" "[B", Cond.fieldLink RJ2 407 "java/lang/Integer" "DigitTens" "[B", Cond.methodLink RX0 60 yJ4_append_cf468, Cond.instanceMethod yJ4_append_cf468, Cond.selects RJ4 yJ4_append_cf468 yJ4_append_cf468, Cond.code yJ4_append_cf468 cJ4_append_cf468 2 (some (.object "java/lang/StringBuilder")), Cond.methodLink RJ4 50 yJ5_append_3fe6f, Cond.sameMethod "java/lang/AbstractStringBuilder" "java/lang/AbstractStringBuilder" "append" "(C)Ljava/lang/AbstractStringBuilder;", Cond.instanceMethod yJ5_append_3fe6f, Cond.code yJ5_append_3fe6f cJ5_append_3fe6f 2 (some (.object "java/lang/AbstractStringBuilder")), Cond.methodLink RJ5 191 yJ1_canEncode_fc78d, Cond.static yJ1_canEncode_fc78d, Cond.code yJ1_canEncode_fc78d cJ1_canEncode_fc78d 1 (some .boolean), Cond.methodLink RJ5 197 yJ2_putCharSB_b72d1, Cond.static yJ2_putCharSB_b72d1, Cond.code yJ2_putCharSB_b72d1 cJ2_putCharSB_b72d1 3 none, Cond.methodLink RJ2 67 yJ2_checkIndex_2214a, Cond.static yJ2_checkIndex_2214a, Cond.code yJ2_checkIndex_2214a cJ2_checkIndex_2214a 2 none, Cond.methodLink RJ2 414 yJ0_checkIndex_df160, Cond.static yJ0_checkIndex_df160]
def wsL_law0_r13 : List Cond := [Cond.code yJ0_checkIndex_df160 cJ0_checkIndex_df160 2 none, Cond.methodLink RJ0 1059 yJ3_checkIndex_8e157, Cond.static yJ3_checkIndex_8e157, Cond.code yJ3_checkIndex_8e157 cJ3_checkIndex_8e157 3 (some .int), Cond.methodLink RX0 63 yJ4_toString_0e30d, Cond.instanceMethod yJ4_toString_0e30d, Cond.selects RJ4 yJ4_toString_0e30d yJ4_toString_0e30d, Cond.code yJ4_toString_0e30d cJ4_toString_0e30d 1 (some (.object "java/lang/String")), Cond.classLink RJ4 18 RJ0, Cond.instantiable RJ0 4, Cond.methodLink RJ4 137 yJ0_init_81219, Cond.instanceMethod yJ0_init_81219, Cond.code yJ0_init_81219 cJ0_init_81219 2 none, Cond.methodLink RJ0 489 yJ0_init_db425, Cond.instanceMethod yJ0_init_db425, Cond.code yJ0_init_db425 cJ0_init_db425 5 none, Cond.methodLink RJ0 1 objectInit, Cond.fieldLink RJ0 1048 "java/lang/AbstractStringBuilder" "maybeLatin1" "Z", Cond.methodLink RJ0 552 ⟨"java/lang/AbstractStringBuilder", "getValue", "()[B"⟩, Cond.sameMethod "java/lang/AbstractStringBuilder" "java/lang/AbstractStringBuilder" "getValue" "()[B", Cond.selects RJ4 ⟨"java/lang/AbstractStringBuilder", "getValue", "()[B"⟩ yJ5_getValue_6d5f1, Cond.instanceMethod yJ5_getValue_6d5f1, Cond.code yJ5_getValue_6d5f1 cJ5_getValue_6d5f1 1 (some (.array .byte)), Cond.methodLink RJ0 549 ⟨"java/lang/AbstractStringBuilder", "length", "()I"⟩]
def wsL_law0_r14 : List Cond := [Cond.sameMethod "java/lang/AbstractStringBuilder" "java/lang/AbstractStringBuilder" "length" "()I", Cond.instanceMethod ⟨"java/lang/AbstractStringBuilder", "length", "()I"⟩, Cond.selects RJ4 ⟨"java/lang/AbstractStringBuilder", "length", "()I"⟩ yJ4_length_8abf5, Cond.instanceMethod yJ4_length_8abf5, Cond.code yJ4_length_8abf5 cJ4_length_8abf5 1 (some .int), Cond.methodLink RJ4 343 yJ5_length_8abf5, Cond.instanceMethod yJ5_length_8abf5, Cond.code yJ5_length_8abf5 cJ5_length_8abf5 1 (some .int), Cond.methodLink RJ0 1047 ⟨"java/lang/AbstractStringBuilder", "isLatin1", "()Z"⟩, Cond.methodLink RJ0 54 yJ7_copyOfRange_39247, Cond.static yJ7_copyOfRange_39247, Cond.code yJ7_copyOfRange_39247 cJ7_copyOfRange_39247 3 (some (.array .byte)), Cond.methodLink RJ7 339 yJ7_copyOfRangeByte_39247, Cond.static yJ7_copyOfRangeByte_39247, Cond.code yJ7_copyOfRangeByte_39247 cJ7_copyOfRangeByte_39247 5 (some (.array .byte)), Cond.methodLink RJ7 343 yJ7_checkLength_df160, Cond.static yJ7_checkLength_df160, Cond.code yJ7_checkLength_df160 cJ7_checkLength_df160 2 none, Cond.methodLink RJ0 1051 yJ2_compress_39247, Cond.static yJ2_compress_39247, Cond.code yJ2_compress_39247 cJ2_compress_39247 6 (some (.array .byte)), Cond.methodLink RJ2 123 yJ2_compress_5af95, Cond.static yJ2_compress_5af95, Cond.code yJ2_compress_5af95 cJ2_compress_5af95 7 (some .int)]
def wsL_law0_r15 : List Cond := [Cond.methodLink RJ2 71 yJ2_getChar_3b067, Cond.static yJ2_getChar_3b067, Cond.code yJ2_getChar_3b067 cJ2_getChar_3b067 2 (some .char), Cond.methodLink RJ2 126 yJ7_copyOfRange_39247, Cond.methodLink RJ0 47 yJ2_coderFromArrayLen_85cad, Cond.static yJ2_coderFromArrayLen_85cad, Cond.code yJ2_coderFromArrayLen_85cad cJ2_coderFromArrayLen_85cad 2 (some .byte), Cond.methodLink RX1 57 yJx4a65c_add_9ea2d, Cond.instanceMethod yJx4a65c_add_9ea2d, Cond.selects RJx4a65c yJx4a65c_add_9ea2d yJx4a65c_add_9ea2d, Cond.code yJx4a65c_add_9ea2d cJx4a65c_add_9ea2d 2 (some .boolean), Cond.fieldLink RJx4a65c 63 "java/util/ArrayList" "modCount" "I", Cond.sameField "java/util/ArrayList" "java/util/AbstractList" "modCount" "I", Cond.methodLink RJx4a65c 131 yJx4a65c_add_72be8, Cond.instanceMethod yJx4a65c_add_72be8, Cond.selects RJx4a65c yJx4a65c_add_72be8 yJx4a65c_add_72be8, Cond.code yJx4a65c_add_72be8 cJx4a65c_add_72be8 4 none, Cond.methodLink RJx4a65c 129 yJx4a65c_grow_d5877, Cond.instanceMethod yJx4a65c_grow_d5877, Cond.selects RJx4a65c yJx4a65c_grow_d5877 yJx4a65c_grow_d5877, Cond.code yJx4a65c_grow_d5877 cJx4a65c_grow_d5877 1 (some (.array (.object "java/lang/Object"))), Cond.methodLink RJx4a65c 69 yJx4a65c_grow_92f84, Cond.instanceMethod yJx4a65c_grow_92f84, Cond.selects RJx4a65c yJx4a65c_grow_92f84 yJx4a65c_grow_92f84]
def wsL_law0_r16 : List Cond := [Cond.code yJx4a65c_grow_92f84 cJx4a65c_grow_92f84 4 (some (.array (.object "java/lang/Object"))), Cond.methodLink RJx4a65c 79 Lib.Math.max.name, Cond.classLink RJx4a65c 7 "java/lang/Object", Cond.methodLink RJx4a65c 73 yJ8_newLength_cabcc, Cond.methodLink RJx4a65c 66 yJ7_copyOf_1904c, Cond.static yJ7_copyOf_1904c, Cond.code yJ7_copyOf_1904c cJ7_copyOf_1904c 2 (some (.array (.object "java/lang/Object"))), Cond.methodLink RJ7 86 ⟨"java/lang/Object", "getClass", "()Ljava/lang/Class;"⟩, Cond.selects "[Ljava/lang/Object;" ⟨"java/lang/Object", "getClass", "()Ljava/lang/Class;"⟩ ⟨"java/lang/Object", "getClass", "()Ljava/lang/Class;"⟩, Cond.instanceMethod ⟨"java/lang/Object", "getClass", "()Ljava/lang/Class;"⟩, Cond.native ⟨"java/lang/Object", "getClass", "()Ljava/lang/Class;"⟩, Cond.methodLink RJ7 300 yJ7_copyOf_6403c, Cond.static yJ7_copyOf_6403c, Cond.code yJ7_copyOf_6403c cJ7_copyOf_6403c 4 (some (.array (.object "java/lang/Object"))), Cond.classLink RJ7 110 "[Ljava/lang/Object;", Cond.classLink RJ7 2 "java/lang/Object", Cond.methodLink RL 105 yX1_plan, Cond.instanceMethod yX1_plan, Cond.selects RX1 yX1_plan yX1_plan, Cond.code yX1_plan cX1_plan 5 (some .int), Cond.fieldLink RX1 65 "WellRights$Well" "planned" "I", Cond.methodLink RX1 61 yX1_wellAt, Cond.instanceMethod yX1_wellAt, Cond.selects RX1 yX1_wellAt yX1_wellAt]
def wsL_law0_r17 : List Cond := [Cond.code yX1_wellAt cX1_wellAt 2 (some (.object "WellRights$Well")), Cond.classLink RX1 52 "WellRights$Well", Cond.methodLink RX1 162 yJx4a65c_get_915e3, Cond.instanceMethod yJx4a65c_get_915e3, Cond.selects RJx4a65c yJx4a65c_get_915e3 yJx4a65c_get_915e3, Cond.code yJx4a65c_get_915e3 cJx4a65c_get_915e3 2 (some (.object "java/lang/Object")), Cond.methodLink RJx4a65c 118 yJ15_checkIndex_7cf53, Cond.static yJ15_checkIndex_7cf53, Cond.initialized RJ15, Cond.code yJ15_checkIndex_7cf53 cJ15_checkIndex_7cf53 2 (some .int), Cond.methodLink RJ15 105 yJ3_checkIndex_8e157, Cond.methodLink RJx4a65c 123 yJx4a65c_elementData_915e3, Cond.instanceMethod yJx4a65c_elementData_915e3, Cond.selects RJx4a65c yJx4a65c_elementData_915e3 yJx4a65c_elementData_915e3, Cond.code yJx4a65c_elementData_915e3 cJx4a65c_elementData_915e3 2 (some (.object "java/lang/Object")), Cond.methodLink RL 108 yX1_setRecharge, Cond.instanceMethod yX1_setRecharge, Cond.selects RX1 yX1_setRecharge yX1_setRecharge, Cond.code yX1_setRecharge cX1_setRecharge 4 (some .int), Cond.methodLink RL 111 yX1_toggleMeter, Cond.instanceMethod yX1_toggleMeter, Cond.selects RX1 yX1_toggleMeter yX1_toggleMeter, Cond.code yX1_toggleMeter cX1_toggleMeter 3 (some .boolean), Cond.fieldLink RX1 131 "WellRights$Well" "meterWorks" "Z"]
def wsL_law0_r18 : List Cond := [Cond.methodLink RL 115 yX1_power, Cond.instanceMethod yX1_power, Cond.selects RX1 yX1_power yX1_power, Cond.code yX1_power cX1_power 5 (some .int), Cond.fieldLink RX1 135 "WellRights$Well" "power" "I", Cond.methodLink RL 118 yL_lends, Cond.static yL_lends, Cond.code yL_lends cL_lends 9 (some .boolean), Cond.methodLink RL 89 yX1_callBack, Cond.instanceMethod yX1_callBack, Cond.selects RX1 yX1_callBack yX1_callBack, Cond.code yX1_callBack cX1_callBack 6 (some .int), Cond.fieldLink RX1 147 "WellRights$Well" "lentTo" "[I", Cond.fieldLink RX1 138 "WellRights$Well" "bank" "I", Cond.methodLink RX1 150 Lib.Math.min.name, Cond.methodLink RX1 141 yX1_requireDifferent, Cond.static yX1_requireDifferent, Cond.code yX1_requireDifferent cX1_requireDifferent 2 none, Cond.methodLink RL 92 yL_calls, Cond.static yL_calls, Cond.codeWith yL_calls cL_calls 6 (some .int) [(0, 32, 33, 24)], Cond.classLink RL 24 "java/lang/IllegalStateException", Cond.methodLink RL 10 yX1_year, Cond.instanceMethod yX1_year]
def wsL_law0_r19 : List Cond := [Cond.selects RX1 yX1_year yX1_year, Cond.code yX1_year cX1_year 2 (some .int), Cond.methodLink RX1 101 yX1_shrinkBanks, Cond.instanceMethod yX1_shrinkBanks, Cond.selects RX1 yX1_shrinkBanks yX1_shrinkBanks, Cond.code yX1_shrinkBanks cX1_shrinkBanks 4 none, Cond.methodLink RX1 104 yX1_whoIsStopped, Cond.instanceMethod yX1_whoIsStopped, Cond.selects RX1 yX1_whoIsStopped yX1_whoIsStopped, Cond.code yX1_whoIsStopped cX1_whoIsStopped 4 (some .int), Cond.methodLink RX1 175 yX1_nextToStop, Cond.instanceMethod yX1_nextToStop, Cond.selects RX1 yX1_nextToStop yX1_nextToStop, Cond.code yX1_nextToStop cX1_nextToStop 7 (some (.object "WellRights$Well")), Cond.fieldLink RX1 185 "WellRights$Well" "limit" "I", Cond.methodLink RX1 181 yX1_levelBehind, Cond.instanceMethod yX1_levelBehind, Cond.selects RX1 yX1_levelBehind yX1_levelBehind, Cond.code yX1_levelBehind cX1_levelBehind 6 (some .int), Cond.fieldLink RX1 78 "WellRights$Well" "level" "I", Cond.fieldLink RX1 68 "WellRights$Well" "layer" "I", Cond.fieldLink RX1 71 "WellRights$Well" "place" "I", Cond.methodLink RX1 74 yX0_reachedFrom, Cond.instanceMethod yX0_reachedFrom]
def wsL_law0_r20 : List Cond := [Cond.selects RX0 yX0_reachedFrom yX0_reachedFrom, Cond.code yX0_reachedFrom cX0_reachedFrom 5 (some .int), Cond.methodLink RX0 78 Lib.Math.abs.name, Cond.static Lib.Math.abs.name, Cond.code Lib.Math.abs.name Lib.Math.abs.code 1 (some .int), Cond.methodLink RX0 84 Lib.Math.max.name, Cond.methodLink RX1 199 yX1_hundredths, Cond.static yX1_hundredths, Cond.code yX1_hundredths cX1_hundredths 2 (some .int), Cond.methodLink RX1 196 yX0_drawUnder, Cond.instanceMethod yX0_drawUnder, Cond.selects RX0 yX0_drawUnder yX0_drawUnder, Cond.code yX0_drawUnder cX0_drawUnder 2 (some .int), Cond.fieldLink RX0 75 "WellRights$Well" "planned" "I", Cond.methodLink RX0 71 yX0_isIn, Cond.instanceMethod yX0_isIn, Cond.selects RX0 yX0_isIn yX0_isIn, Cond.code yX0_isIn cX0_isIn 2 (some .boolean), Cond.methodLink RX0 67 yX0_bit, Cond.instanceMethod yX0_bit, Cond.selects RX0 yX0_bit yX0_bit, Cond.code yX0_bit cX0_bit 1 (some .int), Cond.methodLink RX1 188 yX0_isOlderThan, Cond.instanceMethod yX0_isOlderThan]
def wsL_law0_r21 : List Cond := [Cond.selects RX0 yX0_isOlderThan yX0_isOlderThan, Cond.code yX0_isOlderThan cX0_isOlderThan 2 (some .boolean), Cond.methodLink RX1 192 yX1_youngestDrawerOn, Cond.instanceMethod yX1_youngestDrawerOn, Cond.selects RX1 yX1_youngestDrawerOn yX1_youngestDrawerOn, Cond.code yX1_youngestDrawerOn cX1_youngestDrawerOn 6 (some (.object "WellRights$Well")), Cond.methodLink RX1 178 yX0_bit, Cond.methodLink RX1 107 yX1_drawWater, Cond.instanceMethod yX1_drawWater, Cond.selects RX1 yX1_drawWater yX1_drawWater, Cond.code yX1_drawWater cX1_drawWater 4 none, Cond.fieldLink RX1 125 "WellRights$Well" "drew" "I", Cond.methodLink RX1 110 yX1_tellWater, Cond.instanceMethod yX1_tellWater, Cond.selects RX1 yX1_tellWater yX1_tellWater, Cond.code yX1_tellWater cX1_tellWater 3 none, Cond.fieldLink RX1 128 "WellRights$Well" "told" "I", Cond.methodLink RX1 202 yX1_meanOfWorkingMeters, Cond.instanceMethod yX1_meanOfWorkingMeters, Cond.selects RX1 yX1_meanOfWorkingMeters yX1_meanOfWorkingMeters, Cond.code yX1_meanOfWorkingMeters cX1_meanOfWorkingMeters 6 (some .int), Cond.methodLink RX1 113 yX1_settleRights, Cond.instanceMethod yX1_settleRights, Cond.selects RX1 yX1_settleRights yX1_settleRights]
def wsL_law0_r22 : List Cond := [Cond.code yX1_settleRights cX1_settleRights 4 none, Cond.fieldLink RX1 205 "WellRights$Well" "right" "I", Cond.methodLink RX1 208 yX1_chargeAbove, Cond.instanceMethod yX1_chargeAbove, Cond.selects RX1 yX1_chargeAbove yX1_chargeAbove, Cond.code yX1_chargeAbove cX1_chargeAbove 5 none, Cond.fieldLink RX1 155 "WellRights$Well" "fines" "I", Cond.methodLink RX1 212 yX0_isIn, Cond.methodLink RX1 116 yX1_forgetPower, Cond.instanceMethod yX1_forgetPower, Cond.selects RX1 yX1_forgetPower yX1_forgetPower, Cond.code yX1_forgetPower cX1_forgetPower 2 none, Cond.methodLink RX1 119 yJ6_bitCount_0f7a4, Cond.static yJ6_bitCount_0f7a4, Cond.code yJ6_bitCount_0f7a4 cJ6_bitCount_0f7a4 1 (some .int), Cond.constant RJ6 265 (1431655765), Cond.constant RJ6 266 (858993459), Cond.constant RJ6 267 (252645135), Cond.methodLink RL 16 yX1_lend, Cond.instanceMethod yX1_lend, Cond.selects RX1 yX1_lend yX1_lend, Cond.code yX1_lend cX1_lend 6 (some .int), Cond.methodLink RL 20 yX1_build, Cond.instanceMethod yX1_build]
def wsL_law0_r23 : List Cond := [Cond.selects RX1 yX1_build yX1_build, Cond.code yX1_build cX1_build 2 (some .int), Cond.methodLink RL 122 yL_year, Cond.static yL_year, Cond.code yL_year cL_year 10 (some .int), Cond.methodLink RL 43 yL_stops, Cond.static yL_stops, Cond.code yL_stops cL_stops 11 (some .int), Cond.methodLink RL 35 yL_ranks, Cond.static yL_ranks, Cond.code yL_ranks cL_ranks 6 none, Cond.methodLink RL 39 yL_behind, Cond.static yL_behind, Cond.code yL_behind cL_behind 6 none, Cond.methodLink RL 31 yL_reach, Cond.static yL_reach, Cond.code yL_reach cL_reach 7 (some .int), Cond.methodLink RL 26 yL_size, Cond.static yL_size, Cond.code yL_size cL_size 1 (some .int), Cond.methodLink RL 47 yL_mean, Cond.static yL_mean, Cond.code yL_mean cL_mean 8 (some .int), Cond.methodLink RL 125 yL_isSo]
def wsL_law0_r24 : List Cond := [Cond.static yL_isSo, Cond.code yL_isSo cL_isSo 12 (some .boolean), Cond.methodLink RL 51 yX1_years, Cond.instanceMethod yX1_years, Cond.selects RX1 yX1_years yX1_years, Cond.code yX1_years cX1_years 1 (some .int), Cond.methodLink RL 54 yX1_fund, Cond.instanceMethod yX1_fund, Cond.selects RX1 yX1_fund yX1_fund, Cond.code yX1_fund cX1_fund 1 (some .int), Cond.methodLink RL 57 yX1_wouldStop, Cond.instanceMethod yX1_wouldStop, Cond.selects RX1 yX1_wouldStop yX1_wouldStop, Cond.code yX1_wouldStop cX1_wouldStop 1 (some .int), Cond.methodLink RL 64 yX1_level, Cond.instanceMethod yX1_level, Cond.selects RX1 yX1_level yX1_level, Cond.code yX1_level cX1_level 2 (some .int), Cond.methodLink RL 67 yX1_bank, Cond.instanceMethod yX1_bank, Cond.selects RX1 yX1_bank yX1_bank, Cond.code yX1_bank cX1_bank 2 (some .int), Cond.methodLink RL 70 yX1_fines, Cond.instanceMethod yX1_fines]
def wsL_law0_r25 : List Cond := [Cond.selects RX1 yX1_fines yX1_fines, Cond.code yX1_fines cX1_fines 2 (some .int), Cond.methodLink RL 73 yX1_drew, Cond.instanceMethod yX1_drew, Cond.selects RX1 yX1_drew yX1_drew, Cond.code yX1_drew cX1_drew 2 (some .int), Cond.methodLink RL 76 yX1_told, Cond.instanceMethod yX1_told, Cond.selects RX1 yX1_told yX1_told, Cond.code yX1_told cX1_told 2 (some .int), Cond.methodLink RL 79 yX1_reach, Cond.instanceMethod yX1_reach, Cond.selects RX1 yX1_reach yX1_reach, Cond.code yX1_reach cX1_reach 5 (some .int), Cond.methodLink RL 81 yX1_sign, Cond.instanceMethod yX1_sign, Cond.selects RX1 yX1_sign yX1_sign, Cond.code yX1_sign cX1_sign 4 (some .char), Cond.fieldLink RX1 81 "WellRights$Well" "text" "Ljava/lang/String;", Cond.methodLink RX1 85 yJ0_length_8abf5, Cond.methodLink RX1 95 yJ0_charAt_5068e, Cond.instanceMethod yJ0_charAt_5068e, Cond.selects RJ0 yJ0_charAt_5068e yJ0_charAt_5068e, Cond.code yJ0_charAt_5068e cJ0_charAt_5068e 2 (some .char)]
def wsL_law0_r26 : List Cond := [Cond.methodLink RJ0 492 yJ0_isLatin1_aae02, Cond.instanceMethod yJ0_isLatin1_aae02, Cond.selects RJ0 yJ0_isLatin1_aae02 yJ0_isLatin1_aae02, Cond.code yJ0_isLatin1_aae02 cJ0_isLatin1_aae02 1 (some .boolean), Cond.methodLink RJ0 495 yJ1_charAt_3b067, Cond.static yJ1_charAt_3b067, Cond.code yJ1_charAt_3b067 cJ1_charAt_3b067 2 (some .char), Cond.methodLink RJ1 9 yJ0_checkIndex_df160, Cond.methodLink RJ0 498 yJ2_charAt_3b067, Cond.static yJ2_charAt_3b067, Cond.code yJ2_charAt_3b067 cJ2_charAt_3b067 2 (some .char)]
def wsL_law0 : List Cond := (wsL_law0_r1 ++ (wsL_law0_r2 ++ (wsL_law0_r3 ++ (wsL_law0_r4 ++ (wsL_law0_r5 ++ (wsL_law0_r6 ++ (wsL_law0_r7 ++ (wsL_law0_r8 ++ (wsL_law0_r9 ++ (wsL_law0_r10 ++ (wsL_law0_r11 ++ (wsL_law0_r12 ++ (wsL_law0_r13 ++ (wsL_law0_r14 ++ (wsL_law0_r15 ++ (wsL_law0_r16 ++ (wsL_law0_r17 ++ (wsL_law0_r18 ++ (wsL_law0_r19 ++ (wsL_law0_r20 ++ (wsL_law0_r21 ++ (wsL_law0_r22 ++ (wsL_law0_r23 ++ (wsL_law0_r24 ++ (wsL_law0_r25 ++ wsL_law0_r26))))))))))))))))))))))))) ++ wsX10 ++ wsJx4a65c0 ++ wsX00 ++ wsJ40 ++ wsJ00 ++ ([] : List Cond)
def wsL_law : List Cond := wsL_law0 ++ (vx_atS RX1 49 "java/lang/IllegalStateException" ["java/lang/RuntimeException", "java/lang/Exception"]).filter goodWord ++ (vx_atS RX1 94 "java/lang/IndexOutOfBoundsException" ["java/lang/RuntimeException", "java/lang/Exception"]).filter goodWord ++ (vx_atS RX1 172 "java/lang/IllegalArgumentException" ["java/lang/RuntimeException", "java/lang/Exception"]).filter goodWord
theorem inlX0 : ∀ w ∈ wsX00, w ∈ wsL_law := fun _ h => List.mem_append_left _ (List.mem_append_left _ (List.mem_append_left _ (List.mem_append_left _ (List.mem_append_left _ (List.mem_append_left _ (List.mem_append_right _ h))))))
theorem inlX1 : ∀ w ∈ wsX10, w ∈ wsL_law := fun _ h => List.mem_append_left _ (List.mem_append_left _ (List.mem_append_left _ (List.mem_append_left _ (List.mem_append_left _ (List.mem_append_left _ (List.mem_append_left _ (List.mem_append_left _ (List.mem_append_right _ h))))))))
theorem inlJ0 : ∀ w ∈ wsJ00, w ∈ wsL_law := fun _ h => List.mem_append_left _ (List.mem_append_left _ (List.mem_append_left _ (List.mem_append_left _ (List.mem_append_right _ h))))
theorem inlJ4 : ∀ w ∈ wsJ40, w ∈ wsL_law := fun _ h => List.mem_append_left _ (List.mem_append_left _ (List.mem_append_left _ (List.mem_append_left _ (List.mem_append_left _ (List.mem_append_right _ h)))))
theorem inlJx4a65c : ∀ w ∈ wsJx4a65c0, w ∈ wsL_law := fun _ h => List.mem_append_left _ (List.mem_append_left _ (List.mem_append_left _ (List.mem_append_left _ (List.mem_append_left _ (List.mem_append_left _ (List.mem_append_left _ (List.mem_append_right _ h)))))))
theorem dX0_init_0 : decode cX0_init 0 = .ok (.aload_n 0, 1) := by decide +kernel
theorem dX0_init_1 : decode cX0_init 1 = .ok (.invokespecial 3, 3) := by decide +kernel
theorem dX0_init_4 : decode cX0_init 4 = .ok (.aload_n 0, 1) := by decide +kernel
theorem dX0_init_5 : decode cX0_init 5 = .ok (.iload_n 1, 1) := by decide +kernel
theorem dX0_init_6 : decode cX0_init 6 = .ok (.putfield 9, 3) := by decide +kernel
theorem dX0_init_9 : decode cX0_init 9 = .ok (.aload_n 0, 1) := by decide +kernel
theorem dX0_init_10 : decode cX0_init 10 = .ok (.iload_n 2, 1) := by decide +kernel
theorem dX0_init_11 : decode cX0_init 11 = .ok (.putfield 15, 3) := by decide +kernel
theorem dX0_init_14 : decode cX0_init 14 = .ok (.aload_n 0, 1) := by decide +kernel
theorem dX0_init_15 : decode cX0_init 15 = .ok (.iload_n 3, 1) := by decide +kernel
theorem dX0_init_16 : decode cX0_init 16 = .ok (.putfield 18, 3) := by decide +kernel
theorem dX0_init_19 : decode cX0_init 19 = .ok (.aload_n 0, 1) := by decide +kernel
theorem dX0_init_20 : decode cX0_init 20 = .ok (.iload 4, 2) := by decide +kernel
theorem dX0_init_22 : decode cX0_init 22 = .ok (.putfield 21, 3) := by decide +kernel
theorem dX0_init_25 : decode cX0_init 25 = .ok (.aload_n 0, 1) := by decide +kernel
theorem dX0_init_26 : decode cX0_init 26 = .ok (.iload 5, 2) := by decide +kernel
theorem dX0_init_28 : decode cX0_init 28 = .ok (.putfield 24, 3) := by decide +kernel
theorem dX0_init_31 : decode cX0_init 31 = .ok (.aload_n 0, 1) := by decide +kernel
theorem dX0_init_32 : decode cX0_init 32 = .ok (.iload 6, 2) := by decide +kernel
theorem dX0_init_34 : decode cX0_init 34 = .ok (.putfield 27, 3) := by decide +kernel
theorem dX0_init_37 : decode cX0_init 37 = .ok (.aload_n 0, 1) := by decide +kernel
theorem dX0_init_38 : decode cX0_init 38 = .ok (.iload 7, 2) := by decide +kernel
theorem dX0_init_40 : decode cX0_init 40 = .ok (.putfield 30, 3) := by decide +kernel
theorem dX0_init_43 : decode cX0_init 43 = .ok (.aload_n 0, 1) := by decide +kernel
theorem dX0_init_44 : decode cX0_init 44 = .ok (.iload_n 2, 1) := by decide +kernel
theorem dX0_init_45 : decode cX0_init 45 = .ok (.iload_n 3, 1) := by decide +kernel
theorem dX0_init_46 : decode cX0_init 46 = .ok (.iload_n 1, 1) := by decide +kernel
theorem dX0_init_47 : decode cX0_init 47 = .ok (.invokestatic 33, 3) := by decide +kernel
theorem dX0_init_50 : decode cX0_init 50 = .ok (.putfield 37, 3) := by decide +kernel
theorem dX0_init_53 : decode cX0_init 53 = .ok (.aload_n 0, 1) := by decide +kernel
theorem dX0_init_54 : decode cX0_init 54 = .ok (.bipush 8, 2) := by decide +kernel
theorem dX0_init_56 : decode cX0_init 56 = .ok (.newarray .int, 2) := by decide +kernel
theorem dX0_init_58 : decode cX0_init 58 = .ok (.putfield 41, 3) := by decide +kernel
theorem dX0_init_61 : decode cX0_init 61 = .ok (.aload_n 0, 1) := by decide +kernel
theorem dX0_init_62 : decode cX0_init 62 = .ok (.iconst 1, 1) := by decide +kernel
theorem dX0_init_63 : decode cX0_init 63 = .ok (.putfield 45, 3) := by decide +kernel
theorem dX0_init_66 : decode cX0_init 66 = .ok (.return_, 1) := by decide +kernel
theorem dX0_textOf_0 : decode cX0_textOf 0 = .ok (.new 49, 3) := by decide +kernel
theorem dX0_textOf_3 : decode cX0_textOf 3 = .ok (.dup, 1) := by decide +kernel
theorem dX0_textOf_4 : decode cX0_textOf 4 = .ok (.invokespecial 51, 3) := by decide +kernel
theorem dX0_textOf_7 : decode cX0_textOf 7 = .ok (.astore_n 3, 1) := by decide +kernel
theorem dX0_textOf_8 : decode cX0_textOf 8 = .ok (.aload_n 3, 1) := by decide +kernel
theorem dX0_textOf_9 : decode cX0_textOf 9 = .ok (.ldc 52, 2) := by decide +kernel
theorem dX0_textOf_11 : decode cX0_textOf 11 = .ok (.invokevirtual 53, 3) := by decide +kernel
theorem dX0_textOf_14 : decode cX0_textOf 14 = .ok (.iload_n 0, 1) := by decide +kernel
theorem dX0_textOf_15 : decode cX0_textOf 15 = .ok (.invokevirtual 57, 3) := by decide +kernel
theorem dX0_textOf_18 : decode cX0_textOf 18 = .ok (.bipush 64, 2) := by decide +kernel
theorem dX0_textOf_20 : decode cX0_textOf 20 = .ok (.invokevirtual 60, 3) := by decide +kernel
theorem dX0_textOf_23 : decode cX0_textOf 23 = .ok (.iload_n 1, 1) := by decide +kernel
theorem dX0_textOf_24 : decode cX0_textOf 24 = .ok (.invokevirtual 57, 3) := by decide +kernel
theorem dX0_textOf_27 : decode cX0_textOf 27 = .ok (.bipush 58, 2) := by decide +kernel
theorem dX0_textOf_29 : decode cX0_textOf 29 = .ok (.invokevirtual 60, 3) := by decide +kernel
theorem dX0_textOf_32 : decode cX0_textOf 32 = .ok (.iload_n 2, 1) := by decide +kernel
theorem dX0_textOf_33 : decode cX0_textOf 33 = .ok (.invokevirtual 57, 3) := by decide +kernel
theorem dX0_textOf_36 : decode cX0_textOf 36 = .ok (.pop, 1) := by decide +kernel
theorem dX0_textOf_37 : decode cX0_textOf 37 = .ok (.aload_n 3, 1) := by decide +kernel
theorem dX0_textOf_38 : decode cX0_textOf 38 = .ok (.invokevirtual 63, 3) := by decide +kernel
theorem dX0_textOf_41 : decode cX0_textOf 41 = .ok (.areturn, 1) := by decide +kernel
theorem dX0_bit_0 : decode cX0_bit 0 = .ok (.iconst 1, 1) := by decide +kernel
theorem dX0_bit_1 : decode cX0_bit 1 = .ok (.aload_n 0, 1) := by decide +kernel
theorem dX0_bit_2 : decode cX0_bit 2 = .ok (.getfield 9, 3) := by decide +kernel
theorem dX0_bit_5 : decode cX0_bit 5 = .ok (.ishl, 1) := by decide +kernel
theorem dX0_bit_6 : decode cX0_bit 6 = .ok (.ireturn, 1) := by decide +kernel
theorem dX0_isIn_0 : decode cX0_isIn 0 = .ok (.iload_n 1, 1) := by decide +kernel
theorem dX0_isIn_1 : decode cX0_isIn 1 = .ok (.aload_n 0, 1) := by decide +kernel
theorem dX0_isIn_2 : decode cX0_isIn 2 = .ok (.invokevirtual 67, 3) := by decide +kernel
theorem dX0_isIn_5 : decode cX0_isIn 5 = .ok (.iand, 1) := by decide +kernel
theorem dX0_isIn_6 : decode cX0_isIn 6 = .ok (.ifCond .eq 7, 3) := by decide +kernel
theorem dX0_isIn_9 : decode cX0_isIn 9 = .ok (.iconst 1, 1) := by decide +kernel
theorem dX0_isIn_10 : decode cX0_isIn 10 = .ok (.goto 4, 3) := by decide +kernel
theorem dX0_isIn_13 : decode cX0_isIn 13 = .ok (.iconst 0, 1) := by decide +kernel
theorem dX0_isIn_14 : decode cX0_isIn 14 = .ok (.ireturn, 1) := by decide +kernel
theorem dX0_isOlderThan_0 : decode cX0_isOlderThan 0 = .ok (.aload_n 0, 1) := by decide +kernel
theorem dX0_isOlderThan_1 : decode cX0_isOlderThan 1 = .ok (.getfield 27, 3) := by decide +kernel
theorem dX0_isOlderThan_4 : decode cX0_isOlderThan 4 = .ok (.aload_n 1, 1) := by decide +kernel
theorem dX0_isOlderThan_5 : decode cX0_isOlderThan 5 = .ok (.getfield 27, 3) := by decide +kernel
theorem dX0_isOlderThan_8 : decode cX0_isOlderThan 8 = .ok (.if_icmp .lt 25, 3) := by decide +kernel
theorem dX0_isOlderThan_11 : decode cX0_isOlderThan 11 = .ok (.aload_n 0, 1) := by decide +kernel
theorem dX0_isOlderThan_12 : decode cX0_isOlderThan 12 = .ok (.getfield 27, 3) := by decide +kernel
theorem dX0_isOlderThan_15 : decode cX0_isOlderThan 15 = .ok (.aload_n 1, 1) := by decide +kernel
theorem dX0_isOlderThan_16 : decode cX0_isOlderThan 16 = .ok (.getfield 27, 3) := by decide +kernel
theorem dX0_isOlderThan_19 : decode cX0_isOlderThan 19 = .ok (.if_icmp .ne 18, 3) := by decide +kernel
theorem dX0_isOlderThan_22 : decode cX0_isOlderThan 22 = .ok (.aload_n 0, 1) := by decide +kernel
theorem dX0_isOlderThan_23 : decode cX0_isOlderThan 23 = .ok (.getfield 9, 3) := by decide +kernel
theorem dX0_isOlderThan_26 : decode cX0_isOlderThan 26 = .ok (.aload_n 1, 1) := by decide +kernel
theorem dX0_isOlderThan_27 : decode cX0_isOlderThan 27 = .ok (.getfield 9, 3) := by decide +kernel
theorem dX0_isOlderThan_30 : decode cX0_isOlderThan 30 = .ok (.if_icmp .ge 7, 3) := by decide +kernel
theorem dX0_isOlderThan_33 : decode cX0_isOlderThan 33 = .ok (.iconst 1, 1) := by decide +kernel
theorem dX0_isOlderThan_34 : decode cX0_isOlderThan 34 = .ok (.goto 4, 3) := by decide +kernel
theorem dX0_isOlderThan_37 : decode cX0_isOlderThan 37 = .ok (.iconst 0, 1) := by decide +kernel
theorem dX0_isOlderThan_38 : decode cX0_isOlderThan 38 = .ok (.ireturn, 1) := by decide +kernel
theorem dX0_drawUnder_0 : decode cX0_drawUnder 0 = .ok (.aload_n 0, 1) := by decide +kernel
theorem dX0_drawUnder_1 : decode cX0_drawUnder 1 = .ok (.iload_n 1, 1) := by decide +kernel
theorem dX0_drawUnder_2 : decode cX0_drawUnder 2 = .ok (.invokevirtual 71, 3) := by decide +kernel
theorem dX0_drawUnder_5 : decode cX0_drawUnder 5 = .ok (.ifCond .eq 7, 3) := by decide +kernel
theorem dX0_drawUnder_8 : decode cX0_drawUnder 8 = .ok (.iconst 0, 1) := by decide +kernel
theorem dX0_drawUnder_9 : decode cX0_drawUnder 9 = .ok (.goto 7, 3) := by decide +kernel
theorem dX0_drawUnder_12 : decode cX0_drawUnder 12 = .ok (.aload_n 0, 1) := by decide +kernel
theorem dX0_drawUnder_13 : decode cX0_drawUnder 13 = .ok (.getfield 75, 3) := by decide +kernel
theorem dX0_drawUnder_16 : decode cX0_drawUnder 16 = .ok (.ireturn, 1) := by decide +kernel
theorem dX0_reachedFrom_0 : decode cX0_reachedFrom 0 = .ok (.iconst 0, 1) := by decide +kernel
theorem dX0_reachedFrom_1 : decode cX0_reachedFrom 1 = .ok (.bipush 100, 2) := by decide +kernel
theorem dX0_reachedFrom_3 : decode cX0_reachedFrom 3 = .ok (.bipush 10, 2) := by decide +kernel
theorem dX0_reachedFrom_5 : decode cX0_reachedFrom 5 = .ok (.aload_n 0, 1) := by decide +kernel
theorem dX0_reachedFrom_6 : decode cX0_reachedFrom 6 = .ok (.getfield 18, 3) := by decide +kernel
theorem dX0_reachedFrom_9 : decode cX0_reachedFrom 9 = .ok (.iload_n 2, 1) := by decide +kernel
theorem dX0_reachedFrom_10 : decode cX0_reachedFrom 10 = .ok (.isub, 1) := by decide +kernel
theorem dX0_reachedFrom_11 : decode cX0_reachedFrom 11 = .ok (.invokestatic 78, 3) := by decide +kernel
theorem dX0_reachedFrom_14 : decode cX0_reachedFrom 14 = .ok (.imul, 1) := by decide +kernel
theorem dX0_reachedFrom_15 : decode cX0_reachedFrom 15 = .ok (.isub, 1) := by decide +kernel
theorem dX0_reachedFrom_16 : decode cX0_reachedFrom 16 = .ok (.invokestatic 84, 3) := by decide +kernel
theorem dX0_reachedFrom_19 : decode cX0_reachedFrom 19 = .ok (.istore_n 3, 1) := by decide +kernel
theorem dX0_reachedFrom_20 : decode cX0_reachedFrom 20 = .ok (.aload_n 0, 1) := by decide +kernel
theorem dX0_reachedFrom_21 : decode cX0_reachedFrom 21 = .ok (.getfield 15, 3) := by decide +kernel
theorem dX0_reachedFrom_24 : decode cX0_reachedFrom 24 = .ok (.iload_n 1, 1) := by decide +kernel
theorem dX0_reachedFrom_25 : decode cX0_reachedFrom 25 = .ok (.isub, 1) := by decide +kernel
theorem dX0_reachedFrom_26 : decode cX0_reachedFrom 26 = .ok (.invokestatic 78, 3) := by decide +kernel
theorem dX0_reachedFrom_29 : decode cX0_reachedFrom 29 = .ok (.istore 4, 2) := by decide +kernel
theorem dX0_reachedFrom_31 : decode cX0_reachedFrom 31 = .ok (.iload 4, 2) := by decide +kernel
theorem dX0_reachedFrom_33 : decode cX0_reachedFrom 33 = .ok (.ifCond .ne 5, 3) := by decide +kernel
theorem dX0_reachedFrom_36 : decode cX0_reachedFrom 36 = .ok (.iload_n 3, 1) := by decide +kernel
theorem dX0_reachedFrom_37 : decode cX0_reachedFrom 37 = .ok (.ireturn, 1) := by decide +kernel
theorem dX0_reachedFrom_38 : decode cX0_reachedFrom 38 = .ok (.iload 4, 2) := by decide +kernel
theorem dX0_reachedFrom_40 : decode cX0_reachedFrom 40 = .ok (.iconst 1, 1) := by decide +kernel
theorem dX0_reachedFrom_41 : decode cX0_reachedFrom 41 = .ok (.if_icmp .ne 9, 3) := by decide +kernel
theorem dX0_reachedFrom_44 : decode cX0_reachedFrom 44 = .ok (.iload_n 3, 1) := by decide +kernel
theorem dX0_reachedFrom_45 : decode cX0_reachedFrom 45 = .ok (.iconst 2, 1) := by decide +kernel
theorem dX0_reachedFrom_46 : decode cX0_reachedFrom 46 = .ok (.idiv, 1) := by decide +kernel
theorem dX0_reachedFrom_47 : decode cX0_reachedFrom 47 = .ok (.goto 4, 3) := by decide +kernel
theorem dX0_reachedFrom_50 : decode cX0_reachedFrom 50 = .ok (.iconst 0, 1) := by decide +kernel
theorem dX0_reachedFrom_51 : decode cX0_reachedFrom 51 = .ok (.ireturn, 1) := by decide +kernel
theorem dX1_init_0 : decode cX1_init 0 = .ok (.aload_n 0, 1) := by decide +kernel
theorem dX1_init_1 : decode cX1_init 1 = .ok (.invokespecial 1, 3) := by decide +kernel
theorem dX1_init_4 : decode cX1_init 4 = .ok (.aload_n 0, 1) := by decide +kernel
theorem dX1_init_5 : decode cX1_init 5 = .ok (.new 7, 3) := by decide +kernel
theorem dX1_init_8 : decode cX1_init 8 = .ok (.dup, 1) := by decide +kernel
theorem dX1_init_9 : decode cX1_init 9 = .ok (.invokespecial 9, 3) := by decide +kernel
theorem dX1_init_12 : decode cX1_init 12 = .ok (.putfield 10, 3) := by decide +kernel
theorem dX1_init_15 : decode cX1_init 15 = .ok (.aload_n 0, 1) := by decide +kernel
theorem dX1_init_16 : decode cX1_init 16 = .ok (.iconst 3, 1) := by decide +kernel
theorem dX1_init_17 : decode cX1_init 17 = .ok (.newarray .int, 2) := by decide +kernel
theorem dX1_init_19 : decode cX1_init 19 = .ok (.putfield 16, 3) := by decide +kernel
theorem dX1_init_22 : decode cX1_init 22 = .ok (.aload_n 0, 1) := by decide +kernel
theorem dX1_init_23 : decode cX1_init 23 = .ok (.iconst 5, 1) := by decide +kernel
theorem dX1_init_24 : decode cX1_init 24 = .ok (.newarray .int, 2) := by decide +kernel
theorem dX1_init_26 : decode cX1_init 26 = .ok (.putfield 20, 3) := by decide +kernel
theorem dX1_init_29 : decode cX1_init 29 = .ok (.aload_n 0, 1) := by decide +kernel
theorem dX1_init_30 : decode cX1_init 30 = .ok (.iconst 0, 1) := by decide +kernel
theorem dX1_init_31 : decode cX1_init 31 = .ok (.putfield 23, 3) := by decide +kernel
theorem dX1_init_34 : decode cX1_init 34 = .ok (.aload_n 0, 1) := by decide +kernel
theorem dX1_init_35 : decode cX1_init 35 = .ok (.iconst 0, 1) := by decide +kernel
theorem dX1_init_36 : decode cX1_init 36 = .ok (.putfield 27, 3) := by decide +kernel
theorem dX1_init_39 : decode cX1_init 39 = .ok (.aload_n 0, 1) := by decide +kernel
theorem dX1_init_40 : decode cX1_init 40 = .ok (.iconst 0, 1) := by decide +kernel
theorem dX1_init_41 : decode cX1_init 41 = .ok (.putfield 30, 3) := by decide +kernel
theorem dX1_init_44 : decode cX1_init 44 = .ok (.return_, 1) := by decide +kernel
theorem dX1_addWell_0 : decode cX1_addWell 0 = .ok (.iload_n 1, 1) := by decide +kernel
theorem dX1_addWell_1 : decode cX1_addWell 1 = .ok (.invokestatic 33, 3) := by decide +kernel
theorem dX1_addWell_4 : decode cX1_addWell 4 = .ok (.iload_n 2, 1) := by decide +kernel
theorem dX1_addWell_5 : decode cX1_addWell 5 = .ok (.iconst 0, 1) := by decide +kernel
theorem dX1_addWell_6 : decode cX1_addWell 6 = .ok (.bipush 99, 2) := by decide +kernel
theorem dX1_addWell_8 : decode cX1_addWell 8 = .ok (.invokestatic 37, 3) := by decide +kernel
theorem dX1_addWell_11 : decode cX1_addWell 11 = .ok (.iload_n 3, 1) := by decide +kernel
theorem dX1_addWell_12 : decode cX1_addWell 12 = .ok (.sipush (-10000), 3) := by decide +kernel
theorem dX1_addWell_15 : decode cX1_addWell 15 = .ok (.sipush 10000, 3) := by decide +kernel
theorem dX1_addWell_18 : decode cX1_addWell 18 = .ok (.invokestatic 37, 3) := by decide +kernel
theorem dX1_addWell_21 : decode cX1_addWell 21 = .ok (.iload 4, 2) := by decide +kernel
theorem dX1_addWell_23 : decode cX1_addWell 23 = .ok (.sipush (-10000), 3) := by decide +kernel
theorem dX1_addWell_26 : decode cX1_addWell 26 = .ok (.sipush 10000, 3) := by decide +kernel
theorem dX1_addWell_29 : decode cX1_addWell 29 = .ok (.invokestatic 37, 3) := by decide +kernel
theorem dX1_addWell_32 : decode cX1_addWell 32 = .ok (.iload 5, 2) := by decide +kernel
theorem dX1_addWell_34 : decode cX1_addWell 34 = .ok (.iconst 0, 1) := by decide +kernel
theorem dX1_addWell_35 : decode cX1_addWell 35 = .ok (.sipush 1000, 3) := by decide +kernel
theorem dX1_addWell_38 : decode cX1_addWell 38 = .ok (.invokestatic 37, 3) := by decide +kernel
theorem dX1_addWell_41 : decode cX1_addWell 41 = .ok (.iload 6, 2) := by decide +kernel
theorem dX1_addWell_43 : decode cX1_addWell 43 = .ok (.iconst 0, 1) := by decide +kernel
theorem dX1_addWell_44 : decode cX1_addWell 44 = .ok (.sipush 1000, 3) := by decide +kernel
theorem dX1_addWell_47 : decode cX1_addWell 47 = .ok (.invokestatic 37, 3) := by decide +kernel
theorem dX1_addWell_50 : decode cX1_addWell 50 = .ok (.aload_n 0, 1) := by decide +kernel
theorem dX1_addWell_51 : decode cX1_addWell 51 = .ok (.getfield 10, 3) := by decide +kernel
theorem dX1_addWell_54 : decode cX1_addWell 54 = .ok (.invokevirtual 41, 3) := by decide +kernel
theorem dX1_addWell_57 : decode cX1_addWell 57 = .ok (.istore 7, 2) := by decide +kernel
theorem dX1_addWell_59 : decode cX1_addWell 59 = .ok (.iload 7, 2) := by decide +kernel
theorem dX1_addWell_61 : decode cX1_addWell 61 = .ok (.bipush 8, 2) := by decide +kernel
theorem dX1_addWell_63 : decode cX1_addWell 63 = .ok (.if_icmp .lt 13, 3) := by decide +kernel
theorem dX1_addWell_66 : decode cX1_addWell 66 = .ok (.new 45, 3) := by decide +kernel
theorem dX1_addWell_69 : decode cX1_addWell 69 = .ok (.dup, 1) := by decide +kernel
theorem dX1_addWell_70 : decode cX1_addWell 70 = .ok (.ldc 47, 2) := by decide +kernel
theorem dX1_addWell_72 : decode cX1_addWell 72 = .ok (.invokespecial 49, 3) := by decide +kernel
theorem dX1_addWell_75 : decode cX1_addWell 75 = .ok (.athrow, 1) := by decide +kernel
theorem dX1_addWell_76 : decode cX1_addWell 76 = .ok (.aload_n 0, 1) := by decide +kernel
theorem dX1_addWell_77 : decode cX1_addWell 77 = .ok (.getfield 10, 3) := by decide +kernel
theorem dX1_addWell_80 : decode cX1_addWell 80 = .ok (.new 52, 3) := by decide +kernel
theorem dX1_addWell_83 : decode cX1_addWell 83 = .ok (.dup, 1) := by decide +kernel
theorem dX1_addWell_84 : decode cX1_addWell 84 = .ok (.iload 7, 2) := by decide +kernel
theorem dX1_addWell_86 : decode cX1_addWell 86 = .ok (.iload_n 1, 1) := by decide +kernel
theorem dX1_addWell_87 : decode cX1_addWell 87 = .ok (.iload_n 2, 1) := by decide +kernel
theorem dX1_addWell_88 : decode cX1_addWell 88 = .ok (.iload_n 3, 1) := by decide +kernel
theorem dX1_addWell_89 : decode cX1_addWell 89 = .ok (.iload 4, 2) := by decide +kernel
theorem dX1_addWell_91 : decode cX1_addWell 91 = .ok (.iload 5, 2) := by decide +kernel
theorem dX1_addWell_93 : decode cX1_addWell 93 = .ok (.iload 6, 2) := by decide +kernel
theorem dX1_addWell_95 : decode cX1_addWell 95 = .ok (.invokespecial 54, 3) := by decide +kernel
theorem dX1_addWell_98 : decode cX1_addWell 98 = .ok (.invokevirtual 57, 3) := by decide +kernel
theorem dX1_addWell_101 : decode cX1_addWell 101 = .ok (.pop, 1) := by decide +kernel
theorem dX1_addWell_102 : decode cX1_addWell 102 = .ok (.iload 7, 2) := by decide +kernel
theorem dX1_addWell_104 : decode cX1_addWell 104 = .ok (.ireturn, 1) := by decide +kernel
theorem dX1_plan_0 : decode cX1_plan 0 = .ok (.aload_n 0, 1) := by decide +kernel
theorem dX1_plan_1 : decode cX1_plan 1 = .ok (.iload_n 1, 1) := by decide +kernel
theorem dX1_plan_2 : decode cX1_plan 2 = .ok (.invokevirtual 61, 3) := by decide +kernel
theorem dX1_plan_5 : decode cX1_plan 5 = .ok (.astore_n 3, 1) := by decide +kernel
theorem dX1_plan_6 : decode cX1_plan 6 = .ok (.iload_n 2, 1) := by decide +kernel
theorem dX1_plan_7 : decode cX1_plan 7 = .ok (.iconst 0, 1) := by decide +kernel
theorem dX1_plan_8 : decode cX1_plan 8 = .ok (.sipush 2000, 3) := by decide +kernel
theorem dX1_plan_11 : decode cX1_plan 11 = .ok (.invokestatic 37, 3) := by decide +kernel
theorem dX1_plan_14 : decode cX1_plan 14 = .ok (.aload_n 3, 1) := by decide +kernel
theorem dX1_plan_15 : decode cX1_plan 15 = .ok (.getfield 65, 3) := by decide +kernel
theorem dX1_plan_18 : decode cX1_plan 18 = .ok (.istore 4, 2) := by decide +kernel
theorem dX1_plan_20 : decode cX1_plan 20 = .ok (.aload_n 3, 1) := by decide +kernel
theorem dX1_plan_21 : decode cX1_plan 21 = .ok (.iload_n 2, 1) := by decide +kernel
theorem dX1_plan_22 : decode cX1_plan 22 = .ok (.putfield 65, 3) := by decide +kernel
theorem dX1_plan_25 : decode cX1_plan 25 = .ok (.iload 4, 2) := by decide +kernel
theorem dX1_plan_27 : decode cX1_plan 27 = .ok (.ireturn, 1) := by decide +kernel
theorem dX1_setRecharge_0 : decode cX1_setRecharge 0 = .ok (.iload_n 1, 1) := by decide +kernel
theorem dX1_setRecharge_1 : decode cX1_setRecharge 1 = .ok (.invokestatic 33, 3) := by decide +kernel
theorem dX1_setRecharge_4 : decode cX1_setRecharge 4 = .ok (.iload_n 2, 1) := by decide +kernel
theorem dX1_setRecharge_5 : decode cX1_setRecharge 5 = .ok (.iconst 0, 1) := by decide +kernel
theorem dX1_setRecharge_6 : decode cX1_setRecharge 6 = .ok (.sipush 1000, 3) := by decide +kernel
theorem dX1_setRecharge_9 : decode cX1_setRecharge 9 = .ok (.invokestatic 37, 3) := by decide +kernel
theorem dX1_setRecharge_12 : decode cX1_setRecharge 12 = .ok (.aload_n 0, 1) := by decide +kernel
theorem dX1_setRecharge_13 : decode cX1_setRecharge 13 = .ok (.getfield 16, 3) := by decide +kernel
theorem dX1_setRecharge_16 : decode cX1_setRecharge 16 = .ok (.iload_n 1, 1) := by decide +kernel
theorem dX1_setRecharge_17 : decode cX1_setRecharge 17 = .ok (.iaload, 1) := by decide +kernel
theorem dX1_setRecharge_18 : decode cX1_setRecharge 18 = .ok (.istore_n 3, 1) := by decide +kernel
theorem dX1_setRecharge_19 : decode cX1_setRecharge 19 = .ok (.aload_n 0, 1) := by decide +kernel
theorem dX1_setRecharge_20 : decode cX1_setRecharge 20 = .ok (.getfield 16, 3) := by decide +kernel
theorem dX1_setRecharge_23 : decode cX1_setRecharge 23 = .ok (.iload_n 1, 1) := by decide +kernel
theorem dX1_setRecharge_24 : decode cX1_setRecharge 24 = .ok (.iload_n 2, 1) := by decide +kernel
theorem dX1_setRecharge_25 : decode cX1_setRecharge 25 = .ok (.iastore, 1) := by decide +kernel
theorem dX1_setRecharge_26 : decode cX1_setRecharge 26 = .ok (.iload_n 3, 1) := by decide +kernel
theorem dX1_setRecharge_27 : decode cX1_setRecharge 27 = .ok (.ireturn, 1) := by decide +kernel
theorem dX1_reach_0 : decode cX1_reach 0 = .ok (.aload_n 0, 1) := by decide +kernel
theorem dX1_reach_1 : decode cX1_reach 1 = .ok (.iload_n 1, 1) := by decide +kernel
theorem dX1_reach_2 : decode cX1_reach 2 = .ok (.invokevirtual 61, 3) := by decide +kernel
theorem dX1_reach_5 : decode cX1_reach 5 = .ok (.astore_n 3, 1) := by decide +kernel
theorem dX1_reach_6 : decode cX1_reach 6 = .ok (.aload_n 0, 1) := by decide +kernel
theorem dX1_reach_7 : decode cX1_reach 7 = .ok (.iload_n 2, 1) := by decide +kernel
theorem dX1_reach_8 : decode cX1_reach 8 = .ok (.invokevirtual 61, 3) := by decide +kernel
theorem dX1_reach_11 : decode cX1_reach 11 = .ok (.astore 4, 2) := by decide +kernel
theorem dX1_reach_13 : decode cX1_reach 13 = .ok (.aload 4, 2) := by decide +kernel
theorem dX1_reach_15 : decode cX1_reach 15 = .ok (.aload_n 3, 1) := by decide +kernel
theorem dX1_reach_16 : decode cX1_reach 16 = .ok (.getfield 68, 3) := by decide +kernel
theorem dX1_reach_19 : decode cX1_reach 19 = .ok (.aload_n 3, 1) := by decide +kernel
theorem dX1_reach_20 : decode cX1_reach 20 = .ok (.getfield 71, 3) := by decide +kernel
theorem dX1_reach_23 : decode cX1_reach 23 = .ok (.invokevirtual 74, 3) := by decide +kernel
theorem dX1_reach_26 : decode cX1_reach 26 = .ok (.ireturn, 1) := by decide +kernel
theorem dX1_level_0 : decode cX1_level 0 = .ok (.aload_n 0, 1) := by decide +kernel
theorem dX1_level_1 : decode cX1_level 1 = .ok (.iload_n 1, 1) := by decide +kernel
theorem dX1_level_2 : decode cX1_level 2 = .ok (.invokevirtual 61, 3) := by decide +kernel
theorem dX1_level_5 : decode cX1_level 5 = .ok (.getfield 78, 3) := by decide +kernel
theorem dX1_level_8 : decode cX1_level 8 = .ok (.ireturn, 1) := by decide +kernel
theorem dX1_sign_0 : decode cX1_sign 0 = .ok (.aload_n 0, 1) := by decide +kernel
theorem dX1_sign_1 : decode cX1_sign 1 = .ok (.iload_n 1, 1) := by decide +kernel
theorem dX1_sign_2 : decode cX1_sign 2 = .ok (.invokevirtual 61, 3) := by decide +kernel
theorem dX1_sign_5 : decode cX1_sign 5 = .ok (.getfield 81, 3) := by decide +kernel
theorem dX1_sign_8 : decode cX1_sign 8 = .ok (.astore_n 3, 1) := by decide +kernel
theorem dX1_sign_9 : decode cX1_sign 9 = .ok (.iload_n 2, 1) := by decide +kernel
theorem dX1_sign_10 : decode cX1_sign 10 = .ok (.ifCond .lt 11, 3) := by decide +kernel
theorem dX1_sign_13 : decode cX1_sign 13 = .ok (.iload_n 2, 1) := by decide +kernel
theorem dX1_sign_14 : decode cX1_sign 14 = .ok (.aload_n 3, 1) := by decide +kernel
theorem dX1_sign_15 : decode cX1_sign 15 = .ok (.invokevirtual 85, 3) := by decide +kernel
theorem dX1_sign_18 : decode cX1_sign 18 = .ok (.if_icmp .lt 13, 3) := by decide +kernel
theorem dX1_sign_21 : decode cX1_sign 21 = .ok (.new 90, 3) := by decide +kernel
theorem dX1_sign_24 : decode cX1_sign 24 = .ok (.dup, 1) := by decide +kernel
theorem dX1_sign_25 : decode cX1_sign 25 = .ok (.ldc 92, 2) := by decide +kernel
theorem dX1_sign_27 : decode cX1_sign 27 = .ok (.invokespecial 94, 3) := by decide +kernel
theorem dX1_sign_30 : decode cX1_sign 30 = .ok (.athrow, 1) := by decide +kernel
theorem dX1_sign_31 : decode cX1_sign 31 = .ok (.aload_n 3, 1) := by decide +kernel
theorem dX1_sign_32 : decode cX1_sign 32 = .ok (.iload_n 2, 1) := by decide +kernel
theorem dX1_sign_33 : decode cX1_sign 33 = .ok (.invokevirtual 95, 3) := by decide +kernel
theorem dX1_sign_36 : decode cX1_sign 36 = .ok (.ireturn, 1) := by decide +kernel
theorem dX1_year_0 : decode cX1_year 0 = .ok (.aload_n 0, 1) := by decide +kernel
theorem dX1_year_1 : decode cX1_year 1 = .ok (.getfield 30, 3) := by decide +kernel
theorem dX1_year_4 : decode cX1_year 4 = .ok (.bipush 60, 2) := by decide +kernel
theorem dX1_year_6 : decode cX1_year 6 = .ok (.if_icmp .lt 13, 3) := by decide +kernel
theorem dX1_year_9 : decode cX1_year 9 = .ok (.new 45, 3) := by decide +kernel
theorem dX1_year_12 : decode cX1_year 12 = .ok (.dup, 1) := by decide +kernel
theorem dX1_year_13 : decode cX1_year 13 = .ok (.ldc 99, 2) := by decide +kernel
theorem dX1_year_15 : decode cX1_year 15 = .ok (.invokespecial 49, 3) := by decide +kernel
theorem dX1_year_18 : decode cX1_year 18 = .ok (.athrow, 1) := by decide +kernel
theorem dX1_year_19 : decode cX1_year 19 = .ok (.aload_n 0, 1) := by decide +kernel
theorem dX1_year_20 : decode cX1_year 20 = .ok (.invokevirtual 101, 3) := by decide +kernel
theorem dX1_year_23 : decode cX1_year 23 = .ok (.aload_n 0, 1) := by decide +kernel
theorem dX1_year_24 : decode cX1_year 24 = .ok (.invokevirtual 104, 3) := by decide +kernel
theorem dX1_year_27 : decode cX1_year 27 = .ok (.istore_n 1, 1) := by decide +kernel
theorem dX1_year_28 : decode cX1_year 28 = .ok (.aload_n 0, 1) := by decide +kernel
theorem dX1_year_29 : decode cX1_year 29 = .ok (.iload_n 1, 1) := by decide +kernel
theorem dX1_year_30 : decode cX1_year 30 = .ok (.invokevirtual 107, 3) := by decide +kernel
theorem dX1_year_33 : decode cX1_year 33 = .ok (.aload_n 0, 1) := by decide +kernel
theorem dX1_year_34 : decode cX1_year 34 = .ok (.invokevirtual 110, 3) := by decide +kernel
theorem dX1_year_37 : decode cX1_year 37 = .ok (.aload_n 0, 1) := by decide +kernel
theorem dX1_year_38 : decode cX1_year 38 = .ok (.iload_n 1, 1) := by decide +kernel
theorem dX1_year_39 : decode cX1_year 39 = .ok (.invokevirtual 113, 3) := by decide +kernel
theorem dX1_year_42 : decode cX1_year 42 = .ok (.aload_n 0, 1) := by decide +kernel
theorem dX1_year_43 : decode cX1_year 43 = .ok (.invokevirtual 116, 3) := by decide +kernel
theorem dX1_year_46 : decode cX1_year 46 = .ok (.aload_n 0, 1) := by decide +kernel
theorem dX1_year_47 : decode cX1_year 47 = .ok (.dup, 1) := by decide +kernel
theorem dX1_year_48 : decode cX1_year 48 = .ok (.getfield 30, 3) := by decide +kernel
theorem dX1_year_51 : decode cX1_year 51 = .ok (.iconst 1, 1) := by decide +kernel
theorem dX1_year_52 : decode cX1_year 52 = .ok (.iadd, 1) := by decide +kernel
theorem dX1_year_53 : decode cX1_year 53 = .ok (.putfield 30, 3) := by decide +kernel
theorem dX1_year_56 : decode cX1_year 56 = .ok (.iload_n 1, 1) := by decide +kernel
theorem dX1_year_57 : decode cX1_year 57 = .ok (.invokestatic 119, 3) := by decide +kernel
theorem dX1_year_60 : decode cX1_year 60 = .ok (.ireturn, 1) := by decide +kernel
theorem dX1_years_0 : decode cX1_years 0 = .ok (.aload_n 0, 1) := by decide +kernel
theorem dX1_years_1 : decode cX1_years 1 = .ok (.getfield 30, 3) := by decide +kernel
theorem dX1_years_4 : decode cX1_years 4 = .ok (.ireturn, 1) := by decide +kernel
theorem dX1_wouldStop_0 : decode cX1_wouldStop 0 = .ok (.aload_n 0, 1) := by decide +kernel
theorem dX1_wouldStop_1 : decode cX1_wouldStop 1 = .ok (.invokevirtual 104, 3) := by decide +kernel
theorem dX1_wouldStop_4 : decode cX1_wouldStop 4 = .ok (.ireturn, 1) := by decide +kernel
theorem dX1_drew_0 : decode cX1_drew 0 = .ok (.aload_n 0, 1) := by decide +kernel
theorem dX1_drew_1 : decode cX1_drew 1 = .ok (.iload_n 1, 1) := by decide +kernel
theorem dX1_drew_2 : decode cX1_drew 2 = .ok (.invokevirtual 61, 3) := by decide +kernel
theorem dX1_drew_5 : decode cX1_drew 5 = .ok (.getfield 125, 3) := by decide +kernel
theorem dX1_drew_8 : decode cX1_drew 8 = .ok (.ireturn, 1) := by decide +kernel
theorem dX1_told_0 : decode cX1_told 0 = .ok (.aload_n 0, 1) := by decide +kernel
theorem dX1_told_1 : decode cX1_told 1 = .ok (.iload_n 1, 1) := by decide +kernel
theorem dX1_told_2 : decode cX1_told 2 = .ok (.invokevirtual 61, 3) := by decide +kernel
theorem dX1_told_5 : decode cX1_told 5 = .ok (.getfield 128, 3) := by decide +kernel
theorem dX1_told_8 : decode cX1_told 8 = .ok (.ireturn, 1) := by decide +kernel
theorem dX1_toggleMeter_0 : decode cX1_toggleMeter 0 = .ok (.aload_n 0, 1) := by decide +kernel
theorem dX1_toggleMeter_1 : decode cX1_toggleMeter 1 = .ok (.iload_n 1, 1) := by decide +kernel
theorem dX1_toggleMeter_2 : decode cX1_toggleMeter 2 = .ok (.invokevirtual 61, 3) := by decide +kernel
theorem dX1_toggleMeter_5 : decode cX1_toggleMeter 5 = .ok (.astore_n 2, 1) := by decide +kernel
theorem dX1_toggleMeter_6 : decode cX1_toggleMeter 6 = .ok (.aload_n 2, 1) := by decide +kernel
theorem dX1_toggleMeter_7 : decode cX1_toggleMeter 7 = .ok (.aload_n 2, 1) := by decide +kernel
theorem dX1_toggleMeter_8 : decode cX1_toggleMeter 8 = .ok (.getfield 131, 3) := by decide +kernel
theorem dX1_toggleMeter_11 : decode cX1_toggleMeter 11 = .ok (.ifCond .ne 7, 3) := by decide +kernel
theorem dX1_toggleMeter_14 : decode cX1_toggleMeter 14 = .ok (.iconst 1, 1) := by decide +kernel
theorem dX1_toggleMeter_15 : decode cX1_toggleMeter 15 = .ok (.goto 4, 3) := by decide +kernel
theorem dX1_toggleMeter_18 : decode cX1_toggleMeter 18 = .ok (.iconst 0, 1) := by decide +kernel
theorem dX1_toggleMeter_19 : decode cX1_toggleMeter 19 = .ok (.putfield 131, 3) := by decide +kernel
theorem dX1_toggleMeter_22 : decode cX1_toggleMeter 22 = .ok (.aload_n 2, 1) := by decide +kernel
theorem dX1_toggleMeter_23 : decode cX1_toggleMeter 23 = .ok (.getfield 131, 3) := by decide +kernel
theorem dX1_toggleMeter_26 : decode cX1_toggleMeter 26 = .ok (.ireturn, 1) := by decide +kernel
theorem dX1_power_0 : decode cX1_power 0 = .ok (.aload_n 0, 1) := by decide +kernel
theorem dX1_power_1 : decode cX1_power 1 = .ok (.iload_n 1, 1) := by decide +kernel
theorem dX1_power_2 : decode cX1_power 2 = .ok (.invokevirtual 61, 3) := by decide +kernel
theorem dX1_power_5 : decode cX1_power 5 = .ok (.astore_n 3, 1) := by decide +kernel
theorem dX1_power_6 : decode cX1_power 6 = .ok (.iload_n 2, 1) := by decide +kernel
theorem dX1_power_7 : decode cX1_power 7 = .ok (.iconst 0, 1) := by decide +kernel
theorem dX1_power_8 : decode cX1_power 8 = .ok (.sipush 1000, 3) := by decide +kernel
theorem dX1_power_11 : decode cX1_power 11 = .ok (.invokestatic 37, 3) := by decide +kernel
theorem dX1_power_14 : decode cX1_power 14 = .ok (.aload_n 3, 1) := by decide +kernel
theorem dX1_power_15 : decode cX1_power 15 = .ok (.getfield 135, 3) := by decide +kernel
theorem dX1_power_18 : decode cX1_power 18 = .ok (.istore 4, 2) := by decide +kernel
theorem dX1_power_20 : decode cX1_power 20 = .ok (.aload_n 3, 1) := by decide +kernel
theorem dX1_power_21 : decode cX1_power 21 = .ok (.iload_n 2, 1) := by decide +kernel
theorem dX1_power_22 : decode cX1_power 22 = .ok (.putfield 135, 3) := by decide +kernel
theorem dX1_power_25 : decode cX1_power 25 = .ok (.iload 4, 2) := by decide +kernel
theorem dX1_power_27 : decode cX1_power 27 = .ok (.ireturn, 1) := by decide +kernel
theorem dX1_bank_0 : decode cX1_bank 0 = .ok (.aload_n 0, 1) := by decide +kernel
theorem dX1_bank_1 : decode cX1_bank 1 = .ok (.iload_n 1, 1) := by decide +kernel
theorem dX1_bank_2 : decode cX1_bank 2 = .ok (.invokevirtual 61, 3) := by decide +kernel
theorem dX1_bank_5 : decode cX1_bank 5 = .ok (.getfield 138, 3) := by decide +kernel
theorem dX1_bank_8 : decode cX1_bank 8 = .ok (.ireturn, 1) := by decide +kernel
theorem dX1_lend_0 : decode cX1_lend 0 = .ok (.aload_n 0, 1) := by decide +kernel
theorem dX1_lend_1 : decode cX1_lend 1 = .ok (.iload_n 1, 1) := by decide +kernel
theorem dX1_lend_2 : decode cX1_lend 2 = .ok (.invokevirtual 61, 3) := by decide +kernel
theorem dX1_lend_5 : decode cX1_lend 5 = .ok (.astore 4, 2) := by decide +kernel
theorem dX1_lend_7 : decode cX1_lend 7 = .ok (.aload_n 0, 1) := by decide +kernel
theorem dX1_lend_8 : decode cX1_lend 8 = .ok (.iload_n 2, 1) := by decide +kernel
theorem dX1_lend_9 : decode cX1_lend 9 = .ok (.invokevirtual 61, 3) := by decide +kernel
theorem dX1_lend_12 : decode cX1_lend 12 = .ok (.astore 5, 2) := by decide +kernel
theorem dX1_lend_14 : decode cX1_lend 14 = .ok (.iload_n 1, 1) := by decide +kernel
theorem dX1_lend_15 : decode cX1_lend 15 = .ok (.iload_n 2, 1) := by decide +kernel
theorem dX1_lend_16 : decode cX1_lend 16 = .ok (.invokestatic 141, 3) := by decide +kernel
theorem dX1_lend_19 : decode cX1_lend 19 = .ok (.iload_n 3, 1) := by decide +kernel
theorem dX1_lend_20 : decode cX1_lend 20 = .ok (.iconst 1, 1) := by decide +kernel
theorem dX1_lend_21 : decode cX1_lend 21 = .ok (.sipush 10000, 3) := by decide +kernel
theorem dX1_lend_24 : decode cX1_lend 24 = .ok (.invokestatic 37, 3) := by decide +kernel
theorem dX1_lend_27 : decode cX1_lend 27 = .ok (.aload 4, 2) := by decide +kernel
theorem dX1_lend_29 : decode cX1_lend 29 = .ok (.getfield 138, 3) := by decide +kernel
theorem dX1_lend_32 : decode cX1_lend 32 = .ok (.iload_n 3, 1) := by decide +kernel
theorem dX1_lend_33 : decode cX1_lend 33 = .ok (.if_icmp .ge 13, 3) := by decide +kernel
theorem dX1_lend_36 : decode cX1_lend 36 = .ok (.new 45, 3) := by decide +kernel
theorem dX1_lend_39 : decode cX1_lend 39 = .ok (.dup, 1) := by decide +kernel
theorem dX1_lend_40 : decode cX1_lend 40 = .ok (.ldc 145, 2) := by decide +kernel
theorem dX1_lend_42 : decode cX1_lend 42 = .ok (.invokespecial 49, 3) := by decide +kernel
theorem dX1_lend_45 : decode cX1_lend 45 = .ok (.athrow, 1) := by decide +kernel
theorem dX1_lend_46 : decode cX1_lend 46 = .ok (.aload 4, 2) := by decide +kernel
theorem dX1_lend_48 : decode cX1_lend 48 = .ok (.dup, 1) := by decide +kernel
theorem dX1_lend_49 : decode cX1_lend 49 = .ok (.getfield 138, 3) := by decide +kernel
theorem dX1_lend_52 : decode cX1_lend 52 = .ok (.iload_n 3, 1) := by decide +kernel
theorem dX1_lend_53 : decode cX1_lend 53 = .ok (.isub, 1) := by decide +kernel
theorem dX1_lend_54 : decode cX1_lend 54 = .ok (.putfield 138, 3) := by decide +kernel
theorem dX1_lend_57 : decode cX1_lend 57 = .ok (.aload 5, 2) := by decide +kernel
theorem dX1_lend_59 : decode cX1_lend 59 = .ok (.dup, 1) := by decide +kernel
theorem dX1_lend_60 : decode cX1_lend 60 = .ok (.getfield 138, 3) := by decide +kernel
theorem dX1_lend_63 : decode cX1_lend 63 = .ok (.iload_n 3, 1) := by decide +kernel
theorem dX1_lend_64 : decode cX1_lend 64 = .ok (.iadd, 1) := by decide +kernel
theorem dX1_lend_65 : decode cX1_lend 65 = .ok (.putfield 138, 3) := by decide +kernel
theorem dX1_lend_68 : decode cX1_lend 68 = .ok (.aload 4, 2) := by decide +kernel
theorem dX1_lend_70 : decode cX1_lend 70 = .ok (.getfield 147, 3) := by decide +kernel
theorem dX1_lend_73 : decode cX1_lend 73 = .ok (.iload_n 2, 1) := by decide +kernel
theorem dX1_lend_74 : decode cX1_lend 74 = .ok (.dup2, 1) := by decide +kernel
theorem dX1_lend_75 : decode cX1_lend 75 = .ok (.iaload, 1) := by decide +kernel
theorem dX1_lend_76 : decode cX1_lend 76 = .ok (.iload_n 3, 1) := by decide +kernel
theorem dX1_lend_77 : decode cX1_lend 77 = .ok (.iadd, 1) := by decide +kernel
theorem dX1_lend_78 : decode cX1_lend 78 = .ok (.iastore, 1) := by decide +kernel
theorem dX1_lend_79 : decode cX1_lend 79 = .ok (.aload 4, 2) := by decide +kernel
theorem dX1_lend_81 : decode cX1_lend 81 = .ok (.getfield 147, 3) := by decide +kernel
theorem dX1_lend_84 : decode cX1_lend 84 = .ok (.iload_n 2, 1) := by decide +kernel
theorem dX1_lend_85 : decode cX1_lend 85 = .ok (.iaload, 1) := by decide +kernel
theorem dX1_lend_86 : decode cX1_lend 86 = .ok (.ireturn, 1) := by decide +kernel
theorem dX1_callBack_0 : decode cX1_callBack 0 = .ok (.aload_n 0, 1) := by decide +kernel
theorem dX1_callBack_1 : decode cX1_callBack 1 = .ok (.iload_n 1, 1) := by decide +kernel
theorem dX1_callBack_2 : decode cX1_callBack 2 = .ok (.invokevirtual 61, 3) := by decide +kernel
theorem dX1_callBack_5 : decode cX1_callBack 5 = .ok (.astore_n 3, 1) := by decide +kernel
theorem dX1_callBack_6 : decode cX1_callBack 6 = .ok (.aload_n 0, 1) := by decide +kernel
theorem dX1_callBack_7 : decode cX1_callBack 7 = .ok (.iload_n 2, 1) := by decide +kernel
theorem dX1_callBack_8 : decode cX1_callBack 8 = .ok (.invokevirtual 61, 3) := by decide +kernel
theorem dX1_callBack_11 : decode cX1_callBack 11 = .ok (.astore 4, 2) := by decide +kernel
theorem dX1_callBack_13 : decode cX1_callBack 13 = .ok (.iload_n 1, 1) := by decide +kernel
theorem dX1_callBack_14 : decode cX1_callBack 14 = .ok (.iload_n 2, 1) := by decide +kernel
theorem dX1_callBack_15 : decode cX1_callBack 15 = .ok (.invokestatic 141, 3) := by decide +kernel
theorem dX1_callBack_18 : decode cX1_callBack 18 = .ok (.aload_n 3, 1) := by decide +kernel
theorem dX1_callBack_19 : decode cX1_callBack 19 = .ok (.getfield 147, 3) := by decide +kernel
theorem dX1_callBack_22 : decode cX1_callBack 22 = .ok (.iload_n 2, 1) := by decide +kernel
theorem dX1_callBack_23 : decode cX1_callBack 23 = .ok (.iaload, 1) := by decide +kernel
theorem dX1_callBack_24 : decode cX1_callBack 24 = .ok (.aload 4, 2) := by decide +kernel
theorem dX1_callBack_26 : decode cX1_callBack 26 = .ok (.getfield 138, 3) := by decide +kernel
theorem dX1_callBack_29 : decode cX1_callBack 29 = .ok (.invokestatic 150, 3) := by decide +kernel
theorem dX1_callBack_32 : decode cX1_callBack 32 = .ok (.istore 5, 2) := by decide +kernel
theorem dX1_callBack_34 : decode cX1_callBack 34 = .ok (.aload_n 3, 1) := by decide +kernel
theorem dX1_callBack_35 : decode cX1_callBack 35 = .ok (.getfield 147, 3) := by decide +kernel
theorem dX1_callBack_38 : decode cX1_callBack 38 = .ok (.iload_n 2, 1) := by decide +kernel
theorem dX1_callBack_39 : decode cX1_callBack 39 = .ok (.dup2, 1) := by decide +kernel
theorem dX1_callBack_40 : decode cX1_callBack 40 = .ok (.iaload, 1) := by decide +kernel
theorem dX1_callBack_41 : decode cX1_callBack 41 = .ok (.iload 5, 2) := by decide +kernel
theorem dX1_callBack_43 : decode cX1_callBack 43 = .ok (.isub, 1) := by decide +kernel
theorem dX1_callBack_44 : decode cX1_callBack 44 = .ok (.iastore, 1) := by decide +kernel
theorem dX1_callBack_45 : decode cX1_callBack 45 = .ok (.aload 4, 2) := by decide +kernel
theorem dX1_callBack_47 : decode cX1_callBack 47 = .ok (.dup, 1) := by decide +kernel
theorem dX1_callBack_48 : decode cX1_callBack 48 = .ok (.getfield 138, 3) := by decide +kernel
theorem dX1_callBack_51 : decode cX1_callBack 51 = .ok (.iload 5, 2) := by decide +kernel
theorem dX1_callBack_53 : decode cX1_callBack 53 = .ok (.isub, 1) := by decide +kernel
theorem dX1_callBack_54 : decode cX1_callBack 54 = .ok (.putfield 138, 3) := by decide +kernel
theorem dX1_callBack_57 : decode cX1_callBack 57 = .ok (.aload_n 3, 1) := by decide +kernel
theorem dX1_callBack_58 : decode cX1_callBack 58 = .ok (.dup, 1) := by decide +kernel
theorem dX1_callBack_59 : decode cX1_callBack 59 = .ok (.getfield 138, 3) := by decide +kernel
theorem dX1_callBack_62 : decode cX1_callBack 62 = .ok (.iload 5, 2) := by decide +kernel
theorem dX1_callBack_64 : decode cX1_callBack 64 = .ok (.iadd, 1) := by decide +kernel
theorem dX1_callBack_65 : decode cX1_callBack 65 = .ok (.putfield 138, 3) := by decide +kernel
theorem dX1_callBack_68 : decode cX1_callBack 68 = .ok (.iload 5, 2) := by decide +kernel
theorem dX1_callBack_70 : decode cX1_callBack 70 = .ok (.ireturn, 1) := by decide +kernel
theorem dX1_fines_0 : decode cX1_fines 0 = .ok (.aload_n 0, 1) := by decide +kernel
theorem dX1_fines_1 : decode cX1_fines 1 = .ok (.iload_n 1, 1) := by decide +kernel
theorem dX1_fines_2 : decode cX1_fines 2 = .ok (.invokevirtual 61, 3) := by decide +kernel
theorem dX1_fines_5 : decode cX1_fines 5 = .ok (.getfield 155, 3) := by decide +kernel
theorem dX1_fines_8 : decode cX1_fines 8 = .ok (.ireturn, 1) := by decide +kernel
theorem dX1_fund_0 : decode cX1_fund 0 = .ok (.aload_n 0, 1) := by decide +kernel
theorem dX1_fund_1 : decode cX1_fund 1 = .ok (.getfield 27, 3) := by decide +kernel
theorem dX1_fund_4 : decode cX1_fund 4 = .ok (.ireturn, 1) := by decide +kernel
theorem dX1_build_0 : decode cX1_build 0 = .ok (.iload_n 1, 1) := by decide +kernel
theorem dX1_build_1 : decode cX1_build 1 = .ok (.iconst 0, 1) := by decide +kernel
theorem dX1_build_2 : decode cX1_build 2 = .ok (.bipush 99, 2) := by decide +kernel
theorem dX1_build_4 : decode cX1_build 4 = .ok (.invokestatic 37, 3) := by decide +kernel
theorem dX1_build_7 : decode cX1_build 7 = .ok (.aload_n 0, 1) := by decide +kernel
theorem dX1_build_8 : decode cX1_build 8 = .ok (.getfield 27, 3) := by decide +kernel
theorem dX1_build_11 : decode cX1_build 11 = .ok (.bipush 100, 2) := by decide +kernel
theorem dX1_build_13 : decode cX1_build 13 = .ok (.if_icmp .lt 11, 3) := by decide +kernel
theorem dX1_build_16 : decode cX1_build 16 = .ok (.aload_n 0, 1) := by decide +kernel
theorem dX1_build_17 : decode cX1_build 17 = .ok (.getfield 23, 3) := by decide +kernel
theorem dX1_build_20 : decode cX1_build 20 = .ok (.iconst 5, 1) := by decide +kernel
theorem dX1_build_21 : decode cX1_build 21 = .ok (.if_icmp .lt 13, 3) := by decide +kernel
theorem dX1_build_24 : decode cX1_build 24 = .ok (.new 45, 3) := by decide +kernel
theorem dX1_build_27 : decode cX1_build 27 = .ok (.dup, 1) := by decide +kernel
theorem dX1_build_28 : decode cX1_build 28 = .ok (.ldc 158, 2) := by decide +kernel
theorem dX1_build_30 : decode cX1_build 30 = .ok (.invokespecial 49, 3) := by decide +kernel
theorem dX1_build_33 : decode cX1_build 33 = .ok (.athrow, 1) := by decide +kernel
theorem dX1_build_34 : decode cX1_build 34 = .ok (.aload_n 0, 1) := by decide +kernel
theorem dX1_build_35 : decode cX1_build 35 = .ok (.dup, 1) := by decide +kernel
theorem dX1_build_36 : decode cX1_build 36 = .ok (.getfield 27, 3) := by decide +kernel
theorem dX1_build_39 : decode cX1_build 39 = .ok (.bipush 100, 2) := by decide +kernel
theorem dX1_build_41 : decode cX1_build 41 = .ok (.isub, 1) := by decide +kernel
theorem dX1_build_42 : decode cX1_build 42 = .ok (.putfield 27, 3) := by decide +kernel
theorem dX1_build_45 : decode cX1_build 45 = .ok (.aload_n 0, 1) := by decide +kernel
theorem dX1_build_46 : decode cX1_build 46 = .ok (.getfield 20, 3) := by decide +kernel
theorem dX1_build_49 : decode cX1_build 49 = .ok (.aload_n 0, 1) := by decide +kernel
theorem dX1_build_50 : decode cX1_build 50 = .ok (.getfield 23, 3) := by decide +kernel
theorem dX1_build_53 : decode cX1_build 53 = .ok (.iload_n 1, 1) := by decide +kernel
theorem dX1_build_54 : decode cX1_build 54 = .ok (.iastore, 1) := by decide +kernel
theorem dX1_build_55 : decode cX1_build 55 = .ok (.aload_n 0, 1) := by decide +kernel
theorem dX1_build_56 : decode cX1_build 56 = .ok (.dup, 1) := by decide +kernel
theorem dX1_build_57 : decode cX1_build 57 = .ok (.getfield 23, 3) := by decide +kernel
theorem dX1_build_60 : decode cX1_build 60 = .ok (.iconst 1, 1) := by decide +kernel
theorem dX1_build_61 : decode cX1_build 61 = .ok (.iadd, 1) := by decide +kernel
theorem dX1_build_62 : decode cX1_build 62 = .ok (.putfield 23, 3) := by decide +kernel
theorem dX1_build_65 : decode cX1_build 65 = .ok (.aload_n 0, 1) := by decide +kernel
theorem dX1_build_66 : decode cX1_build 66 = .ok (.getfield 23, 3) := by decide +kernel
theorem dX1_build_69 : decode cX1_build 69 = .ok (.ireturn, 1) := by decide +kernel
theorem dX1_wellAt_0 : decode cX1_wellAt 0 = .ok (.iload_n 1, 1) := by decide +kernel
theorem dX1_wellAt_1 : decode cX1_wellAt 1 = .ok (.ifCond .lt 14, 3) := by decide +kernel
theorem dX1_wellAt_4 : decode cX1_wellAt 4 = .ok (.iload_n 1, 1) := by decide +kernel
theorem dX1_wellAt_5 : decode cX1_wellAt 5 = .ok (.aload_n 0, 1) := by decide +kernel
theorem dX1_wellAt_6 : decode cX1_wellAt 6 = .ok (.getfield 10, 3) := by decide +kernel
theorem dX1_wellAt_9 : decode cX1_wellAt 9 = .ok (.invokevirtual 41, 3) := by decide +kernel
theorem dX1_wellAt_12 : decode cX1_wellAt 12 = .ok (.if_icmp .lt 13, 3) := by decide +kernel
theorem dX1_wellAt_15 : decode cX1_wellAt 15 = .ok (.new 90, 3) := by decide +kernel
theorem dX1_wellAt_18 : decode cX1_wellAt 18 = .ok (.dup, 1) := by decide +kernel
theorem dX1_wellAt_19 : decode cX1_wellAt 19 = .ok (.ldc 160, 2) := by decide +kernel
theorem dX1_wellAt_21 : decode cX1_wellAt 21 = .ok (.invokespecial 94, 3) := by decide +kernel
theorem dX1_wellAt_24 : decode cX1_wellAt 24 = .ok (.athrow, 1) := by decide +kernel
theorem dX1_wellAt_25 : decode cX1_wellAt 25 = .ok (.aload_n 0, 1) := by decide +kernel
theorem dX1_wellAt_26 : decode cX1_wellAt 26 = .ok (.getfield 10, 3) := by decide +kernel
theorem dX1_wellAt_29 : decode cX1_wellAt 29 = .ok (.iload_n 1, 1) := by decide +kernel
theorem dX1_wellAt_30 : decode cX1_wellAt 30 = .ok (.invokevirtual 162, 3) := by decide +kernel
theorem dX1_wellAt_33 : decode cX1_wellAt 33 = .ok (.checkcast 52, 3) := by decide +kernel
theorem dX1_wellAt_36 : decode cX1_wellAt 36 = .ok (.areturn, 1) := by decide +kernel
theorem dX1_requireLayer_0 : decode cX1_requireLayer 0 = .ok (.iload_n 0, 1) := by decide +kernel
theorem dX1_requireLayer_1 : decode cX1_requireLayer 1 = .ok (.ifCond .lt 8, 3) := by decide +kernel
theorem dX1_requireLayer_4 : decode cX1_requireLayer 4 = .ok (.iload_n 0, 1) := by decide +kernel
theorem dX1_requireLayer_5 : decode cX1_requireLayer 5 = .ok (.iconst 3, 1) := by decide +kernel
theorem dX1_requireLayer_6 : decode cX1_requireLayer 6 = .ok (.if_icmp .lt 13, 3) := by decide +kernel
theorem dX1_requireLayer_9 : decode cX1_requireLayer 9 = .ok (.new 90, 3) := by decide +kernel
theorem dX1_requireLayer_12 : decode cX1_requireLayer 12 = .ok (.dup, 1) := by decide +kernel
theorem dX1_requireLayer_13 : decode cX1_requireLayer 13 = .ok (.ldc 166, 2) := by decide +kernel
theorem dX1_requireLayer_15 : decode cX1_requireLayer 15 = .ok (.invokespecial 94, 3) := by decide +kernel
theorem dX1_requireLayer_18 : decode cX1_requireLayer 18 = .ok (.athrow, 1) := by decide +kernel
theorem dX1_requireLayer_19 : decode cX1_requireLayer 19 = .ok (.return_, 1) := by decide +kernel
theorem dX1_requireWithin_0 : decode cX1_requireWithin 0 = .ok (.iload_n 0, 1) := by decide +kernel
theorem dX1_requireWithin_1 : decode cX1_requireWithin 1 = .ok (.iload_n 1, 1) := by decide +kernel
theorem dX1_requireWithin_2 : decode cX1_requireWithin 2 = .ok (.if_icmp .lt 8, 3) := by decide +kernel
theorem dX1_requireWithin_5 : decode cX1_requireWithin 5 = .ok (.iload_n 0, 1) := by decide +kernel
theorem dX1_requireWithin_6 : decode cX1_requireWithin 6 = .ok (.iload_n 2, 1) := by decide +kernel
theorem dX1_requireWithin_7 : decode cX1_requireWithin 7 = .ok (.if_icmp .le 13, 3) := by decide +kernel
theorem dX1_requireWithin_10 : decode cX1_requireWithin 10 = .ok (.new 168, 3) := by decide +kernel
theorem dX1_requireWithin_13 : decode cX1_requireWithin 13 = .ok (.dup, 1) := by decide +kernel
theorem dX1_requireWithin_14 : decode cX1_requireWithin 14 = .ok (.ldc 170, 2) := by decide +kernel
theorem dX1_requireWithin_16 : decode cX1_requireWithin 16 = .ok (.invokespecial 172, 3) := by decide +kernel
theorem dX1_requireWithin_19 : decode cX1_requireWithin 19 = .ok (.athrow, 1) := by decide +kernel
theorem dX1_requireWithin_20 : decode cX1_requireWithin 20 = .ok (.return_, 1) := by decide +kernel
theorem dX1_requireDifferent_0 : decode cX1_requireDifferent 0 = .ok (.iload_n 0, 1) := by decide +kernel
theorem dX1_requireDifferent_1 : decode cX1_requireDifferent 1 = .ok (.iload_n 1, 1) := by decide +kernel
theorem dX1_requireDifferent_2 : decode cX1_requireDifferent 2 = .ok (.if_icmp .ne 13, 3) := by decide +kernel
theorem dX1_requireDifferent_5 : decode cX1_requireDifferent 5 = .ok (.new 168, 3) := by decide +kernel
theorem dX1_requireDifferent_8 : decode cX1_requireDifferent 8 = .ok (.dup, 1) := by decide +kernel
theorem dX1_requireDifferent_9 : decode cX1_requireDifferent 9 = .ok (.ldc 173, 2) := by decide +kernel
theorem dX1_requireDifferent_11 : decode cX1_requireDifferent 11 = .ok (.invokespecial 172, 3) := by decide +kernel
theorem dX1_requireDifferent_14 : decode cX1_requireDifferent 14 = .ok (.athrow, 1) := by decide +kernel
theorem dX1_requireDifferent_15 : decode cX1_requireDifferent 15 = .ok (.return_, 1) := by decide +kernel
theorem dX1_whoIsStopped_0 : decode cX1_whoIsStopped 0 = .ok (.iconst 0, 1) := by decide +kernel
theorem dX1_whoIsStopped_1 : decode cX1_whoIsStopped 1 = .ok (.istore_n 1, 1) := by decide +kernel
theorem dX1_whoIsStopped_2 : decode cX1_whoIsStopped 2 = .ok (.iconst 0, 1) := by decide +kernel
theorem dX1_whoIsStopped_3 : decode cX1_whoIsStopped 3 = .ok (.istore_n 2, 1) := by decide +kernel
theorem dX1_whoIsStopped_4 : decode cX1_whoIsStopped 4 = .ok (.iload_n 2, 1) := by decide +kernel
theorem dX1_whoIsStopped_5 : decode cX1_whoIsStopped 5 = .ok (.bipush 8, 2) := by decide +kernel
theorem dX1_whoIsStopped_7 : decode cX1_whoIsStopped 7 = .ok (.if_icmp .ge 29, 3) := by decide +kernel
theorem dX1_whoIsStopped_10 : decode cX1_whoIsStopped 10 = .ok (.aload_n 0, 1) := by decide +kernel
theorem dX1_whoIsStopped_11 : decode cX1_whoIsStopped 11 = .ok (.iload_n 1, 1) := by decide +kernel
theorem dX1_whoIsStopped_12 : decode cX1_whoIsStopped 12 = .ok (.invokevirtual 175, 3) := by decide +kernel
theorem dX1_whoIsStopped_15 : decode cX1_whoIsStopped 15 = .ok (.astore_n 3, 1) := by decide +kernel
theorem dX1_whoIsStopped_16 : decode cX1_whoIsStopped 16 = .ok (.aload_n 3, 1) := by decide +kernel
theorem dX1_whoIsStopped_17 : decode cX1_whoIsStopped 17 = .ok (.ifnonnull 6, 3) := by decide +kernel
theorem dX1_whoIsStopped_20 : decode cX1_whoIsStopped 20 = .ok (.goto 16, 3) := by decide +kernel
theorem dX1_whoIsStopped_23 : decode cX1_whoIsStopped 23 = .ok (.iload_n 1, 1) := by decide +kernel
theorem dX1_whoIsStopped_24 : decode cX1_whoIsStopped 24 = .ok (.aload_n 3, 1) := by decide +kernel
theorem dX1_whoIsStopped_25 : decode cX1_whoIsStopped 25 = .ok (.invokevirtual 178, 3) := by decide +kernel
theorem dX1_whoIsStopped_28 : decode cX1_whoIsStopped 28 = .ok (.ior, 1) := by decide +kernel
theorem dX1_whoIsStopped_29 : decode cX1_whoIsStopped 29 = .ok (.istore_n 1, 1) := by decide +kernel
theorem dX1_whoIsStopped_30 : decode cX1_whoIsStopped 30 = .ok (.iinc 2 1, 3) := by decide +kernel
theorem dX1_whoIsStopped_33 : decode cX1_whoIsStopped 33 = .ok (.goto (-29), 3) := by decide +kernel
theorem dX1_whoIsStopped_36 : decode cX1_whoIsStopped 36 = .ok (.iload_n 1, 1) := by decide +kernel
theorem dX1_whoIsStopped_37 : decode cX1_whoIsStopped 37 = .ok (.ireturn, 1) := by decide +kernel
theorem dX1_nextToStop_0 : decode cX1_nextToStop 0 = .ok (.aconst_null, 1) := by decide +kernel
theorem dX1_nextToStop_1 : decode cX1_nextToStop 1 = .ok (.astore_n 2, 1) := by decide +kernel
theorem dX1_nextToStop_2 : decode cX1_nextToStop 2 = .ok (.aconst_null, 1) := by decide +kernel
theorem dX1_nextToStop_3 : decode cX1_nextToStop 3 = .ok (.astore_n 3, 1) := by decide +kernel
theorem dX1_nextToStop_4 : decode cX1_nextToStop 4 = .ok (.iconst 0, 1) := by decide +kernel
theorem dX1_nextToStop_5 : decode cX1_nextToStop 5 = .ok (.istore 4, 2) := by decide +kernel
theorem dX1_nextToStop_7 : decode cX1_nextToStop 7 = .ok (.iload 4, 2) := by decide +kernel
theorem dX1_nextToStop_9 : decode cX1_nextToStop 9 = .ok (.aload_n 0, 1) := by decide +kernel
theorem dX1_nextToStop_10 : decode cX1_nextToStop 10 = .ok (.getfield 10, 3) := by decide +kernel
theorem dX1_nextToStop_13 : decode cX1_nextToStop 13 = .ok (.invokevirtual 41, 3) := by decide +kernel
theorem dX1_nextToStop_16 : decode cX1_nextToStop 16 = .ok (.if_icmp .ge 71, 3) := by decide +kernel
theorem dX1_nextToStop_19 : decode cX1_nextToStop 19 = .ok (.aload_n 0, 1) := by decide +kernel
theorem dX1_nextToStop_20 : decode cX1_nextToStop 20 = .ok (.getfield 10, 3) := by decide +kernel
theorem dX1_nextToStop_23 : decode cX1_nextToStop 23 = .ok (.iload 4, 2) := by decide +kernel
theorem dX1_nextToStop_25 : decode cX1_nextToStop 25 = .ok (.invokevirtual 162, 3) := by decide +kernel
theorem dX1_nextToStop_28 : decode cX1_nextToStop 28 = .ok (.checkcast 52, 3) := by decide +kernel
theorem dX1_nextToStop_31 : decode cX1_nextToStop 31 = .ok (.astore 5, 2) := by decide +kernel
theorem dX1_nextToStop_33 : decode cX1_nextToStop 33 = .ok (.aload_n 0, 1) := by decide +kernel
theorem dX1_nextToStop_34 : decode cX1_nextToStop 34 = .ok (.aload 5, 2) := by decide +kernel
theorem dX1_nextToStop_36 : decode cX1_nextToStop 36 = .ok (.iload_n 1, 1) := by decide +kernel
theorem dX1_nextToStop_37 : decode cX1_nextToStop 37 = .ok (.invokevirtual 181, 3) := by decide +kernel
theorem dX1_nextToStop_40 : decode cX1_nextToStop 40 = .ok (.aload 5, 2) := by decide +kernel
theorem dX1_nextToStop_42 : decode cX1_nextToStop 42 = .ok (.getfield 185, 3) := by decide +kernel
theorem dX1_nextToStop_45 : decode cX1_nextToStop 45 = .ok (.if_icmp .ge 36, 3) := by decide +kernel
theorem dX1_nextToStop_48 : decode cX1_nextToStop 48 = .ok (.aload_n 2, 1) := by decide +kernel
theorem dX1_nextToStop_49 : decode cX1_nextToStop 49 = .ok (.ifnull 12, 3) := by decide +kernel
theorem dX1_nextToStop_52 : decode cX1_nextToStop 52 = .ok (.aload 5, 2) := by decide +kernel
theorem dX1_nextToStop_54 : decode cX1_nextToStop 54 = .ok (.aload_n 2, 1) := by decide +kernel
theorem dX1_nextToStop_55 : decode cX1_nextToStop 55 = .ok (.invokevirtual 188, 3) := by decide +kernel
theorem dX1_nextToStop_58 : decode cX1_nextToStop 58 = .ok (.ifCond .eq 23, 3) := by decide +kernel
theorem dX1_nextToStop_61 : decode cX1_nextToStop 61 = .ok (.aload_n 0, 1) := by decide +kernel
theorem dX1_nextToStop_62 : decode cX1_nextToStop 62 = .ok (.aload 5, 2) := by decide +kernel
theorem dX1_nextToStop_64 : decode cX1_nextToStop 64 = .ok (.iload_n 1, 1) := by decide +kernel
theorem dX1_nextToStop_65 : decode cX1_nextToStop 65 = .ok (.invokevirtual 192, 3) := by decide +kernel
theorem dX1_nextToStop_68 : decode cX1_nextToStop 68 = .ok (.astore 6, 2) := by decide +kernel
theorem dX1_nextToStop_70 : decode cX1_nextToStop 70 = .ok (.aload 6, 2) := by decide +kernel
theorem dX1_nextToStop_72 : decode cX1_nextToStop 72 = .ok (.ifnull 9, 3) := by decide +kernel
theorem dX1_nextToStop_75 : decode cX1_nextToStop 75 = .ok (.aload 5, 2) := by decide +kernel
theorem dX1_nextToStop_77 : decode cX1_nextToStop 77 = .ok (.astore_n 2, 1) := by decide +kernel
theorem dX1_nextToStop_78 : decode cX1_nextToStop 78 = .ok (.aload 6, 2) := by decide +kernel
theorem dX1_nextToStop_80 : decode cX1_nextToStop 80 = .ok (.astore_n 3, 1) := by decide +kernel
theorem dX1_nextToStop_81 : decode cX1_nextToStop 81 = .ok (.iinc 4 1, 3) := by decide +kernel
theorem dX1_nextToStop_84 : decode cX1_nextToStop 84 = .ok (.goto (-77), 3) := by decide +kernel
theorem dX1_nextToStop_87 : decode cX1_nextToStop 87 = .ok (.aload_n 3, 1) := by decide +kernel
theorem dX1_nextToStop_88 : decode cX1_nextToStop 88 = .ok (.areturn, 1) := by decide +kernel
theorem dX1_youngestDrawerOn_0 : decode cX1_youngestDrawerOn 0 = .ok (.aconst_null, 1) := by decide +kernel
theorem dX1_youngestDrawerOn_1 : decode cX1_youngestDrawerOn 1 = .ok (.astore_n 3, 1) := by decide +kernel
theorem dX1_youngestDrawerOn_2 : decode cX1_youngestDrawerOn 2 = .ok (.iconst 0, 1) := by decide +kernel
theorem dX1_youngestDrawerOn_3 : decode cX1_youngestDrawerOn 3 = .ok (.istore 4, 2) := by decide +kernel
theorem dX1_youngestDrawerOn_5 : decode cX1_youngestDrawerOn 5 = .ok (.iload 4, 2) := by decide +kernel
theorem dX1_youngestDrawerOn_7 : decode cX1_youngestDrawerOn 7 = .ok (.aload_n 0, 1) := by decide +kernel
theorem dX1_youngestDrawerOn_8 : decode cX1_youngestDrawerOn 8 = .ok (.getfield 10, 3) := by decide +kernel
theorem dX1_youngestDrawerOn_11 : decode cX1_youngestDrawerOn 11 = .ok (.invokevirtual 41, 3) := by decide +kernel
theorem dX1_youngestDrawerOn_14 : decode cX1_youngestDrawerOn 14 = .ok (.if_icmp .ge 74, 3) := by decide +kernel
theorem dX1_youngestDrawerOn_17 : decode cX1_youngestDrawerOn 17 = .ok (.aload_n 0, 1) := by decide +kernel
theorem dX1_youngestDrawerOn_18 : decode cX1_youngestDrawerOn 18 = .ok (.getfield 10, 3) := by decide +kernel
theorem dX1_youngestDrawerOn_21 : decode cX1_youngestDrawerOn 21 = .ok (.iload 4, 2) := by decide +kernel
theorem dX1_youngestDrawerOn_23 : decode cX1_youngestDrawerOn 23 = .ok (.invokevirtual 162, 3) := by decide +kernel
theorem dX1_youngestDrawerOn_26 : decode cX1_youngestDrawerOn 26 = .ok (.checkcast 52, 3) := by decide +kernel
theorem dX1_youngestDrawerOn_29 : decode cX1_youngestDrawerOn 29 = .ok (.astore 5, 2) := by decide +kernel
theorem dX1_youngestDrawerOn_31 : decode cX1_youngestDrawerOn 31 = .ok (.aload_n 1, 1) := by decide +kernel
theorem dX1_youngestDrawerOn_32 : decode cX1_youngestDrawerOn 32 = .ok (.aload 5, 2) := by decide +kernel
theorem dX1_youngestDrawerOn_34 : decode cX1_youngestDrawerOn 34 = .ok (.invokevirtual 188, 3) := by decide +kernel
theorem dX1_youngestDrawerOn_37 : decode cX1_youngestDrawerOn 37 = .ok (.ifCond .eq 45, 3) := by decide +kernel
theorem dX1_youngestDrawerOn_40 : decode cX1_youngestDrawerOn 40 = .ok (.aload 5, 2) := by decide +kernel
theorem dX1_youngestDrawerOn_42 : decode cX1_youngestDrawerOn 42 = .ok (.iload_n 2, 1) := by decide +kernel
theorem dX1_youngestDrawerOn_43 : decode cX1_youngestDrawerOn 43 = .ok (.invokevirtual 196, 3) := by decide +kernel
theorem dX1_youngestDrawerOn_46 : decode cX1_youngestDrawerOn 46 = .ok (.ifCond .le 36, 3) := by decide +kernel
theorem dX1_youngestDrawerOn_49 : decode cX1_youngestDrawerOn 49 = .ok (.aload_n 1, 1) := by decide +kernel
theorem dX1_youngestDrawerOn_50 : decode cX1_youngestDrawerOn 50 = .ok (.aload 5, 2) := by decide +kernel
theorem dX1_youngestDrawerOn_52 : decode cX1_youngestDrawerOn 52 = .ok (.getfield 68, 3) := by decide +kernel
theorem dX1_youngestDrawerOn_55 : decode cX1_youngestDrawerOn 55 = .ok (.aload 5, 2) := by decide +kernel
theorem dX1_youngestDrawerOn_57 : decode cX1_youngestDrawerOn 57 = .ok (.getfield 71, 3) := by decide +kernel
theorem dX1_youngestDrawerOn_60 : decode cX1_youngestDrawerOn 60 = .ok (.invokevirtual 74, 3) := by decide +kernel
theorem dX1_youngestDrawerOn_63 : decode cX1_youngestDrawerOn 63 = .ok (.ifCond .le 19, 3) := by decide +kernel
theorem dX1_youngestDrawerOn_66 : decode cX1_youngestDrawerOn 66 = .ok (.aload_n 3, 1) := by decide +kernel
theorem dX1_youngestDrawerOn_67 : decode cX1_youngestDrawerOn 67 = .ok (.ifnull 12, 3) := by decide +kernel
theorem dX1_youngestDrawerOn_70 : decode cX1_youngestDrawerOn 70 = .ok (.aload_n 3, 1) := by decide +kernel
theorem dX1_youngestDrawerOn_71 : decode cX1_youngestDrawerOn 71 = .ok (.aload 5, 2) := by decide +kernel
theorem dX1_youngestDrawerOn_73 : decode cX1_youngestDrawerOn 73 = .ok (.invokevirtual 188, 3) := by decide +kernel
theorem dX1_youngestDrawerOn_76 : decode cX1_youngestDrawerOn 76 = .ok (.ifCond .eq 6, 3) := by decide +kernel
theorem dX1_youngestDrawerOn_79 : decode cX1_youngestDrawerOn 79 = .ok (.aload 5, 2) := by decide +kernel
theorem dX1_youngestDrawerOn_81 : decode cX1_youngestDrawerOn 81 = .ok (.astore_n 3, 1) := by decide +kernel
theorem dX1_youngestDrawerOn_82 : decode cX1_youngestDrawerOn 82 = .ok (.iinc 4 1, 3) := by decide +kernel
theorem dX1_youngestDrawerOn_85 : decode cX1_youngestDrawerOn 85 = .ok (.goto (-80), 3) := by decide +kernel
theorem dX1_youngestDrawerOn_88 : decode cX1_youngestDrawerOn 88 = .ok (.aload_n 3, 1) := by decide +kernel
theorem dX1_youngestDrawerOn_89 : decode cX1_youngestDrawerOn 89 = .ok (.areturn, 1) := by decide +kernel
theorem dX1_levelBehind_0 : decode cX1_levelBehind 0 = .ok (.aload_n 1, 1) := by decide +kernel
theorem dX1_levelBehind_1 : decode cX1_levelBehind 1 = .ok (.getfield 78, 3) := by decide +kernel
theorem dX1_levelBehind_4 : decode cX1_levelBehind 4 = .ok (.aload_n 0, 1) := by decide +kernel
theorem dX1_levelBehind_5 : decode cX1_levelBehind 5 = .ok (.getfield 16, 3) := by decide +kernel
theorem dX1_levelBehind_8 : decode cX1_levelBehind 8 = .ok (.aload_n 1, 1) := by decide +kernel
theorem dX1_levelBehind_9 : decode cX1_levelBehind 9 = .ok (.getfield 68, 3) := by decide +kernel
theorem dX1_levelBehind_12 : decode cX1_levelBehind 12 = .ok (.iaload, 1) := by decide +kernel
theorem dX1_levelBehind_13 : decode cX1_levelBehind 13 = .ok (.iadd, 1) := by decide +kernel
theorem dX1_levelBehind_14 : decode cX1_levelBehind 14 = .ok (.istore_n 3, 1) := by decide +kernel
theorem dX1_levelBehind_15 : decode cX1_levelBehind 15 = .ok (.iconst 0, 1) := by decide +kernel
theorem dX1_levelBehind_16 : decode cX1_levelBehind 16 = .ok (.istore 4, 2) := by decide +kernel
theorem dX1_levelBehind_18 : decode cX1_levelBehind 18 = .ok (.iload 4, 2) := by decide +kernel
theorem dX1_levelBehind_20 : decode cX1_levelBehind 20 = .ok (.aload_n 0, 1) := by decide +kernel
theorem dX1_levelBehind_21 : decode cX1_levelBehind 21 = .ok (.getfield 23, 3) := by decide +kernel
theorem dX1_levelBehind_24 : decode cX1_levelBehind 24 = .ok (.if_icmp .ge 29, 3) := by decide +kernel
theorem dX1_levelBehind_27 : decode cX1_levelBehind 27 = .ok (.iload_n 3, 1) := by decide +kernel
theorem dX1_levelBehind_28 : decode cX1_levelBehind 28 = .ok (.bipush 20, 2) := by decide +kernel
theorem dX1_levelBehind_30 : decode cX1_levelBehind 30 = .ok (.aload_n 1, 1) := by decide +kernel
theorem dX1_levelBehind_31 : decode cX1_levelBehind 31 = .ok (.iconst 0, 1) := by decide +kernel
theorem dX1_levelBehind_32 : decode cX1_levelBehind 32 = .ok (.aload_n 0, 1) := by decide +kernel
theorem dX1_levelBehind_33 : decode cX1_levelBehind 33 = .ok (.getfield 20, 3) := by decide +kernel
theorem dX1_levelBehind_36 : decode cX1_levelBehind 36 = .ok (.iload 4, 2) := by decide +kernel
theorem dX1_levelBehind_38 : decode cX1_levelBehind 38 = .ok (.iaload, 1) := by decide +kernel
theorem dX1_levelBehind_39 : decode cX1_levelBehind 39 = .ok (.invokevirtual 74, 3) := by decide +kernel
theorem dX1_levelBehind_42 : decode cX1_levelBehind 42 = .ok (.invokestatic 199, 3) := by decide +kernel
theorem dX1_levelBehind_45 : decode cX1_levelBehind 45 = .ok (.iadd, 1) := by decide +kernel
theorem dX1_levelBehind_46 : decode cX1_levelBehind 46 = .ok (.istore_n 3, 1) := by decide +kernel
theorem dX1_levelBehind_47 : decode cX1_levelBehind 47 = .ok (.iinc 4 1, 3) := by decide +kernel
theorem dX1_levelBehind_50 : decode cX1_levelBehind 50 = .ok (.goto (-32), 3) := by decide +kernel
theorem dX1_levelBehind_53 : decode cX1_levelBehind 53 = .ok (.iconst 0, 1) := by decide +kernel
theorem dX1_levelBehind_54 : decode cX1_levelBehind 54 = .ok (.istore 4, 2) := by decide +kernel
theorem dX1_levelBehind_56 : decode cX1_levelBehind 56 = .ok (.iload 4, 2) := by decide +kernel
theorem dX1_levelBehind_58 : decode cX1_levelBehind 58 = .ok (.aload_n 0, 1) := by decide +kernel
theorem dX1_levelBehind_59 : decode cX1_levelBehind 59 = .ok (.getfield 10, 3) := by decide +kernel
theorem dX1_levelBehind_62 : decode cX1_levelBehind 62 = .ok (.invokevirtual 41, 3) := by decide +kernel
theorem dX1_levelBehind_65 : decode cX1_levelBehind 65 = .ok (.if_icmp .ge 49, 3) := by decide +kernel
theorem dX1_levelBehind_68 : decode cX1_levelBehind 68 = .ok (.aload_n 0, 1) := by decide +kernel
theorem dX1_levelBehind_69 : decode cX1_levelBehind 69 = .ok (.getfield 10, 3) := by decide +kernel
theorem dX1_levelBehind_72 : decode cX1_levelBehind 72 = .ok (.iload 4, 2) := by decide +kernel
theorem dX1_levelBehind_74 : decode cX1_levelBehind 74 = .ok (.invokevirtual 162, 3) := by decide +kernel
theorem dX1_levelBehind_77 : decode cX1_levelBehind 77 = .ok (.checkcast 52, 3) := by decide +kernel
theorem dX1_levelBehind_80 : decode cX1_levelBehind 80 = .ok (.astore 5, 2) := by decide +kernel
theorem dX1_levelBehind_82 : decode cX1_levelBehind 82 = .ok (.iload_n 3, 1) := by decide +kernel
theorem dX1_levelBehind_83 : decode cX1_levelBehind 83 = .ok (.aload 5, 2) := by decide +kernel
theorem dX1_levelBehind_85 : decode cX1_levelBehind 85 = .ok (.iload_n 2, 1) := by decide +kernel
theorem dX1_levelBehind_86 : decode cX1_levelBehind 86 = .ok (.invokevirtual 196, 3) := by decide +kernel
theorem dX1_levelBehind_89 : decode cX1_levelBehind 89 = .ok (.aload_n 1, 1) := by decide +kernel
theorem dX1_levelBehind_90 : decode cX1_levelBehind 90 = .ok (.aload 5, 2) := by decide +kernel
theorem dX1_levelBehind_92 : decode cX1_levelBehind 92 = .ok (.getfield 68, 3) := by decide +kernel
theorem dX1_levelBehind_95 : decode cX1_levelBehind 95 = .ok (.aload 5, 2) := by decide +kernel
theorem dX1_levelBehind_97 : decode cX1_levelBehind 97 = .ok (.getfield 71, 3) := by decide +kernel
theorem dX1_levelBehind_100 : decode cX1_levelBehind 100 = .ok (.invokevirtual 74, 3) := by decide +kernel
theorem dX1_levelBehind_103 : decode cX1_levelBehind 103 = .ok (.invokestatic 199, 3) := by decide +kernel
theorem dX1_levelBehind_106 : decode cX1_levelBehind 106 = .ok (.isub, 1) := by decide +kernel
theorem dX1_levelBehind_107 : decode cX1_levelBehind 107 = .ok (.istore_n 3, 1) := by decide +kernel
theorem dX1_levelBehind_108 : decode cX1_levelBehind 108 = .ok (.iinc 4 1, 3) := by decide +kernel
theorem dX1_levelBehind_111 : decode cX1_levelBehind 111 = .ok (.goto (-55), 3) := by decide +kernel
theorem dX1_levelBehind_114 : decode cX1_levelBehind 114 = .ok (.iload_n 3, 1) := by decide +kernel
theorem dX1_levelBehind_115 : decode cX1_levelBehind 115 = .ok (.ireturn, 1) := by decide +kernel
theorem dX1_hundredths_0 : decode cX1_hundredths 0 = .ok (.iload_n 0, 1) := by decide +kernel
theorem dX1_hundredths_1 : decode cX1_hundredths 1 = .ok (.iload_n 1, 1) := by decide +kernel
theorem dX1_hundredths_2 : decode cX1_hundredths 2 = .ok (.imul, 1) := by decide +kernel
theorem dX1_hundredths_3 : decode cX1_hundredths 3 = .ok (.bipush 100, 2) := by decide +kernel
theorem dX1_hundredths_5 : decode cX1_hundredths 5 = .ok (.idiv, 1) := by decide +kernel
theorem dX1_hundredths_6 : decode cX1_hundredths 6 = .ok (.ireturn, 1) := by decide +kernel
theorem dX1_shrinkBanks_0 : decode cX1_shrinkBanks 0 = .ok (.iconst 0, 1) := by decide +kernel
theorem dX1_shrinkBanks_1 : decode cX1_shrinkBanks 1 = .ok (.istore_n 1, 1) := by decide +kernel
theorem dX1_shrinkBanks_2 : decode cX1_shrinkBanks 2 = .ok (.iload_n 1, 1) := by decide +kernel
theorem dX1_shrinkBanks_3 : decode cX1_shrinkBanks 3 = .ok (.aload_n 0, 1) := by decide +kernel
theorem dX1_shrinkBanks_4 : decode cX1_shrinkBanks 4 = .ok (.getfield 10, 3) := by decide +kernel
theorem dX1_shrinkBanks_7 : decode cX1_shrinkBanks 7 = .ok (.invokevirtual 41, 3) := by decide +kernel
theorem dX1_shrinkBanks_10 : decode cX1_shrinkBanks 10 = .ok (.if_icmp .ge 42, 3) := by decide +kernel
theorem dX1_shrinkBanks_13 : decode cX1_shrinkBanks 13 = .ok (.aload_n 0, 1) := by decide +kernel
theorem dX1_shrinkBanks_14 : decode cX1_shrinkBanks 14 = .ok (.getfield 10, 3) := by decide +kernel
theorem dX1_shrinkBanks_17 : decode cX1_shrinkBanks 17 = .ok (.iload_n 1, 1) := by decide +kernel
theorem dX1_shrinkBanks_18 : decode cX1_shrinkBanks 18 = .ok (.invokevirtual 162, 3) := by decide +kernel
theorem dX1_shrinkBanks_21 : decode cX1_shrinkBanks 21 = .ok (.checkcast 52, 3) := by decide +kernel
theorem dX1_shrinkBanks_24 : decode cX1_shrinkBanks 24 = .ok (.astore_n 2, 1) := by decide +kernel
theorem dX1_shrinkBanks_25 : decode cX1_shrinkBanks 25 = .ok (.aload_n 2, 1) := by decide +kernel
theorem dX1_shrinkBanks_26 : decode cX1_shrinkBanks 26 = .ok (.getfield 138, 3) := by decide +kernel
theorem dX1_shrinkBanks_29 : decode cX1_shrinkBanks 29 = .ok (.bipush 9, 2) := by decide +kernel
theorem dX1_shrinkBanks_31 : decode cX1_shrinkBanks 31 = .ok (.iadd, 1) := by decide +kernel
theorem dX1_shrinkBanks_32 : decode cX1_shrinkBanks 32 = .ok (.bipush 10, 2) := by decide +kernel
theorem dX1_shrinkBanks_34 : decode cX1_shrinkBanks 34 = .ok (.idiv, 1) := by decide +kernel
theorem dX1_shrinkBanks_35 : decode cX1_shrinkBanks 35 = .ok (.istore_n 3, 1) := by decide +kernel
theorem dX1_shrinkBanks_36 : decode cX1_shrinkBanks 36 = .ok (.aload_n 2, 1) := by decide +kernel
theorem dX1_shrinkBanks_37 : decode cX1_shrinkBanks 37 = .ok (.dup, 1) := by decide +kernel
theorem dX1_shrinkBanks_38 : decode cX1_shrinkBanks 38 = .ok (.getfield 138, 3) := by decide +kernel
theorem dX1_shrinkBanks_41 : decode cX1_shrinkBanks 41 = .ok (.iload_n 3, 1) := by decide +kernel
theorem dX1_shrinkBanks_42 : decode cX1_shrinkBanks 42 = .ok (.isub, 1) := by decide +kernel
theorem dX1_shrinkBanks_43 : decode cX1_shrinkBanks 43 = .ok (.putfield 138, 3) := by decide +kernel
theorem dX1_shrinkBanks_46 : decode cX1_shrinkBanks 46 = .ok (.iinc 1 1, 3) := by decide +kernel
theorem dX1_shrinkBanks_49 : decode cX1_shrinkBanks 49 = .ok (.goto (-47), 3) := by decide +kernel
theorem dX1_shrinkBanks_52 : decode cX1_shrinkBanks 52 = .ok (.return_, 1) := by decide +kernel
theorem dX1_drawWater_0 : decode cX1_drawWater 0 = .ok (.iconst 0, 1) := by decide +kernel
theorem dX1_drawWater_1 : decode cX1_drawWater 1 = .ok (.istore_n 2, 1) := by decide +kernel
theorem dX1_drawWater_2 : decode cX1_drawWater 2 = .ok (.iload_n 2, 1) := by decide +kernel
theorem dX1_drawWater_3 : decode cX1_drawWater 3 = .ok (.aload_n 0, 1) := by decide +kernel
theorem dX1_drawWater_4 : decode cX1_drawWater 4 = .ok (.getfield 10, 3) := by decide +kernel
theorem dX1_drawWater_7 : decode cX1_drawWater 7 = .ok (.invokevirtual 41, 3) := by decide +kernel
theorem dX1_drawWater_10 : decode cX1_drawWater 10 = .ok (.if_icmp .ge 40, 3) := by decide +kernel
theorem dX1_drawWater_13 : decode cX1_drawWater 13 = .ok (.aload_n 0, 1) := by decide +kernel
theorem dX1_drawWater_14 : decode cX1_drawWater 14 = .ok (.getfield 10, 3) := by decide +kernel
theorem dX1_drawWater_17 : decode cX1_drawWater 17 = .ok (.iload_n 2, 1) := by decide +kernel
theorem dX1_drawWater_18 : decode cX1_drawWater 18 = .ok (.invokevirtual 162, 3) := by decide +kernel
theorem dX1_drawWater_21 : decode cX1_drawWater 21 = .ok (.checkcast 52, 3) := by decide +kernel
theorem dX1_drawWater_24 : decode cX1_drawWater 24 = .ok (.astore_n 3, 1) := by decide +kernel
theorem dX1_drawWater_25 : decode cX1_drawWater 25 = .ok (.aload_n 3, 1) := by decide +kernel
theorem dX1_drawWater_26 : decode cX1_drawWater 26 = .ok (.aload_n 0, 1) := by decide +kernel
theorem dX1_drawWater_27 : decode cX1_drawWater 27 = .ok (.aload_n 3, 1) := by decide +kernel
theorem dX1_drawWater_28 : decode cX1_drawWater 28 = .ok (.iload_n 1, 1) := by decide +kernel
theorem dX1_drawWater_29 : decode cX1_drawWater 29 = .ok (.invokevirtual 181, 3) := by decide +kernel
theorem dX1_drawWater_32 : decode cX1_drawWater 32 = .ok (.putfield 78, 3) := by decide +kernel
theorem dX1_drawWater_35 : decode cX1_drawWater 35 = .ok (.aload_n 3, 1) := by decide +kernel
theorem dX1_drawWater_36 : decode cX1_drawWater 36 = .ok (.aload_n 3, 1) := by decide +kernel
theorem dX1_drawWater_37 : decode cX1_drawWater 37 = .ok (.iload_n 1, 1) := by decide +kernel
theorem dX1_drawWater_38 : decode cX1_drawWater 38 = .ok (.invokevirtual 196, 3) := by decide +kernel
theorem dX1_drawWater_41 : decode cX1_drawWater 41 = .ok (.putfield 125, 3) := by decide +kernel
theorem dX1_drawWater_44 : decode cX1_drawWater 44 = .ok (.iinc 2 1, 3) := by decide +kernel
theorem dX1_drawWater_47 : decode cX1_drawWater 47 = .ok (.goto (-45), 3) := by decide +kernel
theorem dX1_drawWater_50 : decode cX1_drawWater 50 = .ok (.return_, 1) := by decide +kernel
theorem dX1_tellWater_0 : decode cX1_tellWater 0 = .ok (.iconst 0, 1) := by decide +kernel
theorem dX1_tellWater_1 : decode cX1_tellWater 1 = .ok (.istore_n 1, 1) := by decide +kernel
theorem dX1_tellWater_2 : decode cX1_tellWater 2 = .ok (.iload_n 1, 1) := by decide +kernel
theorem dX1_tellWater_3 : decode cX1_tellWater 3 = .ok (.aload_n 0, 1) := by decide +kernel
theorem dX1_tellWater_4 : decode cX1_tellWater 4 = .ok (.getfield 10, 3) := by decide +kernel
theorem dX1_tellWater_7 : decode cX1_tellWater 7 = .ok (.invokevirtual 41, 3) := by decide +kernel
theorem dX1_tellWater_10 : decode cX1_tellWater 10 = .ok (.if_icmp .ge 71, 3) := by decide +kernel
theorem dX1_tellWater_13 : decode cX1_tellWater 13 = .ok (.aload_n 0, 1) := by decide +kernel
theorem dX1_tellWater_14 : decode cX1_tellWater 14 = .ok (.getfield 10, 3) := by decide +kernel
theorem dX1_tellWater_17 : decode cX1_tellWater 17 = .ok (.iload_n 1, 1) := by decide +kernel
theorem dX1_tellWater_18 : decode cX1_tellWater 18 = .ok (.invokevirtual 162, 3) := by decide +kernel
theorem dX1_tellWater_21 : decode cX1_tellWater 21 = .ok (.checkcast 52, 3) := by decide +kernel
theorem dX1_tellWater_24 : decode cX1_tellWater 24 = .ok (.astore_n 2, 1) := by decide +kernel
theorem dX1_tellWater_25 : decode cX1_tellWater 25 = .ok (.aload_n 2, 1) := by decide +kernel
theorem dX1_tellWater_26 : decode cX1_tellWater 26 = .ok (.getfield 131, 3) := by decide +kernel
theorem dX1_tellWater_29 : decode cX1_tellWater 29 = .ok (.ifCond .eq 14, 3) := by decide +kernel
theorem dX1_tellWater_32 : decode cX1_tellWater 32 = .ok (.aload_n 2, 1) := by decide +kernel
theorem dX1_tellWater_33 : decode cX1_tellWater 33 = .ok (.aload_n 2, 1) := by decide +kernel
theorem dX1_tellWater_34 : decode cX1_tellWater 34 = .ok (.getfield 125, 3) := by decide +kernel
theorem dX1_tellWater_37 : decode cX1_tellWater 37 = .ok (.putfield 128, 3) := by decide +kernel
theorem dX1_tellWater_40 : decode cX1_tellWater 40 = .ok (.goto 35, 3) := by decide +kernel
theorem dX1_tellWater_43 : decode cX1_tellWater 43 = .ok (.aload_n 2, 1) := by decide +kernel
theorem dX1_tellWater_44 : decode cX1_tellWater 44 = .ok (.getfield 135, 3) := by decide +kernel
theorem dX1_tellWater_47 : decode cX1_tellWater 47 = .ok (.ifCond .le 16, 3) := by decide +kernel
theorem dX1_tellWater_50 : decode cX1_tellWater 50 = .ok (.aload_n 2, 1) := by decide +kernel
theorem dX1_tellWater_51 : decode cX1_tellWater 51 = .ok (.iconst 3, 1) := by decide +kernel
theorem dX1_tellWater_52 : decode cX1_tellWater 52 = .ok (.aload_n 2, 1) := by decide +kernel
theorem dX1_tellWater_53 : decode cX1_tellWater 53 = .ok (.getfield 135, 3) := by decide +kernel
theorem dX1_tellWater_56 : decode cX1_tellWater 56 = .ok (.imul, 1) := by decide +kernel
theorem dX1_tellWater_57 : decode cX1_tellWater 57 = .ok (.putfield 128, 3) := by decide +kernel
theorem dX1_tellWater_60 : decode cX1_tellWater 60 = .ok (.goto 15, 3) := by decide +kernel
theorem dX1_tellWater_63 : decode cX1_tellWater 63 = .ok (.aload_n 2, 1) := by decide +kernel
theorem dX1_tellWater_64 : decode cX1_tellWater 64 = .ok (.aload_n 0, 1) := by decide +kernel
theorem dX1_tellWater_65 : decode cX1_tellWater 65 = .ok (.aload_n 2, 1) := by decide +kernel
theorem dX1_tellWater_66 : decode cX1_tellWater 66 = .ok (.getfield 68, 3) := by decide +kernel
theorem dX1_tellWater_69 : decode cX1_tellWater 69 = .ok (.invokevirtual 202, 3) := by decide +kernel
theorem dX1_tellWater_72 : decode cX1_tellWater 72 = .ok (.putfield 128, 3) := by decide +kernel
theorem dX1_tellWater_75 : decode cX1_tellWater 75 = .ok (.iinc 1 1, 3) := by decide +kernel
theorem dX1_tellWater_78 : decode cX1_tellWater 78 = .ok (.goto (-76), 3) := by decide +kernel
theorem dX1_tellWater_81 : decode cX1_tellWater 81 = .ok (.return_, 1) := by decide +kernel
theorem dX1_meanOfWorkingMeters_0 : decode cX1_meanOfWorkingMeters 0 = .ok (.iconst 0, 1) := by decide +kernel
theorem dX1_meanOfWorkingMeters_1 : decode cX1_meanOfWorkingMeters 1 = .ok (.istore_n 2, 1) := by decide +kernel
theorem dX1_meanOfWorkingMeters_2 : decode cX1_meanOfWorkingMeters 2 = .ok (.iconst 0, 1) := by decide +kernel
theorem dX1_meanOfWorkingMeters_3 : decode cX1_meanOfWorkingMeters 3 = .ok (.istore_n 3, 1) := by decide +kernel
theorem dX1_meanOfWorkingMeters_4 : decode cX1_meanOfWorkingMeters 4 = .ok (.iconst 0, 1) := by decide +kernel
theorem dX1_meanOfWorkingMeters_5 : decode cX1_meanOfWorkingMeters 5 = .ok (.istore 4, 2) := by decide +kernel
theorem dX1_meanOfWorkingMeters_7 : decode cX1_meanOfWorkingMeters 7 = .ok (.iload 4, 2) := by decide +kernel
theorem dX1_meanOfWorkingMeters_9 : decode cX1_meanOfWorkingMeters 9 = .ok (.aload_n 0, 1) := by decide +kernel
theorem dX1_meanOfWorkingMeters_10 : decode cX1_meanOfWorkingMeters 10 = .ok (.getfield 10, 3) := by decide +kernel
theorem dX1_meanOfWorkingMeters_13 : decode cX1_meanOfWorkingMeters 13 = .ok (.invokevirtual 41, 3) := by decide +kernel
theorem dX1_meanOfWorkingMeters_16 : decode cX1_meanOfWorkingMeters 16 = .ok (.if_icmp .ge 51, 3) := by decide +kernel
theorem dX1_meanOfWorkingMeters_19 : decode cX1_meanOfWorkingMeters 19 = .ok (.aload_n 0, 1) := by decide +kernel
theorem dX1_meanOfWorkingMeters_20 : decode cX1_meanOfWorkingMeters 20 = .ok (.getfield 10, 3) := by decide +kernel
theorem dX1_meanOfWorkingMeters_23 : decode cX1_meanOfWorkingMeters 23 = .ok (.iload 4, 2) := by decide +kernel
theorem dX1_meanOfWorkingMeters_25 : decode cX1_meanOfWorkingMeters 25 = .ok (.invokevirtual 162, 3) := by decide +kernel
theorem dX1_meanOfWorkingMeters_28 : decode cX1_meanOfWorkingMeters 28 = .ok (.checkcast 52, 3) := by decide +kernel
theorem dX1_meanOfWorkingMeters_31 : decode cX1_meanOfWorkingMeters 31 = .ok (.astore 5, 2) := by decide +kernel
theorem dX1_meanOfWorkingMeters_33 : decode cX1_meanOfWorkingMeters 33 = .ok (.aload 5, 2) := by decide +kernel
theorem dX1_meanOfWorkingMeters_35 : decode cX1_meanOfWorkingMeters 35 = .ok (.getfield 68, 3) := by decide +kernel
theorem dX1_meanOfWorkingMeters_38 : decode cX1_meanOfWorkingMeters 38 = .ok (.iload_n 1, 1) := by decide +kernel
theorem dX1_meanOfWorkingMeters_39 : decode cX1_meanOfWorkingMeters 39 = .ok (.if_icmp .ne 22, 3) := by decide +kernel
theorem dX1_meanOfWorkingMeters_42 : decode cX1_meanOfWorkingMeters 42 = .ok (.aload 5, 2) := by decide +kernel
theorem dX1_meanOfWorkingMeters_44 : decode cX1_meanOfWorkingMeters 44 = .ok (.getfield 131, 3) := by decide +kernel
theorem dX1_meanOfWorkingMeters_47 : decode cX1_meanOfWorkingMeters 47 = .ok (.ifCond .eq 14, 3) := by decide +kernel
theorem dX1_meanOfWorkingMeters_50 : decode cX1_meanOfWorkingMeters 50 = .ok (.iload_n 2, 1) := by decide +kernel
theorem dX1_meanOfWorkingMeters_51 : decode cX1_meanOfWorkingMeters 51 = .ok (.aload 5, 2) := by decide +kernel
theorem dX1_meanOfWorkingMeters_53 : decode cX1_meanOfWorkingMeters 53 = .ok (.getfield 125, 3) := by decide +kernel
theorem dX1_meanOfWorkingMeters_56 : decode cX1_meanOfWorkingMeters 56 = .ok (.iadd, 1) := by decide +kernel
theorem dX1_meanOfWorkingMeters_57 : decode cX1_meanOfWorkingMeters 57 = .ok (.istore_n 2, 1) := by decide +kernel
theorem dX1_meanOfWorkingMeters_58 : decode cX1_meanOfWorkingMeters 58 = .ok (.iinc 3 1, 3) := by decide +kernel
theorem dX1_meanOfWorkingMeters_61 : decode cX1_meanOfWorkingMeters 61 = .ok (.iinc 4 1, 3) := by decide +kernel
theorem dX1_meanOfWorkingMeters_64 : decode cX1_meanOfWorkingMeters 64 = .ok (.goto (-57), 3) := by decide +kernel
theorem dX1_meanOfWorkingMeters_67 : decode cX1_meanOfWorkingMeters 67 = .ok (.iload_n 3, 1) := by decide +kernel
theorem dX1_meanOfWorkingMeters_68 : decode cX1_meanOfWorkingMeters 68 = .ok (.ifCond .le 9, 3) := by decide +kernel
theorem dX1_meanOfWorkingMeters_71 : decode cX1_meanOfWorkingMeters 71 = .ok (.iload_n 2, 1) := by decide +kernel
theorem dX1_meanOfWorkingMeters_72 : decode cX1_meanOfWorkingMeters 72 = .ok (.iload_n 3, 1) := by decide +kernel
theorem dX1_meanOfWorkingMeters_73 : decode cX1_meanOfWorkingMeters 73 = .ok (.idiv, 1) := by decide +kernel
theorem dX1_meanOfWorkingMeters_74 : decode cX1_meanOfWorkingMeters 74 = .ok (.goto 4, 3) := by decide +kernel
theorem dX1_meanOfWorkingMeters_77 : decode cX1_meanOfWorkingMeters 77 = .ok (.iconst 0, 1) := by decide +kernel
theorem dX1_meanOfWorkingMeters_78 : decode cX1_meanOfWorkingMeters 78 = .ok (.ireturn, 1) := by decide +kernel
theorem dX1_settleRights_0 : decode cX1_settleRights 0 = .ok (.iconst 0, 1) := by decide +kernel
theorem dX1_settleRights_1 : decode cX1_settleRights 1 = .ok (.istore_n 2, 1) := by decide +kernel
theorem dX1_settleRights_2 : decode cX1_settleRights 2 = .ok (.iload_n 2, 1) := by decide +kernel
theorem dX1_settleRights_3 : decode cX1_settleRights 3 = .ok (.aload_n 0, 1) := by decide +kernel
theorem dX1_settleRights_4 : decode cX1_settleRights 4 = .ok (.getfield 10, 3) := by decide +kernel
theorem dX1_settleRights_7 : decode cX1_settleRights 7 = .ok (.invokevirtual 41, 3) := by decide +kernel
theorem dX1_settleRights_10 : decode cX1_settleRights 10 = .ok (.if_icmp .ge 75, 3) := by decide +kernel
theorem dX1_settleRights_13 : decode cX1_settleRights 13 = .ok (.aload_n 0, 1) := by decide +kernel
theorem dX1_settleRights_14 : decode cX1_settleRights 14 = .ok (.getfield 10, 3) := by decide +kernel
theorem dX1_settleRights_17 : decode cX1_settleRights 17 = .ok (.iload_n 2, 1) := by decide +kernel
theorem dX1_settleRights_18 : decode cX1_settleRights 18 = .ok (.invokevirtual 162, 3) := by decide +kernel
theorem dX1_settleRights_21 : decode cX1_settleRights 21 = .ok (.checkcast 52, 3) := by decide +kernel
theorem dX1_settleRights_24 : decode cX1_settleRights 24 = .ok (.astore_n 3, 1) := by decide +kernel
theorem dX1_settleRights_25 : decode cX1_settleRights 25 = .ok (.aload_n 3, 1) := by decide +kernel
theorem dX1_settleRights_26 : decode cX1_settleRights 26 = .ok (.getfield 128, 3) := by decide +kernel
theorem dX1_settleRights_29 : decode cX1_settleRights 29 = .ok (.aload_n 3, 1) := by decide +kernel
theorem dX1_settleRights_30 : decode cX1_settleRights 30 = .ok (.getfield 205, 3) := by decide +kernel
theorem dX1_settleRights_33 : decode cX1_settleRights 33 = .ok (.if_icmp .le 20, 3) := by decide +kernel
theorem dX1_settleRights_36 : decode cX1_settleRights 36 = .ok (.aload_n 0, 1) := by decide +kernel
theorem dX1_settleRights_37 : decode cX1_settleRights 37 = .ok (.aload_n 3, 1) := by decide +kernel
theorem dX1_settleRights_38 : decode cX1_settleRights 38 = .ok (.aload_n 3, 1) := by decide +kernel
theorem dX1_settleRights_39 : decode cX1_settleRights 39 = .ok (.getfield 128, 3) := by decide +kernel
theorem dX1_settleRights_42 : decode cX1_settleRights 42 = .ok (.aload_n 3, 1) := by decide +kernel
theorem dX1_settleRights_43 : decode cX1_settleRights 43 = .ok (.getfield 205, 3) := by decide +kernel
theorem dX1_settleRights_46 : decode cX1_settleRights 46 = .ok (.isub, 1) := by decide +kernel
theorem dX1_settleRights_47 : decode cX1_settleRights 47 = .ok (.invokevirtual 208, 3) := by decide +kernel
theorem dX1_settleRights_50 : decode cX1_settleRights 50 = .ok (.goto 29, 3) := by decide +kernel
theorem dX1_settleRights_53 : decode cX1_settleRights 53 = .ok (.aload_n 3, 1) := by decide +kernel
theorem dX1_settleRights_54 : decode cX1_settleRights 54 = .ok (.iload_n 1, 1) := by decide +kernel
theorem dX1_settleRights_55 : decode cX1_settleRights 55 = .ok (.invokevirtual 212, 3) := by decide +kernel
theorem dX1_settleRights_58 : decode cX1_settleRights 58 = .ok (.ifCond .ne 21, 3) := by decide +kernel
theorem dX1_settleRights_61 : decode cX1_settleRights 61 = .ok (.aload_n 3, 1) := by decide +kernel
theorem dX1_settleRights_62 : decode cX1_settleRights 62 = .ok (.dup, 1) := by decide +kernel
theorem dX1_settleRights_63 : decode cX1_settleRights 63 = .ok (.getfield 138, 3) := by decide +kernel
theorem dX1_settleRights_66 : decode cX1_settleRights 66 = .ok (.aload_n 3, 1) := by decide +kernel
theorem dX1_settleRights_67 : decode cX1_settleRights 67 = .ok (.getfield 205, 3) := by decide +kernel
theorem dX1_settleRights_70 : decode cX1_settleRights 70 = .ok (.aload_n 3, 1) := by decide +kernel
theorem dX1_settleRights_71 : decode cX1_settleRights 71 = .ok (.getfield 128, 3) := by decide +kernel
theorem dX1_settleRights_74 : decode cX1_settleRights 74 = .ok (.isub, 1) := by decide +kernel
theorem dX1_settleRights_75 : decode cX1_settleRights 75 = .ok (.iadd, 1) := by decide +kernel
theorem dX1_settleRights_76 : decode cX1_settleRights 76 = .ok (.putfield 138, 3) := by decide +kernel
theorem dX1_settleRights_79 : decode cX1_settleRights 79 = .ok (.iinc 2 1, 3) := by decide +kernel
theorem dX1_settleRights_82 : decode cX1_settleRights 82 = .ok (.goto (-80), 3) := by decide +kernel
theorem dX1_settleRights_85 : decode cX1_settleRights 85 = .ok (.return_, 1) := by decide +kernel
theorem dX1_chargeAbove_0 : decode cX1_chargeAbove 0 = .ok (.iload_n 2, 1) := by decide +kernel
theorem dX1_chargeAbove_1 : decode cX1_chargeAbove 1 = .ok (.aload_n 1, 1) := by decide +kernel
theorem dX1_chargeAbove_2 : decode cX1_chargeAbove 2 = .ok (.getfield 138, 3) := by decide +kernel
theorem dX1_chargeAbove_5 : decode cX1_chargeAbove 5 = .ok (.invokestatic 150, 3) := by decide +kernel
theorem dX1_chargeAbove_8 : decode cX1_chargeAbove 8 = .ok (.istore_n 3, 1) := by decide +kernel
theorem dX1_chargeAbove_9 : decode cX1_chargeAbove 9 = .ok (.iconst 2, 1) := by decide +kernel
theorem dX1_chargeAbove_10 : decode cX1_chargeAbove 10 = .ok (.iload_n 2, 1) := by decide +kernel
theorem dX1_chargeAbove_11 : decode cX1_chargeAbove 11 = .ok (.iload_n 3, 1) := by decide +kernel
theorem dX1_chargeAbove_12 : decode cX1_chargeAbove 12 = .ok (.isub, 1) := by decide +kernel
theorem dX1_chargeAbove_13 : decode cX1_chargeAbove 13 = .ok (.imul, 1) := by decide +kernel
theorem dX1_chargeAbove_14 : decode cX1_chargeAbove 14 = .ok (.istore 4, 2) := by decide +kernel
theorem dX1_chargeAbove_16 : decode cX1_chargeAbove 16 = .ok (.aload_n 1, 1) := by decide +kernel
theorem dX1_chargeAbove_17 : decode cX1_chargeAbove 17 = .ok (.dup, 1) := by decide +kernel
theorem dX1_chargeAbove_18 : decode cX1_chargeAbove 18 = .ok (.getfield 138, 3) := by decide +kernel
theorem dX1_chargeAbove_21 : decode cX1_chargeAbove 21 = .ok (.iload_n 3, 1) := by decide +kernel
theorem dX1_chargeAbove_22 : decode cX1_chargeAbove 22 = .ok (.isub, 1) := by decide +kernel
theorem dX1_chargeAbove_23 : decode cX1_chargeAbove 23 = .ok (.putfield 138, 3) := by decide +kernel
theorem dX1_chargeAbove_26 : decode cX1_chargeAbove 26 = .ok (.aload_n 1, 1) := by decide +kernel
theorem dX1_chargeAbove_27 : decode cX1_chargeAbove 27 = .ok (.dup, 1) := by decide +kernel
theorem dX1_chargeAbove_28 : decode cX1_chargeAbove 28 = .ok (.getfield 155, 3) := by decide +kernel
theorem dX1_chargeAbove_31 : decode cX1_chargeAbove 31 = .ok (.iload 4, 2) := by decide +kernel
theorem dX1_chargeAbove_33 : decode cX1_chargeAbove 33 = .ok (.iadd, 1) := by decide +kernel
theorem dX1_chargeAbove_34 : decode cX1_chargeAbove 34 = .ok (.putfield 155, 3) := by decide +kernel
theorem dX1_chargeAbove_37 : decode cX1_chargeAbove 37 = .ok (.aload_n 0, 1) := by decide +kernel
theorem dX1_chargeAbove_38 : decode cX1_chargeAbove 38 = .ok (.dup, 1) := by decide +kernel
theorem dX1_chargeAbove_39 : decode cX1_chargeAbove 39 = .ok (.getfield 27, 3) := by decide +kernel
theorem dX1_chargeAbove_42 : decode cX1_chargeAbove 42 = .ok (.iload 4, 2) := by decide +kernel
theorem dX1_chargeAbove_44 : decode cX1_chargeAbove 44 = .ok (.iadd, 1) := by decide +kernel
theorem dX1_chargeAbove_45 : decode cX1_chargeAbove 45 = .ok (.putfield 27, 3) := by decide +kernel
theorem dX1_chargeAbove_48 : decode cX1_chargeAbove 48 = .ok (.return_, 1) := by decide +kernel
theorem dX1_forgetPower_0 : decode cX1_forgetPower 0 = .ok (.iconst 0, 1) := by decide +kernel
theorem dX1_forgetPower_1 : decode cX1_forgetPower 1 = .ok (.istore_n 1, 1) := by decide +kernel
theorem dX1_forgetPower_2 : decode cX1_forgetPower 2 = .ok (.iload_n 1, 1) := by decide +kernel
theorem dX1_forgetPower_3 : decode cX1_forgetPower 3 = .ok (.aload_n 0, 1) := by decide +kernel
theorem dX1_forgetPower_4 : decode cX1_forgetPower 4 = .ok (.getfield 10, 3) := by decide +kernel
theorem dX1_forgetPower_7 : decode cX1_forgetPower 7 = .ok (.invokevirtual 41, 3) := by decide +kernel
theorem dX1_forgetPower_10 : decode cX1_forgetPower 10 = .ok (.if_icmp .ge 24, 3) := by decide +kernel
theorem dX1_forgetPower_13 : decode cX1_forgetPower 13 = .ok (.aload_n 0, 1) := by decide +kernel
theorem dX1_forgetPower_14 : decode cX1_forgetPower 14 = .ok (.getfield 10, 3) := by decide +kernel
theorem dX1_forgetPower_17 : decode cX1_forgetPower 17 = .ok (.iload_n 1, 1) := by decide +kernel
theorem dX1_forgetPower_18 : decode cX1_forgetPower 18 = .ok (.invokevirtual 162, 3) := by decide +kernel
theorem dX1_forgetPower_21 : decode cX1_forgetPower 21 = .ok (.checkcast 52, 3) := by decide +kernel
theorem dX1_forgetPower_24 : decode cX1_forgetPower 24 = .ok (.iconst 0, 1) := by decide +kernel
theorem dX1_forgetPower_25 : decode cX1_forgetPower 25 = .ok (.putfield 135, 3) := by decide +kernel
theorem dX1_forgetPower_28 : decode cX1_forgetPower 28 = .ok (.iinc 1 1, 3) := by decide +kernel
theorem dX1_forgetPower_31 : decode cX1_forgetPower 31 = .ok (.goto (-29), 3) := by decide +kernel
theorem dX1_forgetPower_34 : decode cX1_forgetPower 34 = .ok (.return_, 1) := by decide +kernel
theorem dJ5_init_d00df_0 : decode cJ5_init_d00df 0 = .ok (.aload_n 0, 1) := by decide +kernel
theorem dJ5_init_d00df_1 : decode cJ5_init_d00df 1 = .ok (.invokespecial 3, 3) := by decide +kernel
theorem dJ5_init_d00df_4 : decode cJ5_init_d00df 4 = .ok (.getstatic 18, 3) := by decide +kernel
theorem dJ5_init_d00df_7 : decode cJ5_init_d00df 7 = .ok (.ifCond .eq 18, 3) := by decide +kernel
theorem dJ5_init_d00df_10 : decode cJ5_init_d00df 10 = .ok (.aload_n 0, 1) := by decide +kernel
theorem dJ5_init_d00df_11 : decode cJ5_init_d00df 11 = .ok (.iload_n 1, 1) := by decide +kernel
theorem dJ5_init_d00df_12 : decode cJ5_init_d00df 12 = .ok (.newarray .byte, 2) := by decide +kernel
theorem dJ5_init_d00df_14 : decode cJ5_init_d00df 14 = .ok (.putfield 15, 3) := by decide +kernel
theorem dJ5_init_d00df_17 : decode cJ5_init_d00df 17 = .ok (.aload_n 0, 1) := by decide +kernel
theorem dJ5_init_d00df_18 : decode cJ5_init_d00df 18 = .ok (.iconst 0, 1) := by decide +kernel
theorem dJ5_init_d00df_19 : decode cJ5_init_d00df 19 = .ok (.putfield 22, 3) := by decide +kernel
theorem dJ5_init_d00df_22 : decode cJ5_init_d00df 22 = .ok (.goto 16, 3) := by decide +kernel
theorem dJ5_init_d00df_25 : decode cJ5_init_d00df 25 = .ok (.aload_n 0, 1) := by decide +kernel
theorem dJ5_init_d00df_26 : decode cJ5_init_d00df 26 = .ok (.iload_n 1, 1) := by decide +kernel
theorem dJ5_init_d00df_27 : decode cJ5_init_d00df 27 = .ok (.invokestatic 26, 3) := by decide +kernel
theorem dJ5_init_d00df_30 : decode cJ5_init_d00df 30 = .ok (.putfield 15, 3) := by decide +kernel
theorem dJ5_init_d00df_33 : decode cJ5_init_d00df 33 = .ok (.aload_n 0, 1) := by decide +kernel
theorem dJ5_init_d00df_34 : decode cJ5_init_d00df 34 = .ok (.iconst 1, 1) := by decide +kernel
theorem dJ5_init_d00df_35 : decode cJ5_init_d00df 35 = .ok (.putfield 22, 3) := by decide +kernel
theorem dJ5_init_d00df_38 : decode cJ5_init_d00df 38 = .ok (.return_, 1) := by decide +kernel
theorem dJ5_length_8abf5_0 : decode cJ5_length_8abf5 0 = .ok (.aload_n 0, 1) := by decide +kernel
theorem dJ5_length_8abf5_1 : decode cJ5_length_8abf5 1 = .ok (.getfield 79, 3) := by decide +kernel
theorem dJ5_length_8abf5_4 : decode cJ5_length_8abf5 4 = .ok (.ireturn, 1) := by decide +kernel
theorem dJ5_ensureCapacityInternal_d00df_0 : decode cJ5_ensureCapacityInternal_d00df 0 = .ok (.aload_n 0, 1) := by decide +kernel
theorem dJ5_ensureCapacityInternal_d00df_1 : decode cJ5_ensureCapacityInternal_d00df 1 = .ok (.getfield 15, 3) := by decide +kernel
theorem dJ5_ensureCapacityInternal_d00df_4 : decode cJ5_ensureCapacityInternal_d00df 4 = .ok (.arraylength, 1) := by decide +kernel
theorem dJ5_ensureCapacityInternal_d00df_5 : decode cJ5_ensureCapacityInternal_d00df 5 = .ok (.aload_n 0, 1) := by decide +kernel
theorem dJ5_ensureCapacityInternal_d00df_6 : decode cJ5_ensureCapacityInternal_d00df 6 = .ok (.getfield 22, 3) := by decide +kernel
theorem dJ5_ensureCapacityInternal_d00df_9 : decode cJ5_ensureCapacityInternal_d00df 9 = .ok (.ishr, 1) := by decide +kernel
theorem dJ5_ensureCapacityInternal_d00df_10 : decode cJ5_ensureCapacityInternal_d00df 10 = .ok (.istore_n 2, 1) := by decide +kernel
theorem dJ5_ensureCapacityInternal_d00df_11 : decode cJ5_ensureCapacityInternal_d00df 11 = .ok (.iload_n 1, 1) := by decide +kernel
theorem dJ5_ensureCapacityInternal_d00df_12 : decode cJ5_ensureCapacityInternal_d00df 12 = .ok (.iload_n 2, 1) := by decide +kernel
theorem dJ5_ensureCapacityInternal_d00df_13 : decode cJ5_ensureCapacityInternal_d00df 13 = .ok (.isub, 1) := by decide +kernel
theorem dJ5_ensureCapacityInternal_d00df_14 : decode cJ5_ensureCapacityInternal_d00df 14 = .ok (.ifCond .le 24, 3) := by decide +kernel
theorem dJ5_ensureCapacityInternal_d00df_17 : decode cJ5_ensureCapacityInternal_d00df 17 = .ok (.aload_n 0, 1) := by decide +kernel
theorem dJ5_ensureCapacityInternal_d00df_18 : decode cJ5_ensureCapacityInternal_d00df 18 = .ok (.aload_n 0, 1) := by decide +kernel
theorem dJ5_ensureCapacityInternal_d00df_19 : decode cJ5_ensureCapacityInternal_d00df 19 = .ok (.getfield 15, 3) := by decide +kernel
theorem dJ5_ensureCapacityInternal_d00df_22 : decode cJ5_ensureCapacityInternal_d00df 22 = .ok (.aload_n 0, 1) := by decide +kernel
theorem dJ5_ensureCapacityInternal_d00df_23 : decode cJ5_ensureCapacityInternal_d00df 23 = .ok (.iload_n 1, 1) := by decide +kernel
theorem dJ5_ensureCapacityInternal_d00df_24 : decode cJ5_ensureCapacityInternal_d00df 24 = .ok (.invokevirtual 104, 3) := by decide +kernel
theorem dJ5_ensureCapacityInternal_d00df_27 : decode cJ5_ensureCapacityInternal_d00df 27 = .ok (.aload_n 0, 1) := by decide +kernel
theorem dJ5_ensureCapacityInternal_d00df_28 : decode cJ5_ensureCapacityInternal_d00df 28 = .ok (.getfield 22, 3) := by decide +kernel
theorem dJ5_ensureCapacityInternal_d00df_31 : decode cJ5_ensureCapacityInternal_d00df 31 = .ok (.ishl, 1) := by decide +kernel
theorem dJ5_ensureCapacityInternal_d00df_32 : decode cJ5_ensureCapacityInternal_d00df 32 = .ok (.invokestatic 108, 3) := by decide +kernel
theorem dJ5_ensureCapacityInternal_d00df_35 : decode cJ5_ensureCapacityInternal_d00df 35 = .ok (.putfield 15, 3) := by decide +kernel
theorem dJ5_ensureCapacityInternal_d00df_38 : decode cJ5_ensureCapacityInternal_d00df 38 = .ok (.return_, 1) := by decide +kernel
theorem dJ5_newCapacity_0f7a4_0 : decode cJ5_newCapacity_0f7a4 0 = .ok (.aload_n 0, 1) := by decide +kernel
theorem dJ5_newCapacity_0f7a4_1 : decode cJ5_newCapacity_0f7a4 1 = .ok (.getfield 15, 3) := by decide +kernel
theorem dJ5_newCapacity_0f7a4_4 : decode cJ5_newCapacity_0f7a4 4 = .ok (.arraylength, 1) := by decide +kernel
theorem dJ5_newCapacity_0f7a4_5 : decode cJ5_newCapacity_0f7a4 5 = .ok (.istore_n 2, 1) := by decide +kernel
theorem dJ5_newCapacity_0f7a4_6 : decode cJ5_newCapacity_0f7a4 6 = .ok (.iload_n 1, 1) := by decide +kernel
theorem dJ5_newCapacity_0f7a4_7 : decode cJ5_newCapacity_0f7a4 7 = .ok (.aload_n 0, 1) := by decide +kernel
theorem dJ5_newCapacity_0f7a4_8 : decode cJ5_newCapacity_0f7a4 8 = .ok (.getfield 22, 3) := by decide +kernel
theorem dJ5_newCapacity_0f7a4_11 : decode cJ5_newCapacity_0f7a4 11 = .ok (.ishl, 1) := by decide +kernel
theorem dJ5_newCapacity_0f7a4_12 : decode cJ5_newCapacity_0f7a4 12 = .ok (.istore_n 3, 1) := by decide +kernel
theorem dJ5_newCapacity_0f7a4_13 : decode cJ5_newCapacity_0f7a4 13 = .ok (.iload_n 3, 1) := by decide +kernel
theorem dJ5_newCapacity_0f7a4_14 : decode cJ5_newCapacity_0f7a4 14 = .ok (.iload_n 2, 1) := by decide +kernel
theorem dJ5_newCapacity_0f7a4_15 : decode cJ5_newCapacity_0f7a4 15 = .ok (.isub, 1) := by decide +kernel
theorem dJ5_newCapacity_0f7a4_16 : decode cJ5_newCapacity_0f7a4 16 = .ok (.istore 4, 2) := by decide +kernel
theorem dJ5_newCapacity_0f7a4_18 : decode cJ5_newCapacity_0f7a4 18 = .ok (.iload_n 2, 1) := by decide +kernel
theorem dJ5_newCapacity_0f7a4_19 : decode cJ5_newCapacity_0f7a4 19 = .ok (.iload 4, 2) := by decide +kernel
theorem dJ5_newCapacity_0f7a4_21 : decode cJ5_newCapacity_0f7a4 21 = .ok (.iload_n 2, 1) := by decide +kernel
theorem dJ5_newCapacity_0f7a4_22 : decode cJ5_newCapacity_0f7a4 22 = .ok (.iconst 2, 1) := by decide +kernel
theorem dJ5_newCapacity_0f7a4_23 : decode cJ5_newCapacity_0f7a4 23 = .ok (.aload_n 0, 1) := by decide +kernel
theorem dJ5_newCapacity_0f7a4_24 : decode cJ5_newCapacity_0f7a4 24 = .ok (.getfield 22, 3) := by decide +kernel
theorem dJ5_newCapacity_0f7a4_27 : decode cJ5_newCapacity_0f7a4 27 = .ok (.ishl, 1) := by decide +kernel
theorem dJ5_newCapacity_0f7a4_28 : decode cJ5_newCapacity_0f7a4 28 = .ok (.iadd, 1) := by decide +kernel
theorem dJ5_newCapacity_0f7a4_29 : decode cJ5_newCapacity_0f7a4 29 = .ok (.invokestatic 114, 3) := by decide +kernel
theorem dJ5_newCapacity_0f7a4_32 : decode cJ5_newCapacity_0f7a4 32 = .ok (.istore 5, 2) := by decide +kernel
theorem dJ5_newCapacity_0f7a4_34 : decode cJ5_newCapacity_0f7a4 34 = .ok (.iload 5, 2) := by decide +kernel
theorem dJ5_newCapacity_0f7a4_36 : decode cJ5_newCapacity_0f7a4 36 = .ok (.ldc 39, 2) := by decide +kernel
theorem dJ5_newCapacity_0f7a4_38 : decode cJ5_newCapacity_0f7a4 38 = .ok (.if_icmp .ne 13, 3) := by decide +kernel
theorem dJ5_newCapacity_0f7a4_41 : decode cJ5_newCapacity_0f7a4 41 = .ok (.new 120, 3) := by decide +kernel
theorem dJ5_newCapacity_0f7a4_44 : decode cJ5_newCapacity_0f7a4 44 = .ok (.dup, 1) := by decide +kernel
theorem dJ5_newCapacity_0f7a4_45 : decode cJ5_newCapacity_0f7a4 45 = .ok (.ldc 122, 2) := by decide +kernel
theorem dJ5_newCapacity_0f7a4_47 : decode cJ5_newCapacity_0f7a4 47 = .ok (.invokespecial 124, 3) := by decide +kernel
theorem dJ5_newCapacity_0f7a4_50 : decode cJ5_newCapacity_0f7a4 50 = .ok (.athrow, 1) := by decide +kernel
theorem dJ5_newCapacity_0f7a4_51 : decode cJ5_newCapacity_0f7a4 51 = .ok (.iload 5, 2) := by decide +kernel
theorem dJ5_newCapacity_0f7a4_53 : decode cJ5_newCapacity_0f7a4 53 = .ok (.aload_n 0, 1) := by decide +kernel
theorem dJ5_newCapacity_0f7a4_54 : decode cJ5_newCapacity_0f7a4 54 = .ok (.getfield 22, 3) := by decide +kernel
theorem dJ5_newCapacity_0f7a4_57 : decode cJ5_newCapacity_0f7a4 57 = .ok (.ishr, 1) := by decide +kernel
theorem dJ5_newCapacity_0f7a4_58 : decode cJ5_newCapacity_0f7a4 58 = .ok (.ireturn, 1) := by decide +kernel
theorem dJ5_inflate_da8c8_0 : decode cJ5_inflate_da8c8 0 = .ok (.aload_n 0, 1) := by decide +kernel
theorem dJ5_inflate_da8c8_1 : decode cJ5_inflate_da8c8 1 = .ok (.invokevirtual 83, 3) := by decide +kernel
theorem dJ5_inflate_da8c8_4 : decode cJ5_inflate_da8c8 4 = .ok (.ifCond .ne 4, 3) := by decide +kernel
theorem dJ5_inflate_da8c8_7 : decode cJ5_inflate_da8c8 7 = .ok (.return_, 1) := by decide +kernel
theorem dJ5_inflate_da8c8_8 : decode cJ5_inflate_da8c8 8 = .ok (.aload_n 0, 1) := by decide +kernel
theorem dJ5_inflate_da8c8_9 : decode cJ5_inflate_da8c8 9 = .ok (.getfield 15, 3) := by decide +kernel
theorem dJ5_inflate_da8c8_12 : decode cJ5_inflate_da8c8 12 = .ok (.arraylength, 1) := by decide +kernel
theorem dJ5_inflate_da8c8_13 : decode cJ5_inflate_da8c8 13 = .ok (.invokestatic 26, 3) := by decide +kernel
theorem dJ5_inflate_da8c8_16 : decode cJ5_inflate_da8c8 16 = .ok (.astore_n 1, 1) := by decide +kernel
theorem dJ5_inflate_da8c8_17 : decode cJ5_inflate_da8c8 17 = .ok (.aload_n 0, 1) := by decide +kernel
theorem dJ5_inflate_da8c8_18 : decode cJ5_inflate_da8c8 18 = .ok (.getfield 15, 3) := by decide +kernel
theorem dJ5_inflate_da8c8_21 : decode cJ5_inflate_da8c8 21 = .ok (.iconst 0, 1) := by decide +kernel
theorem dJ5_inflate_da8c8_22 : decode cJ5_inflate_da8c8 22 = .ok (.aload_n 1, 1) := by decide +kernel
theorem dJ5_inflate_da8c8_23 : decode cJ5_inflate_da8c8 23 = .ok (.iconst 0, 1) := by decide +kernel
theorem dJ5_inflate_da8c8_24 : decode cJ5_inflate_da8c8 24 = .ok (.aload_n 0, 1) := by decide +kernel
theorem dJ5_inflate_da8c8_25 : decode cJ5_inflate_da8c8 25 = .ok (.getfield 79, 3) := by decide +kernel
theorem dJ5_inflate_da8c8_28 : decode cJ5_inflate_da8c8 28 = .ok (.invokestatic 125, 3) := by decide +kernel
theorem dJ5_inflate_da8c8_31 : decode cJ5_inflate_da8c8 31 = .ok (.aload_n 0, 1) := by decide +kernel
theorem dJ5_inflate_da8c8_32 : decode cJ5_inflate_da8c8 32 = .ok (.aload_n 1, 1) := by decide +kernel
theorem dJ5_inflate_da8c8_33 : decode cJ5_inflate_da8c8 33 = .ok (.putfield 15, 3) := by decide +kernel
theorem dJ5_inflate_da8c8_36 : decode cJ5_inflate_da8c8 36 = .ok (.aload_n 0, 1) := by decide +kernel
theorem dJ5_inflate_da8c8_37 : decode cJ5_inflate_da8c8 37 = .ok (.iconst 1, 1) := by decide +kernel
theorem dJ5_inflate_da8c8_38 : decode cJ5_inflate_da8c8 38 = .ok (.putfield 22, 3) := by decide +kernel
theorem dJ5_inflate_da8c8_41 : decode cJ5_inflate_da8c8 41 = .ok (.return_, 1) := by decide +kernel
theorem dJ5_append_cf1ce_0 : decode cJ5_append_cf1ce 0 = .ok (.aload_n 1, 1) := by decide +kernel
theorem dJ5_append_cf1ce_1 : decode cJ5_append_cf1ce 1 = .ok (.ifnonnull 8, 3) := by decide +kernel
theorem dJ5_append_cf1ce_4 : decode cJ5_append_cf1ce 4 = .ok (.aload_n 0, 1) := by decide +kernel
theorem dJ5_append_cf1ce_5 : decode cJ5_append_cf1ce 5 = .ok (.invokevirtual 204, 3) := by decide +kernel
theorem dJ5_append_cf1ce_8 : decode cJ5_append_cf1ce 8 = .ok (.areturn, 1) := by decide +kernel
theorem dJ5_append_cf1ce_9 : decode cJ5_append_cf1ce 9 = .ok (.aload_n 1, 1) := by decide +kernel
theorem dJ5_append_cf1ce_10 : decode cJ5_append_cf1ce 10 = .ok (.invokevirtual 32, 3) := by decide +kernel
theorem dJ5_append_cf1ce_13 : decode cJ5_append_cf1ce 13 = .ok (.istore_n 2, 1) := by decide +kernel
theorem dJ5_append_cf1ce_14 : decode cJ5_append_cf1ce 14 = .ok (.aload_n 0, 1) := by decide +kernel
theorem dJ5_append_cf1ce_15 : decode cJ5_append_cf1ce 15 = .ok (.aload_n 0, 1) := by decide +kernel
theorem dJ5_append_cf1ce_16 : decode cJ5_append_cf1ce 16 = .ok (.getfield 79, 3) := by decide +kernel
theorem dJ5_append_cf1ce_19 : decode cJ5_append_cf1ce 19 = .ok (.iload_n 2, 1) := by decide +kernel
theorem dJ5_append_cf1ce_20 : decode cJ5_append_cf1ce 20 = .ok (.iadd, 1) := by decide +kernel
theorem dJ5_append_cf1ce_21 : decode cJ5_append_cf1ce 21 = .ok (.invokevirtual 100, 3) := by decide +kernel
theorem dJ5_append_cf1ce_24 : decode cJ5_append_cf1ce 24 = .ok (.aload_n 0, 1) := by decide +kernel
theorem dJ5_append_cf1ce_25 : decode cJ5_append_cf1ce 25 = .ok (.aload_n 0, 1) := by decide +kernel
theorem dJ5_append_cf1ce_26 : decode cJ5_append_cf1ce 26 = .ok (.getfield 79, 3) := by decide +kernel
theorem dJ5_append_cf1ce_29 : decode cJ5_append_cf1ce 29 = .ok (.aload_n 1, 1) := by decide +kernel
theorem dJ5_append_cf1ce_30 : decode cJ5_append_cf1ce 30 = .ok (.invokevirtual 208, 3) := by decide +kernel
theorem dJ5_append_cf1ce_33 : decode cJ5_append_cf1ce 33 = .ok (.aload_n 0, 1) := by decide +kernel
theorem dJ5_append_cf1ce_34 : decode cJ5_append_cf1ce 34 = .ok (.dup, 1) := by decide +kernel
theorem dJ5_append_cf1ce_35 : decode cJ5_append_cf1ce 35 = .ok (.getfield 79, 3) := by decide +kernel
theorem dJ5_append_cf1ce_38 : decode cJ5_append_cf1ce 38 = .ok (.iload_n 2, 1) := by decide +kernel
theorem dJ5_append_cf1ce_39 : decode cJ5_append_cf1ce 39 = .ok (.iadd, 1) := by decide +kernel
theorem dJ5_append_cf1ce_40 : decode cJ5_append_cf1ce 40 = .ok (.putfield 79, 3) := by decide +kernel
theorem dJ5_append_cf1ce_43 : decode cJ5_append_cf1ce 43 = .ok (.aload_n 0, 1) := by decide +kernel
theorem dJ5_append_cf1ce_44 : decode cJ5_append_cf1ce 44 = .ok (.areturn, 1) := by decide +kernel
theorem dJ5_appendNull_278bc_0 : decode cJ5_appendNull_278bc 0 = .ok (.aload_n 0, 1) := by decide +kernel
theorem dJ5_appendNull_278bc_1 : decode cJ5_appendNull_278bc 1 = .ok (.aload_n 0, 1) := by decide +kernel
theorem dJ5_appendNull_278bc_2 : decode cJ5_appendNull_278bc 2 = .ok (.getfield 79, 3) := by decide +kernel
theorem dJ5_appendNull_278bc_5 : decode cJ5_appendNull_278bc 5 = .ok (.iconst 4, 1) := by decide +kernel
theorem dJ5_appendNull_278bc_6 : decode cJ5_appendNull_278bc 6 = .ok (.iadd, 1) := by decide +kernel
theorem dJ5_appendNull_278bc_7 : decode cJ5_appendNull_278bc 7 = .ok (.invokevirtual 100, 3) := by decide +kernel
theorem dJ5_appendNull_278bc_10 : decode cJ5_appendNull_278bc 10 = .ok (.aload_n 0, 1) := by decide +kernel
theorem dJ5_appendNull_278bc_11 : decode cJ5_appendNull_278bc 11 = .ok (.getfield 79, 3) := by decide +kernel
theorem dJ5_appendNull_278bc_14 : decode cJ5_appendNull_278bc 14 = .ok (.istore_n 1, 1) := by decide +kernel
theorem dJ5_appendNull_278bc_15 : decode cJ5_appendNull_278bc 15 = .ok (.aload_n 0, 1) := by decide +kernel
theorem dJ5_appendNull_278bc_16 : decode cJ5_appendNull_278bc 16 = .ok (.getfield 15, 3) := by decide +kernel
theorem dJ5_appendNull_278bc_19 : decode cJ5_appendNull_278bc 19 = .ok (.astore_n 2, 1) := by decide +kernel
theorem dJ5_appendNull_278bc_20 : decode cJ5_appendNull_278bc 20 = .ok (.aload_n 0, 1) := by decide +kernel
theorem dJ5_appendNull_278bc_21 : decode cJ5_appendNull_278bc 21 = .ok (.invokevirtual 83, 3) := by decide +kernel
theorem dJ5_appendNull_278bc_24 : decode cJ5_appendNull_278bc 24 = .ok (.ifCond .eq 38, 3) := by decide +kernel
theorem dJ5_appendNull_278bc_27 : decode cJ5_appendNull_278bc 27 = .ok (.aload_n 2, 1) := by decide +kernel
theorem dJ5_appendNull_278bc_28 : decode cJ5_appendNull_278bc 28 = .ok (.iload_n 1, 1) := by decide +kernel
theorem dJ5_appendNull_278bc_29 : decode cJ5_appendNull_278bc 29 = .ok (.iinc 1 1, 3) := by decide +kernel
theorem dJ5_appendNull_278bc_32 : decode cJ5_appendNull_278bc 32 = .ok (.bipush 110, 2) := by decide +kernel
theorem dJ5_appendNull_278bc_34 : decode cJ5_appendNull_278bc 34 = .ok (.bastore, 1) := by decide +kernel
theorem dJ5_appendNull_278bc_35 : decode cJ5_appendNull_278bc 35 = .ok (.aload_n 2, 1) := by decide +kernel
theorem dJ5_appendNull_278bc_36 : decode cJ5_appendNull_278bc 36 = .ok (.iload_n 1, 1) := by decide +kernel
theorem dJ5_appendNull_278bc_37 : decode cJ5_appendNull_278bc 37 = .ok (.iinc 1 1, 3) := by decide +kernel
theorem dJ5_appendNull_278bc_40 : decode cJ5_appendNull_278bc 40 = .ok (.bipush 117, 2) := by decide +kernel
theorem dJ5_appendNull_278bc_42 : decode cJ5_appendNull_278bc 42 = .ok (.bastore, 1) := by decide +kernel
theorem dJ5_appendNull_278bc_43 : decode cJ5_appendNull_278bc 43 = .ok (.aload_n 2, 1) := by decide +kernel
theorem dJ5_appendNull_278bc_44 : decode cJ5_appendNull_278bc 44 = .ok (.iload_n 1, 1) := by decide +kernel
theorem dJ5_appendNull_278bc_45 : decode cJ5_appendNull_278bc 45 = .ok (.iinc 1 1, 3) := by decide +kernel
theorem dJ5_appendNull_278bc_48 : decode cJ5_appendNull_278bc 48 = .ok (.bipush 108, 2) := by decide +kernel
theorem dJ5_appendNull_278bc_50 : decode cJ5_appendNull_278bc 50 = .ok (.bastore, 1) := by decide +kernel
theorem dJ5_appendNull_278bc_51 : decode cJ5_appendNull_278bc 51 = .ok (.aload_n 2, 1) := by decide +kernel
theorem dJ5_appendNull_278bc_52 : decode cJ5_appendNull_278bc 52 = .ok (.iload_n 1, 1) := by decide +kernel
theorem dJ5_appendNull_278bc_53 : decode cJ5_appendNull_278bc 53 = .ok (.iinc 1 1, 3) := by decide +kernel
theorem dJ5_appendNull_278bc_56 : decode cJ5_appendNull_278bc 56 = .ok (.bipush 108, 2) := by decide +kernel
theorem dJ5_appendNull_278bc_58 : decode cJ5_appendNull_278bc 58 = .ok (.bastore, 1) := by decide +kernel
theorem dJ5_appendNull_278bc_59 : decode cJ5_appendNull_278bc 59 = .ok (.goto 17, 3) := by decide +kernel
theorem dJ5_appendNull_278bc_62 : decode cJ5_appendNull_278bc 62 = .ok (.aload_n 2, 1) := by decide +kernel
theorem dJ5_appendNull_278bc_63 : decode cJ5_appendNull_278bc 63 = .ok (.iload_n 1, 1) := by decide +kernel
theorem dJ5_appendNull_278bc_64 : decode cJ5_appendNull_278bc 64 = .ok (.bipush 110, 2) := by decide +kernel
theorem dJ5_appendNull_278bc_66 : decode cJ5_appendNull_278bc 66 = .ok (.bipush 117, 2) := by decide +kernel
theorem dJ5_appendNull_278bc_68 : decode cJ5_appendNull_278bc 68 = .ok (.bipush 108, 2) := by decide +kernel
theorem dJ5_appendNull_278bc_70 : decode cJ5_appendNull_278bc 70 = .ok (.bipush 108, 2) := by decide +kernel
theorem dJ5_appendNull_278bc_72 : decode cJ5_appendNull_278bc 72 = .ok (.invokestatic 226, 3) := by decide +kernel
theorem dJ5_appendNull_278bc_75 : decode cJ5_appendNull_278bc 75 = .ok (.istore_n 1, 1) := by decide +kernel
theorem dJ5_appendNull_278bc_76 : decode cJ5_appendNull_278bc 76 = .ok (.aload_n 0, 1) := by decide +kernel
theorem dJ5_appendNull_278bc_77 : decode cJ5_appendNull_278bc 77 = .ok (.iload_n 1, 1) := by decide +kernel
theorem dJ5_appendNull_278bc_78 : decode cJ5_appendNull_278bc 78 = .ok (.putfield 79, 3) := by decide +kernel
theorem dJ5_appendNull_278bc_81 : decode cJ5_appendNull_278bc 81 = .ok (.aload_n 0, 1) := by decide +kernel
theorem dJ5_appendNull_278bc_82 : decode cJ5_appendNull_278bc 82 = .ok (.areturn, 1) := by decide +kernel
theorem dJ5_append_3fe6f_0 : decode cJ5_append_3fe6f 0 = .ok (.aload_n 0, 1) := by decide +kernel
theorem dJ5_append_3fe6f_1 : decode cJ5_append_3fe6f 1 = .ok (.aload_n 0, 1) := by decide +kernel
theorem dJ5_append_3fe6f_2 : decode cJ5_append_3fe6f 2 = .ok (.getfield 79, 3) := by decide +kernel
theorem dJ5_append_3fe6f_5 : decode cJ5_append_3fe6f 5 = .ok (.iconst 1, 1) := by decide +kernel
theorem dJ5_append_3fe6f_6 : decode cJ5_append_3fe6f 6 = .ok (.iadd, 1) := by decide +kernel
theorem dJ5_append_3fe6f_7 : decode cJ5_append_3fe6f 7 = .ok (.invokevirtual 100, 3) := by decide +kernel
theorem dJ5_append_3fe6f_10 : decode cJ5_append_3fe6f 10 = .ok (.aload_n 0, 1) := by decide +kernel
theorem dJ5_append_3fe6f_11 : decode cJ5_append_3fe6f 11 = .ok (.invokevirtual 83, 3) := by decide +kernel
theorem dJ5_append_3fe6f_14 : decode cJ5_append_3fe6f 14 = .ok (.ifCond .eq 31, 3) := by decide +kernel
theorem dJ5_append_3fe6f_17 : decode cJ5_append_3fe6f 17 = .ok (.iload_n 1, 1) := by decide +kernel
theorem dJ5_append_3fe6f_18 : decode cJ5_append_3fe6f 18 = .ok (.invokestatic 191, 3) := by decide +kernel
theorem dJ5_append_3fe6f_21 : decode cJ5_append_3fe6f 21 = .ok (.ifCond .eq 24, 3) := by decide +kernel
theorem dJ5_append_3fe6f_24 : decode cJ5_append_3fe6f 24 = .ok (.aload_n 0, 1) := by decide +kernel
theorem dJ5_append_3fe6f_25 : decode cJ5_append_3fe6f 25 = .ok (.getfield 15, 3) := by decide +kernel
theorem dJ5_append_3fe6f_28 : decode cJ5_append_3fe6f 28 = .ok (.aload_n 0, 1) := by decide +kernel
theorem dJ5_append_3fe6f_29 : decode cJ5_append_3fe6f 29 = .ok (.dup, 1) := by decide +kernel
theorem dJ5_append_3fe6f_30 : decode cJ5_append_3fe6f 30 = .ok (.getfield 79, 3) := by decide +kernel
theorem dJ5_append_3fe6f_33 : decode cJ5_append_3fe6f 33 = .ok (.dup_x1, 1) := by decide +kernel
theorem dJ5_append_3fe6f_34 : decode cJ5_append_3fe6f 34 = .ok (.iconst 1, 1) := by decide +kernel
theorem dJ5_append_3fe6f_35 : decode cJ5_append_3fe6f 35 = .ok (.iadd, 1) := by decide +kernel
theorem dJ5_append_3fe6f_36 : decode cJ5_append_3fe6f 36 = .ok (.putfield 79, 3) := by decide +kernel
theorem dJ5_append_3fe6f_39 : decode cJ5_append_3fe6f 39 = .ok (.iload_n 1, 1) := by decide +kernel
theorem dJ5_append_3fe6f_40 : decode cJ5_append_3fe6f 40 = .ok (.i2b, 1) := by decide +kernel
theorem dJ5_append_3fe6f_41 : decode cJ5_append_3fe6f 41 = .ok (.bastore, 1) := by decide +kernel
theorem dJ5_append_3fe6f_42 : decode cJ5_append_3fe6f 42 = .ok (.goto 33, 3) := by decide +kernel
theorem dJ5_append_3fe6f_45 : decode cJ5_append_3fe6f 45 = .ok (.aload_n 0, 1) := by decide +kernel
theorem dJ5_append_3fe6f_46 : decode cJ5_append_3fe6f 46 = .ok (.invokevirtual 83, 3) := by decide +kernel
theorem dJ5_append_3fe6f_49 : decode cJ5_append_3fe6f 49 = .ok (.ifCond .eq 7, 3) := by decide +kernel
theorem dJ5_append_3fe6f_52 : decode cJ5_append_3fe6f 52 = .ok (.aload_n 0, 1) := by decide +kernel
theorem dJ5_append_3fe6f_53 : decode cJ5_append_3fe6f 53 = .ok (.invokevirtual 195, 3) := by decide +kernel
theorem dJ5_append_3fe6f_56 : decode cJ5_append_3fe6f 56 = .ok (.aload_n 0, 1) := by decide +kernel
theorem dJ5_append_3fe6f_57 : decode cJ5_append_3fe6f 57 = .ok (.getfield 15, 3) := by decide +kernel
theorem dJ5_append_3fe6f_60 : decode cJ5_append_3fe6f 60 = .ok (.aload_n 0, 1) := by decide +kernel
theorem dJ5_append_3fe6f_61 : decode cJ5_append_3fe6f 61 = .ok (.dup, 1) := by decide +kernel
theorem dJ5_append_3fe6f_62 : decode cJ5_append_3fe6f 62 = .ok (.getfield 79, 3) := by decide +kernel
theorem dJ5_append_3fe6f_65 : decode cJ5_append_3fe6f 65 = .ok (.dup_x1, 1) := by decide +kernel
theorem dJ5_append_3fe6f_66 : decode cJ5_append_3fe6f 66 = .ok (.iconst 1, 1) := by decide +kernel
theorem dJ5_append_3fe6f_67 : decode cJ5_append_3fe6f 67 = .ok (.iadd, 1) := by decide +kernel
theorem dJ5_append_3fe6f_68 : decode cJ5_append_3fe6f 68 = .ok (.putfield 79, 3) := by decide +kernel
theorem dJ5_append_3fe6f_71 : decode cJ5_append_3fe6f 71 = .ok (.iload_n 1, 1) := by decide +kernel
theorem dJ5_append_3fe6f_72 : decode cJ5_append_3fe6f 72 = .ok (.invokestatic 197, 3) := by decide +kernel
theorem dJ5_append_3fe6f_75 : decode cJ5_append_3fe6f 75 = .ok (.aload_n 0, 1) := by decide +kernel
theorem dJ5_append_3fe6f_76 : decode cJ5_append_3fe6f 76 = .ok (.areturn, 1) := by decide +kernel
theorem dJ5_append_c97b9_0 : decode cJ5_append_c97b9 0 = .ok (.aload_n 0, 1) := by decide +kernel
theorem dJ5_append_c97b9_1 : decode cJ5_append_c97b9 1 = .ok (.getfield 79, 3) := by decide +kernel
theorem dJ5_append_c97b9_4 : decode cJ5_append_c97b9 4 = .ok (.istore_n 2, 1) := by decide +kernel
theorem dJ5_append_c97b9_5 : decode cJ5_append_c97b9 5 = .ok (.iload_n 2, 1) := by decide +kernel
theorem dJ5_append_c97b9_6 : decode cJ5_append_c97b9 6 = .ok (.iload_n 1, 1) := by decide +kernel
theorem dJ5_append_c97b9_7 : decode cJ5_append_c97b9 7 = .ok (.invokestatic 245, 3) := by decide +kernel
theorem dJ5_append_c97b9_10 : decode cJ5_append_c97b9 10 = .ok (.iadd, 1) := by decide +kernel
theorem dJ5_append_c97b9_11 : decode cJ5_append_c97b9 11 = .ok (.istore_n 3, 1) := by decide +kernel
theorem dJ5_append_c97b9_12 : decode cJ5_append_c97b9 12 = .ok (.aload_n 0, 1) := by decide +kernel
theorem dJ5_append_c97b9_13 : decode cJ5_append_c97b9 13 = .ok (.iload_n 3, 1) := by decide +kernel
theorem dJ5_append_c97b9_14 : decode cJ5_append_c97b9 14 = .ok (.invokevirtual 100, 3) := by decide +kernel
theorem dJ5_append_c97b9_17 : decode cJ5_append_c97b9 17 = .ok (.aload_n 0, 1) := by decide +kernel
theorem dJ5_append_c97b9_18 : decode cJ5_append_c97b9 18 = .ok (.invokevirtual 83, 3) := by decide +kernel
theorem dJ5_append_c97b9_21 : decode cJ5_append_c97b9 21 = .ok (.ifCond .eq 16, 3) := by decide +kernel
theorem dJ5_append_c97b9_24 : decode cJ5_append_c97b9 24 = .ok (.iload_n 1, 1) := by decide +kernel
theorem dJ5_append_c97b9_25 : decode cJ5_append_c97b9 25 = .ok (.iload_n 3, 1) := by decide +kernel
theorem dJ5_append_c97b9_26 : decode cJ5_append_c97b9 26 = .ok (.aload_n 0, 1) := by decide +kernel
theorem dJ5_append_c97b9_27 : decode cJ5_append_c97b9 27 = .ok (.getfield 15, 3) := by decide +kernel
theorem dJ5_append_c97b9_30 : decode cJ5_append_c97b9 30 = .ok (.invokestatic 248, 3) := by decide +kernel
theorem dJ5_append_c97b9_33 : decode cJ5_append_c97b9 33 = .ok (.pop, 1) := by decide +kernel
theorem dJ5_append_c97b9_34 : decode cJ5_append_c97b9 34 = .ok (.goto 14, 3) := by decide +kernel
theorem dJ5_append_c97b9_37 : decode cJ5_append_c97b9 37 = .ok (.iload_n 1, 1) := by decide +kernel
theorem dJ5_append_c97b9_38 : decode cJ5_append_c97b9 38 = .ok (.iload_n 2, 1) := by decide +kernel
theorem dJ5_append_c97b9_39 : decode cJ5_append_c97b9 39 = .ok (.iload_n 3, 1) := by decide +kernel
theorem dJ5_append_c97b9_40 : decode cJ5_append_c97b9 40 = .ok (.aload_n 0, 1) := by decide +kernel
theorem dJ5_append_c97b9_41 : decode cJ5_append_c97b9 41 = .ok (.getfield 15, 3) := by decide +kernel
theorem dJ5_append_c97b9_44 : decode cJ5_append_c97b9 44 = .ok (.invokestatic 251, 3) := by decide +kernel
theorem dJ5_append_c97b9_47 : decode cJ5_append_c97b9 47 = .ok (.pop, 1) := by decide +kernel
theorem dJ5_append_c97b9_48 : decode cJ5_append_c97b9 48 = .ok (.aload_n 0, 1) := by decide +kernel
theorem dJ5_append_c97b9_49 : decode cJ5_append_c97b9 49 = .ok (.iload_n 3, 1) := by decide +kernel
theorem dJ5_append_c97b9_50 : decode cJ5_append_c97b9 50 = .ok (.putfield 79, 3) := by decide +kernel
theorem dJ5_append_c97b9_53 : decode cJ5_append_c97b9 53 = .ok (.aload_n 0, 1) := by decide +kernel
theorem dJ5_append_c97b9_54 : decode cJ5_append_c97b9 54 = .ok (.areturn, 1) := by decide +kernel
theorem dJ5_getValue_6d5f1_0 : decode cJ5_getValue_6d5f1 0 = .ok (.aload_n 0, 1) := by decide +kernel
theorem dJ5_getValue_6d5f1_1 : decode cJ5_getValue_6d5f1 1 = .ok (.getfield 15, 3) := by decide +kernel
theorem dJ5_getValue_6d5f1_4 : decode cJ5_getValue_6d5f1 4 = .ok (.areturn, 1) := by decide +kernel
theorem dJ5_isLatin1_aae02_0 : decode cJ5_isLatin1_aae02 0 = .ok (.getstatic 18, 3) := by decide +kernel
theorem dJ5_isLatin1_aae02_3 : decode cJ5_isLatin1_aae02 3 = .ok (.ifCond .eq 14, 3) := by decide +kernel
theorem dJ5_isLatin1_aae02_6 : decode cJ5_isLatin1_aae02 6 = .ok (.aload_n 0, 1) := by decide +kernel
theorem dJ5_isLatin1_aae02_7 : decode cJ5_isLatin1_aae02 7 = .ok (.getfield 22, 3) := by decide +kernel
theorem dJ5_isLatin1_aae02_10 : decode cJ5_isLatin1_aae02 10 = .ok (.ifCond .ne 7, 3) := by decide +kernel
theorem dJ5_isLatin1_aae02_13 : decode cJ5_isLatin1_aae02 13 = .ok (.iconst 1, 1) := by decide +kernel
theorem dJ5_isLatin1_aae02_14 : decode cJ5_isLatin1_aae02 14 = .ok (.goto 4, 3) := by decide +kernel
theorem dJ5_isLatin1_aae02_17 : decode cJ5_isLatin1_aae02 17 = .ok (.iconst 0, 1) := by decide +kernel
theorem dJ5_isLatin1_aae02_18 : decode cJ5_isLatin1_aae02 18 = .ok (.ireturn, 1) := by decide +kernel
theorem dJ5_inflateIfNeededFor_a7421_0 : decode cJ5_inflateIfNeededFor_a7421 0 = .ok (.getstatic 18, 3) := by decide +kernel
theorem dJ5_inflateIfNeededFor_a7421_3 : decode cJ5_inflateIfNeededFor_a7421 3 = .ok (.ifCond .eq 18, 3) := by decide +kernel
theorem dJ5_inflateIfNeededFor_a7421_6 : decode cJ5_inflateIfNeededFor_a7421 6 = .ok (.aload_n 0, 1) := by decide +kernel
theorem dJ5_inflateIfNeededFor_a7421_7 : decode cJ5_inflateIfNeededFor_a7421 7 = .ok (.getfield 22, 3) := by decide +kernel
theorem dJ5_inflateIfNeededFor_a7421_10 : decode cJ5_inflateIfNeededFor_a7421 10 = .ok (.aload_n 1, 1) := by decide +kernel
theorem dJ5_inflateIfNeededFor_a7421_11 : decode cJ5_inflateIfNeededFor_a7421 11 = .ok (.invokevirtual 40, 3) := by decide +kernel
theorem dJ5_inflateIfNeededFor_a7421_14 : decode cJ5_inflateIfNeededFor_a7421 14 = .ok (.if_icmp .eq 7, 3) := by decide +kernel
theorem dJ5_inflateIfNeededFor_a7421_17 : decode cJ5_inflateIfNeededFor_a7421 17 = .ok (.aload_n 0, 1) := by decide +kernel
theorem dJ5_inflateIfNeededFor_a7421_18 : decode cJ5_inflateIfNeededFor_a7421 18 = .ok (.invokevirtual 195, 3) := by decide +kernel
theorem dJ5_inflateIfNeededFor_a7421_21 : decode cJ5_inflateIfNeededFor_a7421 21 = .ok (.return_, 1) := by decide +kernel
theorem dJ5_putStringAt_47b60_0 : decode cJ5_putStringAt_47b60 0 = .ok (.aload_n 0, 1) := by decide +kernel
theorem dJ5_putStringAt_47b60_1 : decode cJ5_putStringAt_47b60 1 = .ok (.aload_n 2, 1) := by decide +kernel
theorem dJ5_putStringAt_47b60_2 : decode cJ5_putStringAt_47b60 2 = .ok (.invokevirtual 397, 3) := by decide +kernel
theorem dJ5_putStringAt_47b60_5 : decode cJ5_putStringAt_47b60 5 = .ok (.aload_n 2, 1) := by decide +kernel
theorem dJ5_putStringAt_47b60_6 : decode cJ5_putStringAt_47b60 6 = .ok (.aload_n 0, 1) := by decide +kernel
theorem dJ5_putStringAt_47b60_7 : decode cJ5_putStringAt_47b60 7 = .ok (.getfield 15, 3) := by decide +kernel
theorem dJ5_putStringAt_47b60_10 : decode cJ5_putStringAt_47b60 10 = .ok (.iload_n 1, 1) := by decide +kernel
theorem dJ5_putStringAt_47b60_11 : decode cJ5_putStringAt_47b60 11 = .ok (.aload_n 0, 1) := by decide +kernel
theorem dJ5_putStringAt_47b60_12 : decode cJ5_putStringAt_47b60 12 = .ok (.getfield 22, 3) := by decide +kernel
theorem dJ5_putStringAt_47b60_15 : decode cJ5_putStringAt_47b60 15 = .ok (.invokevirtual 399, 3) := by decide +kernel
theorem dJ5_putStringAt_47b60_18 : decode cJ5_putStringAt_47b60 18 = .ok (.return_, 1) := by decide +kernel
theorem dJ6_getChars_ba4f3_0 : decode cJ6_getChars_ba4f3 0 = .ok (.iload_n 1, 1) := by decide +kernel
theorem dJ6_getChars_ba4f3_1 : decode cJ6_getChars_ba4f3 1 = .ok (.istore 5, 2) := by decide +kernel
theorem dJ6_getChars_ba4f3_3 : decode cJ6_getChars_ba4f3 3 = .ok (.iload_n 0, 1) := by decide +kernel
theorem dJ6_getChars_ba4f3_4 : decode cJ6_getChars_ba4f3 4 = .ok (.ifCond .ge 7, 3) := by decide +kernel
theorem dJ6_getChars_ba4f3_7 : decode cJ6_getChars_ba4f3 7 = .ok (.iconst 1, 1) := by decide +kernel
theorem dJ6_getChars_ba4f3_8 : decode cJ6_getChars_ba4f3 8 = .ok (.goto 4, 3) := by decide +kernel
theorem dJ6_getChars_ba4f3_11 : decode cJ6_getChars_ba4f3 11 = .ok (.iconst 0, 1) := by decide +kernel
theorem dJ6_getChars_ba4f3_12 : decode cJ6_getChars_ba4f3 12 = .ok (.istore 6, 2) := by decide +kernel
theorem dJ6_getChars_ba4f3_14 : decode cJ6_getChars_ba4f3 14 = .ok (.iload 6, 2) := by decide +kernel
theorem dJ6_getChars_ba4f3_16 : decode cJ6_getChars_ba4f3 16 = .ok (.ifCond .ne 6, 3) := by decide +kernel
theorem dJ6_getChars_ba4f3_19 : decode cJ6_getChars_ba4f3 19 = .ok (.iload_n 0, 1) := by decide +kernel
theorem dJ6_getChars_ba4f3_20 : decode cJ6_getChars_ba4f3 20 = .ok (.ineg, 1) := by decide +kernel
theorem dJ6_getChars_ba4f3_21 : decode cJ6_getChars_ba4f3 21 = .ok (.istore_n 0, 1) := by decide +kernel
theorem dJ6_getChars_ba4f3_22 : decode cJ6_getChars_ba4f3 22 = .ok (.iload_n 0, 1) := by decide +kernel
theorem dJ6_getChars_ba4f3_23 : decode cJ6_getChars_ba4f3 23 = .ok (.bipush (-100), 2) := by decide +kernel
theorem dJ6_getChars_ba4f3_25 : decode cJ6_getChars_ba4f3 25 = .ok (.if_icmp .gt 47, 3) := by decide +kernel
theorem dJ6_getChars_ba4f3_28 : decode cJ6_getChars_ba4f3 28 = .ok (.iload_n 0, 1) := by decide +kernel
theorem dJ6_getChars_ba4f3_29 : decode cJ6_getChars_ba4f3 29 = .ok (.bipush 100, 2) := by decide +kernel
theorem dJ6_getChars_ba4f3_31 : decode cJ6_getChars_ba4f3 31 = .ok (.idiv, 1) := by decide +kernel
theorem dJ6_getChars_ba4f3_32 : decode cJ6_getChars_ba4f3 32 = .ok (.istore_n 3, 1) := by decide +kernel
theorem dJ6_getChars_ba4f3_33 : decode cJ6_getChars_ba4f3 33 = .ok (.iload_n 3, 1) := by decide +kernel
theorem dJ6_getChars_ba4f3_34 : decode cJ6_getChars_ba4f3 34 = .ok (.bipush 100, 2) := by decide +kernel
theorem dJ6_getChars_ba4f3_36 : decode cJ6_getChars_ba4f3 36 = .ok (.imul, 1) := by decide +kernel
theorem dJ6_getChars_ba4f3_37 : decode cJ6_getChars_ba4f3 37 = .ok (.iload_n 0, 1) := by decide +kernel
theorem dJ6_getChars_ba4f3_38 : decode cJ6_getChars_ba4f3 38 = .ok (.isub, 1) := by decide +kernel
theorem dJ6_getChars_ba4f3_39 : decode cJ6_getChars_ba4f3 39 = .ok (.istore 4, 2) := by decide +kernel
theorem dJ6_getChars_ba4f3_41 : decode cJ6_getChars_ba4f3 41 = .ok (.iload_n 3, 1) := by decide +kernel
theorem dJ6_getChars_ba4f3_42 : decode cJ6_getChars_ba4f3 42 = .ok (.istore_n 0, 1) := by decide +kernel
theorem dJ6_getChars_ba4f3_43 : decode cJ6_getChars_ba4f3 43 = .ok (.aload_n 2, 1) := by decide +kernel
theorem dJ6_getChars_ba4f3_44 : decode cJ6_getChars_ba4f3 44 = .ok (.iinc 5 (-1), 3) := by decide +kernel
theorem dJ6_getChars_ba4f3_47 : decode cJ6_getChars_ba4f3 47 = .ok (.iload 5, 2) := by decide +kernel
theorem dJ6_getChars_ba4f3_49 : decode cJ6_getChars_ba4f3 49 = .ok (.getstatic 83, 3) := by decide +kernel
theorem dJ6_getChars_ba4f3_52 : decode cJ6_getChars_ba4f3 52 = .ok (.iload 4, 2) := by decide +kernel
theorem dJ6_getChars_ba4f3_54 : decode cJ6_getChars_ba4f3 54 = .ok (.baload, 1) := by decide +kernel
theorem dJ6_getChars_ba4f3_55 : decode cJ6_getChars_ba4f3 55 = .ok (.bastore, 1) := by decide +kernel
theorem dJ6_getChars_ba4f3_56 : decode cJ6_getChars_ba4f3 56 = .ok (.aload_n 2, 1) := by decide +kernel
theorem dJ6_getChars_ba4f3_57 : decode cJ6_getChars_ba4f3 57 = .ok (.iinc 5 (-1), 3) := by decide +kernel
theorem dJ6_getChars_ba4f3_60 : decode cJ6_getChars_ba4f3 60 = .ok (.iload 5, 2) := by decide +kernel
theorem dJ6_getChars_ba4f3_62 : decode cJ6_getChars_ba4f3 62 = .ok (.getstatic 87, 3) := by decide +kernel
theorem dJ6_getChars_ba4f3_65 : decode cJ6_getChars_ba4f3 65 = .ok (.iload 4, 2) := by decide +kernel
theorem dJ6_getChars_ba4f3_67 : decode cJ6_getChars_ba4f3 67 = .ok (.baload, 1) := by decide +kernel
theorem dJ6_getChars_ba4f3_68 : decode cJ6_getChars_ba4f3 68 = .ok (.bastore, 1) := by decide +kernel
theorem dJ6_getChars_ba4f3_69 : decode cJ6_getChars_ba4f3 69 = .ok (.goto (-47), 3) := by decide +kernel
theorem dJ6_getChars_ba4f3_72 : decode cJ6_getChars_ba4f3 72 = .ok (.aload_n 2, 1) := by decide +kernel
theorem dJ6_getChars_ba4f3_73 : decode cJ6_getChars_ba4f3 73 = .ok (.iinc 5 (-1), 3) := by decide +kernel
theorem dJ6_getChars_ba4f3_76 : decode cJ6_getChars_ba4f3 76 = .ok (.iload 5, 2) := by decide +kernel
theorem dJ6_getChars_ba4f3_78 : decode cJ6_getChars_ba4f3 78 = .ok (.getstatic 83, 3) := by decide +kernel
theorem dJ6_getChars_ba4f3_81 : decode cJ6_getChars_ba4f3 81 = .ok (.iload_n 0, 1) := by decide +kernel
theorem dJ6_getChars_ba4f3_82 : decode cJ6_getChars_ba4f3 82 = .ok (.ineg, 1) := by decide +kernel
theorem dJ6_getChars_ba4f3_83 : decode cJ6_getChars_ba4f3 83 = .ok (.baload, 1) := by decide +kernel
theorem dJ6_getChars_ba4f3_84 : decode cJ6_getChars_ba4f3 84 = .ok (.bastore, 1) := by decide +kernel
theorem dJ6_getChars_ba4f3_85 : decode cJ6_getChars_ba4f3 85 = .ok (.iload_n 0, 1) := by decide +kernel
theorem dJ6_getChars_ba4f3_86 : decode cJ6_getChars_ba4f3 86 = .ok (.bipush (-9), 2) := by decide +kernel
theorem dJ6_getChars_ba4f3_88 : decode cJ6_getChars_ba4f3 88 = .ok (.if_icmp .ge 16, 3) := by decide +kernel
theorem dJ6_getChars_ba4f3_91 : decode cJ6_getChars_ba4f3 91 = .ok (.aload_n 2, 1) := by decide +kernel
theorem dJ6_getChars_ba4f3_92 : decode cJ6_getChars_ba4f3 92 = .ok (.iinc 5 (-1), 3) := by decide +kernel
theorem dJ6_getChars_ba4f3_95 : decode cJ6_getChars_ba4f3 95 = .ok (.iload 5, 2) := by decide +kernel
theorem dJ6_getChars_ba4f3_97 : decode cJ6_getChars_ba4f3 97 = .ok (.getstatic 87, 3) := by decide +kernel
theorem dJ6_getChars_ba4f3_100 : decode cJ6_getChars_ba4f3 100 = .ok (.iload_n 0, 1) := by decide +kernel
theorem dJ6_getChars_ba4f3_101 : decode cJ6_getChars_ba4f3 101 = .ok (.ineg, 1) := by decide +kernel
theorem dJ6_getChars_ba4f3_102 : decode cJ6_getChars_ba4f3 102 = .ok (.baload, 1) := by decide +kernel
theorem dJ6_getChars_ba4f3_103 : decode cJ6_getChars_ba4f3 103 = .ok (.bastore, 1) := by decide +kernel
theorem dJ6_getChars_ba4f3_104 : decode cJ6_getChars_ba4f3 104 = .ok (.iload 6, 2) := by decide +kernel
theorem dJ6_getChars_ba4f3_106 : decode cJ6_getChars_ba4f3 106 = .ok (.ifCond .eq 12, 3) := by decide +kernel
theorem dJ6_getChars_ba4f3_109 : decode cJ6_getChars_ba4f3 109 = .ok (.aload_n 2, 1) := by decide +kernel
theorem dJ6_getChars_ba4f3_110 : decode cJ6_getChars_ba4f3 110 = .ok (.iinc 5 (-1), 3) := by decide +kernel
theorem dJ6_getChars_ba4f3_113 : decode cJ6_getChars_ba4f3 113 = .ok (.iload 5, 2) := by decide +kernel
theorem dJ6_getChars_ba4f3_115 : decode cJ6_getChars_ba4f3 115 = .ok (.bipush 45, 2) := by decide +kernel
theorem dJ6_getChars_ba4f3_117 : decode cJ6_getChars_ba4f3 117 = .ok (.bastore, 1) := by decide +kernel
theorem dJ6_getChars_ba4f3_118 : decode cJ6_getChars_ba4f3 118 = .ok (.iload 5, 2) := by decide +kernel
theorem dJ6_getChars_ba4f3_120 : decode cJ6_getChars_ba4f3 120 = .ok (.ireturn, 1) := by decide +kernel
theorem dJ6_stringSize_0f7a4_0 : decode cJ6_stringSize_0f7a4 0 = .ok (.iconst 1, 1) := by decide +kernel
theorem dJ6_stringSize_0f7a4_1 : decode cJ6_stringSize_0f7a4 1 = .ok (.istore_n 1, 1) := by decide +kernel
theorem dJ6_stringSize_0f7a4_2 : decode cJ6_stringSize_0f7a4 2 = .ok (.iload_n 0, 1) := by decide +kernel
theorem dJ6_stringSize_0f7a4_3 : decode cJ6_stringSize_0f7a4 3 = .ok (.ifCond .lt 8, 3) := by decide +kernel
theorem dJ6_stringSize_0f7a4_6 : decode cJ6_stringSize_0f7a4 6 = .ok (.iconst 0, 1) := by decide +kernel
theorem dJ6_stringSize_0f7a4_7 : decode cJ6_stringSize_0f7a4 7 = .ok (.istore_n 1, 1) := by decide +kernel
theorem dJ6_stringSize_0f7a4_8 : decode cJ6_stringSize_0f7a4 8 = .ok (.iload_n 0, 1) := by decide +kernel
theorem dJ6_stringSize_0f7a4_9 : decode cJ6_stringSize_0f7a4 9 = .ok (.ineg, 1) := by decide +kernel
theorem dJ6_stringSize_0f7a4_10 : decode cJ6_stringSize_0f7a4 10 = .ok (.istore_n 0, 1) := by decide +kernel
theorem dJ6_stringSize_0f7a4_11 : decode cJ6_stringSize_0f7a4 11 = .ok (.bipush (-10), 2) := by decide +kernel
theorem dJ6_stringSize_0f7a4_13 : decode cJ6_stringSize_0f7a4 13 = .ok (.istore_n 2, 1) := by decide +kernel
theorem dJ6_stringSize_0f7a4_14 : decode cJ6_stringSize_0f7a4 14 = .ok (.iconst 1, 1) := by decide +kernel
theorem dJ6_stringSize_0f7a4_15 : decode cJ6_stringSize_0f7a4 15 = .ok (.istore_n 3, 1) := by decide +kernel
theorem dJ6_stringSize_0f7a4_16 : decode cJ6_stringSize_0f7a4 16 = .ok (.iload_n 3, 1) := by decide +kernel
theorem dJ6_stringSize_0f7a4_17 : decode cJ6_stringSize_0f7a4 17 = .ok (.bipush 10, 2) := by decide +kernel
theorem dJ6_stringSize_0f7a4_19 : decode cJ6_stringSize_0f7a4 19 = .ok (.if_icmp .ge 23, 3) := by decide +kernel
theorem dJ6_stringSize_0f7a4_22 : decode cJ6_stringSize_0f7a4 22 = .ok (.iload_n 0, 1) := by decide +kernel
theorem dJ6_stringSize_0f7a4_23 : decode cJ6_stringSize_0f7a4 23 = .ok (.iload_n 2, 1) := by decide +kernel
theorem dJ6_stringSize_0f7a4_24 : decode cJ6_stringSize_0f7a4 24 = .ok (.if_icmp .le 7, 3) := by decide +kernel
theorem dJ6_stringSize_0f7a4_27 : decode cJ6_stringSize_0f7a4 27 = .ok (.iload_n 3, 1) := by decide +kernel
theorem dJ6_stringSize_0f7a4_28 : decode cJ6_stringSize_0f7a4 28 = .ok (.iload_n 1, 1) := by decide +kernel
theorem dJ6_stringSize_0f7a4_29 : decode cJ6_stringSize_0f7a4 29 = .ok (.iadd, 1) := by decide +kernel
theorem dJ6_stringSize_0f7a4_30 : decode cJ6_stringSize_0f7a4 30 = .ok (.ireturn, 1) := by decide +kernel
theorem dJ6_stringSize_0f7a4_31 : decode cJ6_stringSize_0f7a4 31 = .ok (.bipush 10, 2) := by decide +kernel
theorem dJ6_stringSize_0f7a4_33 : decode cJ6_stringSize_0f7a4 33 = .ok (.iload_n 2, 1) := by decide +kernel
theorem dJ6_stringSize_0f7a4_34 : decode cJ6_stringSize_0f7a4 34 = .ok (.imul, 1) := by decide +kernel
theorem dJ6_stringSize_0f7a4_35 : decode cJ6_stringSize_0f7a4 35 = .ok (.istore_n 2, 1) := by decide +kernel
theorem dJ6_stringSize_0f7a4_36 : decode cJ6_stringSize_0f7a4 36 = .ok (.iinc 3 1, 3) := by decide +kernel
theorem dJ6_stringSize_0f7a4_39 : decode cJ6_stringSize_0f7a4 39 = .ok (.goto (-23), 3) := by decide +kernel
theorem dJ6_stringSize_0f7a4_42 : decode cJ6_stringSize_0f7a4 42 = .ok (.bipush 10, 2) := by decide +kernel
theorem dJ6_stringSize_0f7a4_44 : decode cJ6_stringSize_0f7a4 44 = .ok (.iload_n 1, 1) := by decide +kernel
theorem dJ6_stringSize_0f7a4_45 : decode cJ6_stringSize_0f7a4 45 = .ok (.iadd, 1) := by decide +kernel
theorem dJ6_stringSize_0f7a4_46 : decode cJ6_stringSize_0f7a4 46 = .ok (.ireturn, 1) := by decide +kernel
theorem dJ6_bitCount_0f7a4_0 : decode cJ6_bitCount_0f7a4 0 = .ok (.iload_n 0, 1) := by decide +kernel
theorem dJ6_bitCount_0f7a4_1 : decode cJ6_bitCount_0f7a4 1 = .ok (.iload_n 0, 1) := by decide +kernel
theorem dJ6_bitCount_0f7a4_2 : decode cJ6_bitCount_0f7a4 2 = .ok (.iconst 1, 1) := by decide +kernel
theorem dJ6_bitCount_0f7a4_3 : decode cJ6_bitCount_0f7a4 3 = .ok (.iushr, 1) := by decide +kernel
theorem dJ6_bitCount_0f7a4_4 : decode cJ6_bitCount_0f7a4 4 = .ok (.ldc_w 265, 3) := by decide +kernel
theorem dJ6_bitCount_0f7a4_7 : decode cJ6_bitCount_0f7a4 7 = .ok (.iand, 1) := by decide +kernel
theorem dJ6_bitCount_0f7a4_8 : decode cJ6_bitCount_0f7a4 8 = .ok (.isub, 1) := by decide +kernel
theorem dJ6_bitCount_0f7a4_9 : decode cJ6_bitCount_0f7a4 9 = .ok (.istore_n 0, 1) := by decide +kernel
theorem dJ6_bitCount_0f7a4_10 : decode cJ6_bitCount_0f7a4 10 = .ok (.iload_n 0, 1) := by decide +kernel
theorem dJ6_bitCount_0f7a4_11 : decode cJ6_bitCount_0f7a4 11 = .ok (.ldc_w 266, 3) := by decide +kernel
theorem dJ6_bitCount_0f7a4_14 : decode cJ6_bitCount_0f7a4 14 = .ok (.iand, 1) := by decide +kernel
theorem dJ6_bitCount_0f7a4_15 : decode cJ6_bitCount_0f7a4 15 = .ok (.iload_n 0, 1) := by decide +kernel
theorem dJ6_bitCount_0f7a4_16 : decode cJ6_bitCount_0f7a4 16 = .ok (.iconst 2, 1) := by decide +kernel
theorem dJ6_bitCount_0f7a4_17 : decode cJ6_bitCount_0f7a4 17 = .ok (.iushr, 1) := by decide +kernel
theorem dJ6_bitCount_0f7a4_18 : decode cJ6_bitCount_0f7a4 18 = .ok (.ldc_w 266, 3) := by decide +kernel
theorem dJ6_bitCount_0f7a4_21 : decode cJ6_bitCount_0f7a4 21 = .ok (.iand, 1) := by decide +kernel
theorem dJ6_bitCount_0f7a4_22 : decode cJ6_bitCount_0f7a4 22 = .ok (.iadd, 1) := by decide +kernel
theorem dJ6_bitCount_0f7a4_23 : decode cJ6_bitCount_0f7a4 23 = .ok (.istore_n 0, 1) := by decide +kernel
theorem dJ6_bitCount_0f7a4_24 : decode cJ6_bitCount_0f7a4 24 = .ok (.iload_n 0, 1) := by decide +kernel
theorem dJ6_bitCount_0f7a4_25 : decode cJ6_bitCount_0f7a4 25 = .ok (.iload_n 0, 1) := by decide +kernel
theorem dJ6_bitCount_0f7a4_26 : decode cJ6_bitCount_0f7a4 26 = .ok (.iconst 4, 1) := by decide +kernel
theorem dJ6_bitCount_0f7a4_27 : decode cJ6_bitCount_0f7a4 27 = .ok (.iushr, 1) := by decide +kernel
theorem dJ6_bitCount_0f7a4_28 : decode cJ6_bitCount_0f7a4 28 = .ok (.iadd, 1) := by decide +kernel
theorem dJ6_bitCount_0f7a4_29 : decode cJ6_bitCount_0f7a4 29 = .ok (.ldc_w 267, 3) := by decide +kernel
theorem dJ6_bitCount_0f7a4_32 : decode cJ6_bitCount_0f7a4 32 = .ok (.iand, 1) := by decide +kernel
theorem dJ6_bitCount_0f7a4_33 : decode cJ6_bitCount_0f7a4 33 = .ok (.istore_n 0, 1) := by decide +kernel
theorem dJ6_bitCount_0f7a4_34 : decode cJ6_bitCount_0f7a4 34 = .ok (.iload_n 0, 1) := by decide +kernel
theorem dJ6_bitCount_0f7a4_35 : decode cJ6_bitCount_0f7a4 35 = .ok (.iload_n 0, 1) := by decide +kernel
theorem dJ6_bitCount_0f7a4_36 : decode cJ6_bitCount_0f7a4 36 = .ok (.bipush 8, 2) := by decide +kernel
theorem dJ6_bitCount_0f7a4_38 : decode cJ6_bitCount_0f7a4 38 = .ok (.iushr, 1) := by decide +kernel
theorem dJ6_bitCount_0f7a4_39 : decode cJ6_bitCount_0f7a4 39 = .ok (.iadd, 1) := by decide +kernel
theorem dJ6_bitCount_0f7a4_40 : decode cJ6_bitCount_0f7a4 40 = .ok (.istore_n 0, 1) := by decide +kernel
theorem dJ6_bitCount_0f7a4_41 : decode cJ6_bitCount_0f7a4 41 = .ok (.iload_n 0, 1) := by decide +kernel
theorem dJ6_bitCount_0f7a4_42 : decode cJ6_bitCount_0f7a4 42 = .ok (.iload_n 0, 1) := by decide +kernel
theorem dJ6_bitCount_0f7a4_43 : decode cJ6_bitCount_0f7a4 43 = .ok (.bipush 16, 2) := by decide +kernel
theorem dJ6_bitCount_0f7a4_45 : decode cJ6_bitCount_0f7a4 45 = .ok (.iushr, 1) := by decide +kernel
theorem dJ6_bitCount_0f7a4_46 : decode cJ6_bitCount_0f7a4 46 = .ok (.iadd, 1) := by decide +kernel
theorem dJ6_bitCount_0f7a4_47 : decode cJ6_bitCount_0f7a4 47 = .ok (.istore_n 0, 1) := by decide +kernel
theorem dJ6_bitCount_0f7a4_48 : decode cJ6_bitCount_0f7a4 48 = .ok (.iload_n 0, 1) := by decide +kernel
theorem dJ6_bitCount_0f7a4_49 : decode cJ6_bitCount_0f7a4 49 = .ok (.bipush 63, 2) := by decide +kernel
theorem dJ6_bitCount_0f7a4_51 : decode cJ6_bitCount_0f7a4 51 = .ok (.iand, 1) := by decide +kernel
theorem dJ6_bitCount_0f7a4_52 : decode cJ6_bitCount_0f7a4 52 = .ok (.ireturn, 1) := by decide +kernel
theorem dJ9_abs_0f7a4_0 : decode cJ9_abs_0f7a4 0 = .ok (.iload_n 0, 1) := by decide +kernel
theorem dJ9_abs_0f7a4_1 : decode cJ9_abs_0f7a4 1 = .ok (.ifCond .ge 8, 3) := by decide +kernel
theorem dJ9_abs_0f7a4_4 : decode cJ9_abs_0f7a4 4 = .ok (.iload_n 0, 1) := by decide +kernel
theorem dJ9_abs_0f7a4_5 : decode cJ9_abs_0f7a4 5 = .ok (.ineg, 1) := by decide +kernel
theorem dJ9_abs_0f7a4_6 : decode cJ9_abs_0f7a4 6 = .ok (.goto 4, 3) := by decide +kernel
theorem dJ9_abs_0f7a4_9 : decode cJ9_abs_0f7a4 9 = .ok (.iload_n 0, 1) := by decide +kernel
theorem dJ9_abs_0f7a4_10 : decode cJ9_abs_0f7a4 10 = .ok (.ireturn, 1) := by decide +kernel
theorem dJ9_max_7cf53_0 : decode cJ9_max_7cf53 0 = .ok (.iload_n 0, 1) := by decide +kernel
theorem dJ9_max_7cf53_1 : decode cJ9_max_7cf53 1 = .ok (.iload_n 1, 1) := by decide +kernel
theorem dJ9_max_7cf53_2 : decode cJ9_max_7cf53 2 = .ok (.if_icmp .lt 7, 3) := by decide +kernel
theorem dJ9_max_7cf53_5 : decode cJ9_max_7cf53 5 = .ok (.iload_n 0, 1) := by decide +kernel
theorem dJ9_max_7cf53_6 : decode cJ9_max_7cf53 6 = .ok (.goto 4, 3) := by decide +kernel
theorem dJ9_max_7cf53_9 : decode cJ9_max_7cf53 9 = .ok (.iload_n 1, 1) := by decide +kernel
theorem dJ9_max_7cf53_10 : decode cJ9_max_7cf53 10 = .ok (.ireturn, 1) := by decide +kernel
theorem dJ9_min_7cf53_0 : decode cJ9_min_7cf53 0 = .ok (.iload_n 0, 1) := by decide +kernel
theorem dJ9_min_7cf53_1 : decode cJ9_min_7cf53 1 = .ok (.iload_n 1, 1) := by decide +kernel
theorem dJ9_min_7cf53_2 : decode cJ9_min_7cf53 2 = .ok (.if_icmp .gt 7, 3) := by decide +kernel
theorem dJ9_min_7cf53_5 : decode cJ9_min_7cf53 5 = .ok (.iload_n 0, 1) := by decide +kernel
theorem dJ9_min_7cf53_6 : decode cJ9_min_7cf53 6 = .ok (.goto 4, 3) := by decide +kernel
theorem dJ9_min_7cf53_9 : decode cJ9_min_7cf53 9 = .ok (.iload_n 1, 1) := by decide +kernel
theorem dJ9_min_7cf53_10 : decode cJ9_min_7cf53 10 = .ok (.ireturn, 1) := by decide +kernel
theorem dJ0_init_81219_0 : decode cJ0_init_81219 0 = .ok (.aload_n 0, 1) := by decide +kernel
theorem dJ0_init_81219_1 : decode cJ0_init_81219 1 = .ok (.aload_n 1, 1) := by decide +kernel
theorem dJ0_init_81219_2 : decode cJ0_init_81219 2 = .ok (.aconst_null, 1) := by decide +kernel
theorem dJ0_init_81219_3 : decode cJ0_init_81219 3 = .ok (.invokespecial 489, 3) := by decide +kernel
theorem dJ0_init_81219_6 : decode cJ0_init_81219 6 = .ok (.return_, 1) := by decide +kernel
theorem dJ0_length_8abf5_0 : decode cJ0_length_8abf5 0 = .ok (.aload_n 0, 1) := by decide +kernel
theorem dJ0_length_8abf5_1 : decode cJ0_length_8abf5 1 = .ok (.getfield 9, 3) := by decide +kernel
theorem dJ0_length_8abf5_4 : decode cJ0_length_8abf5 4 = .ok (.arraylength, 1) := by decide +kernel
theorem dJ0_length_8abf5_5 : decode cJ0_length_8abf5 5 = .ok (.aload_n 0, 1) := by decide +kernel
theorem dJ0_length_8abf5_6 : decode cJ0_length_8abf5 6 = .ok (.invokevirtual 335, 3) := by decide +kernel
theorem dJ0_length_8abf5_9 : decode cJ0_length_8abf5 9 = .ok (.ishr, 1) := by decide +kernel
theorem dJ0_length_8abf5_10 : decode cJ0_length_8abf5 10 = .ok (.ireturn, 1) := by decide +kernel
theorem dJ0_charAt_5068e_0 : decode cJ0_charAt_5068e 0 = .ok (.aload_n 0, 1) := by decide +kernel
theorem dJ0_charAt_5068e_1 : decode cJ0_charAt_5068e 1 = .ok (.invokevirtual 492, 3) := by decide +kernel
theorem dJ0_charAt_5068e_4 : decode cJ0_charAt_5068e 4 = .ok (.ifCond .eq 12, 3) := by decide +kernel
theorem dJ0_charAt_5068e_7 : decode cJ0_charAt_5068e 7 = .ok (.aload_n 0, 1) := by decide +kernel
theorem dJ0_charAt_5068e_8 : decode cJ0_charAt_5068e 8 = .ok (.getfield 9, 3) := by decide +kernel
theorem dJ0_charAt_5068e_11 : decode cJ0_charAt_5068e 11 = .ok (.iload_n 1, 1) := by decide +kernel
theorem dJ0_charAt_5068e_12 : decode cJ0_charAt_5068e 12 = .ok (.invokestatic 495, 3) := by decide +kernel
theorem dJ0_charAt_5068e_15 : decode cJ0_charAt_5068e 15 = .ok (.ireturn, 1) := by decide +kernel
theorem dJ0_charAt_5068e_16 : decode cJ0_charAt_5068e 16 = .ok (.aload_n 0, 1) := by decide +kernel
theorem dJ0_charAt_5068e_17 : decode cJ0_charAt_5068e 17 = .ok (.getfield 9, 3) := by decide +kernel
theorem dJ0_charAt_5068e_20 : decode cJ0_charAt_5068e 20 = .ok (.iload_n 1, 1) := by decide +kernel
theorem dJ0_charAt_5068e_21 : decode cJ0_charAt_5068e 21 = .ok (.invokestatic 498, 3) := by decide +kernel
theorem dJ0_charAt_5068e_24 : decode cJ0_charAt_5068e 24 = .ok (.ireturn, 1) := by decide +kernel
theorem dJ0_getBytes_840e7_0 : decode cJ0_getBytes_840e7 0 = .ok (.aload_n 0, 1) := by decide +kernel
theorem dJ0_getBytes_840e7_1 : decode cJ0_getBytes_840e7 1 = .ok (.invokevirtual 335, 3) := by decide +kernel
theorem dJ0_getBytes_840e7_4 : decode cJ0_getBytes_840e7 4 = .ok (.iload_n 3, 1) := by decide +kernel
theorem dJ0_getBytes_840e7_5 : decode cJ0_getBytes_840e7 5 = .ok (.if_icmp .ne 23, 3) := by decide +kernel
theorem dJ0_getBytes_840e7_8 : decode cJ0_getBytes_840e7 8 = .ok (.aload_n 0, 1) := by decide +kernel
theorem dJ0_getBytes_840e7_9 : decode cJ0_getBytes_840e7 9 = .ok (.getfield 9, 3) := by decide +kernel
theorem dJ0_getBytes_840e7_12 : decode cJ0_getBytes_840e7 12 = .ok (.iconst 0, 1) := by decide +kernel
theorem dJ0_getBytes_840e7_13 : decode cJ0_getBytes_840e7 13 = .ok (.aload_n 1, 1) := by decide +kernel
theorem dJ0_getBytes_840e7_14 : decode cJ0_getBytes_840e7 14 = .ok (.iload_n 2, 1) := by decide +kernel
theorem dJ0_getBytes_840e7_15 : decode cJ0_getBytes_840e7 15 = .ok (.iload_n 3, 1) := by decide +kernel
theorem dJ0_getBytes_840e7_16 : decode cJ0_getBytes_840e7 16 = .ok (.ishl, 1) := by decide +kernel
theorem dJ0_getBytes_840e7_17 : decode cJ0_getBytes_840e7 17 = .ok (.aload_n 0, 1) := by decide +kernel
theorem dJ0_getBytes_840e7_18 : decode cJ0_getBytes_840e7 18 = .ok (.getfield 9, 3) := by decide +kernel
theorem dJ0_getBytes_840e7_21 : decode cJ0_getBytes_840e7 21 = .ok (.arraylength, 1) := by decide +kernel
theorem dJ0_getBytes_840e7_22 : decode cJ0_getBytes_840e7 22 = .ok (.invokestatic 212, 3) := by decide +kernel
theorem dJ0_getBytes_840e7_25 : decode cJ0_getBytes_840e7 25 = .ok (.goto 18, 3) := by decide +kernel
theorem dJ0_getBytes_840e7_28 : decode cJ0_getBytes_840e7 28 = .ok (.aload_n 0, 1) := by decide +kernel
theorem dJ0_getBytes_840e7_29 : decode cJ0_getBytes_840e7 29 = .ok (.getfield 9, 3) := by decide +kernel
theorem dJ0_getBytes_840e7_32 : decode cJ0_getBytes_840e7 32 = .ok (.iconst 0, 1) := by decide +kernel
theorem dJ0_getBytes_840e7_33 : decode cJ0_getBytes_840e7 33 = .ok (.aload_n 1, 1) := by decide +kernel
theorem dJ0_getBytes_840e7_34 : decode cJ0_getBytes_840e7 34 = .ok (.iload_n 2, 1) := by decide +kernel
theorem dJ0_getBytes_840e7_35 : decode cJ0_getBytes_840e7 35 = .ok (.aload_n 0, 1) := by decide +kernel
theorem dJ0_getBytes_840e7_36 : decode cJ0_getBytes_840e7 36 = .ok (.getfield 9, 3) := by decide +kernel
theorem dJ0_getBytes_840e7_39 : decode cJ0_getBytes_840e7 39 = .ok (.arraylength, 1) := by decide +kernel
theorem dJ0_getBytes_840e7_40 : decode cJ0_getBytes_840e7 40 = .ok (.invokestatic 106, 3) := by decide +kernel
theorem dJ0_getBytes_840e7_43 : decode cJ0_getBytes_840e7 43 = .ok (.return_, 1) := by decide +kernel
theorem dJ0_init_db425_0 : decode cJ0_init_db425 0 = .ok (.aload_n 0, 1) := by decide +kernel
theorem dJ0_init_db425_1 : decode cJ0_init_db425 1 = .ok (.invokespecial 1, 3) := by decide +kernel
theorem dJ0_init_db425_4 : decode cJ0_init_db425 4 = .ok (.aload_n 1, 1) := by decide +kernel
theorem dJ0_init_db425_5 : decode cJ0_init_db425 5 = .ok (.invokevirtual 552, 3) := by decide +kernel
theorem dJ0_init_db425_8 : decode cJ0_init_db425 8 = .ok (.astore_n 3, 1) := by decide +kernel
theorem dJ0_init_db425_9 : decode cJ0_init_db425 9 = .ok (.aload_n 1, 1) := by decide +kernel
theorem dJ0_init_db425_10 : decode cJ0_init_db425 10 = .ok (.invokevirtual 549, 3) := by decide +kernel
theorem dJ0_init_db425_13 : decode cJ0_init_db425 13 = .ok (.istore 4, 2) := by decide +kernel
theorem dJ0_init_db425_15 : decode cJ0_init_db425 15 = .ok (.aload_n 1, 1) := by decide +kernel
theorem dJ0_init_db425_16 : decode cJ0_init_db425 16 = .ok (.invokevirtual 1047, 3) := by decide +kernel
theorem dJ0_init_db425_19 : decode cJ0_init_db425 19 = .ok (.ifCond .eq 22, 3) := by decide +kernel
theorem dJ0_init_db425_22 : decode cJ0_init_db425 22 = .ok (.aload_n 0, 1) := by decide +kernel
theorem dJ0_init_db425_23 : decode cJ0_init_db425 23 = .ok (.iconst 0, 1) := by decide +kernel
theorem dJ0_init_db425_24 : decode cJ0_init_db425 24 = .ok (.putfield 15, 3) := by decide +kernel
theorem dJ0_init_db425_27 : decode cJ0_init_db425 27 = .ok (.aload_n 0, 1) := by decide +kernel
theorem dJ0_init_db425_28 : decode cJ0_init_db425 28 = .ok (.aload_n 3, 1) := by decide +kernel
theorem dJ0_init_db425_29 : decode cJ0_init_db425 29 = .ok (.iconst 0, 1) := by decide +kernel
theorem dJ0_init_db425_30 : decode cJ0_init_db425 30 = .ok (.iload 4, 2) := by decide +kernel
theorem dJ0_init_db425_32 : decode cJ0_init_db425 32 = .ok (.invokestatic 54, 3) := by decide +kernel
theorem dJ0_init_db425_35 : decode cJ0_init_db425 35 = .ok (.putfield 9, 3) := by decide +kernel
theorem dJ0_init_db425_38 : decode cJ0_init_db425 38 = .ok (.goto 59, 3) := by decide +kernel
theorem dJ0_init_db425_41 : decode cJ0_init_db425 41 = .ok (.getstatic 38, 3) := by decide +kernel
theorem dJ0_init_db425_44 : decode cJ0_init_db425 44 = .ok (.ifCond .eq 35, 3) := by decide +kernel
theorem dJ0_init_db425_47 : decode cJ0_init_db425 47 = .ok (.aload_n 1, 1) := by decide +kernel
theorem dJ0_init_db425_48 : decode cJ0_init_db425 48 = .ok (.getfield 1048, 3) := by decide +kernel
theorem dJ0_init_db425_51 : decode cJ0_init_db425 51 = .ok (.ifCond .eq 28, 3) := by decide +kernel
theorem dJ0_init_db425_54 : decode cJ0_init_db425 54 = .ok (.aload_n 0, 1) := by decide +kernel
theorem dJ0_init_db425_55 : decode cJ0_init_db425 55 = .ok (.aload_n 3, 1) := by decide +kernel
theorem dJ0_init_db425_56 : decode cJ0_init_db425 56 = .ok (.iconst 0, 1) := by decide +kernel
theorem dJ0_init_db425_57 : decode cJ0_init_db425 57 = .ok (.iload 4, 2) := by decide +kernel
theorem dJ0_init_db425_59 : decode cJ0_init_db425 59 = .ok (.invokestatic 1051, 3) := by decide +kernel
theorem dJ0_init_db425_62 : decode cJ0_init_db425 62 = .ok (.putfield 9, 3) := by decide +kernel
theorem dJ0_init_db425_65 : decode cJ0_init_db425 65 = .ok (.aload_n 0, 1) := by decide +kernel
theorem dJ0_init_db425_66 : decode cJ0_init_db425 66 = .ok (.aload_n 0, 1) := by decide +kernel
theorem dJ0_init_db425_67 : decode cJ0_init_db425 67 = .ok (.getfield 9, 3) := by decide +kernel
theorem dJ0_init_db425_70 : decode cJ0_init_db425 70 = .ok (.iload 4, 2) := by decide +kernel
theorem dJ0_init_db425_72 : decode cJ0_init_db425 72 = .ok (.invokestatic 47, 3) := by decide +kernel
theorem dJ0_init_db425_75 : decode cJ0_init_db425 75 = .ok (.putfield 15, 3) := by decide +kernel
theorem dJ0_init_db425_78 : decode cJ0_init_db425 78 = .ok (.return_, 1) := by decide +kernel
theorem dJ0_init_db425_79 : decode cJ0_init_db425 79 = .ok (.aload_n 0, 1) := by decide +kernel
theorem dJ0_init_db425_80 : decode cJ0_init_db425 80 = .ok (.iconst 1, 1) := by decide +kernel
theorem dJ0_init_db425_81 : decode cJ0_init_db425 81 = .ok (.putfield 15, 3) := by decide +kernel
theorem dJ0_init_db425_84 : decode cJ0_init_db425 84 = .ok (.aload_n 0, 1) := by decide +kernel
theorem dJ0_init_db425_85 : decode cJ0_init_db425 85 = .ok (.aload_n 3, 1) := by decide +kernel
theorem dJ0_init_db425_86 : decode cJ0_init_db425 86 = .ok (.iconst 0, 1) := by decide +kernel
theorem dJ0_init_db425_87 : decode cJ0_init_db425 87 = .ok (.iload 4, 2) := by decide +kernel
theorem dJ0_init_db425_89 : decode cJ0_init_db425 89 = .ok (.iconst 1, 1) := by decide +kernel
theorem dJ0_init_db425_90 : decode cJ0_init_db425 90 = .ok (.ishl, 1) := by decide +kernel
theorem dJ0_init_db425_91 : decode cJ0_init_db425 91 = .ok (.invokestatic 54, 3) := by decide +kernel
theorem dJ0_init_db425_94 : decode cJ0_init_db425 94 = .ok (.putfield 9, 3) := by decide +kernel
theorem dJ0_init_db425_97 : decode cJ0_init_db425 97 = .ok (.return_, 1) := by decide +kernel
theorem dJ0_coder_7d493_0 : decode cJ0_coder_7d493 0 = .ok (.getstatic 38, 3) := by decide +kernel
theorem dJ0_coder_7d493_3 : decode cJ0_coder_7d493 3 = .ok (.ifCond .eq 10, 3) := by decide +kernel
theorem dJ0_coder_7d493_6 : decode cJ0_coder_7d493 6 = .ok (.aload_n 0, 1) := by decide +kernel
theorem dJ0_coder_7d493_7 : decode cJ0_coder_7d493 7 = .ok (.getfield 15, 3) := by decide +kernel
theorem dJ0_coder_7d493_10 : decode cJ0_coder_7d493 10 = .ok (.goto 4, 3) := by decide +kernel
theorem dJ0_coder_7d493_13 : decode cJ0_coder_7d493 13 = .ok (.iconst 1, 1) := by decide +kernel
theorem dJ0_coder_7d493_14 : decode cJ0_coder_7d493 14 = .ok (.ireturn, 1) := by decide +kernel
theorem dJ0_isLatin1_aae02_0 : decode cJ0_isLatin1_aae02 0 = .ok (.getstatic 38, 3) := by decide +kernel
theorem dJ0_isLatin1_aae02_3 : decode cJ0_isLatin1_aae02 3 = .ok (.ifCond .eq 14, 3) := by decide +kernel
theorem dJ0_isLatin1_aae02_6 : decode cJ0_isLatin1_aae02 6 = .ok (.aload_n 0, 1) := by decide +kernel
theorem dJ0_isLatin1_aae02_7 : decode cJ0_isLatin1_aae02 7 = .ok (.getfield 15, 3) := by decide +kernel
theorem dJ0_isLatin1_aae02_10 : decode cJ0_isLatin1_aae02 10 = .ok (.ifCond .ne 7, 3) := by decide +kernel
theorem dJ0_isLatin1_aae02_13 : decode cJ0_isLatin1_aae02 13 = .ok (.iconst 1, 1) := by decide +kernel
theorem dJ0_isLatin1_aae02_14 : decode cJ0_isLatin1_aae02 14 = .ok (.goto 4, 3) := by decide +kernel
theorem dJ0_isLatin1_aae02_17 : decode cJ0_isLatin1_aae02 17 = .ok (.iconst 0, 1) := by decide +kernel
theorem dJ0_isLatin1_aae02_18 : decode cJ0_isLatin1_aae02 18 = .ok (.ireturn, 1) := by decide +kernel
theorem dJ0_checkIndex_df160_0 : decode cJ0_checkIndex_df160 0 = .ok (.iload_n 0, 1) := by decide +kernel
theorem dJ0_checkIndex_df160_1 : decode cJ0_checkIndex_df160 1 = .ok (.iload_n 1, 1) := by decide +kernel
theorem dJ0_checkIndex_df160_2 : decode cJ0_checkIndex_df160 2 = .ok (.getstatic 1053, 3) := by decide +kernel
theorem dJ0_checkIndex_df160_5 : decode cJ0_checkIndex_df160 5 = .ok (.invokestatic 1059, 3) := by decide +kernel
theorem dJ0_checkIndex_df160_8 : decode cJ0_checkIndex_df160 8 = .ok (.pop, 1) := by decide +kernel
theorem dJ0_checkIndex_df160_9 : decode cJ0_checkIndex_df160 9 = .ok (.return_, 1) := by decide +kernel
theorem dJ0_checkBoundsOffCount_cabcc_0 : decode cJ0_checkBoundsOffCount_cabcc 0 = .ok (.iload_n 0, 1) := by decide +kernel
theorem dJ0_checkBoundsOffCount_cabcc_1 : decode cJ0_checkBoundsOffCount_cabcc 1 = .ok (.iload_n 1, 1) := by decide +kernel
theorem dJ0_checkBoundsOffCount_cabcc_2 : decode cJ0_checkBoundsOffCount_cabcc 2 = .ok (.iload_n 2, 1) := by decide +kernel
theorem dJ0_checkBoundsOffCount_cabcc_3 : decode cJ0_checkBoundsOffCount_cabcc 3 = .ok (.getstatic 1053, 3) := by decide +kernel
theorem dJ0_checkBoundsOffCount_cabcc_6 : decode cJ0_checkBoundsOffCount_cabcc 6 = .ok (.invokestatic 1065, 3) := by decide +kernel
theorem dJ0_checkBoundsOffCount_cabcc_9 : decode cJ0_checkBoundsOffCount_cabcc 9 = .ok (.ireturn, 1) := by decide +kernel
theorem dJ0_checkBoundsBeginEnd_23922_0 : decode cJ0_checkBoundsBeginEnd_23922 0 = .ok (.iload_n 0, 1) := by decide +kernel
theorem dJ0_checkBoundsBeginEnd_23922_1 : decode cJ0_checkBoundsBeginEnd_23922 1 = .ok (.iload_n 1, 1) := by decide +kernel
theorem dJ0_checkBoundsBeginEnd_23922_2 : decode cJ0_checkBoundsBeginEnd_23922 2 = .ok (.iload_n 2, 1) := by decide +kernel
theorem dJ0_checkBoundsBeginEnd_23922_3 : decode cJ0_checkBoundsBeginEnd_23922 3 = .ok (.getstatic 1053, 3) := by decide +kernel
theorem dJ0_checkBoundsBeginEnd_23922_6 : decode cJ0_checkBoundsBeginEnd_23922 6 = .ok (.invokestatic 1062, 3) := by decide +kernel
theorem dJ0_checkBoundsBeginEnd_23922_9 : decode cJ0_checkBoundsBeginEnd_23922 9 = .ok (.pop, 1) := by decide +kernel
theorem dJ0_checkBoundsBeginEnd_23922_10 : decode cJ0_checkBoundsBeginEnd_23922 10 = .ok (.return_, 1) := by decide +kernel
theorem dJ4_init_da8c8_0 : decode cJ4_init_da8c8 0 = .ok (.aload_n 0, 1) := by decide +kernel
theorem dJ4_init_da8c8_1 : decode cJ4_init_da8c8 1 = .ok (.bipush 16, 2) := by decide +kernel
theorem dJ4_init_da8c8_3 : decode cJ4_init_da8c8 3 = .ok (.invokespecial 1, 3) := by decide +kernel
theorem dJ4_init_da8c8_6 : decode cJ4_init_da8c8 6 = .ok (.return_, 1) := by decide +kernel
theorem dJ4_append_15ec4_0 : decode cJ4_append_15ec4 0 = .ok (.aload_n 0, 1) := by decide +kernel
theorem dJ4_append_15ec4_1 : decode cJ4_append_15ec4 1 = .ok (.aload_n 1, 1) := by decide +kernel
theorem dJ4_append_15ec4_2 : decode cJ4_append_15ec4 2 = .ok (.invokespecial 29, 3) := by decide +kernel
theorem dJ4_append_15ec4_5 : decode cJ4_append_15ec4 5 = .ok (.pop, 1) := by decide +kernel
theorem dJ4_append_15ec4_6 : decode cJ4_append_15ec4 6 = .ok (.aload_n 0, 1) := by decide +kernel
theorem dJ4_append_15ec4_7 : decode cJ4_append_15ec4 7 = .ok (.areturn, 1) := by decide +kernel
theorem dJ4_append_cf468_0 : decode cJ4_append_cf468 0 = .ok (.aload_n 0, 1) := by decide +kernel
theorem dJ4_append_cf468_1 : decode cJ4_append_cf468 1 = .ok (.iload_n 1, 1) := by decide +kernel
theorem dJ4_append_cf468_2 : decode cJ4_append_cf468 2 = .ok (.invokespecial 50, 3) := by decide +kernel
theorem dJ4_append_cf468_5 : decode cJ4_append_cf468 5 = .ok (.pop, 1) := by decide +kernel
theorem dJ4_append_cf468_6 : decode cJ4_append_cf468 6 = .ok (.aload_n 0, 1) := by decide +kernel
theorem dJ4_append_cf468_7 : decode cJ4_append_cf468 7 = .ok (.areturn, 1) := by decide +kernel
theorem dJ4_append_bf812_0 : decode cJ4_append_bf812 0 = .ok (.aload_n 0, 1) := by decide +kernel
theorem dJ4_append_bf812_1 : decode cJ4_append_bf812 1 = .ok (.iload_n 1, 1) := by decide +kernel
theorem dJ4_append_bf812_2 : decode cJ4_append_bf812 2 = .ok (.invokespecial 53, 3) := by decide +kernel
theorem dJ4_append_bf812_5 : decode cJ4_append_bf812 5 = .ok (.pop, 1) := by decide +kernel
theorem dJ4_append_bf812_6 : decode cJ4_append_bf812 6 = .ok (.aload_n 0, 1) := by decide +kernel
theorem dJ4_append_bf812_7 : decode cJ4_append_bf812 7 = .ok (.areturn, 1) := by decide +kernel
theorem dJ4_toString_0e30d_0 : decode cJ4_toString_0e30d 0 = .ok (.new 18, 3) := by decide +kernel
theorem dJ4_toString_0e30d_3 : decode cJ4_toString_0e30d 3 = .ok (.dup, 1) := by decide +kernel
theorem dJ4_toString_0e30d_4 : decode cJ4_toString_0e30d 4 = .ok (.aload_n 0, 1) := by decide +kernel
theorem dJ4_toString_0e30d_5 : decode cJ4_toString_0e30d 5 = .ok (.invokespecial 137, 3) := by decide +kernel
theorem dJ4_toString_0e30d_8 : decode cJ4_toString_0e30d 8 = .ok (.areturn, 1) := by decide +kernel
theorem dJ4_length_8abf5_0 : decode cJ4_length_8abf5 0 = .ok (.aload_n 0, 1) := by decide +kernel
theorem dJ4_length_8abf5_1 : decode cJ4_length_8abf5 1 = .ok (.invokespecial 343, 3) := by decide +kernel
theorem dJ4_length_8abf5_4 : decode cJ4_length_8abf5 4 = .ok (.ireturn, 1) := by decide +kernel
theorem dJ1_charAt_3b067_0 : decode cJ1_charAt_3b067 0 = .ok (.iload_n 1, 1) := by decide +kernel
theorem dJ1_charAt_3b067_1 : decode cJ1_charAt_3b067 1 = .ok (.aload_n 0, 1) := by decide +kernel
theorem dJ1_charAt_3b067_2 : decode cJ1_charAt_3b067 2 = .ok (.arraylength, 1) := by decide +kernel
theorem dJ1_charAt_3b067_3 : decode cJ1_charAt_3b067 3 = .ok (.invokestatic 9, 3) := by decide +kernel
theorem dJ1_charAt_3b067_6 : decode cJ1_charAt_3b067 6 = .ok (.aload_n 0, 1) := by decide +kernel
theorem dJ1_charAt_3b067_7 : decode cJ1_charAt_3b067 7 = .ok (.iload_n 1, 1) := by decide +kernel
theorem dJ1_charAt_3b067_8 : decode cJ1_charAt_3b067 8 = .ok (.baload, 1) := by decide +kernel
theorem dJ1_charAt_3b067_9 : decode cJ1_charAt_3b067 9 = .ok (.sipush 255, 3) := by decide +kernel
theorem dJ1_charAt_3b067_12 : decode cJ1_charAt_3b067 12 = .ok (.iand, 1) := by decide +kernel
theorem dJ1_charAt_3b067_13 : decode cJ1_charAt_3b067 13 = .ok (.i2c, 1) := by decide +kernel
theorem dJ1_charAt_3b067_14 : decode cJ1_charAt_3b067 14 = .ok (.ireturn, 1) := by decide +kernel
theorem dJ1_canEncode_fc78d_0 : decode cJ1_canEncode_fc78d 0 = .ok (.iload_n 0, 1) := by decide +kernel
theorem dJ1_canEncode_fc78d_1 : decode cJ1_canEncode_fc78d 1 = .ok (.sipush 255, 3) := by decide +kernel
theorem dJ1_canEncode_fc78d_4 : decode cJ1_canEncode_fc78d 4 = .ok (.if_icmp .gt 7, 3) := by decide +kernel
theorem dJ1_canEncode_fc78d_7 : decode cJ1_canEncode_fc78d 7 = .ok (.iconst 1, 1) := by decide +kernel
theorem dJ1_canEncode_fc78d_8 : decode cJ1_canEncode_fc78d 8 = .ok (.goto 4, 3) := by decide +kernel
theorem dJ1_canEncode_fc78d_11 : decode cJ1_canEncode_fc78d 11 = .ok (.iconst 0, 1) := by decide +kernel
theorem dJ1_canEncode_fc78d_12 : decode cJ1_canEncode_fc78d 12 = .ok (.ireturn, 1) := by decide +kernel
theorem dJ1_inflate_0e8fd_0 : decode cJ1_inflate_0e8fd 0 = .ok (.aload_n 0, 1) := by decide +kernel
theorem dJ1_inflate_0e8fd_1 : decode cJ1_inflate_0e8fd 1 = .ok (.iload_n 1, 1) := by decide +kernel
theorem dJ1_inflate_0e8fd_2 : decode cJ1_inflate_0e8fd 2 = .ok (.aload_n 2, 1) := by decide +kernel
theorem dJ1_inflate_0e8fd_3 : decode cJ1_inflate_0e8fd 3 = .ok (.iload_n 3, 1) := by decide +kernel
theorem dJ1_inflate_0e8fd_4 : decode cJ1_inflate_0e8fd 4 = .ok (.iload 4, 2) := by decide +kernel
theorem dJ1_inflate_0e8fd_6 : decode cJ1_inflate_0e8fd 6 = .ok (.invokestatic 240, 3) := by decide +kernel
theorem dJ1_inflate_0e8fd_9 : decode cJ1_inflate_0e8fd 9 = .ok (.return_, 1) := by decide +kernel
theorem dJ2_newBytesFor_77867_0 : decode cJ2_newBytesFor_77867 0 = .ok (.iload_n 0, 1) := by decide +kernel
theorem dJ2_newBytesFor_77867_1 : decode cJ2_newBytesFor_77867 1 = .ok (.invokestatic 11, 3) := by decide +kernel
theorem dJ2_newBytesFor_77867_4 : decode cJ2_newBytesFor_77867 4 = .ok (.newarray .byte, 2) := by decide +kernel
theorem dJ2_newBytesFor_77867_6 : decode cJ2_newBytesFor_77867 6 = .ok (.areturn, 1) := by decide +kernel
theorem dJ2_newBytesLength_0f7a4_0 : decode cJ2_newBytesLength_0f7a4 0 = .ok (.iload_n 0, 1) := by decide +kernel
theorem dJ2_newBytesLength_0f7a4_1 : decode cJ2_newBytesLength_0f7a4 1 = .ok (.ifCond .ge 11, 3) := by decide +kernel
theorem dJ2_newBytesLength_0f7a4_4 : decode cJ2_newBytesLength_0f7a4 4 = .ok (.new 17, 3) := by decide +kernel
theorem dJ2_newBytesLength_0f7a4_7 : decode cJ2_newBytesLength_0f7a4 7 = .ok (.dup, 1) := by decide +kernel
theorem dJ2_newBytesLength_0f7a4_8 : decode cJ2_newBytesLength_0f7a4 8 = .ok (.invokespecial 19, 3) := by decide +kernel
theorem dJ2_newBytesLength_0f7a4_11 : decode cJ2_newBytesLength_0f7a4 11 = .ok (.athrow, 1) := by decide +kernel
theorem dJ2_newBytesLength_0f7a4_12 : decode cJ2_newBytesLength_0f7a4 12 = .ok (.iload_n 0, 1) := by decide +kernel
theorem dJ2_newBytesLength_0f7a4_13 : decode cJ2_newBytesLength_0f7a4 13 = .ok (.ldc 20, 2) := by decide +kernel
theorem dJ2_newBytesLength_0f7a4_15 : decode cJ2_newBytesLength_0f7a4 15 = .ok (.if_icmp .lt 40, 3) := by decide +kernel
theorem dJ2_newBytesLength_0f7a4_18 : decode cJ2_newBytesLength_0f7a4 18 = .ok (.new 21, 3) := by decide +kernel
theorem dJ2_newBytesLength_0f7a4_21 : decode cJ2_newBytesLength_0f7a4 21 = .ok (.dup, 1) := by decide +kernel
theorem dJ2_newBytesLength_0f7a4_22 : decode cJ2_newBytesLength_0f7a4 22 = .ok (.new 23, 3) := by decide +kernel
theorem dJ2_newBytesLength_0f7a4_25 : decode cJ2_newBytesLength_0f7a4 25 = .ok (.dup, 1) := by decide +kernel
theorem dJ2_newBytesLength_0f7a4_26 : decode cJ2_newBytesLength_0f7a4 26 = .ok (.invokespecial 25, 3) := by decide +kernel
theorem dJ2_newBytesLength_0f7a4_29 : decode cJ2_newBytesLength_0f7a4 29 = .ok (.ldc 26, 2) := by decide +kernel
theorem dJ2_newBytesLength_0f7a4_31 : decode cJ2_newBytesLength_0f7a4 31 = .ok (.invokevirtual 28, 3) := by decide +kernel
theorem dJ2_newBytesLength_0f7a4_34 : decode cJ2_newBytesLength_0f7a4 34 = .ok (.iload_n 0, 1) := by decide +kernel
theorem dJ2_newBytesLength_0f7a4_35 : decode cJ2_newBytesLength_0f7a4 35 = .ok (.invokevirtual 32, 3) := by decide +kernel
theorem dJ2_newBytesLength_0f7a4_38 : decode cJ2_newBytesLength_0f7a4 38 = .ok (.ldc 35, 2) := by decide +kernel
theorem dJ2_newBytesLength_0f7a4_40 : decode cJ2_newBytesLength_0f7a4 40 = .ok (.invokevirtual 28, 3) := by decide +kernel
theorem dJ2_newBytesLength_0f7a4_43 : decode cJ2_newBytesLength_0f7a4 43 = .ok (.ldc 20, 2) := by decide +kernel
theorem dJ2_newBytesLength_0f7a4_45 : decode cJ2_newBytesLength_0f7a4 45 = .ok (.invokevirtual 32, 3) := by decide +kernel
theorem dJ2_newBytesLength_0f7a4_48 : decode cJ2_newBytesLength_0f7a4 48 = .ok (.invokevirtual 37, 3) := by decide +kernel
theorem dJ2_newBytesLength_0f7a4_51 : decode cJ2_newBytesLength_0f7a4 51 = .ok (.invokespecial 41, 3) := by decide +kernel
theorem dJ2_newBytesLength_0f7a4_54 : decode cJ2_newBytesLength_0f7a4 54 = .ok (.athrow, 1) := by decide +kernel
theorem dJ2_newBytesLength_0f7a4_55 : decode cJ2_newBytesLength_0f7a4 55 = .ok (.iload_n 0, 1) := by decide +kernel
theorem dJ2_newBytesLength_0f7a4_56 : decode cJ2_newBytesLength_0f7a4 56 = .ok (.iconst 1, 1) := by decide +kernel
theorem dJ2_newBytesLength_0f7a4_57 : decode cJ2_newBytesLength_0f7a4 57 = .ok (.ishl, 1) := by decide +kernel
theorem dJ2_newBytesLength_0f7a4_58 : decode cJ2_newBytesLength_0f7a4 58 = .ok (.ireturn, 1) := by decide +kernel
theorem dJ2_putChar_b72d1_0 : decode cJ2_putChar_b72d1 0 = .ok (.getstatic 44, 3) := by decide +kernel
theorem dJ2_putChar_b72d1_3 : decode cJ2_putChar_b72d1 3 = .ok (.ifCond .ne 25, 3) := by decide +kernel
theorem dJ2_putChar_b72d1_6 : decode cJ2_putChar_b72d1 6 = .ok (.iload_n 1, 1) := by decide +kernel
theorem dJ2_putChar_b72d1_7 : decode cJ2_putChar_b72d1 7 = .ok (.ifCond .lt 11, 3) := by decide +kernel
theorem dJ2_putChar_b72d1_10 : decode cJ2_putChar_b72d1 10 = .ok (.iload_n 1, 1) := by decide +kernel
theorem dJ2_putChar_b72d1_11 : decode cJ2_putChar_b72d1 11 = .ok (.aload_n 0, 1) := by decide +kernel
theorem dJ2_putChar_b72d1_12 : decode cJ2_putChar_b72d1 12 = .ok (.invokestatic 48, 3) := by decide +kernel
theorem dJ2_putChar_b72d1_15 : decode cJ2_putChar_b72d1 15 = .ok (.if_icmp .lt 13, 3) := by decide +kernel
theorem dJ2_putChar_b72d1_18 : decode cJ2_putChar_b72d1 18 = .ok (.new 52, 3) := by decide +kernel
theorem dJ2_putChar_b72d1_21 : decode cJ2_putChar_b72d1 21 = .ok (.dup, 1) := by decide +kernel
theorem dJ2_putChar_b72d1_22 : decode cJ2_putChar_b72d1 22 = .ok (.ldc 54, 2) := by decide +kernel
theorem dJ2_putChar_b72d1_24 : decode cJ2_putChar_b72d1 24 = .ok (.invokespecial 56, 3) := by decide +kernel
theorem dJ2_putChar_b72d1_27 : decode cJ2_putChar_b72d1 27 = .ok (.athrow, 1) := by decide +kernel
theorem dJ2_putChar_b72d1_28 : decode cJ2_putChar_b72d1 28 = .ok (.iload_n 1, 1) := by decide +kernel
theorem dJ2_putChar_b72d1_29 : decode cJ2_putChar_b72d1 29 = .ok (.iconst 1, 1) := by decide +kernel
theorem dJ2_putChar_b72d1_30 : decode cJ2_putChar_b72d1 30 = .ok (.ishl, 1) := by decide +kernel
theorem dJ2_putChar_b72d1_31 : decode cJ2_putChar_b72d1 31 = .ok (.istore_n 1, 1) := by decide +kernel
theorem dJ2_putChar_b72d1_32 : decode cJ2_putChar_b72d1 32 = .ok (.aload_n 0, 1) := by decide +kernel
theorem dJ2_putChar_b72d1_33 : decode cJ2_putChar_b72d1 33 = .ok (.iload_n 1, 1) := by decide +kernel
theorem dJ2_putChar_b72d1_34 : decode cJ2_putChar_b72d1 34 = .ok (.iinc 1 1, 3) := by decide +kernel
theorem dJ2_putChar_b72d1_37 : decode cJ2_putChar_b72d1 37 = .ok (.iload_n 2, 1) := by decide +kernel
theorem dJ2_putChar_b72d1_38 : decode cJ2_putChar_b72d1 38 = .ok (.getstatic 59, 3) := by decide +kernel
theorem dJ2_putChar_b72d1_41 : decode cJ2_putChar_b72d1 41 = .ok (.ishr, 1) := by decide +kernel
theorem dJ2_putChar_b72d1_42 : decode cJ2_putChar_b72d1 42 = .ok (.i2b, 1) := by decide +kernel
theorem dJ2_putChar_b72d1_43 : decode cJ2_putChar_b72d1 43 = .ok (.bastore, 1) := by decide +kernel
theorem dJ2_putChar_b72d1_44 : decode cJ2_putChar_b72d1 44 = .ok (.aload_n 0, 1) := by decide +kernel
theorem dJ2_putChar_b72d1_45 : decode cJ2_putChar_b72d1 45 = .ok (.iload_n 1, 1) := by decide +kernel
theorem dJ2_putChar_b72d1_46 : decode cJ2_putChar_b72d1 46 = .ok (.iload_n 2, 1) := by decide +kernel
theorem dJ2_putChar_b72d1_47 : decode cJ2_putChar_b72d1 47 = .ok (.getstatic 63, 3) := by decide +kernel
theorem dJ2_putChar_b72d1_50 : decode cJ2_putChar_b72d1 50 = .ok (.ishr, 1) := by decide +kernel
theorem dJ2_putChar_b72d1_51 : decode cJ2_putChar_b72d1 51 = .ok (.i2b, 1) := by decide +kernel
theorem dJ2_putChar_b72d1_52 : decode cJ2_putChar_b72d1 52 = .ok (.bastore, 1) := by decide +kernel
theorem dJ2_putChar_b72d1_53 : decode cJ2_putChar_b72d1 53 = .ok (.return_, 1) := by decide +kernel
theorem dJ2_getChar_3b067_0 : decode cJ2_getChar_3b067 0 = .ok (.getstatic 44, 3) := by decide +kernel
theorem dJ2_getChar_3b067_3 : decode cJ2_getChar_3b067 3 = .ok (.ifCond .ne 25, 3) := by decide +kernel
theorem dJ2_getChar_3b067_6 : decode cJ2_getChar_3b067 6 = .ok (.iload_n 1, 1) := by decide +kernel
theorem dJ2_getChar_3b067_7 : decode cJ2_getChar_3b067 7 = .ok (.ifCond .lt 11, 3) := by decide +kernel
theorem dJ2_getChar_3b067_10 : decode cJ2_getChar_3b067 10 = .ok (.iload_n 1, 1) := by decide +kernel
theorem dJ2_getChar_3b067_11 : decode cJ2_getChar_3b067 11 = .ok (.aload_n 0, 1) := by decide +kernel
theorem dJ2_getChar_3b067_12 : decode cJ2_getChar_3b067 12 = .ok (.invokestatic 48, 3) := by decide +kernel
theorem dJ2_getChar_3b067_15 : decode cJ2_getChar_3b067 15 = .ok (.if_icmp .lt 13, 3) := by decide +kernel
theorem dJ2_getChar_3b067_18 : decode cJ2_getChar_3b067 18 = .ok (.new 52, 3) := by decide +kernel
theorem dJ2_getChar_3b067_21 : decode cJ2_getChar_3b067 21 = .ok (.dup, 1) := by decide +kernel
theorem dJ2_getChar_3b067_22 : decode cJ2_getChar_3b067 22 = .ok (.ldc 54, 2) := by decide +kernel
theorem dJ2_getChar_3b067_24 : decode cJ2_getChar_3b067 24 = .ok (.invokespecial 56, 3) := by decide +kernel
theorem dJ2_getChar_3b067_27 : decode cJ2_getChar_3b067 27 = .ok (.athrow, 1) := by decide +kernel
theorem dJ2_getChar_3b067_28 : decode cJ2_getChar_3b067 28 = .ok (.iload_n 1, 1) := by decide +kernel
theorem dJ2_getChar_3b067_29 : decode cJ2_getChar_3b067 29 = .ok (.iconst 1, 1) := by decide +kernel
theorem dJ2_getChar_3b067_30 : decode cJ2_getChar_3b067 30 = .ok (.ishl, 1) := by decide +kernel
theorem dJ2_getChar_3b067_31 : decode cJ2_getChar_3b067 31 = .ok (.istore_n 1, 1) := by decide +kernel
theorem dJ2_getChar_3b067_32 : decode cJ2_getChar_3b067 32 = .ok (.aload_n 0, 1) := by decide +kernel
theorem dJ2_getChar_3b067_33 : decode cJ2_getChar_3b067 33 = .ok (.iload_n 1, 1) := by decide +kernel
theorem dJ2_getChar_3b067_34 : decode cJ2_getChar_3b067 34 = .ok (.iinc 1 1, 3) := by decide +kernel
theorem dJ2_getChar_3b067_37 : decode cJ2_getChar_3b067 37 = .ok (.baload, 1) := by decide +kernel
theorem dJ2_getChar_3b067_38 : decode cJ2_getChar_3b067 38 = .ok (.sipush 255, 3) := by decide +kernel
theorem dJ2_getChar_3b067_41 : decode cJ2_getChar_3b067 41 = .ok (.iand, 1) := by decide +kernel
theorem dJ2_getChar_3b067_42 : decode cJ2_getChar_3b067 42 = .ok (.getstatic 59, 3) := by decide +kernel
theorem dJ2_getChar_3b067_45 : decode cJ2_getChar_3b067 45 = .ok (.ishl, 1) := by decide +kernel
theorem dJ2_getChar_3b067_46 : decode cJ2_getChar_3b067 46 = .ok (.aload_n 0, 1) := by decide +kernel
theorem dJ2_getChar_3b067_47 : decode cJ2_getChar_3b067 47 = .ok (.iload_n 1, 1) := by decide +kernel
theorem dJ2_getChar_3b067_48 : decode cJ2_getChar_3b067 48 = .ok (.baload, 1) := by decide +kernel
theorem dJ2_getChar_3b067_49 : decode cJ2_getChar_3b067 49 = .ok (.sipush 255, 3) := by decide +kernel
theorem dJ2_getChar_3b067_52 : decode cJ2_getChar_3b067 52 = .ok (.iand, 1) := by decide +kernel
theorem dJ2_getChar_3b067_53 : decode cJ2_getChar_3b067 53 = .ok (.getstatic 63, 3) := by decide +kernel
theorem dJ2_getChar_3b067_56 : decode cJ2_getChar_3b067 56 = .ok (.ishl, 1) := by decide +kernel
theorem dJ2_getChar_3b067_57 : decode cJ2_getChar_3b067 57 = .ok (.ior, 1) := by decide +kernel
theorem dJ2_getChar_3b067_58 : decode cJ2_getChar_3b067 58 = .ok (.i2c, 1) := by decide +kernel
theorem dJ2_getChar_3b067_59 : decode cJ2_getChar_3b067 59 = .ok (.ireturn, 1) := by decide +kernel
theorem dJ2_length_9d52b_0 : decode cJ2_length_9d52b 0 = .ok (.aload_n 0, 1) := by decide +kernel
theorem dJ2_length_9d52b_1 : decode cJ2_length_9d52b 1 = .ok (.arraylength, 1) := by decide +kernel
theorem dJ2_length_9d52b_2 : decode cJ2_length_9d52b 2 = .ok (.iconst 1, 1) := by decide +kernel
theorem dJ2_length_9d52b_3 : decode cJ2_length_9d52b 3 = .ok (.ishr, 1) := by decide +kernel
theorem dJ2_length_9d52b_4 : decode cJ2_length_9d52b 4 = .ok (.ireturn, 1) := by decide +kernel
theorem dJ2_coderFromArrayLen_85cad_0 : decode cJ2_coderFromArrayLen_85cad 0 = .ok (.iload_n 1, 1) := by decide +kernel
theorem dJ2_coderFromArrayLen_85cad_1 : decode cJ2_coderFromArrayLen_85cad 1 = .ok (.aload_n 0, 1) := by decide +kernel
theorem dJ2_coderFromArrayLen_85cad_2 : decode cJ2_coderFromArrayLen_85cad 2 = .ok (.arraylength, 1) := by decide +kernel
theorem dJ2_coderFromArrayLen_85cad_3 : decode cJ2_coderFromArrayLen_85cad 3 = .ok (.isub, 1) := by decide +kernel
theorem dJ2_coderFromArrayLen_85cad_4 : decode cJ2_coderFromArrayLen_85cad 4 = .ok (.bipush 31, 2) := by decide +kernel
theorem dJ2_coderFromArrayLen_85cad_6 : decode cJ2_coderFromArrayLen_85cad 6 = .ok (.iushr, 1) := by decide +kernel
theorem dJ2_coderFromArrayLen_85cad_7 : decode cJ2_coderFromArrayLen_85cad 7 = .ok (.i2b, 1) := by decide +kernel
theorem dJ2_coderFromArrayLen_85cad_8 : decode cJ2_coderFromArrayLen_85cad 8 = .ok (.ireturn, 1) := by decide +kernel
theorem dJ2_compress_39247_0 : decode cJ2_compress_39247 0 = .ok (.iload_n 2, 1) := by decide +kernel
theorem dJ2_compress_39247_1 : decode cJ2_compress_39247 1 = .ok (.newarray .byte, 2) := by decide +kernel
theorem dJ2_compress_39247_3 : decode cJ2_compress_39247 3 = .ok (.astore_n 3, 1) := by decide +kernel
theorem dJ2_compress_39247_4 : decode cJ2_compress_39247 4 = .ok (.aload_n 0, 1) := by decide +kernel
theorem dJ2_compress_39247_5 : decode cJ2_compress_39247 5 = .ok (.iload_n 1, 1) := by decide +kernel
theorem dJ2_compress_39247_6 : decode cJ2_compress_39247 6 = .ok (.aload_n 3, 1) := by decide +kernel
theorem dJ2_compress_39247_7 : decode cJ2_compress_39247 7 = .ok (.iconst 0, 1) := by decide +kernel
theorem dJ2_compress_39247_8 : decode cJ2_compress_39247 8 = .ok (.iload_n 2, 1) := by decide +kernel
theorem dJ2_compress_39247_9 : decode cJ2_compress_39247 9 = .ok (.invokestatic 123, 3) := by decide +kernel
theorem dJ2_compress_39247_12 : decode cJ2_compress_39247 12 = .ok (.istore 4, 2) := by decide +kernel
theorem dJ2_compress_39247_14 : decode cJ2_compress_39247 14 = .ok (.iload 4, 2) := by decide +kernel
theorem dJ2_compress_39247_16 : decode cJ2_compress_39247 16 = .ok (.iload_n 2, 1) := by decide +kernel
theorem dJ2_compress_39247_17 : decode cJ2_compress_39247 17 = .ok (.if_icmp .eq 47, 3) := by decide +kernel
theorem dJ2_compress_39247_20 : decode cJ2_compress_39247 20 = .ok (.aload_n 0, 1) := by decide +kernel
theorem dJ2_compress_39247_21 : decode cJ2_compress_39247 21 = .ok (.iload_n 1, 1) := by decide +kernel
theorem dJ2_compress_39247_22 : decode cJ2_compress_39247 22 = .ok (.iconst 1, 1) := by decide +kernel
theorem dJ2_compress_39247_23 : decode cJ2_compress_39247 23 = .ok (.ishl, 1) := by decide +kernel
theorem dJ2_compress_39247_24 : decode cJ2_compress_39247 24 = .ok (.iload_n 1, 1) := by decide +kernel
theorem dJ2_compress_39247_25 : decode cJ2_compress_39247 25 = .ok (.iload_n 2, 1) := by decide +kernel
theorem dJ2_compress_39247_26 : decode cJ2_compress_39247 26 = .ok (.iadd, 1) := by decide +kernel
theorem dJ2_compress_39247_27 : decode cJ2_compress_39247 27 = .ok (.invokestatic 11, 3) := by decide +kernel
theorem dJ2_compress_39247_30 : decode cJ2_compress_39247 30 = .ok (.invokestatic 126, 3) := by decide +kernel
theorem dJ2_compress_39247_33 : decode cJ2_compress_39247 33 = .ok (.astore 5, 2) := by decide +kernel
theorem dJ2_compress_39247_35 : decode cJ2_compress_39247 35 = .ok (.aload 5, 2) := by decide +kernel
theorem dJ2_compress_39247_37 : decode cJ2_compress_39247 37 = .ok (.iload 4, 2) := by decide +kernel
theorem dJ2_compress_39247_39 : decode cJ2_compress_39247 39 = .ok (.invokestatic 71, 3) := by decide +kernel
theorem dJ2_compress_39247_42 : decode cJ2_compress_39247 42 = .ok (.sipush 255, 3) := by decide +kernel
theorem dJ2_compress_39247_45 : decode cJ2_compress_39247 45 = .ok (.if_icmp .gt 16, 3) := by decide +kernel
theorem dJ2_compress_39247_48 : decode cJ2_compress_39247 48 = .ok (.aload 5, 2) := by decide +kernel
theorem dJ2_compress_39247_50 : decode cJ2_compress_39247 50 = .ok (.iconst 0, 1) := by decide +kernel
theorem dJ2_compress_39247_51 : decode cJ2_compress_39247 51 = .ok (.aload_n 3, 1) := by decide +kernel
theorem dJ2_compress_39247_52 : decode cJ2_compress_39247 52 = .ok (.iconst 0, 1) := by decide +kernel
theorem dJ2_compress_39247_53 : decode cJ2_compress_39247 53 = .ok (.iload_n 2, 1) := by decide +kernel
theorem dJ2_compress_39247_54 : decode cJ2_compress_39247 54 = .ok (.invokestatic 123, 3) := by decide +kernel
theorem dJ2_compress_39247_57 : decode cJ2_compress_39247 57 = .ok (.iload_n 2, 1) := by decide +kernel
theorem dJ2_compress_39247_58 : decode cJ2_compress_39247 58 = .ok (.if_icmp .eq 6, 3) := by decide +kernel
theorem dJ2_compress_39247_61 : decode cJ2_compress_39247 61 = .ok (.aload 5, 2) := by decide +kernel
theorem dJ2_compress_39247_63 : decode cJ2_compress_39247 63 = .ok (.areturn, 1) := by decide +kernel
theorem dJ2_compress_39247_64 : decode cJ2_compress_39247 64 = .ok (.aload_n 3, 1) := by decide +kernel
theorem dJ2_compress_39247_65 : decode cJ2_compress_39247 65 = .ok (.areturn, 1) := by decide +kernel
theorem dJ2_compress_5af95_0 : decode cJ2_compress_5af95 0 = .ok (.iload_n 1, 1) := by decide +kernel
theorem dJ2_compress_5af95_1 : decode cJ2_compress_5af95 1 = .ok (.iload 4, 2) := by decide +kernel
theorem dJ2_compress_5af95_3 : decode cJ2_compress_5af95 3 = .ok (.aload_n 0, 1) := by decide +kernel
theorem dJ2_compress_5af95_4 : decode cJ2_compress_5af95 4 = .ok (.invokestatic 173, 3) := by decide +kernel
theorem dJ2_compress_5af95_7 : decode cJ2_compress_5af95 7 = .ok (.iconst 0, 1) := by decide +kernel
theorem dJ2_compress_5af95_8 : decode cJ2_compress_5af95 8 = .ok (.istore 5, 2) := by decide +kernel
theorem dJ2_compress_5af95_10 : decode cJ2_compress_5af95 10 = .ok (.iload 5, 2) := by decide +kernel
theorem dJ2_compress_5af95_12 : decode cJ2_compress_5af95 12 = .ok (.iload 4, 2) := by decide +kernel
theorem dJ2_compress_5af95_14 : decode cJ2_compress_5af95 14 = .ok (.if_icmp .ge 39, 3) := by decide +kernel
theorem dJ2_compress_5af95_17 : decode cJ2_compress_5af95 17 = .ok (.aload_n 0, 1) := by decide +kernel
theorem dJ2_compress_5af95_18 : decode cJ2_compress_5af95 18 = .ok (.iload_n 1, 1) := by decide +kernel
theorem dJ2_compress_5af95_19 : decode cJ2_compress_5af95 19 = .ok (.invokestatic 71, 3) := by decide +kernel
theorem dJ2_compress_5af95_22 : decode cJ2_compress_5af95 22 = .ok (.istore 6, 2) := by decide +kernel
theorem dJ2_compress_5af95_24 : decode cJ2_compress_5af95 24 = .ok (.iload 6, 2) := by decide +kernel
theorem dJ2_compress_5af95_26 : decode cJ2_compress_5af95 26 = .ok (.sipush 255, 3) := by decide +kernel
theorem dJ2_compress_5af95_29 : decode cJ2_compress_5af95 29 = .ok (.if_icmp .le 6, 3) := by decide +kernel
theorem dJ2_compress_5af95_32 : decode cJ2_compress_5af95 32 = .ok (.iload 5, 2) := by decide +kernel
theorem dJ2_compress_5af95_34 : decode cJ2_compress_5af95 34 = .ok (.ireturn, 1) := by decide +kernel
theorem dJ2_compress_5af95_35 : decode cJ2_compress_5af95 35 = .ok (.aload_n 2, 1) := by decide +kernel
theorem dJ2_compress_5af95_36 : decode cJ2_compress_5af95 36 = .ok (.iload_n 3, 1) := by decide +kernel
theorem dJ2_compress_5af95_37 : decode cJ2_compress_5af95 37 = .ok (.iload 6, 2) := by decide +kernel
theorem dJ2_compress_5af95_39 : decode cJ2_compress_5af95 39 = .ok (.i2b, 1) := by decide +kernel
theorem dJ2_compress_5af95_40 : decode cJ2_compress_5af95 40 = .ok (.bastore, 1) := by decide +kernel
theorem dJ2_compress_5af95_41 : decode cJ2_compress_5af95 41 = .ok (.iinc 1 1, 3) := by decide +kernel
theorem dJ2_compress_5af95_44 : decode cJ2_compress_5af95 44 = .ok (.iinc 3 1, 3) := by decide +kernel
theorem dJ2_compress_5af95_47 : decode cJ2_compress_5af95 47 = .ok (.iinc 5 1, 3) := by decide +kernel
theorem dJ2_compress_5af95_50 : decode cJ2_compress_5af95 50 = .ok (.goto (-40), 3) := by decide +kernel
theorem dJ2_compress_5af95_53 : decode cJ2_compress_5af95 53 = .ok (.iload 4, 2) := by decide +kernel
theorem dJ2_compress_5af95_55 : decode cJ2_compress_5af95 55 = .ok (.ireturn, 1) := by decide +kernel
theorem dJ2_putCharSB_b72d1_0 : decode cJ2_putCharSB_b72d1 0 = .ok (.iload_n 1, 1) := by decide +kernel
theorem dJ2_putCharSB_b72d1_1 : decode cJ2_putCharSB_b72d1 1 = .ok (.aload_n 0, 1) := by decide +kernel
theorem dJ2_putCharSB_b72d1_2 : decode cJ2_putCharSB_b72d1 2 = .ok (.invokestatic 67, 3) := by decide +kernel
theorem dJ2_putCharSB_b72d1_5 : decode cJ2_putCharSB_b72d1 5 = .ok (.aload_n 0, 1) := by decide +kernel
theorem dJ2_putCharSB_b72d1_6 : decode cJ2_putCharSB_b72d1 6 = .ok (.iload_n 1, 1) := by decide +kernel
theorem dJ2_putCharSB_b72d1_7 : decode cJ2_putCharSB_b72d1 7 = .ok (.iload_n 2, 1) := by decide +kernel
theorem dJ2_putCharSB_b72d1_8 : decode cJ2_putCharSB_b72d1 8 = .ok (.invokestatic 111, 3) := by decide +kernel
theorem dJ2_putCharSB_b72d1_11 : decode cJ2_putCharSB_b72d1 11 = .ok (.return_, 1) := by decide +kernel
theorem dJ2_getChars_46870_0 : decode cJ2_getChars_46870 0 = .ok (.iload_n 1, 1) := by decide +kernel
theorem dJ2_getChars_46870_1 : decode cJ2_getChars_46870 1 = .ok (.iload_n 2, 1) := by decide +kernel
theorem dJ2_getChars_46870_2 : decode cJ2_getChars_46870 2 = .ok (.aload_n 3, 1) := by decide +kernel
theorem dJ2_getChars_46870_3 : decode cJ2_getChars_46870 3 = .ok (.invokestatic 96, 3) := by decide +kernel
theorem dJ2_getChars_46870_6 : decode cJ2_getChars_46870 6 = .ok (.iload_n 0, 1) := by decide +kernel
theorem dJ2_getChars_46870_7 : decode cJ2_getChars_46870 7 = .ok (.iload_n 2, 1) := by decide +kernel
theorem dJ2_getChars_46870_8 : decode cJ2_getChars_46870 8 = .ok (.aload_n 3, 1) := by decide +kernel
theorem dJ2_getChars_46870_9 : decode cJ2_getChars_46870 9 = .ok (.invokestatic 393, 3) := by decide +kernel
theorem dJ2_getChars_46870_12 : decode cJ2_getChars_46870 12 = .ok (.istore 4, 2) := by decide +kernel
theorem dJ2_getChars_46870_14 : decode cJ2_getChars_46870 14 = .ok (.getstatic 44, 3) := by decide +kernel
theorem dJ2_getChars_46870_17 : decode cJ2_getChars_46870 17 = .ok (.ifCond .ne 17, 3) := by decide +kernel
theorem dJ2_getChars_46870_20 : decode cJ2_getChars_46870 20 = .ok (.iload_n 1, 1) := by decide +kernel
theorem dJ2_getChars_46870_21 : decode cJ2_getChars_46870 21 = .ok (.iload 4, 2) := by decide +kernel
theorem dJ2_getChars_46870_23 : decode cJ2_getChars_46870 23 = .ok (.if_icmp .eq 11, 3) := by decide +kernel
theorem dJ2_getChars_46870_26 : decode cJ2_getChars_46870 26 = .ok (.new 52, 3) := by decide +kernel
theorem dJ2_getChars_46870_29 : decode cJ2_getChars_46870 29 = .ok (.dup, 1) := by decide +kernel
theorem dJ2_getChars_46870_30 : decode cJ2_getChars_46870 30 = .ok (.invokespecial 66, 3) := by decide +kernel
theorem dJ2_getChars_46870_33 : decode cJ2_getChars_46870 33 = .ok (.athrow, 1) := by decide +kernel
theorem dJ2_getChars_46870_34 : decode cJ2_getChars_46870 34 = .ok (.iload 4, 2) := by decide +kernel
theorem dJ2_getChars_46870_36 : decode cJ2_getChars_46870 36 = .ok (.ireturn, 1) := by decide +kernel
theorem dJ2_putCharsAt_cd4e5_0 : decode cJ2_putCharsAt_cd4e5 0 = .ok (.iload_n 1, 1) := by decide +kernel
theorem dJ2_putCharsAt_cd4e5_1 : decode cJ2_putCharsAt_cd4e5 1 = .ok (.iconst 4, 1) := by decide +kernel
theorem dJ2_putCharsAt_cd4e5_2 : decode cJ2_putCharsAt_cd4e5 2 = .ok (.iadd, 1) := by decide +kernel
theorem dJ2_putCharsAt_cd4e5_3 : decode cJ2_putCharsAt_cd4e5 3 = .ok (.istore 6, 2) := by decide +kernel
theorem dJ2_putCharsAt_cd4e5_5 : decode cJ2_putCharsAt_cd4e5 5 = .ok (.iload_n 1, 1) := by decide +kernel
theorem dJ2_putCharsAt_cd4e5_6 : decode cJ2_putCharsAt_cd4e5 6 = .ok (.iload 6, 2) := by decide +kernel
theorem dJ2_putCharsAt_cd4e5_8 : decode cJ2_putCharsAt_cd4e5 8 = .ok (.aload_n 0, 1) := by decide +kernel
theorem dJ2_putCharsAt_cd4e5_9 : decode cJ2_putCharsAt_cd4e5 9 = .ok (.invokestatic 96, 3) := by decide +kernel
theorem dJ2_putCharsAt_cd4e5_12 : decode cJ2_putCharsAt_cd4e5 12 = .ok (.aload_n 0, 1) := by decide +kernel
theorem dJ2_putCharsAt_cd4e5_13 : decode cJ2_putCharsAt_cd4e5 13 = .ok (.iload_n 1, 1) := by decide +kernel
theorem dJ2_putCharsAt_cd4e5_14 : decode cJ2_putCharsAt_cd4e5 14 = .ok (.iinc 1 1, 3) := by decide +kernel
theorem dJ2_putCharsAt_cd4e5_17 : decode cJ2_putCharsAt_cd4e5 17 = .ok (.iload_n 2, 1) := by decide +kernel
theorem dJ2_putCharsAt_cd4e5_18 : decode cJ2_putCharsAt_cd4e5 18 = .ok (.invokestatic 111, 3) := by decide +kernel
theorem dJ2_putCharsAt_cd4e5_21 : decode cJ2_putCharsAt_cd4e5 21 = .ok (.aload_n 0, 1) := by decide +kernel
theorem dJ2_putCharsAt_cd4e5_22 : decode cJ2_putCharsAt_cd4e5 22 = .ok (.iload_n 1, 1) := by decide +kernel
theorem dJ2_putCharsAt_cd4e5_23 : decode cJ2_putCharsAt_cd4e5 23 = .ok (.iinc 1 1, 3) := by decide +kernel
theorem dJ2_putCharsAt_cd4e5_26 : decode cJ2_putCharsAt_cd4e5 26 = .ok (.iload_n 3, 1) := by decide +kernel
theorem dJ2_putCharsAt_cd4e5_27 : decode cJ2_putCharsAt_cd4e5 27 = .ok (.invokestatic 111, 3) := by decide +kernel
theorem dJ2_putCharsAt_cd4e5_30 : decode cJ2_putCharsAt_cd4e5 30 = .ok (.aload_n 0, 1) := by decide +kernel
theorem dJ2_putCharsAt_cd4e5_31 : decode cJ2_putCharsAt_cd4e5 31 = .ok (.iload_n 1, 1) := by decide +kernel
theorem dJ2_putCharsAt_cd4e5_32 : decode cJ2_putCharsAt_cd4e5 32 = .ok (.iinc 1 1, 3) := by decide +kernel
theorem dJ2_putCharsAt_cd4e5_35 : decode cJ2_putCharsAt_cd4e5 35 = .ok (.iload 4, 2) := by decide +kernel
theorem dJ2_putCharsAt_cd4e5_37 : decode cJ2_putCharsAt_cd4e5 37 = .ok (.invokestatic 111, 3) := by decide +kernel
theorem dJ2_putCharsAt_cd4e5_40 : decode cJ2_putCharsAt_cd4e5 40 = .ok (.aload_n 0, 1) := by decide +kernel
theorem dJ2_putCharsAt_cd4e5_41 : decode cJ2_putCharsAt_cd4e5 41 = .ok (.iload_n 1, 1) := by decide +kernel
theorem dJ2_putCharsAt_cd4e5_42 : decode cJ2_putCharsAt_cd4e5 42 = .ok (.iinc 1 1, 3) := by decide +kernel
theorem dJ2_putCharsAt_cd4e5_45 : decode cJ2_putCharsAt_cd4e5 45 = .ok (.iload 5, 2) := by decide +kernel
theorem dJ2_putCharsAt_cd4e5_47 : decode cJ2_putCharsAt_cd4e5 47 = .ok (.invokestatic 111, 3) := by decide +kernel
theorem dJ2_putCharsAt_cd4e5_50 : decode cJ2_putCharsAt_cd4e5 50 = .ok (.getstatic 44, 3) := by decide +kernel
theorem dJ2_putCharsAt_cd4e5_53 : decode cJ2_putCharsAt_cd4e5 53 = .ok (.ifCond .ne 17, 3) := by decide +kernel
theorem dJ2_putCharsAt_cd4e5_56 : decode cJ2_putCharsAt_cd4e5 56 = .ok (.iload_n 1, 1) := by decide +kernel
theorem dJ2_putCharsAt_cd4e5_57 : decode cJ2_putCharsAt_cd4e5 57 = .ok (.iload 6, 2) := by decide +kernel
theorem dJ2_putCharsAt_cd4e5_59 : decode cJ2_putCharsAt_cd4e5 59 = .ok (.if_icmp .eq 11, 3) := by decide +kernel
theorem dJ2_putCharsAt_cd4e5_62 : decode cJ2_putCharsAt_cd4e5 62 = .ok (.new 52, 3) := by decide +kernel
theorem dJ2_putCharsAt_cd4e5_65 : decode cJ2_putCharsAt_cd4e5 65 = .ok (.dup, 1) := by decide +kernel
theorem dJ2_putCharsAt_cd4e5_66 : decode cJ2_putCharsAt_cd4e5 66 = .ok (.invokespecial 66, 3) := by decide +kernel
theorem dJ2_putCharsAt_cd4e5_69 : decode cJ2_putCharsAt_cd4e5 69 = .ok (.athrow, 1) := by decide +kernel
theorem dJ2_putCharsAt_cd4e5_70 : decode cJ2_putCharsAt_cd4e5 70 = .ok (.iload 6, 2) := by decide +kernel
theorem dJ2_putCharsAt_cd4e5_72 : decode cJ2_putCharsAt_cd4e5 72 = .ok (.ireturn, 1) := by decide +kernel
theorem dJ2_charAt_3b067_0 : decode cJ2_charAt_3b067 0 = .ok (.iload_n 1, 1) := by decide +kernel
theorem dJ2_charAt_3b067_1 : decode cJ2_charAt_3b067 1 = .ok (.aload_n 0, 1) := by decide +kernel
theorem dJ2_charAt_3b067_2 : decode cJ2_charAt_3b067 2 = .ok (.invokestatic 67, 3) := by decide +kernel
theorem dJ2_charAt_3b067_5 : decode cJ2_charAt_3b067 5 = .ok (.aload_n 0, 1) := by decide +kernel
theorem dJ2_charAt_3b067_6 : decode cJ2_charAt_3b067 6 = .ok (.iload_n 1, 1) := by decide +kernel
theorem dJ2_charAt_3b067_7 : decode cJ2_charAt_3b067 7 = .ok (.invokestatic 71, 3) := by decide +kernel
theorem dJ2_charAt_3b067_10 : decode cJ2_charAt_3b067 10 = .ok (.ireturn, 1) := by decide +kernel
theorem dJ2_inflate_0e8fd_0 : decode cJ2_inflate_0e8fd 0 = .ok (.iload_n 3, 1) := by decide +kernel
theorem dJ2_inflate_0e8fd_1 : decode cJ2_inflate_0e8fd 1 = .ok (.iload 4, 2) := by decide +kernel
theorem dJ2_inflate_0e8fd_3 : decode cJ2_inflate_0e8fd 3 = .ok (.aload_n 2, 1) := by decide +kernel
theorem dJ2_inflate_0e8fd_4 : decode cJ2_inflate_0e8fd 4 = .ok (.invokestatic 173, 3) := by decide +kernel
theorem dJ2_inflate_0e8fd_7 : decode cJ2_inflate_0e8fd 7 = .ok (.iconst 0, 1) := by decide +kernel
theorem dJ2_inflate_0e8fd_8 : decode cJ2_inflate_0e8fd 8 = .ok (.istore 5, 2) := by decide +kernel
theorem dJ2_inflate_0e8fd_10 : decode cJ2_inflate_0e8fd 10 = .ok (.iload 5, 2) := by decide +kernel
theorem dJ2_inflate_0e8fd_12 : decode cJ2_inflate_0e8fd 12 = .ok (.iload 4, 2) := by decide +kernel
theorem dJ2_inflate_0e8fd_14 : decode cJ2_inflate_0e8fd 14 = .ok (.if_icmp .ge 27, 3) := by decide +kernel
theorem dJ2_inflate_0e8fd_17 : decode cJ2_inflate_0e8fd 17 = .ok (.aload_n 2, 1) := by decide +kernel
theorem dJ2_inflate_0e8fd_18 : decode cJ2_inflate_0e8fd 18 = .ok (.iload_n 3, 1) := by decide +kernel
theorem dJ2_inflate_0e8fd_19 : decode cJ2_inflate_0e8fd 19 = .ok (.iinc 3 1, 3) := by decide +kernel
theorem dJ2_inflate_0e8fd_22 : decode cJ2_inflate_0e8fd 22 = .ok (.aload_n 0, 1) := by decide +kernel
theorem dJ2_inflate_0e8fd_23 : decode cJ2_inflate_0e8fd 23 = .ok (.iload_n 1, 1) := by decide +kernel
theorem dJ2_inflate_0e8fd_24 : decode cJ2_inflate_0e8fd 24 = .ok (.iinc 1 1, 3) := by decide +kernel
theorem dJ2_inflate_0e8fd_27 : decode cJ2_inflate_0e8fd 27 = .ok (.baload, 1) := by decide +kernel
theorem dJ2_inflate_0e8fd_28 : decode cJ2_inflate_0e8fd 28 = .ok (.sipush 255, 3) := by decide +kernel
theorem dJ2_inflate_0e8fd_31 : decode cJ2_inflate_0e8fd 31 = .ok (.iand, 1) := by decide +kernel
theorem dJ2_inflate_0e8fd_32 : decode cJ2_inflate_0e8fd 32 = .ok (.invokestatic 111, 3) := by decide +kernel
theorem dJ2_inflate_0e8fd_35 : decode cJ2_inflate_0e8fd 35 = .ok (.iinc 5 1, 3) := by decide +kernel
theorem dJ2_inflate_0e8fd_38 : decode cJ2_inflate_0e8fd 38 = .ok (.goto (-28), 3) := by decide +kernel
theorem dJ2_inflate_0e8fd_41 : decode cJ2_inflate_0e8fd 41 = .ok (.return_, 1) := by decide +kernel
theorem dJ2_getChars_ba4f3_0 : decode cJ2_getChars_ba4f3 0 = .ok (.iload_n 1, 1) := by decide +kernel
theorem dJ2_getChars_ba4f3_1 : decode cJ2_getChars_ba4f3 1 = .ok (.istore 5, 2) := by decide +kernel
theorem dJ2_getChars_ba4f3_3 : decode cJ2_getChars_ba4f3 3 = .ok (.iload_n 0, 1) := by decide +kernel
theorem dJ2_getChars_ba4f3_4 : decode cJ2_getChars_ba4f3 4 = .ok (.ifCond .ge 7, 3) := by decide +kernel
theorem dJ2_getChars_ba4f3_7 : decode cJ2_getChars_ba4f3 7 = .ok (.iconst 1, 1) := by decide +kernel
theorem dJ2_getChars_ba4f3_8 : decode cJ2_getChars_ba4f3 8 = .ok (.goto 4, 3) := by decide +kernel
theorem dJ2_getChars_ba4f3_11 : decode cJ2_getChars_ba4f3 11 = .ok (.iconst 0, 1) := by decide +kernel
theorem dJ2_getChars_ba4f3_12 : decode cJ2_getChars_ba4f3 12 = .ok (.istore 6, 2) := by decide +kernel
theorem dJ2_getChars_ba4f3_14 : decode cJ2_getChars_ba4f3 14 = .ok (.iload 6, 2) := by decide +kernel
theorem dJ2_getChars_ba4f3_16 : decode cJ2_getChars_ba4f3 16 = .ok (.ifCond .ne 6, 3) := by decide +kernel
theorem dJ2_getChars_ba4f3_19 : decode cJ2_getChars_ba4f3 19 = .ok (.iload_n 0, 1) := by decide +kernel
theorem dJ2_getChars_ba4f3_20 : decode cJ2_getChars_ba4f3 20 = .ok (.ineg, 1) := by decide +kernel
theorem dJ2_getChars_ba4f3_21 : decode cJ2_getChars_ba4f3 21 = .ok (.istore_n 0, 1) := by decide +kernel
theorem dJ2_getChars_ba4f3_22 : decode cJ2_getChars_ba4f3 22 = .ok (.iload_n 0, 1) := by decide +kernel
theorem dJ2_getChars_ba4f3_23 : decode cJ2_getChars_ba4f3 23 = .ok (.bipush (-100), 2) := by decide +kernel
theorem dJ2_getChars_ba4f3_25 : decode cJ2_getChars_ba4f3 25 = .ok (.if_icmp .gt 51, 3) := by decide +kernel
theorem dJ2_getChars_ba4f3_28 : decode cJ2_getChars_ba4f3 28 = .ok (.iload_n 0, 1) := by decide +kernel
theorem dJ2_getChars_ba4f3_29 : decode cJ2_getChars_ba4f3 29 = .ok (.bipush 100, 2) := by decide +kernel
theorem dJ2_getChars_ba4f3_31 : decode cJ2_getChars_ba4f3 31 = .ok (.idiv, 1) := by decide +kernel
theorem dJ2_getChars_ba4f3_32 : decode cJ2_getChars_ba4f3 32 = .ok (.istore_n 3, 1) := by decide +kernel
theorem dJ2_getChars_ba4f3_33 : decode cJ2_getChars_ba4f3 33 = .ok (.iload_n 3, 1) := by decide +kernel
theorem dJ2_getChars_ba4f3_34 : decode cJ2_getChars_ba4f3 34 = .ok (.bipush 100, 2) := by decide +kernel
theorem dJ2_getChars_ba4f3_36 : decode cJ2_getChars_ba4f3 36 = .ok (.imul, 1) := by decide +kernel
theorem dJ2_getChars_ba4f3_37 : decode cJ2_getChars_ba4f3 37 = .ok (.iload_n 0, 1) := by decide +kernel
theorem dJ2_getChars_ba4f3_38 : decode cJ2_getChars_ba4f3 38 = .ok (.isub, 1) := by decide +kernel
theorem dJ2_getChars_ba4f3_39 : decode cJ2_getChars_ba4f3 39 = .ok (.istore 4, 2) := by decide +kernel
theorem dJ2_getChars_ba4f3_41 : decode cJ2_getChars_ba4f3 41 = .ok (.iload_n 3, 1) := by decide +kernel
theorem dJ2_getChars_ba4f3_42 : decode cJ2_getChars_ba4f3 42 = .ok (.istore_n 0, 1) := by decide +kernel
theorem dJ2_getChars_ba4f3_43 : decode cJ2_getChars_ba4f3 43 = .ok (.aload_n 2, 1) := by decide +kernel
theorem dJ2_getChars_ba4f3_44 : decode cJ2_getChars_ba4f3 44 = .ok (.iinc 5 (-1), 3) := by decide +kernel
theorem dJ2_getChars_ba4f3_47 : decode cJ2_getChars_ba4f3 47 = .ok (.iload 5, 2) := by decide +kernel
theorem dJ2_getChars_ba4f3_49 : decode cJ2_getChars_ba4f3 49 = .ok (.getstatic 403, 3) := by decide +kernel
theorem dJ2_getChars_ba4f3_52 : decode cJ2_getChars_ba4f3 52 = .ok (.iload 4, 2) := by decide +kernel
theorem dJ2_getChars_ba4f3_54 : decode cJ2_getChars_ba4f3 54 = .ok (.baload, 1) := by decide +kernel
theorem dJ2_getChars_ba4f3_55 : decode cJ2_getChars_ba4f3 55 = .ok (.invokestatic 111, 3) := by decide +kernel
theorem dJ2_getChars_ba4f3_58 : decode cJ2_getChars_ba4f3 58 = .ok (.aload_n 2, 1) := by decide +kernel
theorem dJ2_getChars_ba4f3_59 : decode cJ2_getChars_ba4f3 59 = .ok (.iinc 5 (-1), 3) := by decide +kernel
theorem dJ2_getChars_ba4f3_62 : decode cJ2_getChars_ba4f3 62 = .ok (.iload 5, 2) := by decide +kernel
theorem dJ2_getChars_ba4f3_64 : decode cJ2_getChars_ba4f3 64 = .ok (.getstatic 407, 3) := by decide +kernel
theorem dJ2_getChars_ba4f3_67 : decode cJ2_getChars_ba4f3 67 = .ok (.iload 4, 2) := by decide +kernel
theorem dJ2_getChars_ba4f3_69 : decode cJ2_getChars_ba4f3 69 = .ok (.baload, 1) := by decide +kernel
theorem dJ2_getChars_ba4f3_70 : decode cJ2_getChars_ba4f3 70 = .ok (.invokestatic 111, 3) := by decide +kernel
theorem dJ2_getChars_ba4f3_73 : decode cJ2_getChars_ba4f3 73 = .ok (.goto (-51), 3) := by decide +kernel
theorem dJ2_getChars_ba4f3_76 : decode cJ2_getChars_ba4f3 76 = .ok (.aload_n 2, 1) := by decide +kernel
theorem dJ2_getChars_ba4f3_77 : decode cJ2_getChars_ba4f3 77 = .ok (.iinc 5 (-1), 3) := by decide +kernel
theorem dJ2_getChars_ba4f3_80 : decode cJ2_getChars_ba4f3 80 = .ok (.iload 5, 2) := by decide +kernel
theorem dJ2_getChars_ba4f3_82 : decode cJ2_getChars_ba4f3 82 = .ok (.getstatic 403, 3) := by decide +kernel
theorem dJ2_getChars_ba4f3_85 : decode cJ2_getChars_ba4f3 85 = .ok (.iload_n 0, 1) := by decide +kernel
theorem dJ2_getChars_ba4f3_86 : decode cJ2_getChars_ba4f3 86 = .ok (.ineg, 1) := by decide +kernel
theorem dJ2_getChars_ba4f3_87 : decode cJ2_getChars_ba4f3 87 = .ok (.baload, 1) := by decide +kernel
theorem dJ2_getChars_ba4f3_88 : decode cJ2_getChars_ba4f3 88 = .ok (.invokestatic 111, 3) := by decide +kernel
theorem dJ2_getChars_ba4f3_91 : decode cJ2_getChars_ba4f3 91 = .ok (.iload_n 0, 1) := by decide +kernel
theorem dJ2_getChars_ba4f3_92 : decode cJ2_getChars_ba4f3 92 = .ok (.bipush (-9), 2) := by decide +kernel
theorem dJ2_getChars_ba4f3_94 : decode cJ2_getChars_ba4f3 94 = .ok (.if_icmp .ge 18, 3) := by decide +kernel
theorem dJ2_getChars_ba4f3_97 : decode cJ2_getChars_ba4f3 97 = .ok (.aload_n 2, 1) := by decide +kernel
theorem dJ2_getChars_ba4f3_98 : decode cJ2_getChars_ba4f3 98 = .ok (.iinc 5 (-1), 3) := by decide +kernel
theorem dJ2_getChars_ba4f3_101 : decode cJ2_getChars_ba4f3 101 = .ok (.iload 5, 2) := by decide +kernel
theorem dJ2_getChars_ba4f3_103 : decode cJ2_getChars_ba4f3 103 = .ok (.getstatic 407, 3) := by decide +kernel
theorem dJ2_getChars_ba4f3_106 : decode cJ2_getChars_ba4f3 106 = .ok (.iload_n 0, 1) := by decide +kernel
theorem dJ2_getChars_ba4f3_107 : decode cJ2_getChars_ba4f3 107 = .ok (.ineg, 1) := by decide +kernel
theorem dJ2_getChars_ba4f3_108 : decode cJ2_getChars_ba4f3 108 = .ok (.baload, 1) := by decide +kernel
theorem dJ2_getChars_ba4f3_109 : decode cJ2_getChars_ba4f3 109 = .ok (.invokestatic 111, 3) := by decide +kernel
theorem dJ2_getChars_ba4f3_112 : decode cJ2_getChars_ba4f3 112 = .ok (.iload 6, 2) := by decide +kernel
theorem dJ2_getChars_ba4f3_114 : decode cJ2_getChars_ba4f3 114 = .ok (.ifCond .eq 14, 3) := by decide +kernel
theorem dJ2_getChars_ba4f3_117 : decode cJ2_getChars_ba4f3 117 = .ok (.aload_n 2, 1) := by decide +kernel
theorem dJ2_getChars_ba4f3_118 : decode cJ2_getChars_ba4f3 118 = .ok (.iinc 5 (-1), 3) := by decide +kernel
theorem dJ2_getChars_ba4f3_121 : decode cJ2_getChars_ba4f3 121 = .ok (.iload 5, 2) := by decide +kernel
theorem dJ2_getChars_ba4f3_123 : decode cJ2_getChars_ba4f3 123 = .ok (.bipush 45, 2) := by decide +kernel
theorem dJ2_getChars_ba4f3_125 : decode cJ2_getChars_ba4f3 125 = .ok (.invokestatic 111, 3) := by decide +kernel
theorem dJ2_getChars_ba4f3_128 : decode cJ2_getChars_ba4f3 128 = .ok (.iload 5, 2) := by decide +kernel
theorem dJ2_getChars_ba4f3_130 : decode cJ2_getChars_ba4f3 130 = .ok (.ireturn, 1) := by decide +kernel
theorem dJ2_checkIndex_2214a_0 : decode cJ2_checkIndex_2214a 0 = .ok (.iload_n 0, 1) := by decide +kernel
theorem dJ2_checkIndex_2214a_1 : decode cJ2_checkIndex_2214a 1 = .ok (.aload_n 1, 1) := by decide +kernel
theorem dJ2_checkIndex_2214a_2 : decode cJ2_checkIndex_2214a 2 = .ok (.invokestatic 48, 3) := by decide +kernel
theorem dJ2_checkIndex_2214a_5 : decode cJ2_checkIndex_2214a 5 = .ok (.invokestatic 414, 3) := by decide +kernel
theorem dJ2_checkIndex_2214a_8 : decode cJ2_checkIndex_2214a 8 = .ok (.return_, 1) := by decide +kernel
theorem dJ2_checkBoundsBeginEnd_d044e_0 : decode cJ2_checkBoundsBeginEnd_d044e 0 = .ok (.iload_n 0, 1) := by decide +kernel
theorem dJ2_checkBoundsBeginEnd_d044e_1 : decode cJ2_checkBoundsBeginEnd_d044e 1 = .ok (.iload_n 1, 1) := by decide +kernel
theorem dJ2_checkBoundsBeginEnd_d044e_2 : decode cJ2_checkBoundsBeginEnd_d044e 2 = .ok (.aload_n 2, 1) := by decide +kernel
theorem dJ2_checkBoundsBeginEnd_d044e_3 : decode cJ2_checkBoundsBeginEnd_d044e 3 = .ok (.invokestatic 48, 3) := by decide +kernel
theorem dJ2_checkBoundsBeginEnd_d044e_6 : decode cJ2_checkBoundsBeginEnd_d044e 6 = .ok (.invokestatic 241, 3) := by decide +kernel
theorem dJ2_checkBoundsBeginEnd_d044e_9 : decode cJ2_checkBoundsBeginEnd_d044e 9 = .ok (.return_, 1) := by decide +kernel
theorem dJ2_checkBoundsOffCount_d044e_0 : decode cJ2_checkBoundsOffCount_d044e 0 = .ok (.iload_n 0, 1) := by decide +kernel
theorem dJ2_checkBoundsOffCount_d044e_1 : decode cJ2_checkBoundsOffCount_d044e 1 = .ok (.iload_n 1, 1) := by decide +kernel
theorem dJ2_checkBoundsOffCount_d044e_2 : decode cJ2_checkBoundsOffCount_d044e 2 = .ok (.aload_n 2, 1) := by decide +kernel
theorem dJ2_checkBoundsOffCount_d044e_3 : decode cJ2_checkBoundsOffCount_d044e 3 = .ok (.invokestatic 48, 3) := by decide +kernel
theorem dJ2_checkBoundsOffCount_d044e_6 : decode cJ2_checkBoundsOffCount_d044e 6 = .ok (.invokestatic 419, 3) := by decide +kernel
theorem dJ2_checkBoundsOffCount_d044e_9 : decode cJ2_checkBoundsOffCount_d044e 9 = .ok (.pop, 1) := by decide +kernel
theorem dJ2_checkBoundsOffCount_d044e_10 : decode cJ2_checkBoundsOffCount_d044e 10 = .ok (.return_, 1) := by decide +kernel
theorem dJxa1e45_init_da8c8_0 : decode cJxa1e45_init_da8c8 0 = .ok (.aload_n 0, 1) := by decide +kernel
theorem dJxa1e45_init_da8c8_1 : decode cJxa1e45_init_da8c8 1 = .ok (.invokespecial 1, 3) := by decide +kernel
theorem dJxa1e45_init_da8c8_4 : decode cJxa1e45_init_da8c8 4 = .ok (.return_, 1) := by decide +kernel
theorem dJxc12de_init_da8c8_0 : decode cJxc12de_init_da8c8 0 = .ok (.aload_n 0, 1) := by decide +kernel
theorem dJxc12de_init_da8c8_1 : decode cJxc12de_init_da8c8 1 = .ok (.invokespecial 1, 3) := by decide +kernel
theorem dJxc12de_init_da8c8_4 : decode cJxc12de_init_da8c8 4 = .ok (.aload_n 0, 1) := by decide +kernel
theorem dJxc12de_init_da8c8_5 : decode cJxc12de_init_da8c8 5 = .ok (.iconst 0, 1) := by decide +kernel
theorem dJxc12de_init_da8c8_6 : decode cJxc12de_init_da8c8 6 = .ok (.putfield 7, 3) := by decide +kernel
theorem dJxc12de_init_da8c8_9 : decode cJxc12de_init_da8c8 9 = .ok (.return_, 1) := by decide +kernel
theorem dJx4a65c_init_da8c8_0 : decode cJx4a65c_init_da8c8 0 = .ok (.aload_n 0, 1) := by decide +kernel
theorem dJx4a65c_init_da8c8_1 : decode cJx4a65c_init_da8c8 1 = .ok (.invokespecial 1, 3) := by decide +kernel
theorem dJx4a65c_init_da8c8_4 : decode cJx4a65c_init_da8c8 4 = .ok (.aload_n 0, 1) := by decide +kernel
theorem dJx4a65c_init_da8c8_5 : decode cJx4a65c_init_da8c8 5 = .ok (.getstatic 39, 3) := by decide +kernel
theorem dJx4a65c_init_da8c8_8 : decode cJx4a65c_init_da8c8 8 = .ok (.putfield 9, 3) := by decide +kernel
theorem dJx4a65c_init_da8c8_11 : decode cJx4a65c_init_da8c8 11 = .ok (.return_, 1) := by decide +kernel
theorem dJx4a65c_grow_92f84_0 : decode cJx4a65c_grow_92f84 0 = .ok (.aload_n 0, 1) := by decide +kernel
theorem dJx4a65c_grow_92f84_1 : decode cJx4a65c_grow_92f84 1 = .ok (.getfield 9, 3) := by decide +kernel
theorem dJx4a65c_grow_92f84_4 : decode cJx4a65c_grow_92f84 4 = .ok (.arraylength, 1) := by decide +kernel
theorem dJx4a65c_grow_92f84_5 : decode cJx4a65c_grow_92f84 5 = .ok (.istore_n 2, 1) := by decide +kernel
theorem dJx4a65c_grow_92f84_6 : decode cJx4a65c_grow_92f84 6 = .ok (.iload_n 2, 1) := by decide +kernel
theorem dJx4a65c_grow_92f84_7 : decode cJx4a65c_grow_92f84 7 = .ok (.ifCond .gt 13, 3) := by decide +kernel
theorem dJx4a65c_grow_92f84_10 : decode cJx4a65c_grow_92f84 10 = .ok (.aload_n 0, 1) := by decide +kernel
theorem dJx4a65c_grow_92f84_11 : decode cJx4a65c_grow_92f84 11 = .ok (.getfield 9, 3) := by decide +kernel
theorem dJx4a65c_grow_92f84_14 : decode cJx4a65c_grow_92f84 14 = .ok (.getstatic 39, 3) := by decide +kernel
theorem dJx4a65c_grow_92f84_17 : decode cJx4a65c_grow_92f84 17 = .ok (.if_acmp .eq 28, 3) := by decide +kernel
theorem dJx4a65c_grow_92f84_20 : decode cJx4a65c_grow_92f84 20 = .ok (.iload_n 2, 1) := by decide +kernel
theorem dJx4a65c_grow_92f84_21 : decode cJx4a65c_grow_92f84 21 = .ok (.iload_n 1, 1) := by decide +kernel
theorem dJx4a65c_grow_92f84_22 : decode cJx4a65c_grow_92f84 22 = .ok (.iload_n 2, 1) := by decide +kernel
theorem dJx4a65c_grow_92f84_23 : decode cJx4a65c_grow_92f84 23 = .ok (.isub, 1) := by decide +kernel
theorem dJx4a65c_grow_92f84_24 : decode cJx4a65c_grow_92f84 24 = .ok (.iload_n 2, 1) := by decide +kernel
theorem dJx4a65c_grow_92f84_25 : decode cJx4a65c_grow_92f84 25 = .ok (.iconst 1, 1) := by decide +kernel
theorem dJx4a65c_grow_92f84_26 : decode cJx4a65c_grow_92f84 26 = .ok (.ishr, 1) := by decide +kernel
theorem dJx4a65c_grow_92f84_27 : decode cJx4a65c_grow_92f84 27 = .ok (.invokestatic 73, 3) := by decide +kernel
theorem dJx4a65c_grow_92f84_30 : decode cJx4a65c_grow_92f84 30 = .ok (.istore_n 3, 1) := by decide +kernel
theorem dJx4a65c_grow_92f84_31 : decode cJx4a65c_grow_92f84 31 = .ok (.aload_n 0, 1) := by decide +kernel
theorem dJx4a65c_grow_92f84_32 : decode cJx4a65c_grow_92f84 32 = .ok (.aload_n 0, 1) := by decide +kernel
theorem dJx4a65c_grow_92f84_33 : decode cJx4a65c_grow_92f84 33 = .ok (.getfield 9, 3) := by decide +kernel
theorem dJx4a65c_grow_92f84_36 : decode cJx4a65c_grow_92f84 36 = .ok (.iload_n 3, 1) := by decide +kernel
theorem dJx4a65c_grow_92f84_37 : decode cJx4a65c_grow_92f84 37 = .ok (.invokestatic 66, 3) := by decide +kernel
theorem dJx4a65c_grow_92f84_40 : decode cJx4a65c_grow_92f84 40 = .ok (.dup_x1, 1) := by decide +kernel
theorem dJx4a65c_grow_92f84_41 : decode cJx4a65c_grow_92f84 41 = .ok (.putfield 9, 3) := by decide +kernel
theorem dJx4a65c_grow_92f84_44 : decode cJx4a65c_grow_92f84 44 = .ok (.areturn, 1) := by decide +kernel
theorem dJx4a65c_grow_92f84_45 : decode cJx4a65c_grow_92f84 45 = .ok (.aload_n 0, 1) := by decide +kernel
theorem dJx4a65c_grow_92f84_46 : decode cJx4a65c_grow_92f84 46 = .ok (.bipush 10, 2) := by decide +kernel
theorem dJx4a65c_grow_92f84_48 : decode cJx4a65c_grow_92f84 48 = .ok (.iload_n 1, 1) := by decide +kernel
theorem dJx4a65c_grow_92f84_49 : decode cJx4a65c_grow_92f84 49 = .ok (.invokestatic 79, 3) := by decide +kernel
theorem dJx4a65c_grow_92f84_52 : decode cJx4a65c_grow_92f84 52 = .ok (.anewarray 7, 3) := by decide +kernel
theorem dJx4a65c_grow_92f84_55 : decode cJx4a65c_grow_92f84 55 = .ok (.dup_x1, 1) := by decide +kernel
theorem dJx4a65c_grow_92f84_56 : decode cJx4a65c_grow_92f84 56 = .ok (.putfield 9, 3) := by decide +kernel
theorem dJx4a65c_grow_92f84_59 : decode cJx4a65c_grow_92f84 59 = .ok (.areturn, 1) := by decide +kernel
theorem dJx4a65c_grow_d5877_0 : decode cJx4a65c_grow_d5877 0 = .ok (.aload_n 0, 1) := by decide +kernel
theorem dJx4a65c_grow_d5877_1 : decode cJx4a65c_grow_d5877 1 = .ok (.aload_n 0, 1) := by decide +kernel
theorem dJx4a65c_grow_d5877_2 : decode cJx4a65c_grow_d5877 2 = .ok (.getfield 48, 3) := by decide +kernel
theorem dJx4a65c_grow_d5877_5 : decode cJx4a65c_grow_d5877 5 = .ok (.iconst 1, 1) := by decide +kernel
theorem dJx4a65c_grow_d5877_6 : decode cJx4a65c_grow_d5877 6 = .ok (.iadd, 1) := by decide +kernel
theorem dJx4a65c_grow_d5877_7 : decode cJx4a65c_grow_d5877 7 = .ok (.invokevirtual 69, 3) := by decide +kernel
theorem dJx4a65c_grow_d5877_10 : decode cJx4a65c_grow_d5877 10 = .ok (.areturn, 1) := by decide +kernel
theorem dJx4a65c_size_8abf5_0 : decode cJx4a65c_size_8abf5 0 = .ok (.aload_n 0, 1) := by decide +kernel
theorem dJx4a65c_size_8abf5_1 : decode cJx4a65c_size_8abf5 1 = .ok (.getfield 48, 3) := by decide +kernel
theorem dJx4a65c_size_8abf5_4 : decode cJx4a65c_size_8abf5 4 = .ok (.ireturn, 1) := by decide +kernel
theorem dJx4a65c_elementData_915e3_0 : decode cJx4a65c_elementData_915e3 0 = .ok (.aload_n 0, 1) := by decide +kernel
theorem dJx4a65c_elementData_915e3_1 : decode cJx4a65c_elementData_915e3 1 = .ok (.getfield 9, 3) := by decide +kernel
theorem dJx4a65c_elementData_915e3_4 : decode cJx4a65c_elementData_915e3 4 = .ok (.iload_n 1, 1) := by decide +kernel
theorem dJx4a65c_elementData_915e3_5 : decode cJx4a65c_elementData_915e3 5 = .ok (.aaload, 1) := by decide +kernel
theorem dJx4a65c_elementData_915e3_6 : decode cJx4a65c_elementData_915e3 6 = .ok (.areturn, 1) := by decide +kernel
theorem dJx4a65c_get_915e3_0 : decode cJx4a65c_get_915e3 0 = .ok (.iload_n 1, 1) := by decide +kernel
theorem dJx4a65c_get_915e3_1 : decode cJx4a65c_get_915e3 1 = .ok (.aload_n 0, 1) := by decide +kernel
theorem dJx4a65c_get_915e3_2 : decode cJx4a65c_get_915e3 2 = .ok (.getfield 48, 3) := by decide +kernel
theorem dJx4a65c_get_915e3_5 : decode cJx4a65c_get_915e3 5 = .ok (.invokestatic 118, 3) := by decide +kernel
theorem dJx4a65c_get_915e3_8 : decode cJx4a65c_get_915e3 8 = .ok (.pop, 1) := by decide +kernel
theorem dJx4a65c_get_915e3_9 : decode cJx4a65c_get_915e3 9 = .ok (.aload_n 0, 1) := by decide +kernel
theorem dJx4a65c_get_915e3_10 : decode cJx4a65c_get_915e3 10 = .ok (.iload_n 1, 1) := by decide +kernel
theorem dJx4a65c_get_915e3_11 : decode cJx4a65c_get_915e3 11 = .ok (.invokevirtual 123, 3) := by decide +kernel
theorem dJx4a65c_get_915e3_14 : decode cJx4a65c_get_915e3 14 = .ok (.areturn, 1) := by decide +kernel
theorem dJx4a65c_add_72be8_0 : decode cJx4a65c_add_72be8 0 = .ok (.iload_n 3, 1) := by decide +kernel
theorem dJx4a65c_add_72be8_1 : decode cJx4a65c_add_72be8 1 = .ok (.aload_n 2, 1) := by decide +kernel
theorem dJx4a65c_add_72be8_2 : decode cJx4a65c_add_72be8 2 = .ok (.arraylength, 1) := by decide +kernel
theorem dJx4a65c_add_72be8_3 : decode cJx4a65c_add_72be8 3 = .ok (.if_icmp .ne 8, 3) := by decide +kernel
theorem dJx4a65c_add_72be8_6 : decode cJx4a65c_add_72be8 6 = .ok (.aload_n 0, 1) := by decide +kernel
theorem dJx4a65c_add_72be8_7 : decode cJx4a65c_add_72be8 7 = .ok (.invokevirtual 129, 3) := by decide +kernel
theorem dJx4a65c_add_72be8_10 : decode cJx4a65c_add_72be8 10 = .ok (.astore_n 2, 1) := by decide +kernel
theorem dJx4a65c_add_72be8_11 : decode cJx4a65c_add_72be8 11 = .ok (.aload_n 2, 1) := by decide +kernel
theorem dJx4a65c_add_72be8_12 : decode cJx4a65c_add_72be8 12 = .ok (.iload_n 3, 1) := by decide +kernel
theorem dJx4a65c_add_72be8_13 : decode cJx4a65c_add_72be8 13 = .ok (.aload_n 1, 1) := by decide +kernel
theorem dJx4a65c_add_72be8_14 : decode cJx4a65c_add_72be8 14 = .ok (.aastore, 1) := by decide +kernel
theorem dJx4a65c_add_72be8_15 : decode cJx4a65c_add_72be8 15 = .ok (.aload_n 0, 1) := by decide +kernel
theorem dJx4a65c_add_72be8_16 : decode cJx4a65c_add_72be8 16 = .ok (.iload_n 3, 1) := by decide +kernel
theorem dJx4a65c_add_72be8_17 : decode cJx4a65c_add_72be8 17 = .ok (.iconst 1, 1) := by decide +kernel
theorem dJx4a65c_add_72be8_18 : decode cJx4a65c_add_72be8 18 = .ok (.iadd, 1) := by decide +kernel
theorem dJx4a65c_add_72be8_19 : decode cJx4a65c_add_72be8 19 = .ok (.putfield 48, 3) := by decide +kernel
theorem dJx4a65c_add_72be8_22 : decode cJx4a65c_add_72be8 22 = .ok (.return_, 1) := by decide +kernel
theorem dJx4a65c_add_9ea2d_0 : decode cJx4a65c_add_9ea2d 0 = .ok (.aload_n 0, 1) := by decide +kernel
theorem dJx4a65c_add_9ea2d_1 : decode cJx4a65c_add_9ea2d 1 = .ok (.dup, 1) := by decide +kernel
theorem dJx4a65c_add_9ea2d_2 : decode cJx4a65c_add_9ea2d 2 = .ok (.getfield 63, 3) := by decide +kernel
theorem dJx4a65c_add_9ea2d_5 : decode cJx4a65c_add_9ea2d 5 = .ok (.iconst 1, 1) := by decide +kernel
theorem dJx4a65c_add_9ea2d_6 : decode cJx4a65c_add_9ea2d 6 = .ok (.iadd, 1) := by decide +kernel
theorem dJx4a65c_add_9ea2d_7 : decode cJx4a65c_add_9ea2d 7 = .ok (.putfield 63, 3) := by decide +kernel
theorem dJx4a65c_add_9ea2d_10 : decode cJx4a65c_add_9ea2d 10 = .ok (.aload_n 0, 1) := by decide +kernel
theorem dJx4a65c_add_9ea2d_11 : decode cJx4a65c_add_9ea2d 11 = .ok (.aload_n 1, 1) := by decide +kernel
theorem dJx4a65c_add_9ea2d_12 : decode cJx4a65c_add_9ea2d 12 = .ok (.aload_n 0, 1) := by decide +kernel
theorem dJx4a65c_add_9ea2d_13 : decode cJx4a65c_add_9ea2d 13 = .ok (.getfield 9, 3) := by decide +kernel
theorem dJx4a65c_add_9ea2d_16 : decode cJx4a65c_add_9ea2d 16 = .ok (.aload_n 0, 1) := by decide +kernel
theorem dJx4a65c_add_9ea2d_17 : decode cJx4a65c_add_9ea2d 17 = .ok (.getfield 48, 3) := by decide +kernel
theorem dJx4a65c_add_9ea2d_20 : decode cJx4a65c_add_9ea2d 20 = .ok (.invokevirtual 131, 3) := by decide +kernel
theorem dJx4a65c_add_9ea2d_23 : decode cJx4a65c_add_9ea2d 23 = .ok (.iconst 1, 1) := by decide +kernel
theorem dJx4a65c_add_9ea2d_24 : decode cJx4a65c_add_9ea2d 24 = .ok (.ireturn, 1) := by decide +kernel
theorem dJ7_copyOf_1904c_0 : decode cJ7_copyOf_1904c 0 = .ok (.aload_n 0, 1) := by decide +kernel
theorem dJ7_copyOf_1904c_1 : decode cJ7_copyOf_1904c 1 = .ok (.iload_n 1, 1) := by decide +kernel
theorem dJ7_copyOf_1904c_2 : decode cJ7_copyOf_1904c 2 = .ok (.aload_n 0, 1) := by decide +kernel
theorem dJ7_copyOf_1904c_3 : decode cJ7_copyOf_1904c 3 = .ok (.invokevirtual 86, 3) := by decide +kernel
theorem dJ7_copyOf_1904c_6 : decode cJ7_copyOf_1904c 6 = .ok (.invokestatic 300, 3) := by decide +kernel
theorem dJ7_copyOf_1904c_9 : decode cJ7_copyOf_1904c 9 = .ok (.areturn, 1) := by decide +kernel
theorem dJ7_copyOf_6403c_0 : decode cJ7_copyOf_6403c 0 = .ok (.aload_n 2, 1) := by decide +kernel
theorem dJ7_copyOf_6403c_1 : decode cJ7_copyOf_6403c 1 = .ok (.ldc 110, 2) := by decide +kernel
theorem dJ7_copyOf_6403c_3 : decode cJ7_copyOf_6403c 3 = .ok (.if_acmp .ne 10, 3) := by decide +kernel
theorem dJ7_copyOf_6403c_6 : decode cJ7_copyOf_6403c 6 = .ok (.iload_n 1, 1) := by decide +kernel
theorem dJ7_copyOf_6403c_7 : decode cJ7_copyOf_6403c 7 = .ok (.anewarray 2, 3) := by decide +kernel
theorem dJ7_copyOf_6403c_10 : decode cJ7_copyOf_6403c 10 = .ok (.goto 14, 3) := by decide +kernel
theorem dJ7_copyOf_6403c_13 : decode cJ7_copyOf_6403c 13 = .ok (.aload_n 2, 1) := by decide +kernel
theorem dJ7_copyOf_6403c_14 : decode cJ7_copyOf_6403c 14 = .ok (.invokevirtual 90, 3) := by decide +kernel
theorem dJ7_copyOf_6403c_17 : decode cJ7_copyOf_6403c 17 = .ok (.iload_n 1, 1) := by decide +kernel
theorem dJ7_copyOf_6403c_18 : decode cJ7_copyOf_6403c 18 = .ok (.invokestatic 95, 3) := by decide +kernel
theorem dJ7_copyOf_6403c_21 : decode cJ7_copyOf_6403c 21 = .ok (.checkcast 110, 3) := by decide +kernel
theorem dJ7_copyOf_6403c_24 : decode cJ7_copyOf_6403c 24 = .ok (.astore_n 3, 1) := by decide +kernel
theorem dJ7_copyOf_6403c_25 : decode cJ7_copyOf_6403c 25 = .ok (.aload_n 0, 1) := by decide +kernel
theorem dJ7_copyOf_6403c_26 : decode cJ7_copyOf_6403c 26 = .ok (.iconst 0, 1) := by decide +kernel
theorem dJ7_copyOf_6403c_27 : decode cJ7_copyOf_6403c 27 = .ok (.aload_n 3, 1) := by decide +kernel
theorem dJ7_copyOf_6403c_28 : decode cJ7_copyOf_6403c 28 = .ok (.iconst 0, 1) := by decide +kernel
theorem dJ7_copyOf_6403c_29 : decode cJ7_copyOf_6403c 29 = .ok (.aload_n 0, 1) := by decide +kernel
theorem dJ7_copyOf_6403c_30 : decode cJ7_copyOf_6403c 30 = .ok (.arraylength, 1) := by decide +kernel
theorem dJ7_copyOf_6403c_31 : decode cJ7_copyOf_6403c 31 = .ok (.iload_n 1, 1) := by decide +kernel
theorem dJ7_copyOf_6403c_32 : decode cJ7_copyOf_6403c 32 = .ok (.invokestatic 304, 3) := by decide +kernel
theorem dJ7_copyOf_6403c_35 : decode cJ7_copyOf_6403c 35 = .ok (.invokestatic 150, 3) := by decide +kernel
theorem dJ7_copyOf_6403c_38 : decode cJ7_copyOf_6403c 38 = .ok (.aload_n 3, 1) := by decide +kernel
theorem dJ7_copyOf_6403c_39 : decode cJ7_copyOf_6403c 39 = .ok (.areturn, 1) := by decide +kernel
theorem dJ7_copyOf_9075b_0 : decode cJ7_copyOf_9075b 0 = .ok (.iload_n 1, 1) := by decide +kernel
theorem dJ7_copyOf_9075b_1 : decode cJ7_copyOf_9075b 1 = .ok (.aload_n 0, 1) := by decide +kernel
theorem dJ7_copyOf_9075b_2 : decode cJ7_copyOf_9075b 2 = .ok (.arraylength, 1) := by decide +kernel
theorem dJ7_copyOf_9075b_3 : decode cJ7_copyOf_9075b 3 = .ok (.if_icmp .ne 11, 3) := by decide +kernel
theorem dJ7_copyOf_9075b_6 : decode cJ7_copyOf_9075b 6 = .ok (.aload_n 0, 1) := by decide +kernel
theorem dJ7_copyOf_9075b_7 : decode cJ7_copyOf_9075b 7 = .ok (.invokevirtual 310, 3) := by decide +kernel
theorem dJ7_copyOf_9075b_10 : decode cJ7_copyOf_9075b 10 = .ok (.checkcast 311, 3) := by decide +kernel
theorem dJ7_copyOf_9075b_13 : decode cJ7_copyOf_9075b 13 = .ok (.areturn, 1) := by decide +kernel
theorem dJ7_copyOf_9075b_14 : decode cJ7_copyOf_9075b 14 = .ok (.iload_n 1, 1) := by decide +kernel
theorem dJ7_copyOf_9075b_15 : decode cJ7_copyOf_9075b 15 = .ok (.newarray .byte, 2) := by decide +kernel
theorem dJ7_copyOf_9075b_17 : decode cJ7_copyOf_9075b 17 = .ok (.astore_n 2, 1) := by decide +kernel
theorem dJ7_copyOf_9075b_18 : decode cJ7_copyOf_9075b 18 = .ok (.aload_n 0, 1) := by decide +kernel
theorem dJ7_copyOf_9075b_19 : decode cJ7_copyOf_9075b 19 = .ok (.iconst 0, 1) := by decide +kernel
theorem dJ7_copyOf_9075b_20 : decode cJ7_copyOf_9075b 20 = .ok (.aload_n 2, 1) := by decide +kernel
theorem dJ7_copyOf_9075b_21 : decode cJ7_copyOf_9075b 21 = .ok (.iconst 0, 1) := by decide +kernel
theorem dJ7_copyOf_9075b_22 : decode cJ7_copyOf_9075b 22 = .ok (.aload_n 0, 1) := by decide +kernel
theorem dJ7_copyOf_9075b_23 : decode cJ7_copyOf_9075b 23 = .ok (.arraylength, 1) := by decide +kernel
theorem dJ7_copyOf_9075b_24 : decode cJ7_copyOf_9075b 24 = .ok (.iload_n 1, 1) := by decide +kernel
theorem dJ7_copyOf_9075b_25 : decode cJ7_copyOf_9075b 25 = .ok (.invokestatic 304, 3) := by decide +kernel
theorem dJ7_copyOf_9075b_28 : decode cJ7_copyOf_9075b 28 = .ok (.invokestatic 150, 3) := by decide +kernel
theorem dJ7_copyOf_9075b_31 : decode cJ7_copyOf_9075b 31 = .ok (.aload_n 2, 1) := by decide +kernel
theorem dJ7_copyOf_9075b_32 : decode cJ7_copyOf_9075b 32 = .ok (.areturn, 1) := by decide +kernel
theorem dJ7_checkLength_df160_0 : decode cJ7_checkLength_df160 0 = .ok (.iload_n 1, 1) := by decide +kernel
theorem dJ7_checkLength_df160_1 : decode cJ7_checkLength_df160 1 = .ok (.iload_n 0, 1) := by decide +kernel
theorem dJ7_checkLength_df160_2 : decode cJ7_checkLength_df160 2 = .ok (.if_icmp .ge 35, 3) := by decide +kernel
theorem dJ7_checkLength_df160_5 : decode cJ7_checkLength_df160 5 = .ok (.new 43, 3) := by decide +kernel
theorem dJ7_checkLength_df160_8 : decode cJ7_checkLength_df160 8 = .ok (.dup, 1) := by decide +kernel
theorem dJ7_checkLength_df160_9 : decode cJ7_checkLength_df160 9 = .ok (.new 45, 3) := by decide +kernel
theorem dJ7_checkLength_df160_12 : decode cJ7_checkLength_df160 12 = .ok (.dup, 1) := by decide +kernel
theorem dJ7_checkLength_df160_13 : decode cJ7_checkLength_df160 13 = .ok (.invokespecial 47, 3) := by decide +kernel
theorem dJ7_checkLength_df160_16 : decode cJ7_checkLength_df160 16 = .ok (.iload_n 0, 1) := by decide +kernel
theorem dJ7_checkLength_df160_17 : decode cJ7_checkLength_df160 17 = .ok (.invokevirtual 54, 3) := by decide +kernel
theorem dJ7_checkLength_df160_20 : decode cJ7_checkLength_df160 20 = .ok (.ldc_w 337, 3) := by decide +kernel
theorem dJ7_checkLength_df160_23 : decode cJ7_checkLength_df160 23 = .ok (.invokevirtual 50, 3) := by decide +kernel
theorem dJ7_checkLength_df160_26 : decode cJ7_checkLength_df160 26 = .ok (.iload_n 1, 1) := by decide +kernel
theorem dJ7_checkLength_df160_27 : decode cJ7_checkLength_df160 27 = .ok (.invokevirtual 54, 3) := by decide +kernel
theorem dJ7_checkLength_df160_30 : decode cJ7_checkLength_df160 30 = .ok (.invokevirtual 61, 3) := by decide +kernel
theorem dJ7_checkLength_df160_33 : decode cJ7_checkLength_df160 33 = .ok (.invokespecial 65, 3) := by decide +kernel
theorem dJ7_checkLength_df160_36 : decode cJ7_checkLength_df160 36 = .ok (.athrow, 1) := by decide +kernel
theorem dJ7_checkLength_df160_37 : decode cJ7_checkLength_df160 37 = .ok (.return_, 1) := by decide +kernel
theorem dJ7_copyOfRange_39247_0 : decode cJ7_copyOfRange_39247 0 = .ok (.iload_n 1, 1) := by decide +kernel
theorem dJ7_copyOfRange_39247_1 : decode cJ7_copyOfRange_39247 1 = .ok (.ifCond .ne 9, 3) := by decide +kernel
theorem dJ7_copyOfRange_39247_4 : decode cJ7_copyOfRange_39247 4 = .ok (.iload_n 2, 1) := by decide +kernel
theorem dJ7_copyOfRange_39247_5 : decode cJ7_copyOfRange_39247 5 = .ok (.aload_n 0, 1) := by decide +kernel
theorem dJ7_copyOfRange_39247_6 : decode cJ7_copyOfRange_39247 6 = .ok (.arraylength, 1) := by decide +kernel
theorem dJ7_copyOfRange_39247_7 : decode cJ7_copyOfRange_39247 7 = .ok (.if_icmp .eq 10, 3) := by decide +kernel
theorem dJ7_copyOfRange_39247_10 : decode cJ7_copyOfRange_39247 10 = .ok (.aload_n 0, 1) := by decide +kernel
theorem dJ7_copyOfRange_39247_11 : decode cJ7_copyOfRange_39247 11 = .ok (.iload_n 1, 1) := by decide +kernel
theorem dJ7_copyOfRange_39247_12 : decode cJ7_copyOfRange_39247 12 = .ok (.iload_n 2, 1) := by decide +kernel
theorem dJ7_copyOfRange_39247_13 : decode cJ7_copyOfRange_39247 13 = .ok (.invokestatic 339, 3) := by decide +kernel
theorem dJ7_copyOfRange_39247_16 : decode cJ7_copyOfRange_39247 16 = .ok (.areturn, 1) := by decide +kernel
theorem dJ7_copyOfRange_39247_17 : decode cJ7_copyOfRange_39247 17 = .ok (.aload_n 0, 1) := by decide +kernel
theorem dJ7_copyOfRange_39247_18 : decode cJ7_copyOfRange_39247 18 = .ok (.invokevirtual 310, 3) := by decide +kernel
theorem dJ7_copyOfRange_39247_21 : decode cJ7_copyOfRange_39247 21 = .ok (.checkcast 311, 3) := by decide +kernel
theorem dJ7_copyOfRange_39247_24 : decode cJ7_copyOfRange_39247 24 = .ok (.areturn, 1) := by decide +kernel
theorem dJ7_copyOfRangeByte_39247_0 : decode cJ7_copyOfRangeByte_39247 0 = .ok (.iload_n 1, 1) := by decide +kernel
theorem dJ7_copyOfRangeByte_39247_1 : decode cJ7_copyOfRangeByte_39247 1 = .ok (.iload_n 2, 1) := by decide +kernel
theorem dJ7_copyOfRangeByte_39247_2 : decode cJ7_copyOfRangeByte_39247 2 = .ok (.invokestatic 343, 3) := by decide +kernel
theorem dJ7_copyOfRangeByte_39247_5 : decode cJ7_copyOfRangeByte_39247 5 = .ok (.iload_n 2, 1) := by decide +kernel
theorem dJ7_copyOfRangeByte_39247_6 : decode cJ7_copyOfRangeByte_39247 6 = .ok (.iload_n 1, 1) := by decide +kernel
theorem dJ7_copyOfRangeByte_39247_7 : decode cJ7_copyOfRangeByte_39247 7 = .ok (.isub, 1) := by decide +kernel
theorem dJ7_copyOfRangeByte_39247_8 : decode cJ7_copyOfRangeByte_39247 8 = .ok (.istore_n 3, 1) := by decide +kernel
theorem dJ7_copyOfRangeByte_39247_9 : decode cJ7_copyOfRangeByte_39247 9 = .ok (.iload_n 3, 1) := by decide +kernel
theorem dJ7_copyOfRangeByte_39247_10 : decode cJ7_copyOfRangeByte_39247 10 = .ok (.newarray .byte, 2) := by decide +kernel
theorem dJ7_copyOfRangeByte_39247_12 : decode cJ7_copyOfRangeByte_39247 12 = .ok (.astore 4, 2) := by decide +kernel
theorem dJ7_copyOfRangeByte_39247_14 : decode cJ7_copyOfRangeByte_39247 14 = .ok (.aload_n 0, 1) := by decide +kernel
theorem dJ7_copyOfRangeByte_39247_15 : decode cJ7_copyOfRangeByte_39247 15 = .ok (.iload_n 1, 1) := by decide +kernel
theorem dJ7_copyOfRangeByte_39247_16 : decode cJ7_copyOfRangeByte_39247 16 = .ok (.aload 4, 2) := by decide +kernel
theorem dJ7_copyOfRangeByte_39247_18 : decode cJ7_copyOfRangeByte_39247 18 = .ok (.iconst 0, 1) := by decide +kernel
theorem dJ7_copyOfRangeByte_39247_19 : decode cJ7_copyOfRangeByte_39247 19 = .ok (.aload_n 0, 1) := by decide +kernel
theorem dJ7_copyOfRangeByte_39247_20 : decode cJ7_copyOfRangeByte_39247 20 = .ok (.arraylength, 1) := by decide +kernel
theorem dJ7_copyOfRangeByte_39247_21 : decode cJ7_copyOfRangeByte_39247 21 = .ok (.iload_n 1, 1) := by decide +kernel
theorem dJ7_copyOfRangeByte_39247_22 : decode cJ7_copyOfRangeByte_39247 22 = .ok (.isub, 1) := by decide +kernel
theorem dJ7_copyOfRangeByte_39247_23 : decode cJ7_copyOfRangeByte_39247 23 = .ok (.iload_n 3, 1) := by decide +kernel
theorem dJ7_copyOfRangeByte_39247_24 : decode cJ7_copyOfRangeByte_39247 24 = .ok (.invokestatic 304, 3) := by decide +kernel
theorem dJ7_copyOfRangeByte_39247_27 : decode cJ7_copyOfRangeByte_39247 27 = .ok (.invokestatic 150, 3) := by decide +kernel
theorem dJ7_copyOfRangeByte_39247_30 : decode cJ7_copyOfRangeByte_39247 30 = .ok (.aload 4, 2) := by decide +kernel
theorem dJ7_copyOfRangeByte_39247_32 : decode cJ7_copyOfRangeByte_39247 32 = .ok (.areturn, 1) := by decide +kernel
theorem dJ15_checkIndex_7cf53_0 : decode cJ15_checkIndex_7cf53 0 = .ok (.iload_n 0, 1) := by decide +kernel
theorem dJ15_checkIndex_7cf53_1 : decode cJ15_checkIndex_7cf53 1 = .ok (.iload_n 1, 1) := by decide +kernel
theorem dJ15_checkIndex_7cf53_2 : decode cJ15_checkIndex_7cf53 2 = .ok (.aconst_null, 1) := by decide +kernel
theorem dJ15_checkIndex_7cf53_3 : decode cJ15_checkIndex_7cf53 3 = .ok (.invokestatic 105, 3) := by decide +kernel
theorem dJ15_checkIndex_7cf53_6 : decode cJ15_checkIndex_7cf53 6 = .ok (.ireturn, 1) := by decide +kernel
theorem dJ8_newLength_cabcc_0 : decode cJ8_newLength_cabcc 0 = .ok (.iload_n 0, 1) := by decide +kernel
theorem dJ8_newLength_cabcc_1 : decode cJ8_newLength_cabcc 1 = .ok (.iload_n 1, 1) := by decide +kernel
theorem dJ8_newLength_cabcc_2 : decode cJ8_newLength_cabcc 2 = .ok (.iload_n 2, 1) := by decide +kernel
theorem dJ8_newLength_cabcc_3 : decode cJ8_newLength_cabcc 3 = .ok (.invokestatic 194, 3) := by decide +kernel
theorem dJ8_newLength_cabcc_6 : decode cJ8_newLength_cabcc 6 = .ok (.iadd, 1) := by decide +kernel
theorem dJ8_newLength_cabcc_7 : decode cJ8_newLength_cabcc 7 = .ok (.istore_n 3, 1) := by decide +kernel
theorem dJ8_newLength_cabcc_8 : decode cJ8_newLength_cabcc 8 = .ok (.iconst 0, 1) := by decide +kernel
theorem dJ8_newLength_cabcc_9 : decode cJ8_newLength_cabcc 9 = .ok (.iload_n 3, 1) := by decide +kernel
theorem dJ8_newLength_cabcc_10 : decode cJ8_newLength_cabcc 10 = .ok (.if_icmp .ge 11, 3) := by decide +kernel
theorem dJ8_newLength_cabcc_13 : decode cJ8_newLength_cabcc 13 = .ok (.iload_n 3, 1) := by decide +kernel
theorem dJ8_newLength_cabcc_14 : decode cJ8_newLength_cabcc 14 = .ok (.ldc 200, 2) := by decide +kernel
theorem dJ8_newLength_cabcc_16 : decode cJ8_newLength_cabcc 16 = .ok (.if_icmp .gt 5, 3) := by decide +kernel
theorem dJ8_newLength_cabcc_19 : decode cJ8_newLength_cabcc 19 = .ok (.iload_n 3, 1) := by decide +kernel
theorem dJ8_newLength_cabcc_20 : decode cJ8_newLength_cabcc 20 = .ok (.ireturn, 1) := by decide +kernel
theorem dJ8_newLength_cabcc_21 : decode cJ8_newLength_cabcc 21 = .ok (.iload_n 0, 1) := by decide +kernel
theorem dJ8_newLength_cabcc_22 : decode cJ8_newLength_cabcc 22 = .ok (.iload_n 1, 1) := by decide +kernel
theorem dJ8_newLength_cabcc_23 : decode cJ8_newLength_cabcc 23 = .ok (.invokestatic 201, 3) := by decide +kernel
theorem dJ8_newLength_cabcc_26 : decode cJ8_newLength_cabcc 26 = .ok (.ireturn, 1) := by decide +kernel
theorem dJ8_hugeLength_7cf53_0 : decode cJ8_hugeLength_7cf53 0 = .ok (.iload_n 0, 1) := by decide +kernel
theorem dJ8_hugeLength_7cf53_1 : decode cJ8_hugeLength_7cf53 1 = .ok (.iload_n 1, 1) := by decide +kernel
theorem dJ8_hugeLength_7cf53_2 : decode cJ8_hugeLength_7cf53 2 = .ok (.iadd, 1) := by decide +kernel
theorem dJ8_hugeLength_7cf53_3 : decode cJ8_hugeLength_7cf53 3 = .ok (.istore_n 2, 1) := by decide +kernel
theorem dJ8_hugeLength_7cf53_4 : decode cJ8_hugeLength_7cf53 4 = .ok (.iload_n 2, 1) := by decide +kernel
theorem dJ8_hugeLength_7cf53_5 : decode cJ8_hugeLength_7cf53 5 = .ok (.ifCond .ge 44, 3) := by decide +kernel
theorem dJ8_hugeLength_7cf53_8 : decode cJ8_hugeLength_7cf53 8 = .ok (.new 204, 3) := by decide +kernel
theorem dJ8_hugeLength_7cf53_11 : decode cJ8_hugeLength_7cf53 11 = .ok (.dup, 1) := by decide +kernel
theorem dJ8_hugeLength_7cf53_12 : decode cJ8_hugeLength_7cf53 12 = .ok (.new 89, 3) := by decide +kernel
theorem dJ8_hugeLength_7cf53_15 : decode cJ8_hugeLength_7cf53 15 = .ok (.dup, 1) := by decide +kernel
theorem dJ8_hugeLength_7cf53_16 : decode cJ8_hugeLength_7cf53 16 = .ok (.invokespecial 91, 3) := by decide +kernel
theorem dJ8_hugeLength_7cf53_19 : decode cJ8_hugeLength_7cf53 19 = .ok (.ldc 206, 2) := by decide +kernel
theorem dJ8_hugeLength_7cf53_21 : decode cJ8_hugeLength_7cf53 21 = .ok (.invokevirtual 94, 3) := by decide +kernel
theorem dJ8_hugeLength_7cf53_24 : decode cJ8_hugeLength_7cf53 24 = .ok (.iload_n 0, 1) := by decide +kernel
theorem dJ8_hugeLength_7cf53_25 : decode cJ8_hugeLength_7cf53 25 = .ok (.invokevirtual 98, 3) := by decide +kernel
theorem dJ8_hugeLength_7cf53_28 : decode cJ8_hugeLength_7cf53 28 = .ok (.ldc 208, 2) := by decide +kernel
theorem dJ8_hugeLength_7cf53_30 : decode cJ8_hugeLength_7cf53 30 = .ok (.invokevirtual 94, 3) := by decide +kernel
theorem dJ8_hugeLength_7cf53_33 : decode cJ8_hugeLength_7cf53 33 = .ok (.iload_n 1, 1) := by decide +kernel
theorem dJ8_hugeLength_7cf53_34 : decode cJ8_hugeLength_7cf53 34 = .ok (.invokevirtual 98, 3) := by decide +kernel
theorem dJ8_hugeLength_7cf53_37 : decode cJ8_hugeLength_7cf53 37 = .ok (.ldc 210, 2) := by decide +kernel
theorem dJ8_hugeLength_7cf53_39 : decode cJ8_hugeLength_7cf53 39 = .ok (.invokevirtual 94, 3) := by decide +kernel
theorem dJ8_hugeLength_7cf53_42 : decode cJ8_hugeLength_7cf53 42 = .ok (.invokevirtual 101, 3) := by decide +kernel
theorem dJ8_hugeLength_7cf53_45 : decode cJ8_hugeLength_7cf53 45 = .ok (.invokespecial 212, 3) := by decide +kernel
theorem dJ8_hugeLength_7cf53_48 : decode cJ8_hugeLength_7cf53 48 = .ok (.athrow, 1) := by decide +kernel
theorem dJ8_hugeLength_7cf53_49 : decode cJ8_hugeLength_7cf53 49 = .ok (.iload_n 2, 1) := by decide +kernel
theorem dJ8_hugeLength_7cf53_50 : decode cJ8_hugeLength_7cf53 50 = .ok (.ldc 200, 2) := by decide +kernel
theorem dJ8_hugeLength_7cf53_52 : decode cJ8_hugeLength_7cf53 52 = .ok (.if_icmp .gt 6, 3) := by decide +kernel
theorem dJ8_hugeLength_7cf53_55 : decode cJ8_hugeLength_7cf53 55 = .ok (.ldc 200, 2) := by decide +kernel
theorem dJ8_hugeLength_7cf53_57 : decode cJ8_hugeLength_7cf53 57 = .ok (.ireturn, 1) := by decide +kernel
theorem dJ8_hugeLength_7cf53_58 : decode cJ8_hugeLength_7cf53 58 = .ok (.iload_n 2, 1) := by decide +kernel
theorem dJ8_hugeLength_7cf53_59 : decode cJ8_hugeLength_7cf53 59 = .ok (.ireturn, 1) := by decide +kernel
theorem dJ3_checkIndex_8e157_0 : decode cJ3_checkIndex_8e157 0 = .ok (.iload_n 0, 1) := by decide +kernel
theorem dJ3_checkIndex_8e157_1 : decode cJ3_checkIndex_8e157 1 = .ok (.ifCond .lt 8, 3) := by decide +kernel
theorem dJ3_checkIndex_8e157_4 : decode cJ3_checkIndex_8e157 4 = .ok (.iload_n 0, 1) := by decide +kernel
theorem dJ3_checkIndex_8e157_5 : decode cJ3_checkIndex_8e157 5 = .ok (.iload_n 1, 1) := by decide +kernel
theorem dJ3_checkIndex_8e157_6 : decode cJ3_checkIndex_8e157 6 = .ok (.if_icmp .lt 10, 3) := by decide +kernel
theorem dJ3_checkIndex_8e157_9 : decode cJ3_checkIndex_8e157 9 = .ok (.aload_n 2, 1) := by decide +kernel
theorem dJ3_checkIndex_8e157_10 : decode cJ3_checkIndex_8e157 10 = .ok (.iload_n 0, 1) := by decide +kernel
theorem dJ3_checkIndex_8e157_11 : decode cJ3_checkIndex_8e157 11 = .ok (.iload_n 1, 1) := by decide +kernel
theorem dJ3_checkIndex_8e157_12 : decode cJ3_checkIndex_8e157 12 = .ok (.invokestatic 95, 3) := by decide +kernel
theorem dJ3_checkIndex_8e157_15 : decode cJ3_checkIndex_8e157 15 = .ok (.athrow, 1) := by decide +kernel
theorem dJ3_checkIndex_8e157_16 : decode cJ3_checkIndex_8e157 16 = .ok (.iload_n 0, 1) := by decide +kernel
theorem dJ3_checkIndex_8e157_17 : decode cJ3_checkIndex_8e157 17 = .ok (.ireturn, 1) := by decide +kernel
theorem dJ3_checkFromToIndex_8c36e_0 : decode cJ3_checkFromToIndex_8c36e 0 = .ok (.iload_n 0, 1) := by decide +kernel
theorem dJ3_checkFromToIndex_8c36e_1 : decode cJ3_checkFromToIndex_8c36e 1 = .ok (.ifCond .lt 13, 3) := by decide +kernel
theorem dJ3_checkFromToIndex_8c36e_4 : decode cJ3_checkFromToIndex_8c36e 4 = .ok (.iload_n 0, 1) := by decide +kernel
theorem dJ3_checkFromToIndex_8c36e_5 : decode cJ3_checkFromToIndex_8c36e 5 = .ok (.iload_n 1, 1) := by decide +kernel
theorem dJ3_checkFromToIndex_8c36e_6 : decode cJ3_checkFromToIndex_8c36e 6 = .ok (.if_icmp .gt 8, 3) := by decide +kernel
theorem dJ3_checkFromToIndex_8c36e_9 : decode cJ3_checkFromToIndex_8c36e 9 = .ok (.iload_n 1, 1) := by decide +kernel
theorem dJ3_checkFromToIndex_8c36e_10 : decode cJ3_checkFromToIndex_8c36e 10 = .ok (.iload_n 2, 1) := by decide +kernel
theorem dJ3_checkFromToIndex_8c36e_11 : decode cJ3_checkFromToIndex_8c36e 11 = .ok (.if_icmp .le 11, 3) := by decide +kernel
theorem dJ3_checkFromToIndex_8c36e_14 : decode cJ3_checkFromToIndex_8c36e 14 = .ok (.aload_n 3, 1) := by decide +kernel
theorem dJ3_checkFromToIndex_8c36e_15 : decode cJ3_checkFromToIndex_8c36e 15 = .ok (.iload_n 0, 1) := by decide +kernel
theorem dJ3_checkFromToIndex_8c36e_16 : decode cJ3_checkFromToIndex_8c36e 16 = .ok (.iload_n 1, 1) := by decide +kernel
theorem dJ3_checkFromToIndex_8c36e_17 : decode cJ3_checkFromToIndex_8c36e 17 = .ok (.iload_n 2, 1) := by decide +kernel
theorem dJ3_checkFromToIndex_8c36e_18 : decode cJ3_checkFromToIndex_8c36e 18 = .ok (.invokestatic 99, 3) := by decide +kernel
theorem dJ3_checkFromToIndex_8c36e_21 : decode cJ3_checkFromToIndex_8c36e 21 = .ok (.athrow, 1) := by decide +kernel
theorem dJ3_checkFromToIndex_8c36e_22 : decode cJ3_checkFromToIndex_8c36e 22 = .ok (.iload_n 0, 1) := by decide +kernel
theorem dJ3_checkFromToIndex_8c36e_23 : decode cJ3_checkFromToIndex_8c36e 23 = .ok (.ireturn, 1) := by decide +kernel
theorem dJ3_checkFromIndexSize_8c36e_0 : decode cJ3_checkFromIndexSize_8c36e 0 = .ok (.iload_n 2, 1) := by decide +kernel
theorem dJ3_checkFromIndexSize_8c36e_1 : decode cJ3_checkFromIndexSize_8c36e 1 = .ok (.iload_n 0, 1) := by decide +kernel
theorem dJ3_checkFromIndexSize_8c36e_2 : decode cJ3_checkFromIndexSize_8c36e 2 = .ok (.ior, 1) := by decide +kernel
theorem dJ3_checkFromIndexSize_8c36e_3 : decode cJ3_checkFromIndexSize_8c36e 3 = .ok (.iload_n 1, 1) := by decide +kernel
theorem dJ3_checkFromIndexSize_8c36e_4 : decode cJ3_checkFromIndexSize_8c36e 4 = .ok (.ior, 1) := by decide +kernel
theorem dJ3_checkFromIndexSize_8c36e_5 : decode cJ3_checkFromIndexSize_8c36e 5 = .ok (.ifCond .lt 10, 3) := by decide +kernel
theorem dJ3_checkFromIndexSize_8c36e_8 : decode cJ3_checkFromIndexSize_8c36e 8 = .ok (.iload_n 1, 1) := by decide +kernel
theorem dJ3_checkFromIndexSize_8c36e_9 : decode cJ3_checkFromIndexSize_8c36e 9 = .ok (.iload_n 2, 1) := by decide +kernel
theorem dJ3_checkFromIndexSize_8c36e_10 : decode cJ3_checkFromIndexSize_8c36e 10 = .ok (.iload_n 0, 1) := by decide +kernel
theorem dJ3_checkFromIndexSize_8c36e_11 : decode cJ3_checkFromIndexSize_8c36e 11 = .ok (.isub, 1) := by decide +kernel
theorem dJ3_checkFromIndexSize_8c36e_12 : decode cJ3_checkFromIndexSize_8c36e 12 = .ok (.if_icmp .le 11, 3) := by decide +kernel
theorem dJ3_checkFromIndexSize_8c36e_15 : decode cJ3_checkFromIndexSize_8c36e 15 = .ok (.aload_n 3, 1) := by decide +kernel
theorem dJ3_checkFromIndexSize_8c36e_16 : decode cJ3_checkFromIndexSize_8c36e 16 = .ok (.iload_n 0, 1) := by decide +kernel
theorem dJ3_checkFromIndexSize_8c36e_17 : decode cJ3_checkFromIndexSize_8c36e 17 = .ok (.iload_n 1, 1) := by decide +kernel
theorem dJ3_checkFromIndexSize_8c36e_18 : decode cJ3_checkFromIndexSize_8c36e 18 = .ok (.iload_n 2, 1) := by decide +kernel
theorem dJ3_checkFromIndexSize_8c36e_19 : decode cJ3_checkFromIndexSize_8c36e 19 = .ok (.invokestatic 103, 3) := by decide +kernel
theorem dJ3_checkFromIndexSize_8c36e_22 : decode cJ3_checkFromIndexSize_8c36e 22 = .ok (.athrow, 1) := by decide +kernel
theorem dJ3_checkFromIndexSize_8c36e_23 : decode cJ3_checkFromIndexSize_8c36e 23 = .ok (.iload_n 0, 1) := by decide +kernel
theorem dJ3_checkFromIndexSize_8c36e_24 : decode cJ3_checkFromIndexSize_8c36e 24 = .ok (.ireturn, 1) := by decide +kernel
theorem dL_cell_0 : decode cL_cell 0 = .ok (.iload_n 1, 1) := by decide +kernel
theorem dL_cell_1 : decode cL_cell 1 = .ok (.aload_n 0, 1) := by decide +kernel
theorem dL_cell_2 : decode cL_cell 2 = .ok (.arraylength, 1) := by decide +kernel
theorem dL_cell_3 : decode cL_cell 3 = .ok (.if_icmp .ge 9, 3) := by decide +kernel
theorem dL_cell_6 : decode cL_cell 6 = .ok (.aload_n 0, 1) := by decide +kernel
theorem dL_cell_7 : decode cL_cell 7 = .ok (.iload_n 1, 1) := by decide +kernel
theorem dL_cell_8 : decode cL_cell 8 = .ok (.iaload, 1) := by decide +kernel
theorem dL_cell_9 : decode cL_cell 9 = .ok (.goto 13, 3) := by decide +kernel
theorem dL_cell_12 : decode cL_cell 12 = .ok (.ldc 7, 2) := by decide +kernel
theorem dL_cell_14 : decode cL_cell 14 = .ok (.iload_n 1, 1) := by decide +kernel
theorem dL_cell_15 : decode cL_cell 15 = .ok (.bipush 9, 2) := by decide +kernel
theorem dL_cell_17 : decode cL_cell 17 = .ok (.iadd, 1) := by decide +kernel
theorem dL_cell_18 : decode cL_cell 18 = .ok (.imul, 1) := by decide +kernel
theorem dL_cell_19 : decode cL_cell 19 = .ok (.ldc 8, 2) := by decide +kernel
theorem dL_cell_21 : decode cL_cell 21 = .ok (.iadd, 1) := by decide +kernel
theorem dL_cell_22 : decode cL_cell 22 = .ok (.ireturn, 1) := by decide +kernel
theorem dL_low_0 : decode cL_low 0 = .ok (.iload_n 0, 1) := by decide +kernel
theorem dL_low_1 : decode cL_low 1 = .ok (.ldc 9, 2) := by decide +kernel
theorem dL_low_3 : decode cL_low 3 = .ok (.iand, 1) := by decide +kernel
theorem dL_low_4 : decode cL_low 4 = .ok (.iload_n 1, 1) := by decide +kernel
theorem dL_low_5 : decode cL_low 5 = .ok (.irem, 1) := by decide +kernel
theorem dL_low_6 : decode cL_low 6 = .ok (.ireturn, 1) := by decide +kernel
theorem dL_calls_0 : decode cL_calls 0 = .ok (.iload_n 1, 1) := by decide +kernel
theorem dL_calls_1 : decode cL_calls 1 = .ok (.ifCond .ne 10, 3) := by decide +kernel
theorem dL_calls_4 : decode cL_calls 4 = .ok (.aload_n 0, 1) := by decide +kernel
theorem dL_calls_5 : decode cL_calls 5 = .ok (.invokevirtual 10, 3) := by decide +kernel
theorem dL_calls_8 : decode cL_calls 8 = .ok (.goto 24, 3) := by decide +kernel
theorem dL_calls_11 : decode cL_calls 11 = .ok (.iload_n 1, 1) := by decide +kernel
theorem dL_calls_12 : decode cL_calls 12 = .ok (.iconst 1, 1) := by decide +kernel
theorem dL_calls_13 : decode cL_calls 13 = .ok (.if_icmp .ne 14, 3) := by decide +kernel
theorem dL_calls_16 : decode cL_calls 16 = .ok (.aload_n 0, 1) := by decide +kernel
theorem dL_calls_17 : decode cL_calls 17 = .ok (.iload_n 2, 1) := by decide +kernel
theorem dL_calls_18 : decode cL_calls 18 = .ok (.iload_n 3, 1) := by decide +kernel
theorem dL_calls_19 : decode cL_calls 19 = .ok (.iload 4, 2) := by decide +kernel
theorem dL_calls_21 : decode cL_calls 21 = .ok (.invokevirtual 16, 3) := by decide +kernel
theorem dL_calls_24 : decode cL_calls 24 = .ok (.goto 8, 3) := by decide +kernel
theorem dL_calls_27 : decode cL_calls 27 = .ok (.aload_n 0, 1) := by decide +kernel
theorem dL_calls_28 : decode cL_calls 28 = .ok (.iload_n 2, 1) := by decide +kernel
theorem dL_calls_29 : decode cL_calls 29 = .ok (.invokevirtual 20, 3) := by decide +kernel
theorem dL_calls_32 : decode cL_calls 32 = .ok (.ireturn, 1) := by decide +kernel
theorem dL_calls_33 : decode cL_calls 33 = .ok (.astore 5, 2) := by decide +kernel
theorem dL_calls_35 : decode cL_calls 35 = .ok (.bipush (-3), 2) := by decide +kernel
theorem dL_calls_37 : decode cL_calls 37 = .ok (.ireturn, 1) := by decide +kernel
theorem dL_reach_0 : decode cL_reach 0 = .ok (.iload_n 1, 1) := by decide +kernel
theorem dL_reach_1 : decode cL_reach 1 = .ok (.aload_n 3, 1) := by decide +kernel
theorem dL_reach_2 : decode cL_reach 2 = .ok (.bipush 9, 2) := by decide +kernel
theorem dL_reach_4 : decode cL_reach 4 = .ok (.iload_n 2, 1) := by decide +kernel
theorem dL_reach_5 : decode cL_reach 5 = .ok (.imul, 1) := by decide +kernel
theorem dL_reach_6 : decode cL_reach 6 = .ok (.iconst 1, 1) := by decide +kernel
theorem dL_reach_7 : decode cL_reach 7 = .ok (.iadd, 1) := by decide +kernel
theorem dL_reach_8 : decode cL_reach 8 = .ok (.iaload, 1) := by decide +kernel
theorem dL_reach_9 : decode cL_reach 9 = .ok (.isub, 1) := by decide +kernel
theorem dL_reach_10 : decode cL_reach 10 = .ok (.invokestatic 26, 3) := by decide +kernel
theorem dL_reach_13 : decode cL_reach 13 = .ok (.istore 4, 2) := by decide +kernel
theorem dL_reach_15 : decode cL_reach 15 = .ok (.iload_n 0, 1) := by decide +kernel
theorem dL_reach_16 : decode cL_reach 16 = .ok (.aload_n 3, 1) := by decide +kernel
theorem dL_reach_17 : decode cL_reach 17 = .ok (.bipush 9, 2) := by decide +kernel
theorem dL_reach_19 : decode cL_reach 19 = .ok (.iload_n 2, 1) := by decide +kernel
theorem dL_reach_20 : decode cL_reach 20 = .ok (.imul, 1) := by decide +kernel
theorem dL_reach_21 : decode cL_reach 21 = .ok (.iaload, 1) := by decide +kernel
theorem dL_reach_22 : decode cL_reach 22 = .ok (.isub, 1) := by decide +kernel
theorem dL_reach_23 : decode cL_reach 23 = .ok (.invokestatic 26, 3) := by decide +kernel
theorem dL_reach_26 : decode cL_reach 26 = .ok (.istore 5, 2) := by decide +kernel
theorem dL_reach_28 : decode cL_reach 28 = .ok (.iload 4, 2) := by decide +kernel
theorem dL_reach_30 : decode cL_reach 30 = .ok (.bipush 10, 2) := by decide +kernel
theorem dL_reach_32 : decode cL_reach 32 = .ok (.if_icmp .ge 14, 3) := by decide +kernel
theorem dL_reach_35 : decode cL_reach 35 = .ok (.bipush 100, 2) := by decide +kernel
theorem dL_reach_37 : decode cL_reach 37 = .ok (.bipush 10, 2) := by decide +kernel
theorem dL_reach_39 : decode cL_reach 39 = .ok (.iload 4, 2) := by decide +kernel
theorem dL_reach_41 : decode cL_reach 41 = .ok (.imul, 1) := by decide +kernel
theorem dL_reach_42 : decode cL_reach 42 = .ok (.isub, 1) := by decide +kernel
theorem dL_reach_43 : decode cL_reach 43 = .ok (.goto 4, 3) := by decide +kernel
theorem dL_reach_46 : decode cL_reach 46 = .ok (.iconst 0, 1) := by decide +kernel
theorem dL_reach_47 : decode cL_reach 47 = .ok (.istore 6, 2) := by decide +kernel
theorem dL_reach_49 : decode cL_reach 49 = .ok (.iload 5, 2) := by decide +kernel
theorem dL_reach_51 : decode cL_reach 51 = .ok (.iconst 1, 1) := by decide +kernel
theorem dL_reach_52 : decode cL_reach 52 = .ok (.if_icmp .le 7, 3) := by decide +kernel
theorem dL_reach_55 : decode cL_reach 55 = .ok (.iconst 0, 1) := by decide +kernel
theorem dL_reach_56 : decode cL_reach 56 = .ok (.goto 18, 3) := by decide +kernel
theorem dL_reach_59 : decode cL_reach 59 = .ok (.iload 5, 2) := by decide +kernel
theorem dL_reach_61 : decode cL_reach 61 = .ok (.iconst 1, 1) := by decide +kernel
theorem dL_reach_62 : decode cL_reach 62 = .ok (.if_icmp .ne 10, 3) := by decide +kernel
theorem dL_reach_65 : decode cL_reach 65 = .ok (.iload 6, 2) := by decide +kernel
theorem dL_reach_67 : decode cL_reach 67 = .ok (.iconst 2, 1) := by decide +kernel
theorem dL_reach_68 : decode cL_reach 68 = .ok (.idiv, 1) := by decide +kernel
theorem dL_reach_69 : decode cL_reach 69 = .ok (.goto 5, 3) := by decide +kernel
theorem dL_reach_72 : decode cL_reach 72 = .ok (.iload 6, 2) := by decide +kernel
theorem dL_reach_74 : decode cL_reach 74 = .ok (.ireturn, 1) := by decide +kernel
theorem dL_size_0 : decode cL_size 0 = .ok (.iload_n 0, 1) := by decide +kernel
theorem dL_size_1 : decode cL_size 1 = .ok (.ifCond .ge 8, 3) := by decide +kernel
theorem dL_size_4 : decode cL_size 4 = .ok (.iload_n 0, 1) := by decide +kernel
theorem dL_size_5 : decode cL_size 5 = .ok (.ineg, 1) := by decide +kernel
theorem dL_size_6 : decode cL_size 6 = .ok (.goto 4, 3) := by decide +kernel
theorem dL_size_9 : decode cL_size 9 = .ok (.iload_n 0, 1) := by decide +kernel
theorem dL_size_10 : decode cL_size 10 = .ok (.ireturn, 1) := by decide +kernel
theorem dL_ranks_0 : decode cL_ranks 0 = .ok (.iconst 0, 1) := by decide +kernel
theorem dL_ranks_1 : decode cL_ranks 1 = .ok (.istore_n 3, 1) := by decide +kernel
theorem dL_ranks_2 : decode cL_ranks 2 = .ok (.iload_n 3, 1) := by decide +kernel
theorem dL_ranks_3 : decode cL_ranks 3 = .ok (.aload_n 2, 1) := by decide +kernel
theorem dL_ranks_4 : decode cL_ranks 4 = .ok (.iconst 0, 1) := by decide +kernel
theorem dL_ranks_5 : decode cL_ranks 5 = .ok (.iaload, 1) := by decide +kernel
theorem dL_ranks_6 : decode cL_ranks 6 = .ok (.if_icmp .ge 90, 3) := by decide +kernel
theorem dL_ranks_9 : decode cL_ranks 9 = .ok (.iconst 0, 1) := by decide +kernel
theorem dL_ranks_10 : decode cL_ranks 10 = .ok (.istore 4, 2) := by decide +kernel
theorem dL_ranks_12 : decode cL_ranks 12 = .ok (.iconst 0, 1) := by decide +kernel
theorem dL_ranks_13 : decode cL_ranks 13 = .ok (.istore 5, 2) := by decide +kernel
theorem dL_ranks_15 : decode cL_ranks 15 = .ok (.iload 5, 2) := by decide +kernel
theorem dL_ranks_17 : decode cL_ranks 17 = .ok (.aload_n 2, 1) := by decide +kernel
theorem dL_ranks_18 : decode cL_ranks 18 = .ok (.iconst 0, 1) := by decide +kernel
theorem dL_ranks_19 : decode cL_ranks 19 = .ok (.iaload, 1) := by decide +kernel
theorem dL_ranks_20 : decode cL_ranks 20 = .ok (.if_icmp .ge 65, 3) := by decide +kernel
theorem dL_ranks_23 : decode cL_ranks 23 = .ok (.iload 4, 2) := by decide +kernel
theorem dL_ranks_25 : decode cL_ranks 25 = .ok (.aload_n 0, 1) := by decide +kernel
theorem dL_ranks_26 : decode cL_ranks 26 = .ok (.bipush 9, 2) := by decide +kernel
theorem dL_ranks_28 : decode cL_ranks 28 = .ok (.iload 5, 2) := by decide +kernel
theorem dL_ranks_30 : decode cL_ranks 30 = .ok (.imul, 1) := by decide +kernel
theorem dL_ranks_31 : decode cL_ranks 31 = .ok (.iconst 4, 1) := by decide +kernel
theorem dL_ranks_32 : decode cL_ranks 32 = .ok (.iadd, 1) := by decide +kernel
theorem dL_ranks_33 : decode cL_ranks 33 = .ok (.iaload, 1) := by decide +kernel
theorem dL_ranks_34 : decode cL_ranks 34 = .ok (.aload_n 0, 1) := by decide +kernel
theorem dL_ranks_35 : decode cL_ranks 35 = .ok (.bipush 9, 2) := by decide +kernel
theorem dL_ranks_37 : decode cL_ranks 37 = .ok (.iload_n 3, 1) := by decide +kernel
theorem dL_ranks_38 : decode cL_ranks 38 = .ok (.imul, 1) := by decide +kernel
theorem dL_ranks_39 : decode cL_ranks 39 = .ok (.iconst 4, 1) := by decide +kernel
theorem dL_ranks_40 : decode cL_ranks 40 = .ok (.iadd, 1) := by decide +kernel
theorem dL_ranks_41 : decode cL_ranks 41 = .ok (.iaload, 1) := by decide +kernel
theorem dL_ranks_42 : decode cL_ranks 42 = .ok (.if_icmp .lt 29, 3) := by decide +kernel
theorem dL_ranks_45 : decode cL_ranks 45 = .ok (.aload_n 0, 1) := by decide +kernel
theorem dL_ranks_46 : decode cL_ranks 46 = .ok (.bipush 9, 2) := by decide +kernel
theorem dL_ranks_48 : decode cL_ranks 48 = .ok (.iload 5, 2) := by decide +kernel
theorem dL_ranks_50 : decode cL_ranks 50 = .ok (.imul, 1) := by decide +kernel
theorem dL_ranks_51 : decode cL_ranks 51 = .ok (.iconst 4, 1) := by decide +kernel
theorem dL_ranks_52 : decode cL_ranks 52 = .ok (.iadd, 1) := by decide +kernel
theorem dL_ranks_53 : decode cL_ranks 53 = .ok (.iaload, 1) := by decide +kernel
theorem dL_ranks_54 : decode cL_ranks 54 = .ok (.aload_n 0, 1) := by decide +kernel
theorem dL_ranks_55 : decode cL_ranks 55 = .ok (.bipush 9, 2) := by decide +kernel
theorem dL_ranks_57 : decode cL_ranks 57 = .ok (.iload_n 3, 1) := by decide +kernel
theorem dL_ranks_58 : decode cL_ranks 58 = .ok (.imul, 1) := by decide +kernel
theorem dL_ranks_59 : decode cL_ranks 59 = .ok (.iconst 4, 1) := by decide +kernel
theorem dL_ranks_60 : decode cL_ranks 60 = .ok (.iadd, 1) := by decide +kernel
theorem dL_ranks_61 : decode cL_ranks 61 = .ok (.iaload, 1) := by decide +kernel
theorem dL_ranks_62 : decode cL_ranks 62 = .ok (.if_icmp .ne 13, 3) := by decide +kernel
theorem dL_ranks_65 : decode cL_ranks 65 = .ok (.iload 5, 2) := by decide +kernel
theorem dL_ranks_67 : decode cL_ranks 67 = .ok (.iload_n 3, 1) := by decide +kernel
theorem dL_ranks_68 : decode cL_ranks 68 = .ok (.if_icmp .ge 7, 3) := by decide +kernel
theorem dL_ranks_71 : decode cL_ranks 71 = .ok (.iconst 1, 1) := by decide +kernel
theorem dL_ranks_72 : decode cL_ranks 72 = .ok (.goto 4, 3) := by decide +kernel
theorem dL_ranks_75 : decode cL_ranks 75 = .ok (.iconst 0, 1) := by decide +kernel
theorem dL_ranks_76 : decode cL_ranks 76 = .ok (.iadd, 1) := by decide +kernel
theorem dL_ranks_77 : decode cL_ranks 77 = .ok (.istore 4, 2) := by decide +kernel
theorem dL_ranks_79 : decode cL_ranks 79 = .ok (.iinc 5 1, 3) := by decide +kernel
theorem dL_ranks_82 : decode cL_ranks 82 = .ok (.goto (-67), 3) := by decide +kernel
theorem dL_ranks_85 : decode cL_ranks 85 = .ok (.aload_n 1, 1) := by decide +kernel
theorem dL_ranks_86 : decode cL_ranks 86 = .ok (.iload 4, 2) := by decide +kernel
theorem dL_ranks_88 : decode cL_ranks 88 = .ok (.iload_n 3, 1) := by decide +kernel
theorem dL_ranks_89 : decode cL_ranks 89 = .ok (.iastore, 1) := by decide +kernel
theorem dL_ranks_90 : decode cL_ranks 90 = .ok (.iinc 3 1, 3) := by decide +kernel
theorem dL_ranks_93 : decode cL_ranks 93 = .ok (.goto (-91), 3) := by decide +kernel
theorem dL_ranks_96 : decode cL_ranks 96 = .ok (.return_, 1) := by decide +kernel
theorem dL_behind_0 : decode cL_behind 0 = .ok (.iconst 0, 1) := by decide +kernel
theorem dL_behind_1 : decode cL_behind 1 = .ok (.istore 4, 2) := by decide +kernel
theorem dL_behind_3 : decode cL_behind 3 = .ok (.iload 4, 2) := by decide +kernel
theorem dL_behind_5 : decode cL_behind 5 = .ok (.aload_n 3, 1) := by decide +kernel
theorem dL_behind_6 : decode cL_behind 6 = .ok (.iconst 0, 1) := by decide +kernel
theorem dL_behind_7 : decode cL_behind 7 = .ok (.iaload, 1) := by decide +kernel
theorem dL_behind_8 : decode cL_behind 8 = .ok (.if_icmp .ge 147, 3) := by decide +kernel
theorem dL_behind_11 : decode cL_behind 11 = .ok (.aload_n 2, 1) := by decide +kernel
theorem dL_behind_12 : decode cL_behind 12 = .ok (.iload 4, 2) := by decide +kernel
theorem dL_behind_14 : decode cL_behind 14 = .ok (.aload_n 1, 1) := by decide +kernel
theorem dL_behind_15 : decode cL_behind 15 = .ok (.bipush 9, 2) := by decide +kernel
theorem dL_behind_17 : decode cL_behind 17 = .ok (.iload 4, 2) := by decide +kernel
theorem dL_behind_19 : decode cL_behind 19 = .ok (.imul, 1) := by decide +kernel
theorem dL_behind_20 : decode cL_behind 20 = .ok (.iconst 2, 1) := by decide +kernel
theorem dL_behind_21 : decode cL_behind 21 = .ok (.iadd, 1) := by decide +kernel
theorem dL_behind_22 : decode cL_behind 22 = .ok (.iaload, 1) := by decide +kernel
theorem dL_behind_23 : decode cL_behind 23 = .ok (.aload_n 3, 1) := by decide +kernel
theorem dL_behind_24 : decode cL_behind 24 = .ok (.iconst 4, 1) := by decide +kernel
theorem dL_behind_25 : decode cL_behind 25 = .ok (.aload_n 1, 1) := by decide +kernel
theorem dL_behind_26 : decode cL_behind 26 = .ok (.bipush 9, 2) := by decide +kernel
theorem dL_behind_28 : decode cL_behind 28 = .ok (.iload 4, 2) := by decide +kernel
theorem dL_behind_30 : decode cL_behind 30 = .ok (.imul, 1) := by decide +kernel
theorem dL_behind_31 : decode cL_behind 31 = .ok (.iaload, 1) := by decide +kernel
theorem dL_behind_32 : decode cL_behind 32 = .ok (.iadd, 1) := by decide +kernel
theorem dL_behind_33 : decode cL_behind 33 = .ok (.iaload, 1) := by decide +kernel
theorem dL_behind_34 : decode cL_behind 34 = .ok (.iadd, 1) := by decide +kernel
theorem dL_behind_35 : decode cL_behind 35 = .ok (.iastore, 1) := by decide +kernel
theorem dL_behind_36 : decode cL_behind 36 = .ok (.iconst 0, 1) := by decide +kernel
theorem dL_behind_37 : decode cL_behind 37 = .ok (.istore 5, 2) := by decide +kernel
theorem dL_behind_39 : decode cL_behind 39 = .ok (.iload 5, 2) := by decide +kernel
theorem dL_behind_41 : decode cL_behind 41 = .ok (.aload_n 3, 1) := by decide +kernel
theorem dL_behind_42 : decode cL_behind 42 = .ok (.iconst 3, 1) := by decide +kernel
theorem dL_behind_43 : decode cL_behind 43 = .ok (.iaload, 1) := by decide +kernel
theorem dL_behind_44 : decode cL_behind 44 = .ok (.if_icmp .ge 32, 3) := by decide +kernel
theorem dL_behind_47 : decode cL_behind 47 = .ok (.aload_n 2, 1) := by decide +kernel
theorem dL_behind_48 : decode cL_behind 48 = .ok (.iload 4, 2) := by decide +kernel
theorem dL_behind_50 : decode cL_behind 50 = .ok (.dup2, 1) := by decide +kernel
theorem dL_behind_51 : decode cL_behind 51 = .ok (.iaload, 1) := by decide +kernel
theorem dL_behind_52 : decode cL_behind 52 = .ok (.iconst 0, 1) := by decide +kernel
theorem dL_behind_53 : decode cL_behind 53 = .ok (.aload_n 3, 1) := by decide +kernel
theorem dL_behind_54 : decode cL_behind 54 = .ok (.bipush 7, 2) := by decide +kernel
theorem dL_behind_56 : decode cL_behind 56 = .ok (.iload 5, 2) := by decide +kernel
theorem dL_behind_58 : decode cL_behind 58 = .ok (.iadd, 1) := by decide +kernel
theorem dL_behind_59 : decode cL_behind 59 = .ok (.iaload, 1) := by decide +kernel
theorem dL_behind_60 : decode cL_behind 60 = .ok (.iload 4, 2) := by decide +kernel
theorem dL_behind_62 : decode cL_behind 62 = .ok (.aload_n 1, 1) := by decide +kernel
theorem dL_behind_63 : decode cL_behind 63 = .ok (.invokestatic 31, 3) := by decide +kernel
theorem dL_behind_66 : decode cL_behind 66 = .ok (.iconst 5, 1) := by decide +kernel
theorem dL_behind_67 : decode cL_behind 67 = .ok (.idiv, 1) := by decide +kernel
theorem dL_behind_68 : decode cL_behind 68 = .ok (.iadd, 1) := by decide +kernel
theorem dL_behind_69 : decode cL_behind 69 = .ok (.iastore, 1) := by decide +kernel
theorem dL_behind_70 : decode cL_behind 70 = .ok (.iinc 5 1, 3) := by decide +kernel
theorem dL_behind_73 : decode cL_behind 73 = .ok (.goto (-34), 3) := by decide +kernel
theorem dL_behind_76 : decode cL_behind 76 = .ok (.iconst 0, 1) := by decide +kernel
theorem dL_behind_77 : decode cL_behind 77 = .ok (.istore 5, 2) := by decide +kernel
theorem dL_behind_79 : decode cL_behind 79 = .ok (.iload 5, 2) := by decide +kernel
theorem dL_behind_81 : decode cL_behind 81 = .ok (.aload_n 3, 1) := by decide +kernel
theorem dL_behind_82 : decode cL_behind 82 = .ok (.iconst 0, 1) := by decide +kernel
theorem dL_behind_83 : decode cL_behind 83 = .ok (.iaload, 1) := by decide +kernel
theorem dL_behind_84 : decode cL_behind 84 = .ok (.if_icmp .ge 65, 3) := by decide +kernel
theorem dL_behind_87 : decode cL_behind 87 = .ok (.aload_n 2, 1) := by decide +kernel
theorem dL_behind_88 : decode cL_behind 88 = .ok (.iload 4, 2) := by decide +kernel
theorem dL_behind_90 : decode cL_behind 90 = .ok (.dup2, 1) := by decide +kernel
theorem dL_behind_91 : decode cL_behind 91 = .ok (.iaload, 1) := by decide +kernel
theorem dL_behind_92 : decode cL_behind 92 = .ok (.iload_n 0, 1) := by decide +kernel
theorem dL_behind_93 : decode cL_behind 93 = .ok (.iload 5, 2) := by decide +kernel
theorem dL_behind_95 : decode cL_behind 95 = .ok (.ishr, 1) := by decide +kernel
theorem dL_behind_96 : decode cL_behind 96 = .ok (.iconst 1, 1) := by decide +kernel
theorem dL_behind_97 : decode cL_behind 97 = .ok (.iand, 1) := by decide +kernel
theorem dL_behind_98 : decode cL_behind 98 = .ok (.ifCond .ne 42, 3) := by decide +kernel
theorem dL_behind_101 : decode cL_behind 101 = .ok (.aload_n 1, 1) := by decide +kernel
theorem dL_behind_102 : decode cL_behind 102 = .ok (.bipush 9, 2) := by decide +kernel
theorem dL_behind_104 : decode cL_behind 104 = .ok (.iload 5, 2) := by decide +kernel
theorem dL_behind_106 : decode cL_behind 106 = .ok (.imul, 1) := by decide +kernel
theorem dL_behind_107 : decode cL_behind 107 = .ok (.bipush 6, 2) := by decide +kernel
theorem dL_behind_109 : decode cL_behind 109 = .ok (.iadd, 1) := by decide +kernel
theorem dL_behind_110 : decode cL_behind 110 = .ok (.iaload, 1) := by decide +kernel
theorem dL_behind_111 : decode cL_behind 111 = .ok (.aload_n 1, 1) := by decide +kernel
theorem dL_behind_112 : decode cL_behind 112 = .ok (.bipush 9, 2) := by decide +kernel
theorem dL_behind_114 : decode cL_behind 114 = .ok (.iload 5, 2) := by decide +kernel
theorem dL_behind_116 : decode cL_behind 116 = .ok (.imul, 1) := by decide +kernel
theorem dL_behind_117 : decode cL_behind 117 = .ok (.iaload, 1) := by decide +kernel
theorem dL_behind_118 : decode cL_behind 118 = .ok (.aload_n 1, 1) := by decide +kernel
theorem dL_behind_119 : decode cL_behind 119 = .ok (.bipush 9, 2) := by decide +kernel
theorem dL_behind_121 : decode cL_behind 121 = .ok (.iload 5, 2) := by decide +kernel
theorem dL_behind_123 : decode cL_behind 123 = .ok (.imul, 1) := by decide +kernel
theorem dL_behind_124 : decode cL_behind 124 = .ok (.iconst 1, 1) := by decide +kernel
theorem dL_behind_125 : decode cL_behind 125 = .ok (.iadd, 1) := by decide +kernel
theorem dL_behind_126 : decode cL_behind 126 = .ok (.iaload, 1) := by decide +kernel
theorem dL_behind_127 : decode cL_behind 127 = .ok (.iload 4, 2) := by decide +kernel
theorem dL_behind_129 : decode cL_behind 129 = .ok (.aload_n 1, 1) := by decide +kernel
theorem dL_behind_130 : decode cL_behind 130 = .ok (.invokestatic 31, 3) := by decide +kernel
theorem dL_behind_133 : decode cL_behind 133 = .ok (.imul, 1) := by decide +kernel
theorem dL_behind_134 : decode cL_behind 134 = .ok (.bipush 100, 2) := by decide +kernel
theorem dL_behind_136 : decode cL_behind 136 = .ok (.idiv, 1) := by decide +kernel
theorem dL_behind_137 : decode cL_behind 137 = .ok (.goto 4, 3) := by decide +kernel
theorem dL_behind_140 : decode cL_behind 140 = .ok (.iconst 0, 1) := by decide +kernel
theorem dL_behind_141 : decode cL_behind 141 = .ok (.isub, 1) := by decide +kernel
theorem dL_behind_142 : decode cL_behind 142 = .ok (.iastore, 1) := by decide +kernel
theorem dL_behind_143 : decode cL_behind 143 = .ok (.iinc 5 1, 3) := by decide +kernel
theorem dL_behind_146 : decode cL_behind 146 = .ok (.goto (-67), 3) := by decide +kernel
theorem dL_behind_149 : decode cL_behind 149 = .ok (.iinc 4 1, 3) := by decide +kernel
theorem dL_behind_152 : decode cL_behind 152 = .ok (.goto (-149), 3) := by decide +kernel
theorem dL_behind_155 : decode cL_behind 155 = .ok (.return_, 1) := by decide +kernel
theorem dL_stops_0 : decode cL_stops 0 = .ok (.aload_n 0, 1) := by decide +kernel
theorem dL_stops_1 : decode cL_stops 1 = .ok (.aload_n 1, 1) := by decide +kernel
theorem dL_stops_2 : decode cL_stops 2 = .ok (.aload_n 3, 1) := by decide +kernel
theorem dL_stops_3 : decode cL_stops 3 = .ok (.invokestatic 35, 3) := by decide +kernel
theorem dL_stops_6 : decode cL_stops 6 = .ok (.iconst 0, 1) := by decide +kernel
theorem dL_stops_7 : decode cL_stops 7 = .ok (.istore 4, 2) := by decide +kernel
theorem dL_stops_9 : decode cL_stops 9 = .ok (.iconst 1, 1) := by decide +kernel
theorem dL_stops_10 : decode cL_stops 10 = .ok (.istore 5, 2) := by decide +kernel
theorem dL_stops_12 : decode cL_stops 12 = .ok (.iload 5, 2) := by decide +kernel
theorem dL_stops_14 : decode cL_stops 14 = .ok (.ifCond .eq 190, 3) := by decide +kernel
theorem dL_stops_17 : decode cL_stops 17 = .ok (.iload 4, 2) := by decide +kernel
theorem dL_stops_19 : decode cL_stops 19 = .ok (.aload_n 0, 1) := by decide +kernel
theorem dL_stops_20 : decode cL_stops 20 = .ok (.aload_n 2, 1) := by decide +kernel
theorem dL_stops_21 : decode cL_stops 21 = .ok (.aload_n 3, 1) := by decide +kernel
theorem dL_stops_22 : decode cL_stops 22 = .ok (.invokestatic 39, 3) := by decide +kernel
theorem dL_stops_25 : decode cL_stops 25 = .ok (.iconst (-1), 1) := by decide +kernel
theorem dL_stops_26 : decode cL_stops 26 = .ok (.istore 6, 2) := by decide +kernel
theorem dL_stops_28 : decode cL_stops 28 = .ok (.iconst 0, 1) := by decide +kernel
theorem dL_stops_29 : decode cL_stops 29 = .ok (.istore 7, 2) := by decide +kernel
theorem dL_stops_31 : decode cL_stops 31 = .ok (.iload 7, 2) := by decide +kernel
theorem dL_stops_33 : decode cL_stops 33 = .ok (.aload_n 3, 1) := by decide +kernel
theorem dL_stops_34 : decode cL_stops 34 = .ok (.iconst 0, 1) := by decide +kernel
theorem dL_stops_35 : decode cL_stops 35 = .ok (.iaload, 1) := by decide +kernel
theorem dL_stops_36 : decode cL_stops 36 = .ok (.if_icmp .ge 135, 3) := by decide +kernel
theorem dL_stops_39 : decode cL_stops 39 = .ok (.iload 6, 2) := by decide +kernel
theorem dL_stops_41 : decode cL_stops 41 = .ok (.ifCond .ge 130, 3) := by decide +kernel
theorem dL_stops_44 : decode cL_stops 44 = .ok (.aload_n 3, 1) := by decide +kernel
theorem dL_stops_45 : decode cL_stops 45 = .ok (.iconst 0, 1) := by decide +kernel
theorem dL_stops_46 : decode cL_stops 46 = .ok (.iaload, 1) := by decide +kernel
theorem dL_stops_47 : decode cL_stops 47 = .ok (.iconst 1, 1) := by decide +kernel
theorem dL_stops_48 : decode cL_stops 48 = .ok (.isub, 1) := by decide +kernel
theorem dL_stops_49 : decode cL_stops 49 = .ok (.istore 8, 2) := by decide +kernel
theorem dL_stops_51 : decode cL_stops 51 = .ok (.iload 8, 2) := by decide +kernel
theorem dL_stops_53 : decode cL_stops 53 = .ok (.iload 7, 2) := by decide +kernel
theorem dL_stops_55 : decode cL_stops 55 = .ok (.if_icmp .le 110, 3) := by decide +kernel
theorem dL_stops_58 : decode cL_stops 58 = .ok (.iload 6, 2) := by decide +kernel
theorem dL_stops_60 : decode cL_stops 60 = .ok (.ifCond .ge 105, 3) := by decide +kernel
theorem dL_stops_63 : decode cL_stops 63 = .ok (.aload_n 2, 1) := by decide +kernel
theorem dL_stops_64 : decode cL_stops 64 = .ok (.aload_n 1, 1) := by decide +kernel
theorem dL_stops_65 : decode cL_stops 65 = .ok (.iload 7, 2) := by decide +kernel
theorem dL_stops_67 : decode cL_stops 67 = .ok (.iaload, 1) := by decide +kernel
theorem dL_stops_68 : decode cL_stops 68 = .ok (.iaload, 1) := by decide +kernel
theorem dL_stops_69 : decode cL_stops 69 = .ok (.aload_n 0, 1) := by decide +kernel
theorem dL_stops_70 : decode cL_stops 70 = .ok (.bipush 9, 2) := by decide +kernel
theorem dL_stops_72 : decode cL_stops 72 = .ok (.aload_n 1, 1) := by decide +kernel
theorem dL_stops_73 : decode cL_stops 73 = .ok (.iload 7, 2) := by decide +kernel
theorem dL_stops_75 : decode cL_stops 75 = .ok (.iaload, 1) := by decide +kernel
theorem dL_stops_76 : decode cL_stops 76 = .ok (.imul, 1) := by decide +kernel
theorem dL_stops_77 : decode cL_stops 77 = .ok (.iconst 3, 1) := by decide +kernel
theorem dL_stops_78 : decode cL_stops 78 = .ok (.iadd, 1) := by decide +kernel
theorem dL_stops_79 : decode cL_stops 79 = .ok (.iaload, 1) := by decide +kernel
theorem dL_stops_80 : decode cL_stops 80 = .ok (.if_icmp .ge 85, 3) := by decide +kernel
theorem dL_stops_83 : decode cL_stops 83 = .ok (.aload_n 1, 1) := by decide +kernel
theorem dL_stops_84 : decode cL_stops 84 = .ok (.iload 8, 2) := by decide +kernel
theorem dL_stops_86 : decode cL_stops 86 = .ok (.iaload, 1) := by decide +kernel
theorem dL_stops_87 : decode cL_stops 87 = .ok (.istore 9, 2) := by decide +kernel
theorem dL_stops_89 : decode cL_stops 89 = .ok (.iload 4, 2) := by decide +kernel
theorem dL_stops_91 : decode cL_stops 91 = .ok (.iload 9, 2) := by decide +kernel
theorem dL_stops_93 : decode cL_stops 93 = .ok (.ishr, 1) := by decide +kernel
theorem dL_stops_94 : decode cL_stops 94 = .ok (.iconst 1, 1) := by decide +kernel
theorem dL_stops_95 : decode cL_stops 95 = .ok (.iand, 1) := by decide +kernel
theorem dL_stops_96 : decode cL_stops 96 = .ok (.ifCond .ne 20, 3) := by decide +kernel
theorem dL_stops_99 : decode cL_stops 99 = .ok (.aload_n 0, 1) := by decide +kernel
theorem dL_stops_100 : decode cL_stops 100 = .ok (.bipush 9, 2) := by decide +kernel
theorem dL_stops_102 : decode cL_stops 102 = .ok (.iload 9, 2) := by decide +kernel
theorem dL_stops_104 : decode cL_stops 104 = .ok (.imul, 1) := by decide +kernel
theorem dL_stops_105 : decode cL_stops 105 = .ok (.bipush 6, 2) := by decide +kernel
theorem dL_stops_107 : decode cL_stops 107 = .ok (.iadd, 1) := by decide +kernel
theorem dL_stops_108 : decode cL_stops 108 = .ok (.iaload, 1) := by decide +kernel
theorem dL_stops_109 : decode cL_stops 109 = .ok (.ifCond .le 7, 3) := by decide +kernel
theorem dL_stops_112 : decode cL_stops 112 = .ok (.iconst 1, 1) := by decide +kernel
theorem dL_stops_113 : decode cL_stops 113 = .ok (.goto 4, 3) := by decide +kernel
theorem dL_stops_116 : decode cL_stops 116 = .ok (.iconst 0, 1) := by decide +kernel
theorem dL_stops_117 : decode cL_stops 117 = .ok (.istore 10, 2) := by decide +kernel
theorem dL_stops_119 : decode cL_stops 119 = .ok (.iload 10, 2) := by decide +kernel
theorem dL_stops_121 : decode cL_stops 121 = .ok (.ifCond .eq 35, 3) := by decide +kernel
theorem dL_stops_124 : decode cL_stops 124 = .ok (.aload_n 0, 1) := by decide +kernel
theorem dL_stops_125 : decode cL_stops 125 = .ok (.bipush 9, 2) := by decide +kernel
theorem dL_stops_127 : decode cL_stops 127 = .ok (.iload 9, 2) := by decide +kernel
theorem dL_stops_129 : decode cL_stops 129 = .ok (.imul, 1) := by decide +kernel
theorem dL_stops_130 : decode cL_stops 130 = .ok (.iaload, 1) := by decide +kernel
theorem dL_stops_131 : decode cL_stops 131 = .ok (.aload_n 0, 1) := by decide +kernel
theorem dL_stops_132 : decode cL_stops 132 = .ok (.bipush 9, 2) := by decide +kernel
theorem dL_stops_134 : decode cL_stops 134 = .ok (.iload 9, 2) := by decide +kernel
theorem dL_stops_136 : decode cL_stops 136 = .ok (.imul, 1) := by decide +kernel
theorem dL_stops_137 : decode cL_stops 137 = .ok (.iconst 1, 1) := by decide +kernel
theorem dL_stops_138 : decode cL_stops 138 = .ok (.iadd, 1) := by decide +kernel
theorem dL_stops_139 : decode cL_stops 139 = .ok (.iaload, 1) := by decide +kernel
theorem dL_stops_140 : decode cL_stops 140 = .ok (.aload_n 1, 1) := by decide +kernel
theorem dL_stops_141 : decode cL_stops 141 = .ok (.iload 7, 2) := by decide +kernel
theorem dL_stops_143 : decode cL_stops 143 = .ok (.iaload, 1) := by decide +kernel
theorem dL_stops_144 : decode cL_stops 144 = .ok (.aload_n 0, 1) := by decide +kernel
theorem dL_stops_145 : decode cL_stops 145 = .ok (.invokestatic 31, 3) := by decide +kernel
theorem dL_stops_148 : decode cL_stops 148 = .ok (.ifCond .le 8, 3) := by decide +kernel
theorem dL_stops_151 : decode cL_stops 151 = .ok (.iload 9, 2) := by decide +kernel
theorem dL_stops_153 : decode cL_stops 153 = .ok (.goto 4, 3) := by decide +kernel
theorem dL_stops_156 : decode cL_stops 156 = .ok (.iconst (-1), 1) := by decide +kernel
theorem dL_stops_157 : decode cL_stops 157 = .ok (.istore 6, 2) := by decide +kernel
theorem dL_stops_159 : decode cL_stops 159 = .ok (.iinc 8 (-1), 3) := by decide +kernel
theorem dL_stops_162 : decode cL_stops 162 = .ok (.goto (-111), 3) := by decide +kernel
theorem dL_stops_165 : decode cL_stops 165 = .ok (.iinc 7 1, 3) := by decide +kernel
theorem dL_stops_168 : decode cL_stops 168 = .ok (.goto (-137), 3) := by decide +kernel
theorem dL_stops_171 : decode cL_stops 171 = .ok (.iload 6, 2) := by decide +kernel
theorem dL_stops_173 : decode cL_stops 173 = .ok (.ifCond .lt 7, 3) := by decide +kernel
theorem dL_stops_176 : decode cL_stops 176 = .ok (.iconst 1, 1) := by decide +kernel
theorem dL_stops_177 : decode cL_stops 177 = .ok (.goto 4, 3) := by decide +kernel
theorem dL_stops_180 : decode cL_stops 180 = .ok (.iconst 0, 1) := by decide +kernel
theorem dL_stops_181 : decode cL_stops 181 = .ok (.istore 5, 2) := by decide +kernel
theorem dL_stops_183 : decode cL_stops 183 = .ok (.iload 4, 2) := by decide +kernel
theorem dL_stops_185 : decode cL_stops 185 = .ok (.iload 5, 2) := by decide +kernel
theorem dL_stops_187 : decode cL_stops 187 = .ok (.ifCond .eq 10, 3) := by decide +kernel
theorem dL_stops_190 : decode cL_stops 190 = .ok (.iconst 1, 1) := by decide +kernel
theorem dL_stops_191 : decode cL_stops 191 = .ok (.iload 6, 2) := by decide +kernel
theorem dL_stops_193 : decode cL_stops 193 = .ok (.ishl, 1) := by decide +kernel
theorem dL_stops_194 : decode cL_stops 194 = .ok (.goto 4, 3) := by decide +kernel
theorem dL_stops_197 : decode cL_stops 197 = .ok (.iconst 0, 1) := by decide +kernel
theorem dL_stops_198 : decode cL_stops 198 = .ok (.ior, 1) := by decide +kernel
theorem dL_stops_199 : decode cL_stops 199 = .ok (.istore 4, 2) := by decide +kernel
theorem dL_stops_201 : decode cL_stops 201 = .ok (.goto (-189), 3) := by decide +kernel
theorem dL_stops_204 : decode cL_stops 204 = .ok (.iload 4, 2) := by decide +kernel
theorem dL_stops_206 : decode cL_stops 206 = .ok (.ireturn, 1) := by decide +kernel
theorem dL_mean_0 : decode cL_mean 0 = .ok (.iconst 0, 1) := by decide +kernel
theorem dL_mean_1 : decode cL_mean 1 = .ok (.istore 4, 2) := by decide +kernel
theorem dL_mean_3 : decode cL_mean 3 = .ok (.iconst 0, 1) := by decide +kernel
theorem dL_mean_4 : decode cL_mean 4 = .ok (.istore 5, 2) := by decide +kernel
theorem dL_mean_6 : decode cL_mean 6 = .ok (.iconst 0, 1) := by decide +kernel
theorem dL_mean_7 : decode cL_mean 7 = .ok (.istore 6, 2) := by decide +kernel
theorem dL_mean_9 : decode cL_mean 9 = .ok (.iload 6, 2) := by decide +kernel
theorem dL_mean_11 : decode cL_mean 11 = .ok (.aload_n 3, 1) := by decide +kernel
theorem dL_mean_12 : decode cL_mean 12 = .ok (.iconst 0, 1) := by decide +kernel
theorem dL_mean_13 : decode cL_mean 13 = .ok (.iaload, 1) := by decide +kernel
theorem dL_mean_14 : decode cL_mean 14 = .ok (.if_icmp .ge 77, 3) := by decide +kernel
theorem dL_mean_17 : decode cL_mean 17 = .ok (.aload_n 1, 1) := by decide +kernel
theorem dL_mean_18 : decode cL_mean 18 = .ok (.bipush 9, 2) := by decide +kernel
theorem dL_mean_20 : decode cL_mean 20 = .ok (.iload 6, 2) := by decide +kernel
theorem dL_mean_22 : decode cL_mean 22 = .ok (.imul, 1) := by decide +kernel
theorem dL_mean_23 : decode cL_mean 23 = .ok (.iaload, 1) := by decide +kernel
theorem dL_mean_24 : decode cL_mean 24 = .ok (.iload_n 0, 1) := by decide +kernel
theorem dL_mean_25 : decode cL_mean 25 = .ok (.if_icmp .ne 20, 3) := by decide +kernel
theorem dL_mean_28 : decode cL_mean 28 = .ok (.aload_n 1, 1) := by decide +kernel
theorem dL_mean_29 : decode cL_mean 29 = .ok (.bipush 9, 2) := by decide +kernel
theorem dL_mean_31 : decode cL_mean 31 = .ok (.iload 6, 2) := by decide +kernel
theorem dL_mean_33 : decode cL_mean 33 = .ok (.imul, 1) := by decide +kernel
theorem dL_mean_34 : decode cL_mean 34 = .ok (.bipush 7, 2) := by decide +kernel
theorem dL_mean_36 : decode cL_mean 36 = .ok (.iadd, 1) := by decide +kernel
theorem dL_mean_37 : decode cL_mean 37 = .ok (.iaload, 1) := by decide +kernel
theorem dL_mean_38 : decode cL_mean 38 = .ok (.ifCond .ne 7, 3) := by decide +kernel
theorem dL_mean_41 : decode cL_mean 41 = .ok (.iconst 1, 1) := by decide +kernel
theorem dL_mean_42 : decode cL_mean 42 = .ok (.goto 4, 3) := by decide +kernel
theorem dL_mean_45 : decode cL_mean 45 = .ok (.iconst 0, 1) := by decide +kernel
theorem dL_mean_46 : decode cL_mean 46 = .ok (.istore 7, 2) := by decide +kernel
theorem dL_mean_48 : decode cL_mean 48 = .ok (.iload 4, 2) := by decide +kernel
theorem dL_mean_50 : decode cL_mean 50 = .ok (.iload 7, 2) := by decide +kernel
theorem dL_mean_52 : decode cL_mean 52 = .ok (.ifCond .eq 14, 3) := by decide +kernel
theorem dL_mean_55 : decode cL_mean 55 = .ok (.aload_n 2, 1) := by decide +kernel
theorem dL_mean_56 : decode cL_mean 56 = .ok (.iconst 4, 1) := by decide +kernel
theorem dL_mean_57 : decode cL_mean 57 = .ok (.iload 6, 2) := by decide +kernel
theorem dL_mean_59 : decode cL_mean 59 = .ok (.imul, 1) := by decide +kernel
theorem dL_mean_60 : decode cL_mean 60 = .ok (.iconst 2, 1) := by decide +kernel
theorem dL_mean_61 : decode cL_mean 61 = .ok (.iadd, 1) := by decide +kernel
theorem dL_mean_62 : decode cL_mean 62 = .ok (.iaload, 1) := by decide +kernel
theorem dL_mean_63 : decode cL_mean 63 = .ok (.goto 4, 3) := by decide +kernel
theorem dL_mean_66 : decode cL_mean 66 = .ok (.iconst 0, 1) := by decide +kernel
theorem dL_mean_67 : decode cL_mean 67 = .ok (.iadd, 1) := by decide +kernel
theorem dL_mean_68 : decode cL_mean 68 = .ok (.istore 4, 2) := by decide +kernel
theorem dL_mean_70 : decode cL_mean 70 = .ok (.iload 5, 2) := by decide +kernel
theorem dL_mean_72 : decode cL_mean 72 = .ok (.iload 7, 2) := by decide +kernel
theorem dL_mean_74 : decode cL_mean 74 = .ok (.ifCond .eq 7, 3) := by decide +kernel
theorem dL_mean_77 : decode cL_mean 77 = .ok (.iconst 1, 1) := by decide +kernel
theorem dL_mean_78 : decode cL_mean 78 = .ok (.goto 4, 3) := by decide +kernel
theorem dL_mean_81 : decode cL_mean 81 = .ok (.iconst 0, 1) := by decide +kernel
theorem dL_mean_82 : decode cL_mean 82 = .ok (.iadd, 1) := by decide +kernel
theorem dL_mean_83 : decode cL_mean 83 = .ok (.istore 5, 2) := by decide +kernel
theorem dL_mean_85 : decode cL_mean 85 = .ok (.iinc 6 1, 3) := by decide +kernel
theorem dL_mean_88 : decode cL_mean 88 = .ok (.goto (-79), 3) := by decide +kernel
theorem dL_mean_91 : decode cL_mean 91 = .ok (.iload 5, 2) := by decide +kernel
theorem dL_mean_93 : decode cL_mean 93 = .ok (.ifCond .le 11, 3) := by decide +kernel
theorem dL_mean_96 : decode cL_mean 96 = .ok (.iload 4, 2) := by decide +kernel
theorem dL_mean_98 : decode cL_mean 98 = .ok (.iload 5, 2) := by decide +kernel
theorem dL_mean_100 : decode cL_mean 100 = .ok (.idiv, 1) := by decide +kernel
theorem dL_mean_101 : decode cL_mean 101 = .ok (.goto 4, 3) := by decide +kernel
theorem dL_mean_104 : decode cL_mean 104 = .ok (.iconst 0, 1) := by decide +kernel
theorem dL_mean_105 : decode cL_mean 105 = .ok (.ireturn, 1) := by decide +kernel
theorem dL_year_0 : decode cL_year 0 = .ok (.aload_n 0, 1) := by decide +kernel
theorem dL_year_1 : decode cL_year 1 = .ok (.aload_n 2, 1) := by decide +kernel
theorem dL_year_2 : decode cL_year 2 = .ok (.aload_n 3, 1) := by decide +kernel
theorem dL_year_3 : decode cL_year 3 = .ok (.aload 4, 2) := by decide +kernel
theorem dL_year_5 : decode cL_year 5 = .ok (.invokestatic 43, 3) := by decide +kernel
theorem dL_year_8 : decode cL_year 8 = .ok (.istore 5, 2) := by decide +kernel
theorem dL_year_10 : decode cL_year 10 = .ok (.iconst 0, 1) := by decide +kernel
theorem dL_year_11 : decode cL_year 11 = .ok (.istore 6, 2) := by decide +kernel
theorem dL_year_13 : decode cL_year 13 = .ok (.iconst 0, 1) := by decide +kernel
theorem dL_year_14 : decode cL_year 14 = .ok (.istore 7, 2) := by decide +kernel
theorem dL_year_16 : decode cL_year 16 = .ok (.iload 7, 2) := by decide +kernel
theorem dL_year_18 : decode cL_year 18 = .ok (.aload 4, 2) := by decide +kernel
theorem dL_year_20 : decode cL_year 20 = .ok (.iconst 0, 1) := by decide +kernel
theorem dL_year_21 : decode cL_year 21 = .ok (.iaload, 1) := by decide +kernel
theorem dL_year_22 : decode cL_year 22 = .ok (.if_icmp .ge 100, 3) := by decide +kernel
theorem dL_year_25 : decode cL_year 25 = .ok (.iload 5, 2) := by decide +kernel
theorem dL_year_27 : decode cL_year 27 = .ok (.iload 7, 2) := by decide +kernel
theorem dL_year_29 : decode cL_year 29 = .ok (.ishr, 1) := by decide +kernel
theorem dL_year_30 : decode cL_year 30 = .ok (.iconst 1, 1) := by decide +kernel
theorem dL_year_31 : decode cL_year 31 = .ok (.iand, 1) := by decide +kernel
theorem dL_year_32 : decode cL_year 32 = .ok (.iconst 1, 1) := by decide +kernel
theorem dL_year_33 : decode cL_year 33 = .ok (.if_icmp .ne 7, 3) := by decide +kernel
theorem dL_year_36 : decode cL_year 36 = .ok (.iconst 1, 1) := by decide +kernel
theorem dL_year_37 : decode cL_year 37 = .ok (.goto 4, 3) := by decide +kernel
theorem dL_year_40 : decode cL_year 40 = .ok (.iconst 0, 1) := by decide +kernel
theorem dL_year_41 : decode cL_year 41 = .ok (.istore 8, 2) := by decide +kernel
theorem dL_year_43 : decode cL_year 43 = .ok (.iload 6, 2) := by decide +kernel
theorem dL_year_45 : decode cL_year 45 = .ok (.iload 8, 2) := by decide +kernel
theorem dL_year_47 : decode cL_year 47 = .ok (.ifCond .eq 7, 3) := by decide +kernel
theorem dL_year_50 : decode cL_year 50 = .ok (.iconst 1, 1) := by decide +kernel
theorem dL_year_51 : decode cL_year 51 = .ok (.goto 4, 3) := by decide +kernel
theorem dL_year_54 : decode cL_year 54 = .ok (.iconst 0, 1) := by decide +kernel
theorem dL_year_55 : decode cL_year 55 = .ok (.iadd, 1) := by decide +kernel
theorem dL_year_56 : decode cL_year 56 = .ok (.istore 6, 2) := by decide +kernel
theorem dL_year_58 : decode cL_year 58 = .ok (.aload_n 1, 1) := by decide +kernel
theorem dL_year_59 : decode cL_year 59 = .ok (.iconst 4, 1) := by decide +kernel
theorem dL_year_60 : decode cL_year 60 = .ok (.iload 7, 2) := by decide +kernel
theorem dL_year_62 : decode cL_year 62 = .ok (.imul, 1) := by decide +kernel
theorem dL_year_63 : decode cL_year 63 = .ok (.aload_n 1, 1) := by decide +kernel
theorem dL_year_64 : decode cL_year 64 = .ok (.iconst 4, 1) := by decide +kernel
theorem dL_year_65 : decode cL_year 65 = .ok (.iload 7, 2) := by decide +kernel
theorem dL_year_67 : decode cL_year 67 = .ok (.imul, 1) := by decide +kernel
theorem dL_year_68 : decode cL_year 68 = .ok (.iaload, 1) := by decide +kernel
theorem dL_year_69 : decode cL_year 69 = .ok (.bipush 9, 2) := by decide +kernel
theorem dL_year_71 : decode cL_year 71 = .ok (.imul, 1) := by decide +kernel
theorem dL_year_72 : decode cL_year 72 = .ok (.bipush 10, 2) := by decide +kernel
theorem dL_year_74 : decode cL_year 74 = .ok (.idiv, 1) := by decide +kernel
theorem dL_year_75 : decode cL_year 75 = .ok (.iastore, 1) := by decide +kernel
theorem dL_year_76 : decode cL_year 76 = .ok (.aload_n 1, 1) := by decide +kernel
theorem dL_year_77 : decode cL_year 77 = .ok (.iconst 4, 1) := by decide +kernel
theorem dL_year_78 : decode cL_year 78 = .ok (.iload 7, 2) := by decide +kernel
theorem dL_year_80 : decode cL_year 80 = .ok (.imul, 1) := by decide +kernel
theorem dL_year_81 : decode cL_year 81 = .ok (.iconst 2, 1) := by decide +kernel
theorem dL_year_82 : decode cL_year 82 = .ok (.iadd, 1) := by decide +kernel
theorem dL_year_83 : decode cL_year 83 = .ok (.iload 8, 2) := by decide +kernel
theorem dL_year_85 : decode cL_year 85 = .ok (.ifCond .eq 7, 3) := by decide +kernel
theorem dL_year_88 : decode cL_year 88 = .ok (.iconst 0, 1) := by decide +kernel
theorem dL_year_89 : decode cL_year 89 = .ok (.goto 13, 3) := by decide +kernel
theorem dL_year_92 : decode cL_year 92 = .ok (.aload_n 0, 1) := by decide +kernel
theorem dL_year_93 : decode cL_year 93 = .ok (.bipush 9, 2) := by decide +kernel
theorem dL_year_95 : decode cL_year 95 = .ok (.iload 7, 2) := by decide +kernel
theorem dL_year_97 : decode cL_year 97 = .ok (.imul, 1) := by decide +kernel
theorem dL_year_98 : decode cL_year 98 = .ok (.bipush 6, 2) := by decide +kernel
theorem dL_year_100 : decode cL_year 100 = .ok (.iadd, 1) := by decide +kernel
theorem dL_year_101 : decode cL_year 101 = .ok (.iaload, 1) := by decide +kernel
theorem dL_year_102 : decode cL_year 102 = .ok (.iastore, 1) := by decide +kernel
theorem dL_year_103 : decode cL_year 103 = .ok (.aload_n 0, 1) := by decide +kernel
theorem dL_year_104 : decode cL_year 104 = .ok (.bipush 9, 2) := by decide +kernel
theorem dL_year_106 : decode cL_year 106 = .ok (.iload 7, 2) := by decide +kernel
theorem dL_year_108 : decode cL_year 108 = .ok (.imul, 1) := by decide +kernel
theorem dL_year_109 : decode cL_year 109 = .ok (.iconst 2, 1) := by decide +kernel
theorem dL_year_110 : decode cL_year 110 = .ok (.iadd, 1) := by decide +kernel
theorem dL_year_111 : decode cL_year 111 = .ok (.aload_n 3, 1) := by decide +kernel
theorem dL_year_112 : decode cL_year 112 = .ok (.iload 7, 2) := by decide +kernel
theorem dL_year_114 : decode cL_year 114 = .ok (.iaload, 1) := by decide +kernel
theorem dL_year_115 : decode cL_year 115 = .ok (.iastore, 1) := by decide +kernel
theorem dL_year_116 : decode cL_year 116 = .ok (.iinc 7 1, 3) := by decide +kernel
theorem dL_year_119 : decode cL_year 119 = .ok (.goto (-103), 3) := by decide +kernel
theorem dL_year_122 : decode cL_year 122 = .ok (.iconst 0, 1) := by decide +kernel
theorem dL_year_123 : decode cL_year 123 = .ok (.istore 7, 2) := by decide +kernel
theorem dL_year_125 : decode cL_year 125 = .ok (.iload 7, 2) := by decide +kernel
theorem dL_year_127 : decode cL_year 127 = .ok (.aload 4, 2) := by decide +kernel
theorem dL_year_129 : decode cL_year 129 = .ok (.iconst 0, 1) := by decide +kernel
theorem dL_year_130 : decode cL_year 130 = .ok (.iaload, 1) := by decide +kernel
theorem dL_year_131 : decode cL_year 131 = .ok (.if_icmp .ge 234, 3) := by decide +kernel
theorem dL_year_134 : decode cL_year 134 = .ok (.aload_n 1, 1) := by decide +kernel
theorem dL_year_135 : decode cL_year 135 = .ok (.iconst 4, 1) := by decide +kernel
theorem dL_year_136 : decode cL_year 136 = .ok (.iload 7, 2) := by decide +kernel
theorem dL_year_138 : decode cL_year 138 = .ok (.imul, 1) := by decide +kernel
theorem dL_year_139 : decode cL_year 139 = .ok (.iconst 2, 1) := by decide +kernel
theorem dL_year_140 : decode cL_year 140 = .ok (.iadd, 1) := by decide +kernel
theorem dL_year_141 : decode cL_year 141 = .ok (.iaload, 1) := by decide +kernel
theorem dL_year_142 : decode cL_year 142 = .ok (.istore 8, 2) := by decide +kernel
theorem dL_year_144 : decode cL_year 144 = .ok (.aload_n 0, 1) := by decide +kernel
theorem dL_year_145 : decode cL_year 145 = .ok (.bipush 9, 2) := by decide +kernel
theorem dL_year_147 : decode cL_year 147 = .ok (.iload 7, 2) := by decide +kernel
theorem dL_year_149 : decode cL_year 149 = .ok (.imul, 1) := by decide +kernel
theorem dL_year_150 : decode cL_year 150 = .ok (.bipush 7, 2) := by decide +kernel
theorem dL_year_152 : decode cL_year 152 = .ok (.iadd, 1) := by decide +kernel
theorem dL_year_153 : decode cL_year 153 = .ok (.iaload, 1) := by decide +kernel
theorem dL_year_154 : decode cL_year 154 = .ok (.iconst 1, 1) := by decide +kernel
theorem dL_year_155 : decode cL_year 155 = .ok (.if_icmp .ne 47, 3) := by decide +kernel
theorem dL_year_158 : decode cL_year 158 = .ok (.aload_n 0, 1) := by decide +kernel
theorem dL_year_159 : decode cL_year 159 = .ok (.bipush 9, 2) := by decide +kernel
theorem dL_year_161 : decode cL_year 161 = .ok (.iload 7, 2) := by decide +kernel
theorem dL_year_163 : decode cL_year 163 = .ok (.imul, 1) := by decide +kernel
theorem dL_year_164 : decode cL_year 164 = .ok (.bipush 8, 2) := by decide +kernel
theorem dL_year_166 : decode cL_year 166 = .ok (.iadd, 1) := by decide +kernel
theorem dL_year_167 : decode cL_year 167 = .ok (.iaload, 1) := by decide +kernel
theorem dL_year_168 : decode cL_year 168 = .ok (.ifCond .le 18, 3) := by decide +kernel
theorem dL_year_171 : decode cL_year 171 = .ok (.aload_n 0, 1) := by decide +kernel
theorem dL_year_172 : decode cL_year 172 = .ok (.bipush 9, 2) := by decide +kernel
theorem dL_year_174 : decode cL_year 174 = .ok (.iload 7, 2) := by decide +kernel
theorem dL_year_176 : decode cL_year 176 = .ok (.imul, 1) := by decide +kernel
theorem dL_year_177 : decode cL_year 177 = .ok (.bipush 8, 2) := by decide +kernel
theorem dL_year_179 : decode cL_year 179 = .ok (.iadd, 1) := by decide +kernel
theorem dL_year_180 : decode cL_year 180 = .ok (.iaload, 1) := by decide +kernel
theorem dL_year_181 : decode cL_year 181 = .ok (.iconst 3, 1) := by decide +kernel
theorem dL_year_182 : decode cL_year 182 = .ok (.imul, 1) := by decide +kernel
theorem dL_year_183 : decode cL_year 183 = .ok (.goto 17, 3) := by decide +kernel
theorem dL_year_186 : decode cL_year 186 = .ok (.aload_n 0, 1) := by decide +kernel
theorem dL_year_187 : decode cL_year 187 = .ok (.bipush 9, 2) := by decide +kernel
theorem dL_year_189 : decode cL_year 189 = .ok (.iload 7, 2) := by decide +kernel
theorem dL_year_191 : decode cL_year 191 = .ok (.imul, 1) := by decide +kernel
theorem dL_year_192 : decode cL_year 192 = .ok (.iaload, 1) := by decide +kernel
theorem dL_year_193 : decode cL_year 193 = .ok (.aload_n 0, 1) := by decide +kernel
theorem dL_year_194 : decode cL_year 194 = .ok (.aload_n 1, 1) := by decide +kernel
theorem dL_year_195 : decode cL_year 195 = .ok (.aload 4, 2) := by decide +kernel
theorem dL_year_197 : decode cL_year 197 = .ok (.invokestatic 47, 3) := by decide +kernel
theorem dL_year_200 : decode cL_year 200 = .ok (.istore 8, 2) := by decide +kernel
theorem dL_year_202 : decode cL_year 202 = .ok (.aload_n 1, 1) := by decide +kernel
theorem dL_year_203 : decode cL_year 203 = .ok (.iconst 4, 1) := by decide +kernel
theorem dL_year_204 : decode cL_year 204 = .ok (.iload 7, 2) := by decide +kernel
theorem dL_year_206 : decode cL_year 206 = .ok (.imul, 1) := by decide +kernel
theorem dL_year_207 : decode cL_year 207 = .ok (.iconst 3, 1) := by decide +kernel
theorem dL_year_208 : decode cL_year 208 = .ok (.iadd, 1) := by decide +kernel
theorem dL_year_209 : decode cL_year 209 = .ok (.iload 8, 2) := by decide +kernel
theorem dL_year_211 : decode cL_year 211 = .ok (.iastore, 1) := by decide +kernel
theorem dL_year_212 : decode cL_year 212 = .ok (.aload_n 0, 1) := by decide +kernel
theorem dL_year_213 : decode cL_year 213 = .ok (.bipush 9, 2) := by decide +kernel
theorem dL_year_215 : decode cL_year 215 = .ok (.iload 7, 2) := by decide +kernel
theorem dL_year_217 : decode cL_year 217 = .ok (.imul, 1) := by decide +kernel
theorem dL_year_218 : decode cL_year 218 = .ok (.bipush 8, 2) := by decide +kernel
theorem dL_year_220 : decode cL_year 220 = .ok (.iadd, 1) := by decide +kernel
theorem dL_year_221 : decode cL_year 221 = .ok (.iconst 0, 1) := by decide +kernel
theorem dL_year_222 : decode cL_year 222 = .ok (.iastore, 1) := by decide +kernel
theorem dL_year_223 : decode cL_year 223 = .ok (.iload 8, 2) := by decide +kernel
theorem dL_year_225 : decode cL_year 225 = .ok (.aload_n 0, 1) := by decide +kernel
theorem dL_year_226 : decode cL_year 226 = .ok (.bipush 9, 2) := by decide +kernel
theorem dL_year_228 : decode cL_year 228 = .ok (.iload 7, 2) := by decide +kernel
theorem dL_year_230 : decode cL_year 230 = .ok (.imul, 1) := by decide +kernel
theorem dL_year_231 : decode cL_year 231 = .ok (.iconst 5, 1) := by decide +kernel
theorem dL_year_232 : decode cL_year 232 = .ok (.iadd, 1) := by decide +kernel
theorem dL_year_233 : decode cL_year 233 = .ok (.iaload, 1) := by decide +kernel
theorem dL_year_234 : decode cL_year 234 = .ok (.isub, 1) := by decide +kernel
theorem dL_year_235 : decode cL_year 235 = .ok (.aload_n 1, 1) := by decide +kernel
theorem dL_year_236 : decode cL_year 236 = .ok (.iconst 4, 1) := by decide +kernel
theorem dL_year_237 : decode cL_year 237 = .ok (.iload 7, 2) := by decide +kernel
theorem dL_year_239 : decode cL_year 239 = .ok (.imul, 1) := by decide +kernel
theorem dL_year_240 : decode cL_year 240 = .ok (.iaload, 1) := by decide +kernel
theorem dL_year_241 : decode cL_year 241 = .ok (.isub, 1) := by decide +kernel
theorem dL_year_242 : decode cL_year 242 = .ok (.istore 9, 2) := by decide +kernel
theorem dL_year_244 : decode cL_year 244 = .ok (.iload 8, 2) := by decide +kernel
theorem dL_year_246 : decode cL_year 246 = .ok (.aload_n 0, 1) := by decide +kernel
theorem dL_year_247 : decode cL_year 247 = .ok (.bipush 9, 2) := by decide +kernel
theorem dL_year_249 : decode cL_year 249 = .ok (.iload 7, 2) := by decide +kernel
theorem dL_year_251 : decode cL_year 251 = .ok (.imul, 1) := by decide +kernel
theorem dL_year_252 : decode cL_year 252 = .ok (.iconst 5, 1) := by decide +kernel
theorem dL_year_253 : decode cL_year 253 = .ok (.iadd, 1) := by decide +kernel
theorem dL_year_254 : decode cL_year 254 = .ok (.iaload, 1) := by decide +kernel
theorem dL_year_255 : decode cL_year 255 = .ok (.if_icmp .ge 42, 3) := by decide +kernel
theorem dL_year_258 : decode cL_year 258 = .ok (.aload_n 1, 1) := by decide +kernel
theorem dL_year_259 : decode cL_year 259 = .ok (.iconst 4, 1) := by decide +kernel
theorem dL_year_260 : decode cL_year 260 = .ok (.iload 7, 2) := by decide +kernel
theorem dL_year_262 : decode cL_year 262 = .ok (.imul, 1) := by decide +kernel
theorem dL_year_263 : decode cL_year 263 = .ok (.dup2, 1) := by decide +kernel
theorem dL_year_264 : decode cL_year 264 = .ok (.iaload, 1) := by decide +kernel
theorem dL_year_265 : decode cL_year 265 = .ok (.iload 5, 2) := by decide +kernel
theorem dL_year_267 : decode cL_year 267 = .ok (.iload 7, 2) := by decide +kernel
theorem dL_year_269 : decode cL_year 269 = .ok (.ishr, 1) := by decide +kernel
theorem dL_year_270 : decode cL_year 270 = .ok (.iconst 1, 1) := by decide +kernel
theorem dL_year_271 : decode cL_year 271 = .ok (.iand, 1) := by decide +kernel
theorem dL_year_272 : decode cL_year 272 = .ok (.iconst 1, 1) := by decide +kernel
theorem dL_year_273 : decode cL_year 273 = .ok (.if_icmp .ne 7, 3) := by decide +kernel
theorem dL_year_276 : decode cL_year 276 = .ok (.iconst 0, 1) := by decide +kernel
theorem dL_year_277 : decode cL_year 277 = .ok (.goto 15, 3) := by decide +kernel
theorem dL_year_280 : decode cL_year 280 = .ok (.aload_n 0, 1) := by decide +kernel
theorem dL_year_281 : decode cL_year 281 = .ok (.bipush 9, 2) := by decide +kernel
theorem dL_year_283 : decode cL_year 283 = .ok (.iload 7, 2) := by decide +kernel
theorem dL_year_285 : decode cL_year 285 = .ok (.imul, 1) := by decide +kernel
theorem dL_year_286 : decode cL_year 286 = .ok (.iconst 5, 1) := by decide +kernel
theorem dL_year_287 : decode cL_year 287 = .ok (.iadd, 1) := by decide +kernel
theorem dL_year_288 : decode cL_year 288 = .ok (.iaload, 1) := by decide +kernel
theorem dL_year_289 : decode cL_year 289 = .ok (.iload 8, 2) := by decide +kernel
theorem dL_year_291 : decode cL_year 291 = .ok (.isub, 1) := by decide +kernel
theorem dL_year_292 : decode cL_year 292 = .ok (.iadd, 1) := by decide +kernel
theorem dL_year_293 : decode cL_year 293 = .ok (.iastore, 1) := by decide +kernel
theorem dL_year_294 : decode cL_year 294 = .ok (.goto 65, 3) := by decide +kernel
theorem dL_year_297 : decode cL_year 297 = .ok (.aload_n 1, 1) := by decide +kernel
theorem dL_year_298 : decode cL_year 298 = .ok (.iconst 4, 1) := by decide +kernel
theorem dL_year_299 : decode cL_year 299 = .ok (.iload 7, 2) := by decide +kernel
theorem dL_year_301 : decode cL_year 301 = .ok (.imul, 1) := by decide +kernel
theorem dL_year_302 : decode cL_year 302 = .ok (.iload 9, 2) := by decide +kernel
theorem dL_year_304 : decode cL_year 304 = .ok (.ifCond .ge 9, 3) := by decide +kernel
theorem dL_year_307 : decode cL_year 307 = .ok (.iload 9, 2) := by decide +kernel
theorem dL_year_309 : decode cL_year 309 = .ok (.ineg, 1) := by decide +kernel
theorem dL_year_310 : decode cL_year 310 = .ok (.goto 4, 3) := by decide +kernel
theorem dL_year_313 : decode cL_year 313 = .ok (.iconst 0, 1) := by decide +kernel
theorem dL_year_314 : decode cL_year 314 = .ok (.iastore, 1) := by decide +kernel
theorem dL_year_315 : decode cL_year 315 = .ok (.aload_n 1, 1) := by decide +kernel
theorem dL_year_316 : decode cL_year 316 = .ok (.iconst 4, 1) := by decide +kernel
theorem dL_year_317 : decode cL_year 317 = .ok (.iload 7, 2) := by decide +kernel
theorem dL_year_319 : decode cL_year 319 = .ok (.imul, 1) := by decide +kernel
theorem dL_year_320 : decode cL_year 320 = .ok (.iconst 1, 1) := by decide +kernel
theorem dL_year_321 : decode cL_year 321 = .ok (.iadd, 1) := by decide +kernel
theorem dL_year_322 : decode cL_year 322 = .ok (.dup2, 1) := by decide +kernel
theorem dL_year_323 : decode cL_year 323 = .ok (.iaload, 1) := by decide +kernel
theorem dL_year_324 : decode cL_year 324 = .ok (.iload 9, 2) := by decide +kernel
theorem dL_year_326 : decode cL_year 326 = .ok (.ifCond .le 10, 3) := by decide +kernel
theorem dL_year_329 : decode cL_year 329 = .ok (.iconst 2, 1) := by decide +kernel
theorem dL_year_330 : decode cL_year 330 = .ok (.iload 9, 2) := by decide +kernel
theorem dL_year_332 : decode cL_year 332 = .ok (.imul, 1) := by decide +kernel
theorem dL_year_333 : decode cL_year 333 = .ok (.goto 4, 3) := by decide +kernel
theorem dL_year_336 : decode cL_year 336 = .ok (.iconst 0, 1) := by decide +kernel
theorem dL_year_337 : decode cL_year 337 = .ok (.iadd, 1) := by decide +kernel
theorem dL_year_338 : decode cL_year 338 = .ok (.iastore, 1) := by decide +kernel
theorem dL_year_339 : decode cL_year 339 = .ok (.aload 4, 2) := by decide +kernel
theorem dL_year_341 : decode cL_year 341 = .ok (.iconst 2, 1) := by decide +kernel
theorem dL_year_342 : decode cL_year 342 = .ok (.dup2, 1) := by decide +kernel
theorem dL_year_343 : decode cL_year 343 = .ok (.iaload, 1) := by decide +kernel
theorem dL_year_344 : decode cL_year 344 = .ok (.iload 9, 2) := by decide +kernel
theorem dL_year_346 : decode cL_year 346 = .ok (.ifCond .le 10, 3) := by decide +kernel
theorem dL_year_349 : decode cL_year 349 = .ok (.iconst 2, 1) := by decide +kernel
theorem dL_year_350 : decode cL_year 350 = .ok (.iload 9, 2) := by decide +kernel
theorem dL_year_352 : decode cL_year 352 = .ok (.imul, 1) := by decide +kernel
theorem dL_year_353 : decode cL_year 353 = .ok (.goto 4, 3) := by decide +kernel
theorem dL_year_356 : decode cL_year 356 = .ok (.iconst 0, 1) := by decide +kernel
theorem dL_year_357 : decode cL_year 357 = .ok (.iadd, 1) := by decide +kernel
theorem dL_year_358 : decode cL_year 358 = .ok (.iastore, 1) := by decide +kernel
theorem dL_year_359 : decode cL_year 359 = .ok (.iinc 7 1, 3) := by decide +kernel
theorem dL_year_362 : decode cL_year 362 = .ok (.goto (-237), 3) := by decide +kernel
theorem dL_year_365 : decode cL_year 365 = .ok (.aload 4, 2) := by decide +kernel
theorem dL_year_367 : decode cL_year 367 = .ok (.iconst 1, 1) := by decide +kernel
theorem dL_year_368 : decode cL_year 368 = .ok (.dup2, 1) := by decide +kernel
theorem dL_year_369 : decode cL_year 369 = .ok (.iaload, 1) := by decide +kernel
theorem dL_year_370 : decode cL_year 370 = .ok (.iconst 1, 1) := by decide +kernel
theorem dL_year_371 : decode cL_year 371 = .ok (.iadd, 1) := by decide +kernel
theorem dL_year_372 : decode cL_year 372 = .ok (.iastore, 1) := by decide +kernel
theorem dL_year_373 : decode cL_year 373 = .ok (.iload 6, 2) := by decide +kernel
theorem dL_year_375 : decode cL_year 375 = .ok (.ireturn, 1) := by decide +kernel
theorem dL_isSo_0 : decode cL_isSo 0 = .ok (.aload_n 0, 1) := by decide +kernel
theorem dL_isSo_1 : decode cL_isSo 1 = .ok (.invokevirtual 51, 3) := by decide +kernel
theorem dL_isSo_4 : decode cL_isSo 4 = .ok (.aload 6, 2) := by decide +kernel
theorem dL_isSo_6 : decode cL_isSo 6 = .ok (.iconst 1, 1) := by decide +kernel
theorem dL_isSo_7 : decode cL_isSo 7 = .ok (.iaload, 1) := by decide +kernel
theorem dL_isSo_8 : decode cL_isSo 8 = .ok (.if_icmp .ne 35, 3) := by decide +kernel
theorem dL_isSo_11 : decode cL_isSo 11 = .ok (.aload_n 0, 1) := by decide +kernel
theorem dL_isSo_12 : decode cL_isSo 12 = .ok (.invokevirtual 54, 3) := by decide +kernel
theorem dL_isSo_15 : decode cL_isSo 15 = .ok (.aload 6, 2) := by decide +kernel
theorem dL_isSo_17 : decode cL_isSo 17 = .ok (.iconst 2, 1) := by decide +kernel
theorem dL_isSo_18 : decode cL_isSo 18 = .ok (.iaload, 1) := by decide +kernel
theorem dL_isSo_19 : decode cL_isSo 19 = .ok (.if_icmp .ne 24, 3) := by decide +kernel
theorem dL_isSo_22 : decode cL_isSo 22 = .ok (.aload_n 0, 1) := by decide +kernel
theorem dL_isSo_23 : decode cL_isSo 23 = .ok (.invokevirtual 57, 3) := by decide +kernel
theorem dL_isSo_26 : decode cL_isSo 26 = .ok (.aload_n 2, 1) := by decide +kernel
theorem dL_isSo_27 : decode cL_isSo 27 = .ok (.aload 4, 2) := by decide +kernel
theorem dL_isSo_29 : decode cL_isSo 29 = .ok (.aload 5, 2) := by decide +kernel
theorem dL_isSo_31 : decode cL_isSo 31 = .ok (.aload 6, 2) := by decide +kernel
theorem dL_isSo_33 : decode cL_isSo 33 = .ok (.invokestatic 43, 3) := by decide +kernel
theorem dL_isSo_36 : decode cL_isSo 36 = .ok (.if_icmp .ne 7, 3) := by decide +kernel
theorem dL_isSo_39 : decode cL_isSo 39 = .ok (.iconst 1, 1) := by decide +kernel
theorem dL_isSo_40 : decode cL_isSo 40 = .ok (.goto 4, 3) := by decide +kernel
theorem dL_isSo_43 : decode cL_isSo 43 = .ok (.iconst 0, 1) := by decide +kernel
theorem dL_isSo_44 : decode cL_isSo 44 = .ok (.istore 7, 2) := by decide +kernel
theorem dL_isSo_46 : decode cL_isSo 46 = .ok (.iconst 0, 1) := by decide +kernel
theorem dL_isSo_47 : decode cL_isSo 47 = .ok (.istore 8, 2) := by decide +kernel
theorem dL_isSo_49 : decode cL_isSo 49 = .ok (.iload 8, 2) := by decide +kernel
theorem dL_isSo_51 : decode cL_isSo 51 = .ok (.aload 6, 2) := by decide +kernel
theorem dL_isSo_53 : decode cL_isSo 53 = .ok (.iconst 0, 1) := by decide +kernel
theorem dL_isSo_54 : decode cL_isSo 54 = .ok (.iaload, 1) := by decide +kernel
theorem dL_isSo_55 : decode cL_isSo 55 = .ok (.if_icmp .ge 293, 3) := by decide +kernel
theorem dL_isSo_58 : decode cL_isSo 58 = .ok (.iload 7, 2) := by decide +kernel
theorem dL_isSo_60 : decode cL_isSo 60 = .ok (.ifCond .eq 288, 3) := by decide +kernel
theorem dL_isSo_63 : decode cL_isSo 63 = .ok (.iload_n 1, 1) := by decide +kernel
theorem dL_isSo_64 : decode cL_isSo 64 = .ok (.iload 8, 2) := by decide +kernel
theorem dL_isSo_66 : decode cL_isSo 66 = .ok (.ishr, 1) := by decide +kernel
theorem dL_isSo_67 : decode cL_isSo 67 = .ok (.aload 6, 2) := by decide +kernel
theorem dL_isSo_69 : decode cL_isSo 69 = .ok (.iconst 0, 1) := by decide +kernel
theorem dL_isSo_70 : decode cL_isSo 70 = .ok (.iaload, 1) := by decide +kernel
theorem dL_isSo_71 : decode cL_isSo 71 = .ok (.invokestatic 60, 3) := by decide +kernel
theorem dL_isSo_74 : decode cL_isSo 74 = .ok (.istore 9, 2) := by decide +kernel
theorem dL_isSo_76 : decode cL_isSo 76 = .ok (.aload_n 0, 1) := by decide +kernel
theorem dL_isSo_77 : decode cL_isSo 77 = .ok (.iload 8, 2) := by decide +kernel
theorem dL_isSo_79 : decode cL_isSo 79 = .ok (.invokevirtual 64, 3) := by decide +kernel
theorem dL_isSo_82 : decode cL_isSo 82 = .ok (.aload_n 2, 1) := by decide +kernel
theorem dL_isSo_83 : decode cL_isSo 83 = .ok (.bipush 9, 2) := by decide +kernel
theorem dL_isSo_85 : decode cL_isSo 85 = .ok (.iload 8, 2) := by decide +kernel
theorem dL_isSo_87 : decode cL_isSo 87 = .ok (.imul, 1) := by decide +kernel
theorem dL_isSo_88 : decode cL_isSo 88 = .ok (.iconst 2, 1) := by decide +kernel
theorem dL_isSo_89 : decode cL_isSo 89 = .ok (.iadd, 1) := by decide +kernel
theorem dL_isSo_90 : decode cL_isSo 90 = .ok (.iaload, 1) := by decide +kernel
theorem dL_isSo_91 : decode cL_isSo 91 = .ok (.if_icmp .ne 106, 3) := by decide +kernel
theorem dL_isSo_94 : decode cL_isSo 94 = .ok (.aload_n 0, 1) := by decide +kernel
theorem dL_isSo_95 : decode cL_isSo 95 = .ok (.iload 8, 2) := by decide +kernel
theorem dL_isSo_97 : decode cL_isSo 97 = .ok (.invokevirtual 67, 3) := by decide +kernel
theorem dL_isSo_100 : decode cL_isSo 100 = .ok (.aload_n 3, 1) := by decide +kernel
theorem dL_isSo_101 : decode cL_isSo 101 = .ok (.iconst 4, 1) := by decide +kernel
theorem dL_isSo_102 : decode cL_isSo 102 = .ok (.iload 8, 2) := by decide +kernel
theorem dL_isSo_104 : decode cL_isSo 104 = .ok (.imul, 1) := by decide +kernel
theorem dL_isSo_105 : decode cL_isSo 105 = .ok (.iaload, 1) := by decide +kernel
theorem dL_isSo_106 : decode cL_isSo 106 = .ok (.if_icmp .ne 91, 3) := by decide +kernel
theorem dL_isSo_109 : decode cL_isSo 109 = .ok (.aload_n 0, 1) := by decide +kernel
theorem dL_isSo_110 : decode cL_isSo 110 = .ok (.iload 8, 2) := by decide +kernel
theorem dL_isSo_112 : decode cL_isSo 112 = .ok (.invokevirtual 70, 3) := by decide +kernel
theorem dL_isSo_115 : decode cL_isSo 115 = .ok (.aload_n 3, 1) := by decide +kernel
theorem dL_isSo_116 : decode cL_isSo 116 = .ok (.iconst 4, 1) := by decide +kernel
theorem dL_isSo_117 : decode cL_isSo 117 = .ok (.iload 8, 2) := by decide +kernel
theorem dL_isSo_119 : decode cL_isSo 119 = .ok (.imul, 1) := by decide +kernel
theorem dL_isSo_120 : decode cL_isSo 120 = .ok (.iconst 1, 1) := by decide +kernel
theorem dL_isSo_121 : decode cL_isSo 121 = .ok (.iadd, 1) := by decide +kernel
theorem dL_isSo_122 : decode cL_isSo 122 = .ok (.iaload, 1) := by decide +kernel
theorem dL_isSo_123 : decode cL_isSo 123 = .ok (.if_icmp .ne 74, 3) := by decide +kernel
theorem dL_isSo_126 : decode cL_isSo 126 = .ok (.aload_n 0, 1) := by decide +kernel
theorem dL_isSo_127 : decode cL_isSo 127 = .ok (.iload 8, 2) := by decide +kernel
theorem dL_isSo_129 : decode cL_isSo 129 = .ok (.invokevirtual 73, 3) := by decide +kernel
theorem dL_isSo_132 : decode cL_isSo 132 = .ok (.aload_n 3, 1) := by decide +kernel
theorem dL_isSo_133 : decode cL_isSo 133 = .ok (.iconst 4, 1) := by decide +kernel
theorem dL_isSo_134 : decode cL_isSo 134 = .ok (.iload 8, 2) := by decide +kernel
theorem dL_isSo_136 : decode cL_isSo 136 = .ok (.imul, 1) := by decide +kernel
theorem dL_isSo_137 : decode cL_isSo 137 = .ok (.iconst 2, 1) := by decide +kernel
theorem dL_isSo_138 : decode cL_isSo 138 = .ok (.iadd, 1) := by decide +kernel
theorem dL_isSo_139 : decode cL_isSo 139 = .ok (.iaload, 1) := by decide +kernel
theorem dL_isSo_140 : decode cL_isSo 140 = .ok (.if_icmp .ne 57, 3) := by decide +kernel
theorem dL_isSo_143 : decode cL_isSo 143 = .ok (.aload_n 0, 1) := by decide +kernel
theorem dL_isSo_144 : decode cL_isSo 144 = .ok (.iload 8, 2) := by decide +kernel
theorem dL_isSo_146 : decode cL_isSo 146 = .ok (.invokevirtual 76, 3) := by decide +kernel
theorem dL_isSo_149 : decode cL_isSo 149 = .ok (.aload_n 3, 1) := by decide +kernel
theorem dL_isSo_150 : decode cL_isSo 150 = .ok (.iconst 4, 1) := by decide +kernel
theorem dL_isSo_151 : decode cL_isSo 151 = .ok (.iload 8, 2) := by decide +kernel
theorem dL_isSo_153 : decode cL_isSo 153 = .ok (.imul, 1) := by decide +kernel
theorem dL_isSo_154 : decode cL_isSo 154 = .ok (.iconst 3, 1) := by decide +kernel
theorem dL_isSo_155 : decode cL_isSo 155 = .ok (.iadd, 1) := by decide +kernel
theorem dL_isSo_156 : decode cL_isSo 156 = .ok (.iaload, 1) := by decide +kernel
theorem dL_isSo_157 : decode cL_isSo 157 = .ok (.if_icmp .ne 40, 3) := by decide +kernel
theorem dL_isSo_160 : decode cL_isSo 160 = .ok (.aload_n 0, 1) := by decide +kernel
theorem dL_isSo_161 : decode cL_isSo 161 = .ok (.iload 8, 2) := by decide +kernel
theorem dL_isSo_163 : decode cL_isSo 163 = .ok (.iload 9, 2) := by decide +kernel
theorem dL_isSo_165 : decode cL_isSo 165 = .ok (.invokevirtual 79, 3) := by decide +kernel
theorem dL_isSo_168 : decode cL_isSo 168 = .ok (.aload_n 2, 1) := by decide +kernel
theorem dL_isSo_169 : decode cL_isSo 169 = .ok (.bipush 9, 2) := by decide +kernel
theorem dL_isSo_171 : decode cL_isSo 171 = .ok (.iload 8, 2) := by decide +kernel
theorem dL_isSo_173 : decode cL_isSo 173 = .ok (.imul, 1) := by decide +kernel
theorem dL_isSo_174 : decode cL_isSo 174 = .ok (.iaload, 1) := by decide +kernel
theorem dL_isSo_175 : decode cL_isSo 175 = .ok (.aload_n 2, 1) := by decide +kernel
theorem dL_isSo_176 : decode cL_isSo 176 = .ok (.bipush 9, 2) := by decide +kernel
theorem dL_isSo_178 : decode cL_isSo 178 = .ok (.iload 8, 2) := by decide +kernel
theorem dL_isSo_180 : decode cL_isSo 180 = .ok (.imul, 1) := by decide +kernel
theorem dL_isSo_181 : decode cL_isSo 181 = .ok (.iconst 1, 1) := by decide +kernel
theorem dL_isSo_182 : decode cL_isSo 182 = .ok (.iadd, 1) := by decide +kernel
theorem dL_isSo_183 : decode cL_isSo 183 = .ok (.iaload, 1) := by decide +kernel
theorem dL_isSo_184 : decode cL_isSo 184 = .ok (.iload 9, 2) := by decide +kernel
theorem dL_isSo_186 : decode cL_isSo 186 = .ok (.aload_n 2, 1) := by decide +kernel
theorem dL_isSo_187 : decode cL_isSo 187 = .ok (.invokestatic 31, 3) := by decide +kernel
theorem dL_isSo_190 : decode cL_isSo 190 = .ok (.if_icmp .ne 7, 3) := by decide +kernel
theorem dL_isSo_193 : decode cL_isSo 193 = .ok (.iconst 1, 1) := by decide +kernel
theorem dL_isSo_194 : decode cL_isSo 194 = .ok (.goto 4, 3) := by decide +kernel
theorem dL_isSo_197 : decode cL_isSo 197 = .ok (.iconst 0, 1) := by decide +kernel
theorem dL_isSo_198 : decode cL_isSo 198 = .ok (.istore 7, 2) := by decide +kernel
theorem dL_isSo_200 : decode cL_isSo 200 = .ok (.aload_n 2, 1) := by decide +kernel
theorem dL_isSo_201 : decode cL_isSo 201 = .ok (.bipush 9, 2) := by decide +kernel
theorem dL_isSo_203 : decode cL_isSo 203 = .ok (.iload 8, 2) := by decide +kernel
theorem dL_isSo_205 : decode cL_isSo 205 = .ok (.imul, 1) := by decide +kernel
theorem dL_isSo_206 : decode cL_isSo 206 = .ok (.iconst 1, 1) := by decide +kernel
theorem dL_isSo_207 : decode cL_isSo 207 = .ok (.iadd, 1) := by decide +kernel
theorem dL_isSo_208 : decode cL_isSo 208 = .ok (.iaload, 1) := by decide +kernel
theorem dL_isSo_209 : decode cL_isSo 209 = .ok (.istore 10, 2) := by decide +kernel
theorem dL_isSo_211 : decode cL_isSo 211 = .ok (.iload 10, 2) := by decide +kernel
theorem dL_isSo_213 : decode cL_isSo 213 = .ok (.bipush 10, 2) := by decide +kernel
theorem dL_isSo_215 : decode cL_isSo 215 = .ok (.if_icmp .ge 8, 3) := by decide +kernel
theorem dL_isSo_218 : decode cL_isSo 218 = .ok (.bipush 8, 2) := by decide +kernel
theorem dL_isSo_220 : decode cL_isSo 220 = .ok (.goto 5, 3) := by decide +kernel
theorem dL_isSo_223 : decode cL_isSo 223 = .ok (.bipush 9, 2) := by decide +kernel
theorem dL_isSo_225 : decode cL_isSo 225 = .ok (.istore 11, 2) := by decide +kernel
theorem dL_isSo_227 : decode cL_isSo 227 = .ok (.iload 7, 2) := by decide +kernel
theorem dL_isSo_229 : decode cL_isSo 229 = .ok (.ifCond .eq 110, 3) := by decide +kernel
theorem dL_isSo_232 : decode cL_isSo 232 = .ok (.aload_n 0, 1) := by decide +kernel
theorem dL_isSo_233 : decode cL_isSo 233 = .ok (.iload 8, 2) := by decide +kernel
theorem dL_isSo_235 : decode cL_isSo 235 = .ok (.iconst 5, 1) := by decide +kernel
theorem dL_isSo_236 : decode cL_isSo 236 = .ok (.invokevirtual 81, 3) := by decide +kernel
theorem dL_isSo_239 : decode cL_isSo 239 = .ok (.bipush 48, 2) := by decide +kernel
theorem dL_isSo_241 : decode cL_isSo 241 = .ok (.aload_n 2, 1) := by decide +kernel
theorem dL_isSo_242 : decode cL_isSo 242 = .ok (.bipush 9, 2) := by decide +kernel
theorem dL_isSo_244 : decode cL_isSo 244 = .ok (.iload 8, 2) := by decide +kernel
theorem dL_isSo_246 : decode cL_isSo 246 = .ok (.imul, 1) := by decide +kernel
theorem dL_isSo_247 : decode cL_isSo 247 = .ok (.iaload, 1) := by decide +kernel
theorem dL_isSo_248 : decode cL_isSo 248 = .ok (.iadd, 1) := by decide +kernel
theorem dL_isSo_249 : decode cL_isSo 249 = .ok (.if_icmp .ne 90, 3) := by decide +kernel
theorem dL_isSo_252 : decode cL_isSo 252 = .ok (.aload_n 0, 1) := by decide +kernel
theorem dL_isSo_253 : decode cL_isSo 253 = .ok (.iload 8, 2) := by decide +kernel
theorem dL_isSo_255 : decode cL_isSo 255 = .ok (.bipush 7, 2) := by decide +kernel
theorem dL_isSo_257 : decode cL_isSo 257 = .ok (.invokevirtual 81, 3) := by decide +kernel
theorem dL_isSo_260 : decode cL_isSo 260 = .ok (.bipush 48, 2) := by decide +kernel
theorem dL_isSo_262 : decode cL_isSo 262 = .ok (.iload 10, 2) := by decide +kernel
theorem dL_isSo_264 : decode cL_isSo 264 = .ok (.bipush 10, 2) := by decide +kernel
theorem dL_isSo_266 : decode cL_isSo 266 = .ok (.if_icmp .ge 8, 3) := by decide +kernel
theorem dL_isSo_269 : decode cL_isSo 269 = .ok (.iload 10, 2) := by decide +kernel
theorem dL_isSo_271 : decode cL_isSo 271 = .ok (.goto 8, 3) := by decide +kernel
theorem dL_isSo_274 : decode cL_isSo 274 = .ok (.iload 10, 2) := by decide +kernel
theorem dL_isSo_276 : decode cL_isSo 276 = .ok (.bipush 10, 2) := by decide +kernel
theorem dL_isSo_278 : decode cL_isSo 278 = .ok (.idiv, 1) := by decide +kernel
theorem dL_isSo_279 : decode cL_isSo 279 = .ok (.iadd, 1) := by decide +kernel
theorem dL_isSo_280 : decode cL_isSo 280 = .ok (.if_icmp .ne 59, 3) := by decide +kernel
theorem dL_isSo_283 : decode cL_isSo 283 = .ok (.aload_n 0, 1) := by decide +kernel
theorem dL_isSo_284 : decode cL_isSo 284 = .ok (.iload 8, 2) := by decide +kernel
theorem dL_isSo_286 : decode cL_isSo 286 = .ok (.iload 11, 2) := by decide +kernel
theorem dL_isSo_288 : decode cL_isSo 288 = .ok (.invokevirtual 81, 3) := by decide +kernel
theorem dL_isSo_291 : decode cL_isSo 291 = .ok (.bipush 58, 2) := by decide +kernel
theorem dL_isSo_293 : decode cL_isSo 293 = .ok (.if_icmp .ne 46, 3) := by decide +kernel
theorem dL_isSo_296 : decode cL_isSo 296 = .ok (.aload_n 0, 1) := by decide +kernel
theorem dL_isSo_297 : decode cL_isSo 297 = .ok (.iload 8, 2) := by decide +kernel
theorem dL_isSo_299 : decode cL_isSo 299 = .ok (.iload 11, 2) := by decide +kernel
theorem dL_isSo_301 : decode cL_isSo 301 = .ok (.iconst 1, 1) := by decide +kernel
theorem dL_isSo_302 : decode cL_isSo 302 = .ok (.iadd, 1) := by decide +kernel
theorem dL_isSo_303 : decode cL_isSo 303 = .ok (.invokevirtual 81, 3) := by decide +kernel
theorem dL_isSo_306 : decode cL_isSo 306 = .ok (.bipush 48, 2) := by decide +kernel
theorem dL_isSo_308 : decode cL_isSo 308 = .ok (.iload 8, 2) := by decide +kernel
theorem dL_isSo_310 : decode cL_isSo 310 = .ok (.iadd, 1) := by decide +kernel
theorem dL_isSo_311 : decode cL_isSo 311 = .ok (.if_icmp .ne 28, 3) := by decide +kernel
theorem dL_isSo_314 : decode cL_isSo 314 = .ok (.aload_n 0, 1) := by decide +kernel
theorem dL_isSo_315 : decode cL_isSo 315 = .ok (.iload 8, 2) := by decide +kernel
theorem dL_isSo_317 : decode cL_isSo 317 = .ok (.iload 11, 2) := by decide +kernel
theorem dL_isSo_319 : decode cL_isSo 319 = .ok (.iconst 1, 1) := by decide +kernel
theorem dL_isSo_320 : decode cL_isSo 320 = .ok (.isub, 1) := by decide +kernel
theorem dL_isSo_321 : decode cL_isSo 321 = .ok (.invokevirtual 81, 3) := by decide +kernel
theorem dL_isSo_324 : decode cL_isSo 324 = .ok (.bipush 48, 2) := by decide +kernel
theorem dL_isSo_326 : decode cL_isSo 326 = .ok (.iload 10, 2) := by decide +kernel
theorem dL_isSo_328 : decode cL_isSo 328 = .ok (.bipush 10, 2) := by decide +kernel
theorem dL_isSo_330 : decode cL_isSo 330 = .ok (.irem, 1) := by decide +kernel
theorem dL_isSo_331 : decode cL_isSo 331 = .ok (.iadd, 1) := by decide +kernel
theorem dL_isSo_332 : decode cL_isSo 332 = .ok (.if_icmp .ne 7, 3) := by decide +kernel
theorem dL_isSo_335 : decode cL_isSo 335 = .ok (.iconst 1, 1) := by decide +kernel
theorem dL_isSo_336 : decode cL_isSo 336 = .ok (.goto 4, 3) := by decide +kernel
theorem dL_isSo_339 : decode cL_isSo 339 = .ok (.iconst 0, 1) := by decide +kernel
theorem dL_isSo_340 : decode cL_isSo 340 = .ok (.istore 7, 2) := by decide +kernel
theorem dL_isSo_342 : decode cL_isSo 342 = .ok (.iinc 8 1, 3) := by decide +kernel
theorem dL_isSo_345 : decode cL_isSo 345 = .ok (.goto (-296), 3) := by decide +kernel
theorem dL_isSo_348 : decode cL_isSo 348 = .ok (.iload 7, 2) := by decide +kernel
theorem dL_isSo_350 : decode cL_isSo 350 = .ok (.ireturn, 1) := by decide +kernel
theorem dL_adds_0 : decode cL_adds 0 = .ok (.bipush 9, 2) := by decide +kernel
theorem dL_adds_2 : decode cL_adds 2 = .ok (.aload_n 3, 1) := by decide +kernel
theorem dL_adds_3 : decode cL_adds 3 = .ok (.iconst 0, 1) := by decide +kernel
theorem dL_adds_4 : decode cL_adds 4 = .ok (.iaload, 1) := by decide +kernel
theorem dL_adds_5 : decode cL_adds 5 = .ok (.imul, 1) := by decide +kernel
theorem dL_adds_6 : decode cL_adds 6 = .ok (.istore 4, 2) := by decide +kernel
theorem dL_adds_8 : decode cL_adds 8 = .ok (.aload_n 2, 1) := by decide +kernel
theorem dL_adds_9 : decode cL_adds 9 = .ok (.iload 4, 2) := by decide +kernel
theorem dL_adds_11 : decode cL_adds 11 = .ok (.iload_n 1, 1) := by decide +kernel
theorem dL_adds_12 : decode cL_adds 12 = .ok (.iconst 3, 1) := by decide +kernel
theorem dL_adds_13 : decode cL_adds 13 = .ok (.invokestatic 60, 3) := by decide +kernel
theorem dL_adds_16 : decode cL_adds 16 = .ok (.iastore, 1) := by decide +kernel
theorem dL_adds_17 : decode cL_adds 17 = .ok (.aload_n 2, 1) := by decide +kernel
theorem dL_adds_18 : decode cL_adds 18 = .ok (.iload 4, 2) := by decide +kernel
theorem dL_adds_20 : decode cL_adds 20 = .ok (.iconst 1, 1) := by decide +kernel
theorem dL_adds_21 : decode cL_adds 21 = .ok (.iadd, 1) := by decide +kernel
theorem dL_adds_22 : decode cL_adds 22 = .ok (.iload_n 1, 1) := by decide +kernel
theorem dL_adds_23 : decode cL_adds 23 = .ok (.iconst 2, 1) := by decide +kernel
theorem dL_adds_24 : decode cL_adds 24 = .ok (.ishr, 1) := by decide +kernel
theorem dL_adds_25 : decode cL_adds 25 = .ok (.iload_n 1, 1) := by decide +kernel
theorem dL_adds_26 : decode cL_adds 26 = .ok (.bipush 13, 2) := by decide +kernel
theorem dL_adds_28 : decode cL_adds 28 = .ok (.ishr, 1) := by decide +kernel
theorem dL_adds_29 : decode cL_adds 29 = .ok (.iconst 3, 1) := by decide +kernel
theorem dL_adds_30 : decode cL_adds 30 = .ok (.invokestatic 60, 3) := by decide +kernel
theorem dL_adds_33 : decode cL_adds 33 = .ok (.ifCond .ne 8, 3) := by decide +kernel
theorem dL_adds_36 : decode cL_adds 36 = .ok (.bipush 100, 2) := by decide +kernel
theorem dL_adds_38 : decode cL_adds 38 = .ok (.goto 5, 3) := by decide +kernel
theorem dL_adds_41 : decode cL_adds 41 = .ok (.bipush 14, 2) := by decide +kernel
theorem dL_adds_43 : decode cL_adds 43 = .ok (.invokestatic 60, 3) := by decide +kernel
theorem dL_adds_46 : decode cL_adds 46 = .ok (.iastore, 1) := by decide +kernel
theorem dL_adds_47 : decode cL_adds 47 = .ok (.aload_n 2, 1) := by decide +kernel
theorem dL_adds_48 : decode cL_adds 48 = .ok (.iload 4, 2) := by decide +kernel
theorem dL_adds_50 : decode cL_adds 50 = .ok (.iconst 2, 1) := by decide +kernel
theorem dL_adds_51 : decode cL_adds 51 = .ok (.iadd, 1) := by decide +kernel
theorem dL_adds_52 : decode cL_adds 52 = .ok (.iload_n 1, 1) := by decide +kernel
theorem dL_adds_53 : decode cL_adds 53 = .ok (.iconst 4, 1) := by decide +kernel
theorem dL_adds_54 : decode cL_adds 54 = .ok (.ishr, 1) := by decide +kernel
theorem dL_adds_55 : decode cL_adds 55 = .ok (.iload_n 1, 1) := by decide +kernel
theorem dL_adds_56 : decode cL_adds 56 = .ok (.bipush 14, 2) := by decide +kernel
theorem dL_adds_58 : decode cL_adds 58 = .ok (.ishr, 1) := by decide +kernel
theorem dL_adds_59 : decode cL_adds 59 = .ok (.iconst 4, 1) := by decide +kernel
theorem dL_adds_60 : decode cL_adds 60 = .ok (.invokestatic 60, 3) := by decide +kernel
theorem dL_adds_63 : decode cL_adds 63 = .ok (.ifCond .ne 9, 3) := by decide +kernel
theorem dL_adds_66 : decode cL_adds 66 = .ok (.sipush 20001, 3) := by decide +kernel
theorem dL_adds_69 : decode cL_adds 69 = .ok (.goto 6, 3) := by decide +kernel
theorem dL_adds_72 : decode cL_adds 72 = .ok (.sipush 900, 3) := by decide +kernel
theorem dL_adds_75 : decode cL_adds 75 = .ok (.invokestatic 60, 3) := by decide +kernel
theorem dL_adds_78 : decode cL_adds 78 = .ok (.iload_n 1, 1) := by decide +kernel
theorem dL_adds_79 : decode cL_adds 79 = .ok (.bipush 14, 2) := by decide +kernel
theorem dL_adds_81 : decode cL_adds 81 = .ok (.ishr, 1) := by decide +kernel
theorem dL_adds_82 : decode cL_adds 82 = .ok (.iconst 4, 1) := by decide +kernel
theorem dL_adds_83 : decode cL_adds 83 = .ok (.invokestatic 60, 3) := by decide +kernel
theorem dL_adds_86 : decode cL_adds 86 = .ok (.ifCond .ne 9, 3) := by decide +kernel
theorem dL_adds_89 : decode cL_adds 89 = .ok (.sipush 10000, 3) := by decide +kernel
theorem dL_adds_92 : decode cL_adds 92 = .ok (.goto 5, 3) := by decide +kernel
theorem dL_adds_95 : decode cL_adds 95 = .ok (.bipush 100, 2) := by decide +kernel
theorem dL_adds_97 : decode cL_adds 97 = .ok (.isub, 1) := by decide +kernel
theorem dL_adds_98 : decode cL_adds 98 = .ok (.iastore, 1) := by decide +kernel
theorem dL_adds_99 : decode cL_adds 99 = .ok (.aload_n 2, 1) := by decide +kernel
theorem dL_adds_100 : decode cL_adds 100 = .ok (.iload 4, 2) := by decide +kernel
theorem dL_adds_102 : decode cL_adds 102 = .ok (.iconst 3, 1) := by decide +kernel
theorem dL_adds_103 : decode cL_adds 103 = .ok (.iadd, 1) := by decide +kernel
theorem dL_adds_104 : decode cL_adds 104 = .ok (.iload_n 1, 1) := by decide +kernel
theorem dL_adds_105 : decode cL_adds 105 = .ok (.bipush 6, 2) := by decide +kernel
theorem dL_adds_107 : decode cL_adds 107 = .ok (.ishr, 1) := by decide +kernel
theorem dL_adds_108 : decode cL_adds 108 = .ok (.sipush 500, 3) := by decide +kernel
theorem dL_adds_111 : decode cL_adds 111 = .ok (.invokestatic 60, 3) := by decide +kernel
theorem dL_adds_114 : decode cL_adds 114 = .ok (.bipush 100, 2) := by decide +kernel
theorem dL_adds_116 : decode cL_adds 116 = .ok (.isub, 1) := by decide +kernel
theorem dL_adds_117 : decode cL_adds 117 = .ok (.iastore, 1) := by decide +kernel
theorem dL_adds_118 : decode cL_adds 118 = .ok (.aload_n 2, 1) := by decide +kernel
theorem dL_adds_119 : decode cL_adds 119 = .ok (.iload 4, 2) := by decide +kernel
theorem dL_adds_121 : decode cL_adds 121 = .ok (.iconst 4, 1) := by decide +kernel
theorem dL_adds_122 : decode cL_adds 122 = .ok (.iadd, 1) := by decide +kernel
theorem dL_adds_123 : decode cL_adds 123 = .ok (.iload_n 1, 1) := by decide +kernel
theorem dL_adds_124 : decode cL_adds 124 = .ok (.bipush 8, 2) := by decide +kernel
theorem dL_adds_126 : decode cL_adds 126 = .ok (.ishr, 1) := by decide +kernel
theorem dL_adds_127 : decode cL_adds 127 = .ok (.bipush 6, 2) := by decide +kernel
theorem dL_adds_129 : decode cL_adds 129 = .ok (.invokestatic 60, 3) := by decide +kernel
theorem dL_adds_132 : decode cL_adds 132 = .ok (.iastore, 1) := by decide +kernel
theorem dL_adds_133 : decode cL_adds 133 = .ok (.aload_n 2, 1) := by decide +kernel
theorem dL_adds_134 : decode cL_adds 134 = .ok (.iload 4, 2) := by decide +kernel
theorem dL_adds_136 : decode cL_adds 136 = .ok (.iconst 5, 1) := by decide +kernel
theorem dL_adds_137 : decode cL_adds 137 = .ok (.iadd, 1) := by decide +kernel
theorem dL_adds_138 : decode cL_adds 138 = .ok (.iload_n 1, 1) := by decide +kernel
theorem dL_adds_139 : decode cL_adds 139 = .ok (.iconst 5, 1) := by decide +kernel
theorem dL_adds_140 : decode cL_adds 140 = .ok (.ishr, 1) := by decide +kernel
theorem dL_adds_141 : decode cL_adds 141 = .ok (.iload_n 1, 1) := by decide +kernel
theorem dL_adds_142 : decode cL_adds 142 = .ok (.bipush 12, 2) := by decide +kernel
theorem dL_adds_144 : decode cL_adds 144 = .ok (.ishr, 1) := by decide +kernel
theorem dL_adds_145 : decode cL_adds 145 = .ok (.iconst 3, 1) := by decide +kernel
theorem dL_adds_146 : decode cL_adds 146 = .ok (.invokestatic 60, 3) := by decide +kernel
theorem dL_adds_149 : decode cL_adds 149 = .ok (.ifCond .ne 9, 3) := by decide +kernel
theorem dL_adds_152 : decode cL_adds 152 = .ok (.sipush 1001, 3) := by decide +kernel
theorem dL_adds_155 : decode cL_adds 155 = .ok (.goto 5, 3) := by decide +kernel
theorem dL_adds_158 : decode cL_adds 158 = .ok (.bipush 60, 2) := by decide +kernel
theorem dL_adds_160 : decode cL_adds 160 = .ok (.invokestatic 60, 3) := by decide +kernel
theorem dL_adds_163 : decode cL_adds 163 = .ok (.iastore, 1) := by decide +kernel
theorem dL_adds_164 : decode cL_adds 164 = .ok (.aload_n 3, 1) := by decide +kernel
theorem dL_adds_165 : decode cL_adds 165 = .ok (.iconst 0, 1) := by decide +kernel
theorem dL_adds_166 : decode cL_adds 166 = .ok (.dup2, 1) := by decide +kernel
theorem dL_adds_167 : decode cL_adds 167 = .ok (.iaload, 1) := by decide +kernel
theorem dL_adds_168 : decode cL_adds 168 = .ok (.iconst 1, 1) := by decide +kernel
theorem dL_adds_169 : decode cL_adds 169 = .ok (.iadd, 1) := by decide +kernel
theorem dL_adds_170 : decode cL_adds 170 = .ok (.iastore, 1) := by decide +kernel
theorem dL_adds_171 : decode cL_adds 171 = .ok (.aload_n 0, 1) := by decide +kernel
theorem dL_adds_172 : decode cL_adds 172 = .ok (.aload_n 2, 1) := by decide +kernel
theorem dL_adds_173 : decode cL_adds 173 = .ok (.iload 4, 2) := by decide +kernel
theorem dL_adds_175 : decode cL_adds 175 = .ok (.iaload, 1) := by decide +kernel
theorem dL_adds_176 : decode cL_adds 176 = .ok (.aload_n 2, 1) := by decide +kernel
theorem dL_adds_177 : decode cL_adds 177 = .ok (.iload 4, 2) := by decide +kernel
theorem dL_adds_179 : decode cL_adds 179 = .ok (.iconst 1, 1) := by decide +kernel
theorem dL_adds_180 : decode cL_adds 180 = .ok (.iadd, 1) := by decide +kernel
theorem dL_adds_181 : decode cL_adds 181 = .ok (.iaload, 1) := by decide +kernel
theorem dL_adds_182 : decode cL_adds 182 = .ok (.aload_n 2, 1) := by decide +kernel
theorem dL_adds_183 : decode cL_adds 183 = .ok (.iload 4, 2) := by decide +kernel
theorem dL_adds_185 : decode cL_adds 185 = .ok (.iconst 2, 1) := by decide +kernel
theorem dL_adds_186 : decode cL_adds 186 = .ok (.iadd, 1) := by decide +kernel
theorem dL_adds_187 : decode cL_adds 187 = .ok (.iaload, 1) := by decide +kernel
theorem dL_adds_188 : decode cL_adds 188 = .ok (.aload_n 2, 1) := by decide +kernel
theorem dL_adds_189 : decode cL_adds 189 = .ok (.iload 4, 2) := by decide +kernel
theorem dL_adds_191 : decode cL_adds 191 = .ok (.iconst 3, 1) := by decide +kernel
theorem dL_adds_192 : decode cL_adds 192 = .ok (.iadd, 1) := by decide +kernel
theorem dL_adds_193 : decode cL_adds 193 = .ok (.iaload, 1) := by decide +kernel
theorem dL_adds_194 : decode cL_adds 194 = .ok (.aload_n 2, 1) := by decide +kernel
theorem dL_adds_195 : decode cL_adds 195 = .ok (.iload 4, 2) := by decide +kernel
theorem dL_adds_197 : decode cL_adds 197 = .ok (.iconst 4, 1) := by decide +kernel
theorem dL_adds_198 : decode cL_adds 198 = .ok (.iadd, 1) := by decide +kernel
theorem dL_adds_199 : decode cL_adds 199 = .ok (.iaload, 1) := by decide +kernel
theorem dL_adds_200 : decode cL_adds 200 = .ok (.aload_n 2, 1) := by decide +kernel
theorem dL_adds_201 : decode cL_adds 201 = .ok (.iload 4, 2) := by decide +kernel
theorem dL_adds_203 : decode cL_adds 203 = .ok (.iconst 5, 1) := by decide +kernel
theorem dL_adds_204 : decode cL_adds 204 = .ok (.iadd, 1) := by decide +kernel
theorem dL_adds_205 : decode cL_adds 205 = .ok (.iaload, 1) := by decide +kernel
theorem dL_adds_206 : decode cL_adds 206 = .ok (.invokevirtual 85, 3) := by decide +kernel
theorem dL_adds_209 : decode cL_adds 209 = .ok (.aload_n 3, 1) := by decide +kernel
theorem dL_adds_210 : decode cL_adds 210 = .ok (.iconst 0, 1) := by decide +kernel
theorem dL_adds_211 : decode cL_adds 211 = .ok (.iaload, 1) := by decide +kernel
theorem dL_adds_212 : decode cL_adds 212 = .ok (.iconst 1, 1) := by decide +kernel
theorem dL_adds_213 : decode cL_adds 213 = .ok (.isub, 1) := by decide +kernel
theorem dL_adds_214 : decode cL_adds 214 = .ok (.if_icmp .ne 7, 3) := by decide +kernel
theorem dL_adds_217 : decode cL_adds 217 = .ok (.iconst 1, 1) := by decide +kernel
theorem dL_adds_218 : decode cL_adds 218 = .ok (.goto 4, 3) := by decide +kernel
theorem dL_adds_221 : decode cL_adds 221 = .ok (.iconst 0, 1) := by decide +kernel
theorem dL_adds_222 : decode cL_adds 222 = .ok (.ireturn, 1) := by decide +kernel
theorem dL_lends_0 : decode cL_lends 0 = .ok (.iload_n 1, 1) := by decide +kernel
theorem dL_lends_1 : decode cL_lends 1 = .ok (.aload 4, 2) := by decide +kernel
theorem dL_lends_3 : decode cL_lends 3 = .ok (.iconst 0, 1) := by decide +kernel
theorem dL_lends_4 : decode cL_lends 4 = .ok (.iaload, 1) := by decide +kernel
theorem dL_lends_5 : decode cL_lends 5 = .ok (.invokestatic 60, 3) := by decide +kernel
theorem dL_lends_8 : decode cL_lends 8 = .ok (.istore 5, 2) := by decide +kernel
theorem dL_lends_10 : decode cL_lends 10 = .ok (.iload 5, 2) := by decide +kernel
theorem dL_lends_12 : decode cL_lends 12 = .ok (.iconst 1, 1) := by decide +kernel
theorem dL_lends_13 : decode cL_lends 13 = .ok (.iadd, 1) := by decide +kernel
theorem dL_lends_14 : decode cL_lends 14 = .ok (.iload_n 1, 1) := by decide +kernel
theorem dL_lends_15 : decode cL_lends 15 = .ok (.iconst 3, 1) := by decide +kernel
theorem dL_lends_16 : decode cL_lends 16 = .ok (.ishr, 1) := by decide +kernel
theorem dL_lends_17 : decode cL_lends 17 = .ok (.aload 4, 2) := by decide +kernel
theorem dL_lends_19 : decode cL_lends 19 = .ok (.iconst 0, 1) := by decide +kernel
theorem dL_lends_20 : decode cL_lends 20 = .ok (.iaload, 1) := by decide +kernel
theorem dL_lends_21 : decode cL_lends 21 = .ok (.iconst 1, 1) := by decide +kernel
theorem dL_lends_22 : decode cL_lends 22 = .ok (.isub, 1) := by decide +kernel
theorem dL_lends_23 : decode cL_lends 23 = .ok (.invokestatic 60, 3) := by decide +kernel
theorem dL_lends_26 : decode cL_lends 26 = .ok (.iadd, 1) := by decide +kernel
theorem dL_lends_27 : decode cL_lends 27 = .ok (.aload 4, 2) := by decide +kernel
theorem dL_lends_29 : decode cL_lends 29 = .ok (.iconst 0, 1) := by decide +kernel
theorem dL_lends_30 : decode cL_lends 30 = .ok (.iaload, 1) := by decide +kernel
theorem dL_lends_31 : decode cL_lends 31 = .ok (.irem, 1) := by decide +kernel
theorem dL_lends_32 : decode cL_lends 32 = .ok (.istore 6, 2) := by decide +kernel
theorem dL_lends_34 : decode cL_lends 34 = .ok (.iload_n 1, 1) := by decide +kernel
theorem dL_lends_35 : decode cL_lends 35 = .ok (.bipush 6, 2) := by decide +kernel
theorem dL_lends_37 : decode cL_lends 37 = .ok (.ishr, 1) := by decide +kernel
theorem dL_lends_38 : decode cL_lends 38 = .ok (.iconst 3, 1) := by decide +kernel
theorem dL_lends_39 : decode cL_lends 39 = .ok (.invokestatic 60, 3) := by decide +kernel
theorem dL_lends_42 : decode cL_lends 42 = .ok (.ifCond .ne 96, 3) := by decide +kernel
theorem dL_lends_45 : decode cL_lends 45 = .ok (.aload_n 3, 1) := by decide +kernel
theorem dL_lends_46 : decode cL_lends 46 = .ok (.iconst 5, 1) := by decide +kernel
theorem dL_lends_47 : decode cL_lends 47 = .ok (.iload 5, 2) := by decide +kernel
theorem dL_lends_49 : decode cL_lends 49 = .ok (.imul, 1) := by decide +kernel
theorem dL_lends_50 : decode cL_lends 50 = .ok (.iload 6, 2) := by decide +kernel
theorem dL_lends_52 : decode cL_lends 52 = .ok (.iadd, 1) := by decide +kernel
theorem dL_lends_53 : decode cL_lends 53 = .ok (.iaload, 1) := by decide +kernel
theorem dL_lends_54 : decode cL_lends 54 = .ok (.aload_n 2, 1) := by decide +kernel
theorem dL_lends_55 : decode cL_lends 55 = .ok (.iconst 4, 1) := by decide +kernel
theorem dL_lends_56 : decode cL_lends 56 = .ok (.iload 6, 2) := by decide +kernel
theorem dL_lends_58 : decode cL_lends 58 = .ok (.imul, 1) := by decide +kernel
theorem dL_lends_59 : decode cL_lends 59 = .ok (.iaload, 1) := by decide +kernel
theorem dL_lends_60 : decode cL_lends 60 = .ok (.if_icmp .le 12, 3) := by decide +kernel
theorem dL_lends_63 : decode cL_lends 63 = .ok (.aload_n 2, 1) := by decide +kernel
theorem dL_lends_64 : decode cL_lends 64 = .ok (.iconst 4, 1) := by decide +kernel
theorem dL_lends_65 : decode cL_lends 65 = .ok (.iload 6, 2) := by decide +kernel
theorem dL_lends_67 : decode cL_lends 67 = .ok (.imul, 1) := by decide +kernel
theorem dL_lends_68 : decode cL_lends 68 = .ok (.iaload, 1) := by decide +kernel
theorem dL_lends_69 : decode cL_lends 69 = .ok (.goto 12, 3) := by decide +kernel
theorem dL_lends_72 : decode cL_lends 72 = .ok (.aload_n 3, 1) := by decide +kernel
theorem dL_lends_73 : decode cL_lends 73 = .ok (.iconst 5, 1) := by decide +kernel
theorem dL_lends_74 : decode cL_lends 74 = .ok (.iload 5, 2) := by decide +kernel
theorem dL_lends_76 : decode cL_lends 76 = .ok (.imul, 1) := by decide +kernel
theorem dL_lends_77 : decode cL_lends 77 = .ok (.iload 6, 2) := by decide +kernel
theorem dL_lends_79 : decode cL_lends 79 = .ok (.iadd, 1) := by decide +kernel
theorem dL_lends_80 : decode cL_lends 80 = .ok (.iaload, 1) := by decide +kernel
theorem dL_lends_81 : decode cL_lends 81 = .ok (.istore 7, 2) := by decide +kernel
theorem dL_lends_83 : decode cL_lends 83 = .ok (.aload_n 3, 1) := by decide +kernel
theorem dL_lends_84 : decode cL_lends 84 = .ok (.iconst 5, 1) := by decide +kernel
theorem dL_lends_85 : decode cL_lends 85 = .ok (.iload 5, 2) := by decide +kernel
theorem dL_lends_87 : decode cL_lends 87 = .ok (.imul, 1) := by decide +kernel
theorem dL_lends_88 : decode cL_lends 88 = .ok (.iload 6, 2) := by decide +kernel
theorem dL_lends_90 : decode cL_lends 90 = .ok (.iadd, 1) := by decide +kernel
theorem dL_lends_91 : decode cL_lends 91 = .ok (.dup2, 1) := by decide +kernel
theorem dL_lends_92 : decode cL_lends 92 = .ok (.iaload, 1) := by decide +kernel
theorem dL_lends_93 : decode cL_lends 93 = .ok (.iload 7, 2) := by decide +kernel
theorem dL_lends_95 : decode cL_lends 95 = .ok (.isub, 1) := by decide +kernel
theorem dL_lends_96 : decode cL_lends 96 = .ok (.iastore, 1) := by decide +kernel
theorem dL_lends_97 : decode cL_lends 97 = .ok (.aload_n 2, 1) := by decide +kernel
theorem dL_lends_98 : decode cL_lends 98 = .ok (.iconst 4, 1) := by decide +kernel
theorem dL_lends_99 : decode cL_lends 99 = .ok (.iload 6, 2) := by decide +kernel
theorem dL_lends_101 : decode cL_lends 101 = .ok (.imul, 1) := by decide +kernel
theorem dL_lends_102 : decode cL_lends 102 = .ok (.dup2, 1) := by decide +kernel
theorem dL_lends_103 : decode cL_lends 103 = .ok (.iaload, 1) := by decide +kernel
theorem dL_lends_104 : decode cL_lends 104 = .ok (.iload 7, 2) := by decide +kernel
theorem dL_lends_106 : decode cL_lends 106 = .ok (.isub, 1) := by decide +kernel
theorem dL_lends_107 : decode cL_lends 107 = .ok (.iastore, 1) := by decide +kernel
theorem dL_lends_108 : decode cL_lends 108 = .ok (.aload_n 2, 1) := by decide +kernel
theorem dL_lends_109 : decode cL_lends 109 = .ok (.iconst 4, 1) := by decide +kernel
theorem dL_lends_110 : decode cL_lends 110 = .ok (.iload 5, 2) := by decide +kernel
theorem dL_lends_112 : decode cL_lends 112 = .ok (.imul, 1) := by decide +kernel
theorem dL_lends_113 : decode cL_lends 113 = .ok (.dup2, 1) := by decide +kernel
theorem dL_lends_114 : decode cL_lends 114 = .ok (.iaload, 1) := by decide +kernel
theorem dL_lends_115 : decode cL_lends 115 = .ok (.iload 7, 2) := by decide +kernel
theorem dL_lends_117 : decode cL_lends 117 = .ok (.iadd, 1) := by decide +kernel
theorem dL_lends_118 : decode cL_lends 118 = .ok (.iastore, 1) := by decide +kernel
theorem dL_lends_119 : decode cL_lends 119 = .ok (.aload_n 0, 1) := by decide +kernel
theorem dL_lends_120 : decode cL_lends 120 = .ok (.iload 5, 2) := by decide +kernel
theorem dL_lends_122 : decode cL_lends 122 = .ok (.iload 6, 2) := by decide +kernel
theorem dL_lends_124 : decode cL_lends 124 = .ok (.invokevirtual 89, 3) := by decide +kernel
theorem dL_lends_127 : decode cL_lends 127 = .ok (.iload 7, 2) := by decide +kernel
theorem dL_lends_129 : decode cL_lends 129 = .ok (.if_icmp .ne 7, 3) := by decide +kernel
theorem dL_lends_132 : decode cL_lends 132 = .ok (.iconst 1, 1) := by decide +kernel
theorem dL_lends_133 : decode cL_lends 133 = .ok (.goto 4, 3) := by decide +kernel
theorem dL_lends_136 : decode cL_lends 136 = .ok (.iconst 0, 1) := by decide +kernel
theorem dL_lends_137 : decode cL_lends 137 = .ok (.ireturn, 1) := by decide +kernel
theorem dL_lends_138 : decode cL_lends 138 = .ok (.iconst 1, 1) := by decide +kernel
theorem dL_lends_139 : decode cL_lends 139 = .ok (.iload_n 1, 1) := by decide +kernel
theorem dL_lends_140 : decode cL_lends 140 = .ok (.bipush 8, 2) := by decide +kernel
theorem dL_lends_142 : decode cL_lends 142 = .ok (.ishr, 1) := by decide +kernel
theorem dL_lends_143 : decode cL_lends 143 = .ok (.iload_n 1, 1) := by decide +kernel
theorem dL_lends_144 : decode cL_lends 144 = .ok (.bipush 13, 2) := by decide +kernel
theorem dL_lends_146 : decode cL_lends 146 = .ok (.ishr, 1) := by decide +kernel
theorem dL_lends_147 : decode cL_lends 147 = .ok (.iconst 3, 1) := by decide +kernel
theorem dL_lends_148 : decode cL_lends 148 = .ok (.invokestatic 60, 3) := by decide +kernel
theorem dL_lends_151 : decode cL_lends 151 = .ok (.ifCond .ne 9, 3) := by decide +kernel
theorem dL_lends_154 : decode cL_lends 154 = .ok (.sipush 10000, 3) := by decide +kernel
theorem dL_lends_157 : decode cL_lends 157 = .ok (.goto 5, 3) := by decide +kernel
theorem dL_lends_160 : decode cL_lends 160 = .ok (.bipush 40, 2) := by decide +kernel
theorem dL_lends_162 : decode cL_lends 162 = .ok (.invokestatic 60, 3) := by decide +kernel
theorem dL_lends_165 : decode cL_lends 165 = .ok (.iadd, 1) := by decide +kernel
theorem dL_lends_166 : decode cL_lends 166 = .ok (.istore 7, 2) := by decide +kernel
theorem dL_lends_168 : decode cL_lends 168 = .ok (.aload_n 2, 1) := by decide +kernel
theorem dL_lends_169 : decode cL_lends 169 = .ok (.iconst 4, 1) := by decide +kernel
theorem dL_lends_170 : decode cL_lends 170 = .ok (.iload 5, 2) := by decide +kernel
theorem dL_lends_172 : decode cL_lends 172 = .ok (.imul, 1) := by decide +kernel
theorem dL_lends_173 : decode cL_lends 173 = .ok (.iaload, 1) := by decide +kernel
theorem dL_lends_174 : decode cL_lends 174 = .ok (.iload 7, 2) := by decide +kernel
theorem dL_lends_176 : decode cL_lends 176 = .ok (.if_icmp .lt 7, 3) := by decide +kernel
theorem dL_lends_179 : decode cL_lends 179 = .ok (.iconst 1, 1) := by decide +kernel
theorem dL_lends_180 : decode cL_lends 180 = .ok (.goto 4, 3) := by decide +kernel
theorem dL_lends_183 : decode cL_lends 183 = .ok (.iconst 0, 1) := by decide +kernel
theorem dL_lends_184 : decode cL_lends 184 = .ok (.istore 8, 2) := by decide +kernel
theorem dL_lends_186 : decode cL_lends 186 = .ok (.aload_n 2, 1) := by decide +kernel
theorem dL_lends_187 : decode cL_lends 187 = .ok (.iconst 4, 1) := by decide +kernel
theorem dL_lends_188 : decode cL_lends 188 = .ok (.iload 5, 2) := by decide +kernel
theorem dL_lends_190 : decode cL_lends 190 = .ok (.imul, 1) := by decide +kernel
theorem dL_lends_191 : decode cL_lends 191 = .ok (.dup2, 1) := by decide +kernel
theorem dL_lends_192 : decode cL_lends 192 = .ok (.iaload, 1) := by decide +kernel
theorem dL_lends_193 : decode cL_lends 193 = .ok (.iload 8, 2) := by decide +kernel
theorem dL_lends_195 : decode cL_lends 195 = .ok (.ifCond .eq 8, 3) := by decide +kernel
theorem dL_lends_198 : decode cL_lends 198 = .ok (.iload 7, 2) := by decide +kernel
theorem dL_lends_200 : decode cL_lends 200 = .ok (.goto 4, 3) := by decide +kernel
theorem dL_lends_203 : decode cL_lends 203 = .ok (.iconst 0, 1) := by decide +kernel
theorem dL_lends_204 : decode cL_lends 204 = .ok (.isub, 1) := by decide +kernel
theorem dL_lends_205 : decode cL_lends 205 = .ok (.iastore, 1) := by decide +kernel
theorem dL_lends_206 : decode cL_lends 206 = .ok (.aload_n 2, 1) := by decide +kernel
theorem dL_lends_207 : decode cL_lends 207 = .ok (.iconst 4, 1) := by decide +kernel
theorem dL_lends_208 : decode cL_lends 208 = .ok (.iload 6, 2) := by decide +kernel
theorem dL_lends_210 : decode cL_lends 210 = .ok (.imul, 1) := by decide +kernel
theorem dL_lends_211 : decode cL_lends 211 = .ok (.dup2, 1) := by decide +kernel
theorem dL_lends_212 : decode cL_lends 212 = .ok (.iaload, 1) := by decide +kernel
theorem dL_lends_213 : decode cL_lends 213 = .ok (.iload 8, 2) := by decide +kernel
theorem dL_lends_215 : decode cL_lends 215 = .ok (.ifCond .eq 8, 3) := by decide +kernel
theorem dL_lends_218 : decode cL_lends 218 = .ok (.iload 7, 2) := by decide +kernel
theorem dL_lends_220 : decode cL_lends 220 = .ok (.goto 4, 3) := by decide +kernel
theorem dL_lends_223 : decode cL_lends 223 = .ok (.iconst 0, 1) := by decide +kernel
theorem dL_lends_224 : decode cL_lends 224 = .ok (.iadd, 1) := by decide +kernel
theorem dL_lends_225 : decode cL_lends 225 = .ok (.iastore, 1) := by decide +kernel
theorem dL_lends_226 : decode cL_lends 226 = .ok (.aload_n 3, 1) := by decide +kernel
theorem dL_lends_227 : decode cL_lends 227 = .ok (.iconst 5, 1) := by decide +kernel
theorem dL_lends_228 : decode cL_lends 228 = .ok (.iload 5, 2) := by decide +kernel
theorem dL_lends_230 : decode cL_lends 230 = .ok (.imul, 1) := by decide +kernel
theorem dL_lends_231 : decode cL_lends 231 = .ok (.iload 6, 2) := by decide +kernel
theorem dL_lends_233 : decode cL_lends 233 = .ok (.iadd, 1) := by decide +kernel
theorem dL_lends_234 : decode cL_lends 234 = .ok (.dup2, 1) := by decide +kernel
theorem dL_lends_235 : decode cL_lends 235 = .ok (.iaload, 1) := by decide +kernel
theorem dL_lends_236 : decode cL_lends 236 = .ok (.iload 8, 2) := by decide +kernel
theorem dL_lends_238 : decode cL_lends 238 = .ok (.ifCond .eq 8, 3) := by decide +kernel
theorem dL_lends_241 : decode cL_lends 241 = .ok (.iload 7, 2) := by decide +kernel
theorem dL_lends_243 : decode cL_lends 243 = .ok (.goto 4, 3) := by decide +kernel
theorem dL_lends_246 : decode cL_lends 246 = .ok (.iconst 0, 1) := by decide +kernel
theorem dL_lends_247 : decode cL_lends 247 = .ok (.iadd, 1) := by decide +kernel
theorem dL_lends_248 : decode cL_lends 248 = .ok (.iastore, 1) := by decide +kernel
theorem dL_lends_249 : decode cL_lends 249 = .ok (.aload_n 0, 1) := by decide +kernel
theorem dL_lends_250 : decode cL_lends 250 = .ok (.iconst 1, 1) := by decide +kernel
theorem dL_lends_251 : decode cL_lends 251 = .ok (.iload 5, 2) := by decide +kernel
theorem dL_lends_253 : decode cL_lends 253 = .ok (.iload 6, 2) := by decide +kernel
theorem dL_lends_255 : decode cL_lends 255 = .ok (.iload 7, 2) := by decide +kernel
theorem dL_lends_257 : decode cL_lends 257 = .ok (.invokestatic 92, 3) := by decide +kernel
theorem dL_lends_260 : decode cL_lends 260 = .ok (.iload 8, 2) := by decide +kernel
theorem dL_lends_262 : decode cL_lends 262 = .ok (.ifCond .eq 15, 3) := by decide +kernel
theorem dL_lends_265 : decode cL_lends 265 = .ok (.aload_n 3, 1) := by decide +kernel
theorem dL_lends_266 : decode cL_lends 266 = .ok (.iconst 5, 1) := by decide +kernel
theorem dL_lends_267 : decode cL_lends 267 = .ok (.iload 5, 2) := by decide +kernel
theorem dL_lends_269 : decode cL_lends 269 = .ok (.imul, 1) := by decide +kernel
theorem dL_lends_270 : decode cL_lends 270 = .ok (.iload 6, 2) := by decide +kernel
theorem dL_lends_272 : decode cL_lends 272 = .ok (.iadd, 1) := by decide +kernel
theorem dL_lends_273 : decode cL_lends 273 = .ok (.iaload, 1) := by decide +kernel
theorem dL_lends_274 : decode cL_lends 274 = .ok (.goto 5, 3) := by decide +kernel
theorem dL_lends_277 : decode cL_lends 277 = .ok (.bipush (-3), 2) := by decide +kernel
theorem dL_lends_279 : decode cL_lends 279 = .ok (.if_icmp .ne 7, 3) := by decide +kernel
theorem dL_lends_282 : decode cL_lends 282 = .ok (.iconst 1, 1) := by decide +kernel
theorem dL_lends_283 : decode cL_lends 283 = .ok (.goto 4, 3) := by decide +kernel
theorem dL_lends_286 : decode cL_lends 286 = .ok (.iconst 0, 1) := by decide +kernel
theorem dL_lends_287 : decode cL_lends 287 = .ok (.ireturn, 1) := by decide +kernel
theorem dL_law_0 : decode cL_law 0 = .ok (.new 11, 3) := by decide +kernel
theorem dL_law_3 : decode cL_law 3 = .ok (.dup, 1) := by decide +kernel
theorem dL_law_4 : decode cL_law 4 = .ok (.invokespecial 96, 3) := by decide +kernel
theorem dL_law_7 : decode cL_law 7 = .ok (.astore_n 1, 1) := by decide +kernel
theorem dL_law_8 : decode cL_law 8 = .ok (.bipush 12, 2) := by decide +kernel
theorem dL_law_10 : decode cL_law 10 = .ok (.newarray .int, 2) := by decide +kernel
theorem dL_law_12 : decode cL_law 12 = .ok (.astore_n 2, 1) := by decide +kernel
theorem dL_law_13 : decode cL_law 13 = .ok (.bipush 45, 2) := by decide +kernel
theorem dL_law_15 : decode cL_law 15 = .ok (.newarray .int, 2) := by decide +kernel
theorem dL_law_17 : decode cL_law 17 = .ok (.astore_n 3, 1) := by decide +kernel
theorem dL_law_18 : decode cL_law 18 = .ok (.bipush 20, 2) := by decide +kernel
theorem dL_law_20 : decode cL_law 20 = .ok (.newarray .int, 2) := by decide +kernel
theorem dL_law_22 : decode cL_law 22 = .ok (.astore 4, 2) := by decide +kernel
theorem dL_law_24 : decode cL_law 24 = .ok (.bipush 25, 2) := by decide +kernel
theorem dL_law_26 : decode cL_law 26 = .ok (.newarray .int, 2) := by decide +kernel
theorem dL_law_28 : decode cL_law 28 = .ok (.astore 5, 2) := by decide +kernel
theorem dL_law_30 : decode cL_law 30 = .ok (.iconst 5, 1) := by decide +kernel
theorem dL_law_31 : decode cL_law 31 = .ok (.newarray .int, 2) := by decide +kernel
theorem dL_law_33 : decode cL_law 33 = .ok (.astore 6, 2) := by decide +kernel
theorem dL_law_35 : decode cL_law 35 = .ok (.iconst 5, 1) := by decide +kernel
theorem dL_law_36 : decode cL_law 36 = .ok (.newarray .int, 2) := by decide +kernel
theorem dL_law_38 : decode cL_law 38 = .ok (.astore 7, 2) := by decide +kernel
theorem dL_law_40 : decode cL_law 40 = .ok (.iconst 0, 1) := by decide +kernel
theorem dL_law_41 : decode cL_law 41 = .ok (.istore 8, 2) := by decide +kernel
theorem dL_law_43 : decode cL_law 43 = .ok (.iload 8, 2) := by decide +kernel
theorem dL_law_45 : decode cL_law 45 = .ok (.bipush 90, 2) := by decide +kernel
theorem dL_law_47 : decode cL_law 47 = .ok (.if_icmp .ge 647, 3) := by decide +kernel
theorem dL_law_50 : decode cL_law 50 = .ok (.aload_n 0, 1) := by decide +kernel
theorem dL_law_51 : decode cL_law 51 = .ok (.iload 8, 2) := by decide +kernel
theorem dL_law_53 : decode cL_law 53 = .ok (.invokestatic 97, 3) := by decide +kernel
theorem dL_law_56 : decode cL_law 56 = .ok (.istore 9, 2) := by decide +kernel
theorem dL_law_58 : decode cL_law 58 = .ok (.iload 9, 2) := by decide +kernel
theorem dL_law_60 : decode cL_law 60 = .ok (.bipush 18, 2) := by decide +kernel
theorem dL_law_62 : decode cL_law 62 = .ok (.invokestatic 60, 3) := by decide +kernel
theorem dL_law_65 : decode cL_law 65 = .ok (.istore 10, 2) := by decide +kernel
theorem dL_law_67 : decode cL_law 67 = .ok (.aload_n 2, 1) := by decide +kernel
theorem dL_law_68 : decode cL_law 68 = .ok (.iconst 0, 1) := by decide +kernel
theorem dL_law_69 : decode cL_law 69 = .ok (.iaload, 1) := by decide +kernel
theorem dL_law_70 : decode cL_law 70 = .ok (.ifCond .ne 7, 3) := by decide +kernel
theorem dL_law_73 : decode cL_law 73 = .ok (.iconst 0, 1) := by decide +kernel
theorem dL_law_74 : decode cL_law 74 = .ok (.goto 13, 3) := by decide +kernel
theorem dL_law_77 : decode cL_law 77 = .ok (.iload 9, 2) := by decide +kernel
theorem dL_law_79 : decode cL_law 79 = .ok (.iconst 5, 1) := by decide +kernel
theorem dL_law_80 : decode cL_law 80 = .ok (.ishr, 1) := by decide +kernel
theorem dL_law_81 : decode cL_law 81 = .ok (.aload_n 2, 1) := by decide +kernel
theorem dL_law_82 : decode cL_law 82 = .ok (.iconst 0, 1) := by decide +kernel
theorem dL_law_83 : decode cL_law 83 = .ok (.iaload, 1) := by decide +kernel
theorem dL_law_84 : decode cL_law 84 = .ok (.invokestatic 60, 3) := by decide +kernel
theorem dL_law_87 : decode cL_law 87 = .ok (.istore 11, 2) := by decide +kernel
theorem dL_law_89 : decode cL_law 89 = .ok (.iconst 1, 1) := by decide +kernel
theorem dL_law_90 : decode cL_law 90 = .ok (.istore 12, 2) := by decide +kernel
theorem dL_law_92 : decode cL_law 92 = .ok (.aload_n 2, 1) := by decide +kernel
theorem dL_law_93 : decode cL_law 93 = .ok (.iconst 0, 1) := by decide +kernel
theorem dL_law_94 : decode cL_law 94 = .ok (.iaload, 1) := by decide +kernel
theorem dL_law_95 : decode cL_law 95 = .ok (.iconst 2, 1) := by decide +kernel
theorem dL_law_96 : decode cL_law 96 = .ok (.if_icmp .lt 15, 3) := by decide +kernel
theorem dL_law_99 : decode cL_law 99 = .ok (.iload 10, 2) := by decide +kernel
theorem dL_law_101 : decode cL_law 101 = .ok (.ifCond .ne 25, 3) := by decide +kernel
theorem dL_law_104 : decode cL_law 104 = .ok (.aload_n 2, 1) := by decide +kernel
theorem dL_law_105 : decode cL_law 105 = .ok (.iconst 0, 1) := by decide +kernel
theorem dL_law_106 : decode cL_law 106 = .ok (.iaload, 1) := by decide +kernel
theorem dL_law_107 : decode cL_law 107 = .ok (.iconst 5, 1) := by decide +kernel
theorem dL_law_108 : decode cL_law 108 = .ok (.if_icmp .ge 18, 3) := by decide +kernel
theorem dL_law_111 : decode cL_law 111 = .ok (.aload_n 1, 1) := by decide +kernel
theorem dL_law_112 : decode cL_law 112 = .ok (.iload 9, 2) := by decide +kernel
theorem dL_law_114 : decode cL_law 114 = .ok (.iconst 4, 1) := by decide +kernel
theorem dL_law_115 : decode cL_law 115 = .ok (.ishr, 1) := by decide +kernel
theorem dL_law_116 : decode cL_law 116 = .ok (.aload_n 3, 1) := by decide +kernel
theorem dL_law_117 : decode cL_law 117 = .ok (.aload_n 2, 1) := by decide +kernel
theorem dL_law_118 : decode cL_law 118 = .ok (.invokestatic 101, 3) := by decide +kernel
theorem dL_law_121 : decode cL_law 121 = .ok (.istore 12, 2) := by decide +kernel
theorem dL_law_123 : decode cL_law 123 = .ok (.goto 539, 3) := by decide +kernel
theorem dL_law_126 : decode cL_law 126 = .ok (.iload 10, 2) := by decide +kernel
theorem dL_law_128 : decode cL_law 128 = .ok (.iconst 5, 1) := by decide +kernel
theorem dL_law_129 : decode cL_law 129 = .ok (.if_icmp .ge 84, 3) := by decide +kernel
theorem dL_law_132 : decode cL_law 132 = .ok (.aload_n 3, 1) := by decide +kernel
theorem dL_law_133 : decode cL_law 133 = .ok (.bipush 9, 2) := by decide +kernel
theorem dL_law_135 : decode cL_law 135 = .ok (.iload 11, 2) := by decide +kernel
theorem dL_law_137 : decode cL_law 137 = .ok (.imul, 1) := by decide +kernel
theorem dL_law_138 : decode cL_law 138 = .ok (.bipush 6, 2) := by decide +kernel
theorem dL_law_140 : decode cL_law 140 = .ok (.iadd, 1) := by decide +kernel
theorem dL_law_141 : decode cL_law 141 = .ok (.iaload, 1) := by decide +kernel
theorem dL_law_142 : decode cL_law 142 = .ok (.istore 13, 2) := by decide +kernel
theorem dL_law_144 : decode cL_law 144 = .ok (.aload_n 3, 1) := by decide +kernel
theorem dL_law_145 : decode cL_law 145 = .ok (.bipush 9, 2) := by decide +kernel
theorem dL_law_147 : decode cL_law 147 = .ok (.iload 11, 2) := by decide +kernel
theorem dL_law_149 : decode cL_law 149 = .ok (.imul, 1) := by decide +kernel
theorem dL_law_150 : decode cL_law 150 = .ok (.bipush 6, 2) := by decide +kernel
theorem dL_law_152 : decode cL_law 152 = .ok (.iadd, 1) := by decide +kernel
theorem dL_law_153 : decode cL_law 153 = .ok (.iload 9, 2) := by decide +kernel
theorem dL_law_155 : decode cL_law 155 = .ok (.bipush 8, 2) := by decide +kernel
theorem dL_law_157 : decode cL_law 157 = .ok (.ishr, 1) := by decide +kernel
theorem dL_law_158 : decode cL_law 158 = .ok (.iload 9, 2) := by decide +kernel
theorem dL_law_160 : decode cL_law 160 = .ok (.bipush 14, 2) := by decide +kernel
theorem dL_law_162 : decode cL_law 162 = .ok (.ishr, 1) := by decide +kernel
theorem dL_law_163 : decode cL_law 163 = .ok (.iconst 3, 1) := by decide +kernel
theorem dL_law_164 : decode cL_law 164 = .ok (.invokestatic 60, 3) := by decide +kernel
theorem dL_law_167 : decode cL_law 167 = .ok (.ifCond .ne 9, 3) := by decide +kernel
theorem dL_law_170 : decode cL_law 170 = .ok (.sipush 2001, 3) := by decide +kernel
theorem dL_law_173 : decode cL_law 173 = .ok (.goto 5, 3) := by decide +kernel
theorem dL_law_176 : decode cL_law 176 = .ok (.bipush 120, 2) := by decide +kernel
theorem dL_law_178 : decode cL_law 178 = .ok (.invokestatic 60, 3) := by decide +kernel
theorem dL_law_181 : decode cL_law 181 = .ok (.iastore, 1) := by decide +kernel
theorem dL_law_182 : decode cL_law 182 = .ok (.aload_n 1, 1) := by decide +kernel
theorem dL_law_183 : decode cL_law 183 = .ok (.iload 11, 2) := by decide +kernel
theorem dL_law_185 : decode cL_law 185 = .ok (.aload_n 3, 1) := by decide +kernel
theorem dL_law_186 : decode cL_law 186 = .ok (.bipush 9, 2) := by decide +kernel
theorem dL_law_188 : decode cL_law 188 = .ok (.iload 11, 2) := by decide +kernel
theorem dL_law_190 : decode cL_law 190 = .ok (.imul, 1) := by decide +kernel
theorem dL_law_191 : decode cL_law 191 = .ok (.bipush 6, 2) := by decide +kernel
theorem dL_law_193 : decode cL_law 193 = .ok (.iadd, 1) := by decide +kernel
theorem dL_law_194 : decode cL_law 194 = .ok (.iaload, 1) := by decide +kernel
theorem dL_law_195 : decode cL_law 195 = .ok (.invokevirtual 105, 3) := by decide +kernel
theorem dL_law_198 : decode cL_law 198 = .ok (.iload 13, 2) := by decide +kernel
theorem dL_law_200 : decode cL_law 200 = .ok (.if_icmp .ne 7, 3) := by decide +kernel
theorem dL_law_203 : decode cL_law 203 = .ok (.iconst 1, 1) := by decide +kernel
theorem dL_law_204 : decode cL_law 204 = .ok (.goto 4, 3) := by decide +kernel
theorem dL_law_207 : decode cL_law 207 = .ok (.iconst 0, 1) := by decide +kernel
theorem dL_law_208 : decode cL_law 208 = .ok (.istore 12, 2) := by decide +kernel
theorem dL_law_210 : decode cL_law 210 = .ok (.goto 452, 3) := by decide +kernel
theorem dL_law_213 : decode cL_law 213 = .ok (.iload 10, 2) := by decide +kernel
theorem dL_law_215 : decode cL_law 215 = .ok (.iconst 5, 1) := by decide +kernel
theorem dL_law_216 : decode cL_law 216 = .ok (.if_icmp .ne 82, 3) := by decide +kernel
theorem dL_law_219 : decode cL_law 219 = .ok (.iload 9, 2) := by decide +kernel
theorem dL_law_221 : decode cL_law 221 = .ok (.iconst 5, 1) := by decide +kernel
theorem dL_law_222 : decode cL_law 222 = .ok (.ishr, 1) := by decide +kernel
theorem dL_law_223 : decode cL_law 223 = .ok (.iconst 3, 1) := by decide +kernel
theorem dL_law_224 : decode cL_law 224 = .ok (.invokestatic 60, 3) := by decide +kernel
theorem dL_law_227 : decode cL_law 227 = .ok (.istore 13, 2) := by decide +kernel
theorem dL_law_229 : decode cL_law 229 = .ok (.aload_n 2, 1) := by decide +kernel
theorem dL_law_230 : decode cL_law 230 = .ok (.iconst 4, 1) := by decide +kernel
theorem dL_law_231 : decode cL_law 231 = .ok (.iload 13, 2) := by decide +kernel
theorem dL_law_233 : decode cL_law 233 = .ok (.iadd, 1) := by decide +kernel
theorem dL_law_234 : decode cL_law 234 = .ok (.iaload, 1) := by decide +kernel
theorem dL_law_235 : decode cL_law 235 = .ok (.istore 14, 2) := by decide +kernel
theorem dL_law_237 : decode cL_law 237 = .ok (.aload_n 2, 1) := by decide +kernel
theorem dL_law_238 : decode cL_law 238 = .ok (.iconst 4, 1) := by decide +kernel
theorem dL_law_239 : decode cL_law 239 = .ok (.iload 13, 2) := by decide +kernel
theorem dL_law_241 : decode cL_law 241 = .ok (.iadd, 1) := by decide +kernel
theorem dL_law_242 : decode cL_law 242 = .ok (.iload 9, 2) := by decide +kernel
theorem dL_law_244 : decode cL_law 244 = .ok (.bipush 8, 2) := by decide +kernel
theorem dL_law_246 : decode cL_law 246 = .ok (.ishr, 1) := by decide +kernel
theorem dL_law_247 : decode cL_law 247 = .ok (.iload 9, 2) := by decide +kernel
theorem dL_law_249 : decode cL_law 249 = .ok (.bipush 14, 2) := by decide +kernel
theorem dL_law_251 : decode cL_law 251 = .ok (.ishr, 1) := by decide +kernel
theorem dL_law_252 : decode cL_law 252 = .ok (.iconst 4, 1) := by decide +kernel
theorem dL_law_253 : decode cL_law 253 = .ok (.invokestatic 60, 3) := by decide +kernel
theorem dL_law_256 : decode cL_law 256 = .ok (.ifCond .ne 9, 3) := by decide +kernel
theorem dL_law_259 : decode cL_law 259 = .ok (.sipush 1001, 3) := by decide +kernel
theorem dL_law_262 : decode cL_law 262 = .ok (.goto 5, 3) := by decide +kernel
theorem dL_law_265 : decode cL_law 265 = .ok (.bipush 90, 2) := by decide +kernel
theorem dL_law_267 : decode cL_law 267 = .ok (.invokestatic 60, 3) := by decide +kernel
theorem dL_law_270 : decode cL_law 270 = .ok (.iastore, 1) := by decide +kernel
theorem dL_law_271 : decode cL_law 271 = .ok (.aload_n 1, 1) := by decide +kernel
theorem dL_law_272 : decode cL_law 272 = .ok (.iload 13, 2) := by decide +kernel
theorem dL_law_274 : decode cL_law 274 = .ok (.aload_n 2, 1) := by decide +kernel
theorem dL_law_275 : decode cL_law 275 = .ok (.iconst 4, 1) := by decide +kernel
theorem dL_law_276 : decode cL_law 276 = .ok (.iload 13, 2) := by decide +kernel
theorem dL_law_278 : decode cL_law 278 = .ok (.iadd, 1) := by decide +kernel
theorem dL_law_279 : decode cL_law 279 = .ok (.iaload, 1) := by decide +kernel
theorem dL_law_280 : decode cL_law 280 = .ok (.invokevirtual 108, 3) := by decide +kernel
theorem dL_law_283 : decode cL_law 283 = .ok (.iload 14, 2) := by decide +kernel
theorem dL_law_285 : decode cL_law 285 = .ok (.if_icmp .ne 7, 3) := by decide +kernel
theorem dL_law_288 : decode cL_law 288 = .ok (.iconst 1, 1) := by decide +kernel
theorem dL_law_289 : decode cL_law 289 = .ok (.goto 4, 3) := by decide +kernel
theorem dL_law_292 : decode cL_law 292 = .ok (.iconst 0, 1) := by decide +kernel
theorem dL_law_293 : decode cL_law 293 = .ok (.istore 12, 2) := by decide +kernel
theorem dL_law_295 : decode cL_law 295 = .ok (.goto 367, 3) := by decide +kernel
theorem dL_law_298 : decode cL_law 298 = .ok (.iload 10, 2) := by decide +kernel
theorem dL_law_300 : decode cL_law 300 = .ok (.bipush 6, 2) := by decide +kernel
theorem dL_law_302 : decode cL_law 302 = .ok (.if_icmp .ne 62, 3) := by decide +kernel
theorem dL_law_305 : decode cL_law 305 = .ok (.aload_n 3, 1) := by decide +kernel
theorem dL_law_306 : decode cL_law 306 = .ok (.bipush 9, 2) := by decide +kernel
theorem dL_law_308 : decode cL_law 308 = .ok (.iload 11, 2) := by decide +kernel
theorem dL_law_310 : decode cL_law 310 = .ok (.imul, 1) := by decide +kernel
theorem dL_law_311 : decode cL_law 311 = .ok (.bipush 7, 2) := by decide +kernel
theorem dL_law_313 : decode cL_law 313 = .ok (.iadd, 1) := by decide +kernel
theorem dL_law_314 : decode cL_law 314 = .ok (.iconst 1, 1) := by decide +kernel
theorem dL_law_315 : decode cL_law 315 = .ok (.aload_n 3, 1) := by decide +kernel
theorem dL_law_316 : decode cL_law 316 = .ok (.bipush 9, 2) := by decide +kernel
theorem dL_law_318 : decode cL_law 318 = .ok (.iload 11, 2) := by decide +kernel
theorem dL_law_320 : decode cL_law 320 = .ok (.imul, 1) := by decide +kernel
theorem dL_law_321 : decode cL_law 321 = .ok (.bipush 7, 2) := by decide +kernel
theorem dL_law_323 : decode cL_law 323 = .ok (.iadd, 1) := by decide +kernel
theorem dL_law_324 : decode cL_law 324 = .ok (.iaload, 1) := by decide +kernel
theorem dL_law_325 : decode cL_law 325 = .ok (.isub, 1) := by decide +kernel
theorem dL_law_326 : decode cL_law 326 = .ok (.iastore, 1) := by decide +kernel
theorem dL_law_327 : decode cL_law 327 = .ok (.aload_n 1, 1) := by decide +kernel
theorem dL_law_328 : decode cL_law 328 = .ok (.iload 11, 2) := by decide +kernel
theorem dL_law_330 : decode cL_law 330 = .ok (.invokevirtual 111, 3) := by decide +kernel
theorem dL_law_333 : decode cL_law 333 = .ok (.aload_n 3, 1) := by decide +kernel
theorem dL_law_334 : decode cL_law 334 = .ok (.bipush 9, 2) := by decide +kernel
theorem dL_law_336 : decode cL_law 336 = .ok (.iload 11, 2) := by decide +kernel
theorem dL_law_338 : decode cL_law 338 = .ok (.imul, 1) := by decide +kernel
theorem dL_law_339 : decode cL_law 339 = .ok (.bipush 7, 2) := by decide +kernel
theorem dL_law_341 : decode cL_law 341 = .ok (.iadd, 1) := by decide +kernel
theorem dL_law_342 : decode cL_law 342 = .ok (.iaload, 1) := by decide +kernel
theorem dL_law_343 : decode cL_law 343 = .ok (.ifCond .ne 7, 3) := by decide +kernel
theorem dL_law_346 : decode cL_law 346 = .ok (.iconst 1, 1) := by decide +kernel
theorem dL_law_347 : decode cL_law 347 = .ok (.goto 4, 3) := by decide +kernel
theorem dL_law_350 : decode cL_law 350 = .ok (.iconst 0, 1) := by decide +kernel
theorem dL_law_351 : decode cL_law 351 = .ok (.if_icmp .ne 7, 3) := by decide +kernel
theorem dL_law_354 : decode cL_law 354 = .ok (.iconst 1, 1) := by decide +kernel
theorem dL_law_355 : decode cL_law 355 = .ok (.goto 4, 3) := by decide +kernel
theorem dL_law_358 : decode cL_law 358 = .ok (.iconst 0, 1) := by decide +kernel
theorem dL_law_359 : decode cL_law 359 = .ok (.istore 12, 2) := by decide +kernel
theorem dL_law_361 : decode cL_law 361 = .ok (.goto 301, 3) := by decide +kernel
theorem dL_law_364 : decode cL_law 364 = .ok (.iload 10, 2) := by decide +kernel
theorem dL_law_366 : decode cL_law 366 = .ok (.bipush 7, 2) := by decide +kernel
theorem dL_law_368 : decode cL_law 368 = .ok (.if_icmp .ne 84, 3) := by decide +kernel
theorem dL_law_371 : decode cL_law 371 = .ok (.aload_n 3, 1) := by decide +kernel
theorem dL_law_372 : decode cL_law 372 = .ok (.bipush 9, 2) := by decide +kernel
theorem dL_law_374 : decode cL_law 374 = .ok (.iload 11, 2) := by decide +kernel
theorem dL_law_376 : decode cL_law 376 = .ok (.imul, 1) := by decide +kernel
theorem dL_law_377 : decode cL_law 377 = .ok (.bipush 8, 2) := by decide +kernel
theorem dL_law_379 : decode cL_law 379 = .ok (.iadd, 1) := by decide +kernel
theorem dL_law_380 : decode cL_law 380 = .ok (.iaload, 1) := by decide +kernel
theorem dL_law_381 : decode cL_law 381 = .ok (.istore 13, 2) := by decide +kernel
theorem dL_law_383 : decode cL_law 383 = .ok (.aload_n 3, 1) := by decide +kernel
theorem dL_law_384 : decode cL_law 384 = .ok (.bipush 9, 2) := by decide +kernel
theorem dL_law_386 : decode cL_law 386 = .ok (.iload 11, 2) := by decide +kernel
theorem dL_law_388 : decode cL_law 388 = .ok (.imul, 1) := by decide +kernel
theorem dL_law_389 : decode cL_law 389 = .ok (.bipush 8, 2) := by decide +kernel
theorem dL_law_391 : decode cL_law 391 = .ok (.iadd, 1) := by decide +kernel
theorem dL_law_392 : decode cL_law 392 = .ok (.iload 9, 2) := by decide +kernel
theorem dL_law_394 : decode cL_law 394 = .ok (.bipush 9, 2) := by decide +kernel
theorem dL_law_396 : decode cL_law 396 = .ok (.ishr, 1) := by decide +kernel
theorem dL_law_397 : decode cL_law 397 = .ok (.iload 9, 2) := by decide +kernel
theorem dL_law_399 : decode cL_law 399 = .ok (.bipush 14, 2) := by decide +kernel
theorem dL_law_401 : decode cL_law 401 = .ok (.ishr, 1) := by decide +kernel
theorem dL_law_402 : decode cL_law 402 = .ok (.iconst 3, 1) := by decide +kernel
theorem dL_law_403 : decode cL_law 403 = .ok (.invokestatic 60, 3) := by decide +kernel
theorem dL_law_406 : decode cL_law 406 = .ok (.ifCond .ne 9, 3) := by decide +kernel
theorem dL_law_409 : decode cL_law 409 = .ok (.sipush 1001, 3) := by decide +kernel
theorem dL_law_412 : decode cL_law 412 = .ok (.goto 5, 3) := by decide +kernel
theorem dL_law_415 : decode cL_law 415 = .ok (.bipush 40, 2) := by decide +kernel
theorem dL_law_417 : decode cL_law 417 = .ok (.invokestatic 60, 3) := by decide +kernel
theorem dL_law_420 : decode cL_law 420 = .ok (.iastore, 1) := by decide +kernel
theorem dL_law_421 : decode cL_law 421 = .ok (.aload_n 1, 1) := by decide +kernel
theorem dL_law_422 : decode cL_law 422 = .ok (.iload 11, 2) := by decide +kernel
theorem dL_law_424 : decode cL_law 424 = .ok (.aload_n 3, 1) := by decide +kernel
theorem dL_law_425 : decode cL_law 425 = .ok (.bipush 9, 2) := by decide +kernel
theorem dL_law_427 : decode cL_law 427 = .ok (.iload 11, 2) := by decide +kernel
theorem dL_law_429 : decode cL_law 429 = .ok (.imul, 1) := by decide +kernel
theorem dL_law_430 : decode cL_law 430 = .ok (.bipush 8, 2) := by decide +kernel
theorem dL_law_432 : decode cL_law 432 = .ok (.iadd, 1) := by decide +kernel
theorem dL_law_433 : decode cL_law 433 = .ok (.iaload, 1) := by decide +kernel
theorem dL_law_434 : decode cL_law 434 = .ok (.invokevirtual 115, 3) := by decide +kernel
theorem dL_law_437 : decode cL_law 437 = .ok (.iload 13, 2) := by decide +kernel
theorem dL_law_439 : decode cL_law 439 = .ok (.if_icmp .ne 7, 3) := by decide +kernel
theorem dL_law_442 : decode cL_law 442 = .ok (.iconst 1, 1) := by decide +kernel
theorem dL_law_443 : decode cL_law 443 = .ok (.goto 4, 3) := by decide +kernel
theorem dL_law_446 : decode cL_law 446 = .ok (.iconst 0, 1) := by decide +kernel
theorem dL_law_447 : decode cL_law 447 = .ok (.istore 12, 2) := by decide +kernel
theorem dL_law_449 : decode cL_law 449 = .ok (.goto 213, 3) := by decide +kernel
theorem dL_law_452 : decode cL_law 452 = .ok (.iload 10, 2) := by decide +kernel
theorem dL_law_454 : decode cL_law 454 = .ok (.bipush 11, 2) := by decide +kernel
theorem dL_law_456 : decode cL_law 456 = .ok (.if_icmp .ge 21, 3) := by decide +kernel
theorem dL_law_459 : decode cL_law 459 = .ok (.aload_n 1, 1) := by decide +kernel
theorem dL_law_460 : decode cL_law 460 = .ok (.iload 9, 2) := by decide +kernel
theorem dL_law_462 : decode cL_law 462 = .ok (.iconst 4, 1) := by decide +kernel
theorem dL_law_463 : decode cL_law 463 = .ok (.ishr, 1) := by decide +kernel
theorem dL_law_464 : decode cL_law 464 = .ok (.aload 4, 2) := by decide +kernel
theorem dL_law_466 : decode cL_law 466 = .ok (.aload 5, 2) := by decide +kernel
theorem dL_law_468 : decode cL_law 468 = .ok (.aload_n 2, 1) := by decide +kernel
theorem dL_law_469 : decode cL_law 469 = .ok (.invokestatic 118, 3) := by decide +kernel
theorem dL_law_472 : decode cL_law 472 = .ok (.istore 12, 2) := by decide +kernel
theorem dL_law_474 : decode cL_law 474 = .ok (.goto 188, 3) := by decide +kernel
theorem dL_law_477 : decode cL_law 477 = .ok (.iload 10, 2) := by decide +kernel
theorem dL_law_479 : decode cL_law 479 = .ok (.bipush 11, 2) := by decide +kernel
theorem dL_law_481 : decode cL_law 481 = .ok (.if_icmp .ne 135, 3) := by decide +kernel
theorem dL_law_484 : decode cL_law 484 = .ok (.iload 9, 2) := by decide +kernel
theorem dL_law_486 : decode cL_law 486 = .ok (.iconst 5, 1) := by decide +kernel
theorem dL_law_487 : decode cL_law 487 = .ok (.ishr, 1) := by decide +kernel
theorem dL_law_488 : decode cL_law 488 = .ok (.bipush 20, 2) := by decide +kernel
theorem dL_law_490 : decode cL_law 490 = .ok (.invokestatic 60, 3) := by decide +kernel
theorem dL_law_493 : decode cL_law 493 = .ok (.istore 13, 2) := by decide +kernel
theorem dL_law_495 : decode cL_law 495 = .ok (.aload_n 2, 1) := by decide +kernel
theorem dL_law_496 : decode cL_law 496 = .ok (.iconst 2, 1) := by decide +kernel
theorem dL_law_497 : decode cL_law 497 = .ok (.iaload, 1) := by decide +kernel
theorem dL_law_498 : decode cL_law 498 = .ok (.bipush 100, 2) := by decide +kernel
theorem dL_law_500 : decode cL_law 500 = .ok (.if_icmp .lt 14, 3) := by decide +kernel
theorem dL_law_503 : decode cL_law 503 = .ok (.aload_n 2, 1) := by decide +kernel
theorem dL_law_504 : decode cL_law 504 = .ok (.iconst 3, 1) := by decide +kernel
theorem dL_law_505 : decode cL_law 505 = .ok (.iaload, 1) := by decide +kernel
theorem dL_law_506 : decode cL_law 506 = .ok (.iconst 5, 1) := by decide +kernel
theorem dL_law_507 : decode cL_law 507 = .ok (.if_icmp .ge 7, 3) := by decide +kernel
theorem dL_law_510 : decode cL_law 510 = .ok (.iconst 1, 1) := by decide +kernel
theorem dL_law_511 : decode cL_law 511 = .ok (.goto 4, 3) := by decide +kernel
theorem dL_law_514 : decode cL_law 514 = .ok (.iconst 0, 1) := by decide +kernel
theorem dL_law_515 : decode cL_law 515 = .ok (.istore 14, 2) := by decide +kernel
theorem dL_law_517 : decode cL_law 517 = .ok (.aload_n 2, 1) := by decide +kernel
theorem dL_law_518 : decode cL_law 518 = .ok (.bipush 7, 2) := by decide +kernel
theorem dL_law_520 : decode cL_law 520 = .ok (.iload 14, 2) := by decide +kernel
theorem dL_law_522 : decode cL_law 522 = .ok (.ifCond .eq 9, 3) := by decide +kernel
theorem dL_law_525 : decode cL_law 525 = .ok (.aload_n 2, 1) := by decide +kernel
theorem dL_law_526 : decode cL_law 526 = .ok (.iconst 3, 1) := by decide +kernel
theorem dL_law_527 : decode cL_law 527 = .ok (.iaload, 1) := by decide +kernel
theorem dL_law_528 : decode cL_law 528 = .ok (.goto 4, 3) := by decide +kernel
theorem dL_law_531 : decode cL_law 531 = .ok (.iconst 0, 1) := by decide +kernel
theorem dL_law_532 : decode cL_law 532 = .ok (.iadd, 1) := by decide +kernel
theorem dL_law_533 : decode cL_law 533 = .ok (.iload 14, 2) := by decide +kernel
theorem dL_law_535 : decode cL_law 535 = .ok (.ifCond .eq 8, 3) := by decide +kernel
theorem dL_law_538 : decode cL_law 538 = .ok (.iload 13, 2) := by decide +kernel
theorem dL_law_540 : decode cL_law 540 = .ok (.goto 7, 3) := by decide +kernel
theorem dL_law_543 : decode cL_law 543 = .ok (.aload_n 2, 1) := by decide +kernel
theorem dL_law_544 : decode cL_law 544 = .ok (.bipush 7, 2) := by decide +kernel
theorem dL_law_546 : decode cL_law 546 = .ok (.iaload, 1) := by decide +kernel
theorem dL_law_547 : decode cL_law 547 = .ok (.iastore, 1) := by decide +kernel
theorem dL_law_548 : decode cL_law 548 = .ok (.aload_n 2, 1) := by decide +kernel
theorem dL_law_549 : decode cL_law 549 = .ok (.iconst 3, 1) := by decide +kernel
theorem dL_law_550 : decode cL_law 550 = .ok (.dup2, 1) := by decide +kernel
theorem dL_law_551 : decode cL_law 551 = .ok (.iaload, 1) := by decide +kernel
theorem dL_law_552 : decode cL_law 552 = .ok (.iload 14, 2) := by decide +kernel
theorem dL_law_554 : decode cL_law 554 = .ok (.ifCond .eq 7, 3) := by decide +kernel
theorem dL_law_557 : decode cL_law 557 = .ok (.iconst 1, 1) := by decide +kernel
theorem dL_law_558 : decode cL_law 558 = .ok (.goto 4, 3) := by decide +kernel
theorem dL_law_561 : decode cL_law 561 = .ok (.iconst 0, 1) := by decide +kernel
theorem dL_law_562 : decode cL_law 562 = .ok (.iadd, 1) := by decide +kernel
theorem dL_law_563 : decode cL_law 563 = .ok (.iastore, 1) := by decide +kernel
theorem dL_law_564 : decode cL_law 564 = .ok (.aload_n 2, 1) := by decide +kernel
theorem dL_law_565 : decode cL_law 565 = .ok (.iconst 2, 1) := by decide +kernel
theorem dL_law_566 : decode cL_law 566 = .ok (.dup2, 1) := by decide +kernel
theorem dL_law_567 : decode cL_law 567 = .ok (.iaload, 1) := by decide +kernel
theorem dL_law_568 : decode cL_law 568 = .ok (.iload 14, 2) := by decide +kernel
theorem dL_law_570 : decode cL_law 570 = .ok (.ifCond .eq 8, 3) := by decide +kernel
theorem dL_law_573 : decode cL_law 573 = .ok (.bipush 100, 2) := by decide +kernel
theorem dL_law_575 : decode cL_law 575 = .ok (.goto 4, 3) := by decide +kernel
theorem dL_law_578 : decode cL_law 578 = .ok (.iconst 0, 1) := by decide +kernel
theorem dL_law_579 : decode cL_law 579 = .ok (.isub, 1) := by decide +kernel
theorem dL_law_580 : decode cL_law 580 = .ok (.iastore, 1) := by decide +kernel
theorem dL_law_581 : decode cL_law 581 = .ok (.aload_n 1, 1) := by decide +kernel
theorem dL_law_582 : decode cL_law 582 = .ok (.iconst 2, 1) := by decide +kernel
theorem dL_law_583 : decode cL_law 583 = .ok (.iload 13, 2) := by decide +kernel
theorem dL_law_585 : decode cL_law 585 = .ok (.iconst 0, 1) := by decide +kernel
theorem dL_law_586 : decode cL_law 586 = .ok (.iconst 0, 1) := by decide +kernel
theorem dL_law_587 : decode cL_law 587 = .ok (.invokestatic 92, 3) := by decide +kernel
theorem dL_law_590 : decode cL_law 590 = .ok (.iload 14, 2) := by decide +kernel
theorem dL_law_592 : decode cL_law 592 = .ok (.ifCond .eq 9, 3) := by decide +kernel
theorem dL_law_595 : decode cL_law 595 = .ok (.aload_n 2, 1) := by decide +kernel
theorem dL_law_596 : decode cL_law 596 = .ok (.iconst 3, 1) := by decide +kernel
theorem dL_law_597 : decode cL_law 597 = .ok (.iaload, 1) := by decide +kernel
theorem dL_law_598 : decode cL_law 598 = .ok (.goto 5, 3) := by decide +kernel
theorem dL_law_601 : decode cL_law 601 = .ok (.bipush (-3), 2) := by decide +kernel
theorem dL_law_603 : decode cL_law 603 = .ok (.if_icmp .ne 7, 3) := by decide +kernel
theorem dL_law_606 : decode cL_law 606 = .ok (.iconst 1, 1) := by decide +kernel
theorem dL_law_607 : decode cL_law 607 = .ok (.goto 4, 3) := by decide +kernel
theorem dL_law_610 : decode cL_law 610 = .ok (.iconst 0, 1) := by decide +kernel
theorem dL_law_611 : decode cL_law 611 = .ok (.istore 12, 2) := by decide +kernel
theorem dL_law_613 : decode cL_law 613 = .ok (.goto 49, 3) := by decide +kernel
theorem dL_law_616 : decode cL_law 616 = .ok (.aload_n 2, 1) := by decide +kernel
theorem dL_law_617 : decode cL_law 617 = .ok (.iconst 1, 1) := by decide +kernel
theorem dL_law_618 : decode cL_law 618 = .ok (.iaload, 1) := by decide +kernel
theorem dL_law_619 : decode cL_law 619 = .ok (.bipush 60, 2) := by decide +kernel
theorem dL_law_621 : decode cL_law 621 = .ok (.if_icmp .ne 8, 3) := by decide +kernel
theorem dL_law_624 : decode cL_law 624 = .ok (.bipush (-3), 2) := by decide +kernel
theorem dL_law_626 : decode cL_law 626 = .ok (.goto 14, 3) := by decide +kernel
theorem dL_law_629 : decode cL_law 629 = .ok (.aload_n 3, 1) := by decide +kernel
theorem dL_law_630 : decode cL_law 630 = .ok (.aload 4, 2) := by decide +kernel
theorem dL_law_632 : decode cL_law 632 = .ok (.aload 6, 2) := by decide +kernel
theorem dL_law_634 : decode cL_law 634 = .ok (.aload 7, 2) := by decide +kernel
theorem dL_law_636 : decode cL_law 636 = .ok (.aload_n 2, 1) := by decide +kernel
theorem dL_law_637 : decode cL_law 637 = .ok (.invokestatic 122, 3) := by decide +kernel
theorem dL_law_640 : decode cL_law 640 = .ok (.istore 13, 2) := by decide +kernel
theorem dL_law_642 : decode cL_law 642 = .ok (.aload_n 1, 1) := by decide +kernel
theorem dL_law_643 : decode cL_law 643 = .ok (.iconst 0, 1) := by decide +kernel
theorem dL_law_644 : decode cL_law 644 = .ok (.iconst 0, 1) := by decide +kernel
theorem dL_law_645 : decode cL_law 645 = .ok (.iconst 0, 1) := by decide +kernel
theorem dL_law_646 : decode cL_law 646 = .ok (.iconst 0, 1) := by decide +kernel
theorem dL_law_647 : decode cL_law 647 = .ok (.invokestatic 92, 3) := by decide +kernel
theorem dL_law_650 : decode cL_law 650 = .ok (.iload 13, 2) := by decide +kernel
theorem dL_law_652 : decode cL_law 652 = .ok (.if_icmp .ne 7, 3) := by decide +kernel
theorem dL_law_655 : decode cL_law 655 = .ok (.iconst 1, 1) := by decide +kernel
theorem dL_law_656 : decode cL_law 656 = .ok (.goto 4, 3) := by decide +kernel
theorem dL_law_659 : decode cL_law 659 = .ok (.iconst 0, 1) := by decide +kernel
theorem dL_law_660 : decode cL_law 660 = .ok (.istore 12, 2) := by decide +kernel
theorem dL_law_662 : decode cL_law 662 = .ok (.iload 12, 2) := by decide +kernel
theorem dL_law_664 : decode cL_law 664 = .ok (.ifCond .eq 22, 3) := by decide +kernel
theorem dL_law_667 : decode cL_law 667 = .ok (.aload_n 1, 1) := by decide +kernel
theorem dL_law_668 : decode cL_law 668 = .ok (.iload 9, 2) := by decide +kernel
theorem dL_law_670 : decode cL_law 670 = .ok (.iconst 2, 1) := by decide +kernel
theorem dL_law_671 : decode cL_law 671 = .ok (.ishr, 1) := by decide +kernel
theorem dL_law_672 : decode cL_law 672 = .ok (.aload_n 3, 1) := by decide +kernel
theorem dL_law_673 : decode cL_law 673 = .ok (.aload 4, 2) := by decide +kernel
theorem dL_law_675 : decode cL_law 675 = .ok (.aload 6, 2) := by decide +kernel
theorem dL_law_677 : decode cL_law 677 = .ok (.aload 7, 2) := by decide +kernel
theorem dL_law_679 : decode cL_law 679 = .ok (.aload_n 2, 1) := by decide +kernel
theorem dL_law_680 : decode cL_law 680 = .ok (.invokestatic 125, 3) := by decide +kernel
theorem dL_law_683 : decode cL_law 683 = .ok (.ifCond .ne 5, 3) := by decide +kernel
theorem dL_law_686 : decode cL_law 686 = .ok (.iconst 0, 1) := by decide +kernel
theorem dL_law_687 : decode cL_law 687 = .ok (.ireturn, 1) := by decide +kernel
theorem dL_law_688 : decode cL_law 688 = .ok (.iinc 8 1, 3) := by decide +kernel
theorem dL_law_691 : decode cL_law 691 = .ok (.goto (-648), 3) := by decide +kernel
theorem dL_law_694 : decode cL_law 694 = .ok (.iconst 1, 1) := by decide +kernel
theorem dL_law_695 : decode cL_law 695 = .ok (.ireturn, 1) := by decide +kernel
abbrev vwCl : List vw_C := [(RJ0, TJ0, 4), (RJ4, TJ4, 4), (RJx4a65c, TJx4a65c, 3), (RX0, TX0, 16), (RX1, TX1, 6)]

