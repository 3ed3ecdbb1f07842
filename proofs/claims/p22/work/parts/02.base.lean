/-! 02: the layer over the kit: heaps as partial maps (Hp), a goal WR that hides heap, frame and locals, contracts CT. My own. -/
abbrev Hp : Type := Nat → Option va_E
def hu (h : Hp) (a : Nat) (e : va_E) : Hp := fun q => if q = a then some e else h q
theorem hu_s {h : Hp} {a : Nat} {e : va_E} : hu h a e a = some e := if_pos rfl
theorem hu_n {h : Hp} {a q : Nat} {e : va_E} (n : q ≠ a) : hu h a e q = h q := if_neg n
/-- layout: class ids and slots (D), the array classes (cy), fixed addresses (z) -/
abbrev GT : Type := va_G × (Nat → ClassId) × (Nat → Nat)
def tyl (cy : Nat → ClassId) : List (ClassId × FieldType) := [(cy 0, .int), (cy 1, .byte), (cy 2, .int), (cy 3, .int), (cy 4, .object "java/lang/Object")]
abbrev aI (G : GT) (n : Nat) (f : Nat → Int32) : va_E := .inl (G.2.1 0, n, .inl f)
abbrev aB (G : GT) (n : Nat) (f : Nat → Int32) : va_E := .inl (G.2.1 1, n, .inl f)
abbrev aO (G : GT) (n : Nat) (f : Nat → Option Nat) : va_E := .inl (G.2.1 4, n, .inr (.inr (.inr (.inr f))))
abbrev ob (ci : Nat) (fs : List Value) : va_E := .inr (ci, fs)
def Rep (D : va_G) (h : Hp) (H : Heap) : Prop := ∀ (a : Nat) (e : va_E), h a = some e → va_at D vwCl (a, e) H
def AH (h : Hp) (sz : Nat) : Nat → Prop := fun q => h q ≠ none ∨ sz ≤ q
def eISE : String := "java/lang/IllegalStateException"
def eIOB : String := "java/lang/IndexOutOfBoundsException"
def eIAE : String := "java/lang/IllegalArgumentException"
/-- a script's int, written as a natural -/
def dzI (m : Nat) : Int32 := ⟨⟨BitVec.ofNat 32 m⟩⟩
def ezI (x : Int32) : Nat := x.toBitVec.toNat
theorem dz_ez (x : Int32) : dzI (ezI x) = x := by
  unfold dzI ezI
  rw [BitVec.ofNat_toNat]
  simp
/-- what never changes: statics, constants, relations of classes -/
def ST (G : GT) (A : Nat → Prop) (U : State) (H : Heap) : Prop :=
  (va_Z "java/util/ArrayList" "DEFAULTCAPACITY_EMPTY_ELEMENTDATA" "[Ljava/lang/Object;" (.ref (G.2.2 0)) A U H ∧ va_T (.object "java/lang/Object") (G.2.2 0) 0 (fun _ => .null) A U H) ∧
  va_Z "java/lang/String" "COMPACT_STRINGS" "Z" (.int 1) A U H ∧
  (∃ fO : Nat → Int32, va_Z "java/lang/Integer" "DigitOnes" "[B" (.ref (G.2.2 1)) A U H ∧ va_T .byte (G.2.2 1) 100 (fun j => .int (fO j)) A U H ∧ ∀ j, j < 100 → fO j = nI (48 + j % 10)) ∧
  (∃ fT : Nat → Int32, va_Z "java/lang/Integer" "DigitTens" "[B" (.ref (G.2.2 2)) A U H ∧ va_T .byte (G.2.2 2) 100 (fun j => .int (fT j)) A U H ∧ ∀ j, j < 100 → fT j = nI (48 + j / 10)) ∧
  (va_Zq "jdk/internal/util/Preconditions" "SIOOBE_FORMATTER" "Ljava/util/function/BiFunction;" A U H ∧ vx_Zq Bundle.tN "UNASSIGNED_STACK" Bundle.steD A U H ∧ vx_Zq Bundle.tN "SUPPRESSED_SENTINEL" Bundle.listD A U H) ∧
  vk_S 1 [5] [[108, 97, 121, 101, 114]] (fun _ => G.2.2 3) (fun _ => G.2.2 4) A U H ∧
  (vk_R RX0 52 "layer" (G.2.2 3) U ∧ vk_R RX1 145 "the bank has less" (G.2.2 145) U ∧ vk_R RX1 158 "too little in the fund, or 5 ponds" (G.2.2 158) U ∧ vk_R RX1 160 "no such well" (G.2.2 160) U ∧ vk_R RX1 166 "no such layer" (G.2.2 166) U ∧ vk_R RX1 170 "out of range" (G.2.2 170) U ∧ vk_R RX1 173 "both wells are the same" (G.2.2 173) U ∧ vk_R RX1 47 "there are 8 wells" (G.2.2 47) U ∧ vk_R RX1 92 "no such character" (G.2.2 92) U ∧ vk_R RX1 99 "60 years have passed" (G.2.2 99) U) ∧
  (va_Nw (.castable eISE eISE) U ∧ va_Nw (.castable eIOB eIOB) U ∧ va_Nw (.castable eIAE eIAE) U ∧ va_Nw (.declares (Bundle.initS "java/lang/RuntimeException")) U ∧ va_Nw (.declares (Bundle.initS "java/lang/Exception")) U ∧ va_Nw (.declares (Bundle.initS Bundle.tN)) U ∧ va_Nw (.castable RX0 "java/lang/Object") U ∧ va_AO "java/lang/Object" U) ∧
  va_T .int (G.2.2 200) (G.2.2 201) (fun j => .int (dzI (G.2.2 (300 + j)))) A U H
theorem ST.kept {G : GT} {A : Nat → Prop} {U : State} {H H1 : Heap} (h : ST G A U H) (hq : ∀ a : Nat, a < H.size → ¬ A a → H1[a]? = H[a]?) : ST G A U H1 := by
  obtain ⟨⟨a1, a2⟩, b, ⟨fO, c1, c2, c3⟩, ⟨fT, d1, d2, d3⟩, ⟨e1, e2, e3⟩, f, g, i, j⟩ := h
  exact ⟨⟨a1.kept hq, a2.kept hq⟩, b.kept hq, ⟨fO, c1.kept hq, c2.kept hq, c3⟩, ⟨fT, d1.kept hq, d2.kept hq, d3⟩, ⟨e1.kept hq, e2.kept hq, e3.kept hq⟩, f.kept hq, g, i, j.kept hq⟩
theorem ST.narrow {G : GT} {A B : Nat → Prop} {U : State} {H : Heap} (h : ST G A U H) (hq : ∀ q, B q → A q) : ST G B U H := by
  obtain ⟨⟨a1, a2⟩, b, ⟨fO, c1, c2, c3⟩, ⟨fT, d1, d2, d3⟩, ⟨e1, e2, e3⟩, f, g, i, j⟩ := h
  exact ⟨⟨a1.narrow hq, a2.narrow hq⟩, b.narrow hq, ⟨fO, c1.narrow hq, c2.narrow hq, c3⟩, ⟨fT, d1.narrow hq, d2.narrow hq, d3⟩, ⟨e1.narrow hq, e2.narrow hq, e3.narrow hq⟩, f.narrow hq, g, i, j.narrow hq⟩
theorem ST.warm {G : GT} {A : Nat → Prop} {s U : State} {H : Heap} (hW : s.WarmedH U.vm) (h : ST G A s H) : ST G A U H := by
  obtain ⟨⟨a1, a2⟩, b, ⟨fO, c1, c2, c3⟩, ⟨fT, d1, d2, d3⟩, ⟨e1, e2, e3⟩, f, ⟨g1, g2, g3, g4, g5, g6, g7, g8, g9, g10⟩, ⟨i1, i2, i3, i4, i5, i6, i7, i8⟩, j⟩ := h
  have hv := hW.alike
  exact ⟨⟨a1.moved hv, a2.moved hv⟩, b.moved hv, ⟨fO, c1.moved hv, c2.moved hv, c3⟩, ⟨fT, d1.moved hv, d2.moved hv, d3⟩, ⟨e1.moved hv, e2.moved hv, e3.moved hv⟩, f.moved hv, ⟨g1.warm hW, g2.warm hW, g3.warm hW, g4.warm hW, g5.warm hW, g6.warm hW, g7.warm hW, g8.warm hW, g9.warm hW, g10.warm hW⟩, ⟨i1.warmC hW, i2.warmC hW, i3.warmC hW, i4.warmD hW, i5.warmD hW, i6.warmD hW, i7.warmC hW, i8.moved hv⟩, j.moved hv⟩
theorem ST.same {G : GT} {A : Nat → Prop} {s U : State} {H : Heap} (hv : U.vm = s.vm) (h : ST G A s H) : ST G A U H := by
  refine ST.warm ?_ h
  rw [hv]
  exact State.WarmedH.refl s
/-- the words that all methods share -/
abbrev BIG : List Cond := wsL_law
theorem BIG_good : BIG.all goodWord = true := by decide +kernel
theorem gBIG : GoodIn BIG BIG := fun w hw => ⟨hw, good_of_word (List.all_eq_true.mp BIG_good w hw)⟩
/-- a method's frame, in one piece -/
abbrev KT : Type := Program × Launch × Env × Room × State × MethodId × Array Value × List Frame × Method × Code
abbrev KT.p (K : KT) : Program := K.1
abbrev KT.l (K : KT) : Launch := K.2.1
abbrev KT.e (K : KT) : Env := K.2.2.1
abbrev KT.R (K : KT) : Room := K.2.2.2.1
abbrev KT.s (K : KT) : State := K.2.2.2.2.1
abbrev KT.m (K : KT) : MethodId := K.2.2.2.2.2.1
abbrev KT.args (K : KT) : Array Value := K.2.2.2.2.2.2.1
abbrev KT.below (K : KT) : List Frame := K.2.2.2.2.2.2.2.1
abbrev KT.meth (K : KT) : Method := K.2.2.2.2.2.2.2.2.1
abbrev KT.c (K : KT) : Code := K.2.2.2.2.2.2.2.2.2
/-- what holds all through a method's body -/
def CX (K : KT) (G : GT) (A : Nat → Prop) (own : String) (cc : ByteArray) (nL : Nat) (ret : Option FieldType) (rm : Room) (tb : List ExceptionTableEntry) : Prop :=
  K.p.tables.exec = Jvm.exec ∧ K.c.code = cc ∧ K.c.maxLocals = nL ∧ K.s.vm.findClass own = some K.m.cls ∧ (∀ w ∈ BIG, w.before K.args K.s = true) ∧ va_K G.1 vwCl (tyl G.2.1) K.s ∧ ST G A K.s K.s.heap ∧ (∀ q, K.s.heap.size ≤ q → A q) ∧ K.meth.sig.returnType = ret ∧ K.meth.locks = false ∧ K.l.stackTraces = false ∧ K.R = rm ∧ K.c.exceptionTable.toList = tb
section
variable {K : KT} {G : GT} {A : Nat → Prop} {own : String} {cc : ByteArray} {nL : Nat} {ret : Option FieldType} {rm : Room} {tb : List ExceptionTableEntry}
theorem CX.ex (C : CX K G A own cc nL ret rm tb) : K.p.tables.exec = Jvm.exec := C.1
theorem CX.cd (C : CX K G A own cc nL ret rm tb) : K.c.code = cc := C.2.1
theorem CX.mxl (C : CX K G A own cc nL ret rm tb) : K.c.maxLocals = nL := C.2.2.1
theorem CX.ow (C : CX K G A own cc nL ret rm tb) : K.s.vm.findClass own = some K.m.cls := C.2.2.2.1
theorem CX.ts (C : CX K G A own cc nL ret rm tb) : ∀ w ∈ BIG, w.before K.args K.s = true := C.2.2.2.2.1
theorem CX.kn (C : CX K G A own cc nL ret rm tb) : va_K G.1 vwCl (tyl G.2.1) K.s := C.2.2.2.2.2.1
theorem CX.st (C : CX K G A own cc nL ret rm tb) : ST G A K.s K.s.heap := C.2.2.2.2.2.2.1
theorem CX.fr (C : CX K G A own cc nL ret rm tb) : ∀ q, K.s.heap.size ≤ q → A q := C.2.2.2.2.2.2.2.1
theorem CX.rt (C : CX K G A own cc nL ret rm tb) : K.meth.sig.returnType = ret := C.2.2.2.2.2.2.2.2.1
theorem CX.lk (C : CX K G A own cc nL ret rm tb) : K.meth.locks = false := C.2.2.2.2.2.2.2.2.2.1
theorem CX.ntr (C : CX K G A own cc nL ret rm tb) : K.l.stackTraces = false := C.2.2.2.2.2.2.2.2.2.2.1
theorem CX.rom (C : CX K G A own cc nL ret rm tb) : K.R = rm := C.2.2.2.2.2.2.2.2.2.2.2.1
theorem CX.tab (C : CX K G A own cc nL ret rm tb) : K.c.exceptionTable.toList = tb := C.2.2.2.2.2.2.2.2.2.2.2.2
end
/-- locals: known values of one slot each, by their places -/
def LV (ls : Array Slot) (lv : List (Option Value)) : Prop := ls.size = lv.length ∧ lv_wf ls ∧ ∀ (i : Nat) (v : Value), lv[i]? = some (some v) → ls[i]? = some (.val v) ∧ v.category = 1
def lvq : Nat → List (Option Value) → List (Nat × Value)
  | _, [] => []
  | i, none :: t => lvq (i + 1) t
  | i, some v :: t => (i, v) :: lvq (i + 1) t
theorem lvq_mem : ∀ (lv : List (Option Value)) (k i : Nat) (v : Value), (i, v) ∈ lvq k lv ↔ k ≤ i ∧ lv[i - k]? = some (some v)
  | [], k, i, v => by simp [lvq]
  | none :: t, k, i, v => by
    rw [lvq, lvq_mem t (k + 1) i v]
    constructor
    · rintro ⟨h1, h2⟩
      refine ⟨by omega, ?_⟩
      rw [show i - k = (i - (k + 1)) + 1 by omega, List.getElem?_cons_succ]; exact h2
    · rintro ⟨h1, h2⟩
      by_cases e : i = k
      · subst e; simp at h2
      · refine ⟨by omega, ?_⟩
        rw [show i - k = (i - (k + 1)) + 1 by omega, List.getElem?_cons_succ] at h2; exact h2
  | some w :: t, k, i, v => by
    rw [lvq, List.mem_cons, lvq_mem t (k + 1) i v]
    constructor
    · rintro (h | ⟨h1, h2⟩)
      · cases h
        exact ⟨Nat.le_refl _, by simp⟩
      · refine ⟨by omega, ?_⟩
        rw [show i - k = (i - (k + 1)) + 1 by omega, List.getElem?_cons_succ]; exact h2
    · rintro ⟨h1, h2⟩
      by_cases e : i = k
      · subst e
        simp at h2
        exact Or.inl (by rw [h2])
      · refine Or.inr ⟨by omega, ?_⟩
        rw [show i - k = (i - (k + 1)) + 1 by omega, List.getElem?_cons_succ] at h2; exact h2
theorem LV.has {ls : Array Slot} {lv : List (Option Value)} (h : LV ls lv) : lv_has ls lv.length (lvq 0 lv) := by
  refine ⟨h.1, h.2.1, fun q hq => ?_⟩
  have := (lvq_mem lv 0 q.1 q.2).mp hq
  rw [Nat.sub_zero] at this
  exact (h.2.2 _ _ this.2).1
theorem LV.at {ls : Array Slot} {lv : List (Option Value)} (h : LV ls lv) {i : Nat} {v : Value} (hk : lv[i]? = some (some v)) : ls[i]? = some (.val v) := (h.2.2 i v hk).1
theorem LV.set {ls ls' : Array Slot} {lv : List (Option Value)} {i : Nat} {v : Value} (h : LV ls lv) (hv : v.category = 1) (h' : lv_has ls' lv.length ((i, v) :: (lvq 0 lv).filter (fun q => !(q.1 == i) && !(q.1 + 1 == i && q.2.category == 2)))) (hi : i < lv.length) : LV ls' (lv.set i (some v)) := by
  refine ⟨by rw [List.length_set]; exact h'.1, h'.2.1, fun j w hj => ?_⟩
  by_cases e : j = i
  · subst e
    rw [List.getElem?_set_self hi] at hj
    cases hj
    exact ⟨h'.2.2 (j, v) List.mem_cons_self, hv⟩
  · rw [List.getElem?_set_ne (Ne.symm e)] at hj
    have hc := (h.2.2 j w hj).2
    refine ⟨h'.2.2 (j, w) (List.mem_cons_of_mem _ (List.mem_filter.mpr ⟨(lvq_mem lv 0 j w).mpr ⟨Nat.zero_le _, hj⟩, ?_⟩)), hc⟩
    simp [e, hc]
theorem LV.args : ∀ (vs : List Value) (k : Nat), (∀ v ∈ vs, v.category = 1) → ∀ (i : Nat) (v : Value), vs[i]? = some v → (k + i, v) ∈ lv_args k vs
  | [], _, _, i, v, h => by simp at h
  | w :: t, k, hc, i, v, h => by
    have hw := hc w List.mem_cons_self
    rw [lv_args, if_neg (by omega)]
    cases i with
    | zero => simp at h; subst h; exact List.mem_cons_self
    | succ i =>
      rw [List.getElem?_cons_succ] at h
      have := LV.args t (k + 1) (fun v hv => hc v (List.mem_cons_of_mem _ hv)) i v h
      rw [show k + (i + 1) = k + 1 + i by omega]
      exact List.mem_cons_of_mem _ this
theorem LV.sl : ∀ (vs : List Value), (∀ v ∈ vs, v.category = 1) → (lg_sl vs).length = vs.length
  | [], _ => rfl
  | w :: t, hc => by
    have hw := hc w List.mem_cons_self
    have := LV.sl t (fun v hv => hc v (List.mem_cons_of_mem _ hv))
    unfold lg_sl at this ⊢
    rw [List.flatMap_cons, if_neg (by omega)]
    simp [this]
/-- the locals with which a method begins -/
def lv0 (vs : List Value) (n : Nat) : List (Option Value) := vs.map some ++ List.replicate (n - vs.length) none
theorem LV.start {vs : List Value} {n : Nat} (hc : ∀ v ∈ vs, v.category = 1) (hn : vs.length ≤ n) : LV ((lg_sl vs ++ List.replicate (n - (lg_sl vs).length) Slot.unset).toArray) (lv0 vs n) := by
  have h := lv_entry vs (n := n) (by rw [LV.sl vs hc]; exact hn)
  refine ⟨by rw [h.1]; simp [lv0]; omega, h.2.1, fun i v hi => ?_⟩
  by_cases e : i < vs.length
  · rw [lv0, List.getElem?_append_left (by simpa using e), List.getElem?_map] at hi
    cases hg : vs[i]? with
    | none => rw [hg] at hi; cases hi
    | some w =>
      rw [hg] at hi
      cases hi
      have := LV.args vs 0 hc i v hg
      rw [Nat.zero_add] at this
      exact ⟨h.2.2 _ this, hc v (List.mem_of_getElem? hg)⟩
  · exfalso
    rw [lv0, List.getElem?_append_right (by simp; omega)] at hi
    rcases List.mem_replicate.mp (List.mem_of_getElem? hi) with ⟨-, h9⟩
    cases h9
/-- THE GOAL: from any heap of which P's map is true -/
def WR (K : KT) (G : GT) (A : Nat → Prop) (Q : State → Prop) (P : Hp → Prop) (lv : List (Option Value)) (k n pc : Nat) (st : List Value) : Prop :=
  ∀ (h : Hp) (H : Heap) (locs : List Loc) (ls : Array Slot), P h → Rep G.1 h H → (∀ a, h a ≠ none → A a) → va_S A K.s.heap H locs → LV ls lv →
    W K.p K.l K.e K.R K.s K.m K.args K.below K.meth K.c H locs k n Q (F0 K.m pc ls st)
/-- .. with an exception of class E thrown over the frame -/
def WX (K : KT) (G : GT) (A : Nat → Prop) (Q : State → Prop) (P : Hp → Prop) (lv : List (Option Value)) (k n pc : Nat) (st : List Value) (E : String) : Prop :=
  ∀ (h : Hp) (H : Heap) (locs : List Loc) (ls : Array Slot) (q : Addr) (ce : Cell), P h → Rep G.1 h H → (∀ a, h a ≠ none → A a) → va_S A K.s.heap H locs → LV ls lv → H[q]? = some ce → ce.vm = .none → K.s.vm.findClass E = some ce.cls →
    vx_W K.p K.l K.e K.R K.s K.m K.args K.below K.meth K.c H locs k n Q (F0 K.m pc ls st) q
theorem WR.imp {K : KT} {G : GT} {A : Nat → Prop} {Q : State → Prop} {P P' : Hp → Prop} {lv : List (Option Value)} {k n pc : Nat} {st : List Value} (hp : ∀ h, P h → P' h) (kk : WR K G A Q P' lv k n pc st) : WR K G A Q P lv k n pc st :=
  fun h H locs ls hh => kk h H locs ls (hp h hh)
theorem WR.all {K : KT} {G : GT} {A : Nat → Prop} {Q : State → Prop} {P : Hp → Prop} {lv : List (Option Value)} {k n pc : Nat} {st : List Value} (kk : ∀ h, P h → WR K G A Q (Eq h) lv k n pc st) : WR K G A Q P lv k n pc st :=
  fun h H locs ls hh => kk h hh h H locs ls rfl
theorem WR.ex {K : KT} {G : GT} {A : Nat → Prop} {Q : State → Prop} {α : Sort _} {P : α → Hp → Prop} {lv : List (Option Value)} {k n pc : Nat} {st : List Value} (kk : ∀ x, WR K G A Q (P x) lv k n pc st) : WR K G A Q (fun h => ∃ x, P x h) lv k n pc st :=
  fun h H locs ls hh => by obtain ⟨x, hx⟩ := hh; exact kk x h H locs ls hx
theorem WR.pr {K : KT} {G : GT} {A : Nat → Prop} {Q : State → Prop} {p0 : Prop} {P : Hp → Prop} {lv : List (Option Value)} {k n pc : Nat} {st : List Value} (kk : p0 → WR K G A Q P lv k n pc st) : WR K G A Q (fun h => p0 ∧ P h) lv k n pc st :=
  fun h H locs ls hh => kk hh.1 h H locs ls hh.2
theorem WR.lv {K : KT} {G : GT} {A : Nat → Prop} {Q : State → Prop} {P : Hp → Prop} {lv lv' : List (Option Value)} {k n pc : Nat} {st : List Value} (hl : lv'.length = lv.length) (hs : ∀ (i : Nat) (v : Value), lv'[i]? = some (some v) → lv[i]? = some (some v)) (kk : WR K G A Q P lv' k n pc st) : WR K G A Q P lv k n pc st :=
  fun h H locs ls hh h1 h2 h3 h4 => kk h H locs ls hh h1 h2 h3 ⟨by rw [h4.1, hl], h4.2.1, fun i v hi => h4.2.2 i v (hs i v hi)⟩
theorem WR.wid {K : KT} {G : GT} {A : Nat → Prop} {Q : State → Prop} {P : Hp → Prop} {lv : List (Option Value)} {k n k' n' pc : Nat} {st : List Value} (h1 : k ≤ k') (h2 : n ≤ n') (kk : WR K G A Q P lv k' n' pc st) : WR K G A Q P lv k n pc st :=
  fun h H locs ls hh h3 h4 h5 h6 => W.widen h1 h2 (kk h H locs ls hh h3 h4 h5 h6)
