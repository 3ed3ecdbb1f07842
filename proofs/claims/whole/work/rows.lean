section
-- ===== PART A: goes FIRST, ahead of the names: the tables' words, and 'selects' of the private methods out of them =====
/-- a private method of a class that the tables say can be made, by its rows of tables_1 -/
def lw_okq (q : MethodName × Nat) : Prop := (q.1.cls ≠ "java/lang/invoke/MethodHandle" ∧ q.1.cls ≠ "java/lang/invoke/VarHandle") ∧ Cond.instantiable q.1.cls q.2 ∈ tables_1 ∧ Cond.privateMethod q.1 ∈ tables_1 ∧ Cond.instanceMethod q.1 ∈ tables_1
theorem lw_p0 : lw_okq (⟨"WellRights", "whoIsStopped", "()I"⟩, 6) := ⟨⟨by decide +kernel, by decide +kernel⟩, List.mem_of_getElem? (i := 27) (by decide +kernel), List.mem_of_getElem? (i := 89) (by decide +kernel), List.mem_of_getElem? (i := 90) (by decide +kernel)⟩
theorem lw_p1 : lw_okq (⟨"WellRights", "nextToStop", "(I)LWellRights$Well;"⟩, 6) := ⟨⟨by decide +kernel, by decide +kernel⟩, List.mem_of_getElem? (i := 27) (by decide +kernel), List.mem_of_getElem? (i := 93) (by decide +kernel), List.mem_of_getElem? (i := 94) (by decide +kernel)⟩
theorem lw_p2 : lw_okq (⟨"WellRights", "levelBehind", "(LWellRights$Well;I)I"⟩, 6) := ⟨⟨by decide +kernel, by decide +kernel⟩, List.mem_of_getElem? (i := 27) (by decide +kernel), List.mem_of_getElem? (i := 116) (by decide +kernel), List.mem_of_getElem? (i := 117) (by decide +kernel)⟩
theorem lw_p3 : lw_okq (⟨"WellRights", "youngestDrawerOn", "(LWellRights$Well;I)LWellRights$Well;"⟩, 6) := ⟨⟨by decide +kernel, by decide +kernel⟩, List.mem_of_getElem? (i := 27) (by decide +kernel), List.mem_of_getElem? (i := 149) (by decide +kernel), List.mem_of_getElem? (i := 150) (by decide +kernel)⟩
theorem lw_p4 : lw_okq (⟨"java/lang/Throwable", "fillInStackTrace", "(I)Ljava/lang/Throwable;"⟩, 6) := ⟨⟨by decide +kernel, by decide +kernel⟩, List.mem_of_getElem? (i := 209) (by decide +kernel), List.mem_of_getElem? (i := 207) (by decide +kernel), List.mem_of_getElem? (i := 208) (by decide +kernel)⟩
theorem lw_p5 : lw_okq (⟨"java/util/ArrayList", "add", "(Ljava/lang/Object;[Ljava/lang/Object;I)V"⟩, 3) := ⟨⟨by decide +kernel, by decide +kernel⟩, List.mem_of_getElem? (i := 35) (by decide +kernel), List.mem_of_getElem? (i := 607) (by decide +kernel), List.mem_of_getElem? (i := 608) (by decide +kernel)⟩
theorem lw_p6 : lw_okq (⟨"java/util/ArrayList", "grow", "()[Ljava/lang/Object;"⟩, 3) := ⟨⟨by decide +kernel, by decide +kernel⟩, List.mem_of_getElem? (i := 35) (by decide +kernel), List.mem_of_getElem? (i := 611) (by decide +kernel), List.mem_of_getElem? (i := 612) (by decide +kernel)⟩
theorem lw_p7 : lw_okq (⟨"java/util/ArrayList", "grow", "(I)[Ljava/lang/Object;"⟩, 3) := ⟨⟨by decide +kernel, by decide +kernel⟩, List.mem_of_getElem? (i := 35) (by decide +kernel), List.mem_of_getElem? (i := 615) (by decide +kernel), List.mem_of_getElem? (i := 616) (by decide +kernel)⟩
theorem lw_p8 : lw_okq (⟨"WellRights", "wellAt", "(I)LWellRights$Well;"⟩, 6) := ⟨⟨by decide +kernel, by decide +kernel⟩, List.mem_of_getElem? (i := 27) (by decide +kernel), List.mem_of_getElem? (i := 651) (by decide +kernel), List.mem_of_getElem? (i := 652) (by decide +kernel)⟩
theorem lw_p9 : lw_okq (⟨"WellRights", "shrinkBanks", "()V"⟩, 6) := ⟨⟨by decide +kernel, by decide +kernel⟩, List.mem_of_getElem? (i := 27) (by decide +kernel), List.mem_of_getElem? (i := 709) (by decide +kernel), List.mem_of_getElem? (i := 710) (by decide +kernel)⟩
theorem lw_p10 : lw_okq (⟨"WellRights", "drawWater", "(I)V"⟩, 6) := ⟨⟨by decide +kernel, by decide +kernel⟩, List.mem_of_getElem? (i := 27) (by decide +kernel), List.mem_of_getElem? (i := 713) (by decide +kernel), List.mem_of_getElem? (i := 714) (by decide +kernel)⟩
theorem lw_p11 : lw_okq (⟨"WellRights", "tellWater", "()V"⟩, 6) := ⟨⟨by decide +kernel, by decide +kernel⟩, List.mem_of_getElem? (i := 27) (by decide +kernel), List.mem_of_getElem? (i := 717) (by decide +kernel), List.mem_of_getElem? (i := 718) (by decide +kernel)⟩
theorem lw_p12 : lw_okq (⟨"WellRights", "meanOfWorkingMeters", "(I)I"⟩, 6) := ⟨⟨by decide +kernel, by decide +kernel⟩, List.mem_of_getElem? (i := 27) (by decide +kernel), List.mem_of_getElem? (i := 721) (by decide +kernel), List.mem_of_getElem? (i := 722) (by decide +kernel)⟩
theorem lw_p13 : lw_okq (⟨"WellRights", "settleRights", "(I)V"⟩, 6) := ⟨⟨by decide +kernel, by decide +kernel⟩, List.mem_of_getElem? (i := 27) (by decide +kernel), List.mem_of_getElem? (i := 725) (by decide +kernel), List.mem_of_getElem? (i := 726) (by decide +kernel)⟩
theorem lw_p14 : lw_okq (⟨"WellRights", "chargeAbove", "(LWellRights$Well;I)V"⟩, 6) := ⟨⟨by decide +kernel, by decide +kernel⟩, List.mem_of_getElem? (i := 27) (by decide +kernel), List.mem_of_getElem? (i := 729) (by decide +kernel), List.mem_of_getElem? (i := 730) (by decide +kernel)⟩
theorem lw_p15 : lw_okq (⟨"WellRights", "forgetPower", "()V"⟩, 6) := ⟨⟨by decide +kernel, by decide +kernel⟩, List.mem_of_getElem? (i := 27) (by decide +kernel), List.mem_of_getElem? (i := 735) (by decide +kernel), List.mem_of_getElem? (i := 736) (by decide +kernel)⟩
def lw_privs_1 : List (MethodName × Nat) := [(⟨"WellRights", "whoIsStopped", "()I"⟩, 6), (⟨"WellRights", "nextToStop", "(I)LWellRights$Well;"⟩, 6), (⟨"WellRights", "levelBehind", "(LWellRights$Well;I)I"⟩, 6), (⟨"WellRights", "youngestDrawerOn", "(LWellRights$Well;I)LWellRights$Well;"⟩, 6), (⟨"java/lang/Throwable", "fillInStackTrace", "(I)Ljava/lang/Throwable;"⟩, 6), (⟨"java/util/ArrayList", "add", "(Ljava/lang/Object;[Ljava/lang/Object;I)V"⟩, 3), (⟨"java/util/ArrayList", "grow", "()[Ljava/lang/Object;"⟩, 3), (⟨"java/util/ArrayList", "grow", "(I)[Ljava/lang/Object;"⟩, 3), (⟨"WellRights", "wellAt", "(I)LWellRights$Well;"⟩, 6), (⟨"WellRights", "shrinkBanks", "()V"⟩, 6), (⟨"WellRights", "drawWater", "(I)V"⟩, 6), (⟨"WellRights", "tellWater", "()V"⟩, 6), (⟨"WellRights", "meanOfWorkingMeters", "(I)I"⟩, 6), (⟨"WellRights", "settleRights", "(I)V"⟩, 6), (⟨"WellRights", "chargeAbove", "(LWellRights$Well;I)V"⟩, 6), (⟨"WellRights", "forgetPower", "()V"⟩, 6)]
theorem lw_r1 : ∀ q ∈ lw_privs_1, lw_okq q := List.forall_mem_cons.mpr ⟨lw_p0, List.forall_mem_cons.mpr ⟨lw_p1, List.forall_mem_cons.mpr ⟨lw_p2, List.forall_mem_cons.mpr ⟨lw_p3, List.forall_mem_cons.mpr ⟨lw_p4, List.forall_mem_cons.mpr ⟨lw_p5, List.forall_mem_cons.mpr ⟨lw_p6, List.forall_mem_cons.mpr ⟨lw_p7, List.forall_mem_cons.mpr ⟨lw_p8, List.forall_mem_cons.mpr ⟨lw_p9, List.forall_mem_cons.mpr ⟨lw_p10, List.forall_mem_cons.mpr ⟨lw_p11, List.forall_mem_cons.mpr ⟨lw_p12, List.forall_mem_cons.mpr ⟨lw_p13, List.forall_mem_cons.mpr ⟨lw_p14, List.forall_mem_cons.mpr ⟨lw_p15, fun _ h => absurd h List.not_mem_nil⟩⟩⟩⟩⟩⟩⟩⟩⟩⟩⟩⟩⟩⟩⟩⟩
theorem lw_p16 : lw_okq (⟨"WellRightsModel", "refuses", "(I)I"⟩, 23) := ⟨⟨by decide +kernel, by decide +kernel⟩, List.mem_of_getElem? (i := 814) (by decide +kernel), List.mem_of_getElem? (i := 902) (by decide +kernel), List.mem_of_getElem? (i := 903) (by decide +kernel)⟩
theorem lw_p17 : lw_okq (⟨"WellRightsModel", "isAsked", "(I)Z"⟩, 23) := ⟨⟨by decide +kernel, by decide +kernel⟩, List.mem_of_getElem? (i := 814) (by decide +kernel), List.mem_of_getElem? (i := 910) (by decide +kernel), List.mem_of_getElem? (i := 911) (by decide +kernel)⟩
theorem lw_p18 : lw_okq (⟨"WellRightsModel", "isWell", "(I)Z"⟩, 23) := ⟨⟨by decide +kernel, by decide +kernel⟩, List.mem_of_getElem? (i := 814) (by decide +kernel), List.mem_of_getElem? (i := 914) (by decide +kernel), List.mem_of_getElem? (i := 915) (by decide +kernel)⟩
theorem lw_p19 : lw_okq (⟨"WellRightsModel", "reaches", "(III)I"⟩, 23) := ⟨⟨by decide +kernel, by decide +kernel⟩, List.mem_of_getElem? (i := 814) (by decide +kernel), List.mem_of_getElem? (i := 926) (by decide +kernel), List.mem_of_getElem? (i := 927) (by decide +kernel)⟩
theorem lw_p20 : lw_okq (⟨"WellRightsModel", "stops", "()I"⟩, 23) := ⟨⟨by decide +kernel, by decide +kernel⟩, List.mem_of_getElem? (i := 814) (by decide +kernel), List.mem_of_getElem? (i := 942) (by decide +kernel), List.mem_of_getElem? (i := 943) (by decide +kernel)⟩
theorem lw_p21 : lw_okq (⟨"WellRightsModel", "levels", "()V"⟩, 23) := ⟨⟨by decide +kernel, by decide +kernel⟩, List.mem_of_getElem? (i := 814) (by decide +kernel), List.mem_of_getElem? (i := 946) (by decide +kernel), List.mem_of_getElem? (i := 947) (by decide +kernel)⟩
theorem lw_p22 : lw_okq (⟨"WellRightsModel", "youngest", "(I)I"⟩, 23) := ⟨⟨by decide +kernel, by decide +kernel⟩, List.mem_of_getElem? (i := 814) (by decide +kernel), List.mem_of_getElem? (i := 950) (by decide +kernel), List.mem_of_getElem? (i := 951) (by decide +kernel)⟩
theorem lw_p23 : lw_okq (⟨"WellRightsModel", "isYounger", "(II)Z"⟩, 23) := ⟨⟨by decide +kernel, by decide +kernel⟩, List.mem_of_getElem? (i := 814) (by decide +kernel), List.mem_of_getElem? (i := 954) (by decide +kernel), List.mem_of_getElem? (i := 955) (by decide +kernel)⟩
theorem lw_p24 : lw_okq (⟨"WellRightsModel", "mean", "(I)I"⟩, 23) := ⟨⟨by decide +kernel, by decide +kernel⟩, List.mem_of_getElem? (i := 814) (by decide +kernel), List.mem_of_getElem? (i := 958) (by decide +kernel), List.mem_of_getElem? (i := 959) (by decide +kernel)⟩
theorem lw_p25 : lw_okq (⟨"WellRightsModel", "pays", "(I)V"⟩, 23) := ⟨⟨by decide +kernel, by decide +kernel⟩, List.mem_of_getElem? (i := 814) (by decide +kernel), List.mem_of_getElem? (i := 962) (by decide +kernel), List.mem_of_getElem? (i := 963) (by decide +kernel)⟩
def lw_privs_2 : List (MethodName × Nat) := [(⟨"WellRightsModel", "refuses", "(I)I"⟩, 23), (⟨"WellRightsModel", "isAsked", "(I)Z"⟩, 23), (⟨"WellRightsModel", "isWell", "(I)Z"⟩, 23), (⟨"WellRightsModel", "reaches", "(III)I"⟩, 23), (⟨"WellRightsModel", "stops", "()I"⟩, 23), (⟨"WellRightsModel", "levels", "()V"⟩, 23), (⟨"WellRightsModel", "youngest", "(I)I"⟩, 23), (⟨"WellRightsModel", "isYounger", "(II)Z"⟩, 23), (⟨"WellRightsModel", "mean", "(I)I"⟩, 23), (⟨"WellRightsModel", "pays", "(I)V"⟩, 23)]
theorem lw_r2 : ∀ q ∈ lw_privs_2, lw_okq q := List.forall_mem_cons.mpr ⟨lw_p16, List.forall_mem_cons.mpr ⟨lw_p17, List.forall_mem_cons.mpr ⟨lw_p18, List.forall_mem_cons.mpr ⟨lw_p19, List.forall_mem_cons.mpr ⟨lw_p20, List.forall_mem_cons.mpr ⟨lw_p21, List.forall_mem_cons.mpr ⟨lw_p22, List.forall_mem_cons.mpr ⟨lw_p23, List.forall_mem_cons.mpr ⟨lw_p24, List.forall_mem_cons.mpr ⟨lw_p25, fun _ h => absurd h List.not_mem_nil⟩⟩⟩⟩⟩⟩⟩⟩⟩⟩
def lw_privs : List (MethodName × Nat) := lw_privs_1 ++ (lw_privs_2)
def lw_selx : List Cond := [Cond.selects "java/lang/StringBuilder" ⟨"java/lang/AbstractStringBuilder", "appendNull", "()Ljava/lang/AbstractStringBuilder;"⟩ ⟨"java/lang/AbstractStringBuilder", "appendNull", "()Ljava/lang/AbstractStringBuilder;"⟩, Cond.selects "java/lang/StringBuilder" ⟨"java/lang/AbstractStringBuilder", "ensureCapacityInternal", "(I)V"⟩ ⟨"java/lang/AbstractStringBuilder", "ensureCapacityInternal", "(I)V"⟩, Cond.selects "java/lang/StringBuilder" ⟨"java/lang/AbstractStringBuilder", "newCapacity", "(I)I"⟩ ⟨"java/lang/AbstractStringBuilder", "newCapacity", "(I)I"⟩, Cond.selects "java/lang/StringBuilder" ⟨"java/lang/AbstractStringBuilder", "putStringAt", "(ILjava/lang/String;)V"⟩ ⟨"java/lang/AbstractStringBuilder", "putStringAt", "(ILjava/lang/String;)V"⟩, Cond.selects "java/lang/StringBuilder" ⟨"java/lang/AbstractStringBuilder", "inflateIfNeededFor", "(Ljava/lang/String;)V"⟩ ⟨"java/lang/AbstractStringBuilder", "inflateIfNeededFor", "(Ljava/lang/String;)V"⟩, Cond.selects "java/lang/StringBuilder" ⟨"java/lang/AbstractStringBuilder", "inflate", "()V"⟩ ⟨"java/lang/AbstractStringBuilder", "inflate", "()V"⟩]
def lw_tbl : List Cond := k2_sels lw_privs ++ (lw_selx ++ tables_1)
theorem lw_privs_ok : ∀ q ∈ lw_privs, lw_okq q := by
  show ∀ q ∈ lw_privs_1 ++ (lw_privs_2), lw_okq q
  exact List.forall_mem_append.mpr ⟨lw_r1, lw_r2⟩
/-- a private method of a class above the receiver's class is selected as it is; z: another method of that class, that the tables say is selected -/
theorem lw_selp {C : String} {x y z : MethodName} {s : State} {args : Array Value} {n : Nat} (hy : y.cls ≠ "java/lang/invoke/MethodHandle" ∧ y.cls ≠ "java/lang/invoke/VarHandle")
    (hins : (Cond.instantiable C n).before args s = true) (hpriv : (Cond.privateMethod y).before args s = true) (hinst : (Cond.instanceMethod y).before args s = true)
    (hz : (Cond.selects C x z).before args s = true) (hzc : z.cls = y.cls) : (Cond.selects C y y).before args s = true := by
  obtain ⟨c, k, hc, -, -, -, -, -⟩ := Cond.instantiable_spec hins
  obtain ⟨c2, r2, m2, q1, q2, q3, q4, kz, q5, hni⟩ := Cond.selects_spec (args := args) (first := s) (o := none) (s := s) (idx := []) hz
  obtain ⟨mk, methM, hnamed, hmethM, -, -⟩ := Cond.instanceMethod_spec hinst
  have hfound : s.methodFound? y.cls y.name y.desc = some mk := State.methodFound?_of_named hnamed hy
  have hf1 := findClass_of_methodNamed q3
  rw [hzc] at hf1
  have hcls : m2.cls = mk.cls := Option.some.inj (hf1.symm.trans (findClass_of_methodNamed hnamed))
  have hsel : selectMethod {} s.vm c mk = .method mk := selectMethod_private hmethM (Cond.privateMethod_at hpriv mk methM hnamed hmethM)
  rw [hcls] at q5
  simp only [Cond.before, Cond.holds, Cond.value, hc, hfound, hnamed, hsel, q5]
  simp; exact hni
end
section
/-! ===== BEGIN words of one list among another's, by their places ===== -/
theorem goodIn_r {big : List Cond} (ws : List Cond) (ps : List Nat) (hp : ws = ps.filterMap (fun i => big[i]?)) (h : ws.all goodWord = true) : GoodIn big ws := by
  intro w hw
  have h1 := List.all_eq_true.mp h w hw
  rw [hp] at hw
  obtain ⟨i, -, hi⟩ := List.mem_filterMap.mp hw
  have hm : w ∈ big := by first | exact List.mem_of_getElem? hi | exact List.getElem?_mem hi
  exact ⟨hm, good_of_word h1⟩
theorem goodIn_app {big a b : List Cond} (ha : GoodIn big a) (hb : GoodIn big b) : GoodIn big (a ++ b) := fun w h => (List.mem_append.mp h).elim (ha w) (hb w)
theorem goodIn_ca {big a b : List Cond} {c : Cond} (ha : GoodIn big (c :: a)) (hb : GoodIn big b) : GoodIn big (c :: (a ++ b)) := fun w h => (List.mem_cons.mp h).elim (fun e => ha w (List.mem_cons.mpr (Or.inl e))) (fun h => (List.mem_append.mp h).elim (fun h => ha w (List.mem_cons.mpr (Or.inr h))) (hb w))
theorem goodIn_sub {big ws : List Cond} (hm : ∀ w ∈ ws, w ∈ big) (h : ws.all goodWord = true) : GoodIn big ws := fun w hw => ⟨hm w hw, good_of_word (List.all_eq_true.mp h w hw)⟩
/-! ===== END ===== -/

/-! ===== BEGIN exceptions that leave a method, and their catching by the caller (launches without stack traces) ===== -/
section VXA
/-! The laws vx_back, vx_callV, vx_callS, vx_callSW, vx_throw0, vx_throwS follow proofs of the library, with one case more: JvmDerived/Free/Laws.lean (Back.of_free), Shelf42/LK1.lean (callV, callS), Shelf/KitTraced.lean (throwNew0V, throwNewS). -/
/-- where a method has thrown q: the class by its name, the cell, what was written, the world -/
def vx_T (XC : String → State → State → Prop) (st : State) (q : Addr) (t : State) (mc ms : Nat) (free : Addr → Prop) : Prop :=
  ∃ (E : String) (ce : Cell) (L : List Loc), XC E st t ∧ t.heap[q]? = some ce ∧ ce.vm = .none ∧ st.vm.findClass E = some ce.cls ∧ st.WarmedH t.vm ∧ st.sameButNew ({ t with vm := st.vm } : State) L mc ms ∧ ∀ z ∈ L, free z.base
def vx_Q (Qc : Array Value → State → Outcome → State → Prop) (XC : String → State → State → Prop) (mc ms : Nat) (free : Addr → Prop) : Array Value → State → Outcome → State → Prop := fun a st o t =>
  (Qc a st o t ∧ ∃ L, FrameEnd st o t L mc ms ∧ ∀ q ∈ L, free q.base) ∨ ∃ q, o = .threw q ∧ vx_T XC st q t mc ms free
/-- a callee that returns or throws -/
def vx_Met (l : Launch) (y : MethodName) (ws : List Cond) (rm : Room) (Pc : Array Value → State → Prop) (Qc : Array Value → State → Outcome → State → Prop) (XC : String → State → State → Prop) (mc ms : Nat) (free : Addr → Prop) : Prop :=
  MetFree l y (headSpec ws rm) Pc (fun _ _ _ _ _ => True) (vx_Q Qc XC mc ms free)
def vx_Post (XC : String → State → State → Prop) (mc ms : Nat) (free : Addr → Prop) : Pt → Array Value → Addr → Pt → Prop := fun A a q B =>
  ∃ (g : JFrame) (mk : MethodId) (t : State) (L : List Loc) (E : String) (ce : Cell), B.U.heap = t.heap ∧ B.U.vm = t.vm ∧ XC E (A.U.calling g mk a) t ∧ t.heap[q]? = some ce ∧ ce.vm = .none ∧ A.U.vm.findClass E = some ce.cls ∧ B.locs = A.locs ++ L ∧ (∀ z ∈ L, free z.base) ∧ B.cells = A.cells + mc ∧ B.slots = A.slots + ms
def vx_Back (l : Launch) (R : Room) (p : Program) (e : Env) (below : List Frame) (s : State) (sargs : Array Value) (y : MethodName) (len W9 : Nat)
    (Pre : Pt → Array Value → Prop) (Post : Pt → Array Value → Option Value → Pt → Prop) (PostX : Pt → Array Value → Addr → Pt → Prop) : Prop :=
  ∀ (m : MethodId) (meth : Method) (c : Code) (A : Pt) (g : JFrame) (ig : Instr) (mk : MethodId) (a : Array Value),
    Stand p l e R s m sargs below meth c A.U A.locs A.cells A.slots → g.method = m → g.locals.size = c.maxLocals → decode c.code g.pc = .ok (ig, len) →
    2 * g.monitorRoom + (g.stack.map fun v => v.category).sum ≤ W9 → A.U.methodNamed? y = some mk → Pre A a →
    (∃ (v : Option Value) (B : Pt), Stand p l e R s m sargs below meth c B.U B.locs B.cells B.slots ∧ Post A a v B ∧
      Steps p.tables e below (doInvoke e (A.U.setTop g) [] mk a).1 (B.U.setTop { g with pc := g.pc + len, stack := v.toList ++ g.stack })) ∨
    (∃ (q : Addr) (B : Pt), Stand p l e R s m sargs below meth c B.U B.locs B.cells B.slots ∧ PostX A a q B ∧
      Steps p.tables e below (doInvoke e (A.U.setTop g) [] mk a).1 ((B.U.setTop g).pushFrame (.throwing q)))
section Payer
variable {l : Launch} {R : Room} {p : Program} {e : Env} {below : List Frame} {s : State} {sargs : Array Value} {y : MethodName} {len W9 : Nat}
theorem vx_back {ws : List Cond} {rm : Room} {Pc : Array Value → State → Prop} {Qc : Array Value → State → Outcome → State → Prop} {XC : String → State → State → Prop} {mc ms : Nat} {free : Addr → Prop} {bytes : ByteArray} {maxL : Nat} {ret : Option FieldType}
    (hM : vx_Met l y ws rm Pc Qc XC mc ms free) (hblind : FrameBlind Pc) (hrc : rm.cells = mc) (hrs : rm.slots = ms)
    (hframes : rm.frames + 1 ≤ R.frames) (hlocals : W9 + (maxL + 11) + rm.locals ≤ R.locals)
    (hws : ∀ w ∈ ws, ∀ a' U, s.WarmedH U.vm → w.before a' U = true) (hcode : Cond.code y bytes maxL ret ∈ ws) (hinit : ∀ a' U, s.WarmedH U.vm → (Cond.initialized y.cls).before a' U = true) :
    vx_Back l R p e below s sargs y len W9 (PreOf R mc ms Pc) (PostOf Qc mc ms free) (vx_Post XC mc ms free) := by
  intro m meth c A g ig mk a X hg hsize hdg hW hn hp
  have h1 : (headSpec ws rm).pre.before a A.U = true := atoms_intro fun w hw => hws w hw _ _ X.warmed
  have h2 : (Cond.code y bytes maxL ret).before a A.U = true := hws _ hcode _ _ X.warmed
  have h3 : (Cond.initialized y.cls).before a A.U = true := hinit _ _ X.warmed
  have h4 : A.cells + (headSpec ws rm).room.cells ≤ R.cells := by rw [show (headSpec ws rm).room.cells = mc from hrc]; exact hp.1
  have h5 : A.slots + (headSpec ws rm).room.slots ≤ R.slots := by rw [show (headSpec ws rm).room.slots = ms from hrs]; exact hp.2.1
  have hPc : Pc a (A.U.calling g mk a) := hblind _ _ _ _ hp.2.2
  obtain ⟨U, Ls, c0, s0⟩ := A
  dsimp only [Pt.U, Pt.locs, Pt.cells, Pt.slots] at h1 h2 h3 h4 h5 X hn hPc ⊢
  obtain ⟨methY, cY, hmY, hcY, -, hlY, -, -, -, -⟩ := Cond.code_spec hn h2
  obtain ⟨kY, hkY, -⟩ := className_of_methodNamed hn
  have hinitY : kY.init = .initialized := Cond.initialized_spec (findClass_of_methodNamed hn) hkY h3
  have h : At U g.method c below := by rw [hg]; exact X.here
  have hlocals9 : W9 + (maxL + 11) + (headSpec ws rm).room.locals ≤ R.locals := hlocals
  have happ : (headSpec ws rm).appliesLoose y e.platform (U.calling g mk a) = true :=
    Spec.appliesLoose_calling (g := g) h hdg hn hkY hinitY
      (X.room_calling (g := g) (R' := (headSpec ws rm).room) hsize hmY hcY hframes (by rw [hlY]; omega) h4 h5) h1
  obtain ⟨mid, hmid⟩ := h.above
  have hfr : (U.setTop g).frames = (.java g :: mid) ++ below := by rw [State.frames_setTop' g h.top, hmid]; rfl
  obtain ⟨o, s₂, hsteps, -, hend, hq⟩ := Steps.callFree hM p X.admits X.cas X.clock (acts := []) hfr happ hPc trivial
  have hq' : vx_Q Qc XC mc ms free a (U.calling g mk a) o s₂ := hq
  rw [State.frames_setTop' g h.top] at hend
  obtain ⟨g₀, hg0⟩ := Option.isSome_iff_exists.mp h.top
  obtain ⟨r, hr⟩ := State.topJava?_eq_some.mp hg0
  have hr' : (({ U with heap := s₂.heap, slotsUsed := s₂.slotsUsed } : State).setVm s₂.vm).frames = .java g₀ :: r := hr
  rcases hq' with ⟨hqc, L, hfe, hL⟩ | ⟨q, rfl, E, ce, L, hx, hce, hcv, hcl, hW₂, hsm, hL⟩
  · obtain ⟨⟨v, rfl⟩, hW₂, e2, q2, q3, q4, q5, q6⟩ := id hfe
    have e3 : s₂ = ({ (U.calling g mk a).setFrames s₂.frames with heap := s₂.heap, slotsUsed := s₂.slotsUsed } : State).setVm s₂.vm := by
      have : s₂ = ({ s₂ with vm := (U.calling g mk a).vm } : State).setVm s₂.vm := rfl
      rw [e2] at this
      exact this
    obtain ⟨c₂, i₂, len₂, hc₂, hd₂, hf₂⟩ := hend
    have hW' : U.WarmedH s₂.vm := hW₂
    have hcc : c₂ = c := by
      have h1 : s₂.code? g.method = U.code? g.method := by
        rw [State.code?_eq, State.code?_eq, hW'.alike.method?]
      exact Option.some.inj (hc₂.symm.trans (h1.trans h.code))
    subst hcc
    have hlen : len₂ = len := by rw [hdg] at hd₂; cases hd₂; rfl
    subst hlen
    have hs₂ : s₂ = (({ U with heap := s₂.heap, slotsUsed := s₂.slotsUsed } : State).setVm s₂.vm).setTop { g with pc := g.pc + len₂, stack := v.toList ++ g.stack } := by
      refine e3.trans ?_
      rw [hf₂, State.calling_eq h.top, State.setFrames_setFrames, State.setTop_of_frames _ hr', hr]
      rfl
    have hsame : U.sameButNew ({ U with heap := s₂.heap, slotsUsed := s₂.slotsUsed } : State) L mc ms := by
      refine ⟨?_, q2, q3, q4, q5, q6⟩
      obtain ⟨t, ht, -⟩ := State.frames_cons hr
      show ({ U with heap := s₂.heap, slotsUsed := s₂.slotsUsed } : State) = { U.setFrames U.frames with heap := s₂.heap, slotsUsed := s₂.slotsUsed }
      rw [State.setFrames_self ht]
    subst hg
    refine Or.inl ⟨v, ⟨(({ U with heap := s₂.heap, slotsUsed := s₂.slotsUsed } : State).setVm s₂.vm), Ls ++ L, c0 + mc, s0 + ms⟩,
      ⟨X.admits, X.cas, X.clock, X.frames, X.room, X.hears, X.method, X.code, (X.here.setHeapUsed s₂.heap s₂.slotsUsed).setVm hW'.alike, X.tail, State.WarmedH.trans X.warmed hW', X.limits, X.bytes, X.same.trans (hsame.setVm s.vm)⟩,
      ⟨g, mk, s₂, L, rfl, rfl, hqc, rfl, hL, rfl, rfl⟩, ?_⟩
    show Steps p.tables e below _ ((({ U with heap := s₂.heap, slotsUsed := s₂.slotsUsed } : State).setVm s₂.vm).setTop { g with pc := g.pc + len₂, stack := v.toList ++ g.stack })
    rw [← hs₂]
    exact hsteps
  · obtain ⟨e2, q2, q3, q4, q5, q6⟩ := id hsm
    have e3 : s₂ = ({ (U.calling g mk a).setFrames s₂.frames with heap := s₂.heap, slotsUsed := s₂.slotsUsed } : State).setVm s₂.vm := by
      have : s₂ = ({ s₂ with vm := (U.calling g mk a).vm } : State).setVm s₂.vm := rfl
      rw [e2] at this
      exact this
    have hf₂ : s₂.frames = .throwing q :: .java g :: U.frames.tail := hend
    have hW' : U.WarmedH s₂.vm := hW₂
    have hs₂ : s₂ = ((({ U with heap := s₂.heap, slotsUsed := s₂.slotsUsed } : State).setVm s₂.vm).setTop g).pushFrame (.throwing q) := by
      refine e3.trans ?_
      rw [hf₂, State.calling_eq h.top, State.setFrames_setFrames, State.pushFrame, State.frames_setTop _ hr', State.setTop_of_frames _ hr', State.setFrames_setFrames, hr]
      rfl
    have hsame : U.sameButNew ({ U with heap := s₂.heap, slotsUsed := s₂.slotsUsed } : State) L mc ms := by
      refine ⟨?_, q2, q3, q4, q5, q6⟩
      obtain ⟨t, ht, -⟩ := State.frames_cons hr
      show ({ U with heap := s₂.heap, slotsUsed := s₂.slotsUsed } : State) = { U.setFrames U.frames with heap := s₂.heap, slotsUsed := s₂.slotsUsed }
      rw [State.setFrames_self ht]
    subst hg
    refine Or.inr ⟨q, ⟨(({ U with heap := s₂.heap, slotsUsed := s₂.slotsUsed } : State).setVm s₂.vm), Ls ++ L, c0 + mc, s0 + ms⟩,
      ⟨X.admits, X.cas, X.clock, X.frames, X.room, X.hears, X.method, X.code, (X.here.setHeapUsed s₂.heap s₂.slotsUsed).setVm hW'.alike, X.tail, State.WarmedH.trans X.warmed hW', X.limits, X.bytes, X.same.trans (hsame.setVm s.vm)⟩,
      ⟨g, mk, s₂, L, E, ce, rfl, rfl, hx, hce, hcv, hcl, rfl, hL, rfl, rfl⟩, ?_⟩
    show Steps p.tables e below _ (((({ U with heap := s₂.heap, slotsUsed := s₂.slotsUsed } : State).setVm s₂.vm).setTop g).pushFrame (.throwing q))
    rw [← hs₂]
    exact hsteps
end Payer
section Calls
variable {p : Program} {l : Launch} {e : Env} {R : Room} {s : State} {m : MethodId} {args : Array Value} {below : List Frame} {meth : Method} {c : Code} {T : State} {locs : List Loc} {cells slots : Nat}
theorem vx_callV (X : Stand p l e R s m args below meth c T locs cells slots) (hexec : p.tables.exec = Jvm.exec) {own C : String} {index : Nat} {y : MethodName} {bytes : ByteArray} {maxL : Nat} {ret : Option FieldType}
    (hown : s.vm.findClass own = some m.cls) (hlink : (Cond.methodLink own index y).before args s = true) (hinst : (Cond.instanceMethod y).before args s = true) (hsel : (Cond.selects C y y).before args s = true)
    (hcode : (Cond.code y bytes maxL ret).before args s = true) (hy : y.cls ≠ "java/lang/invoke/MethodHandle" ∧ y.cls ≠ "java/lang/invoke/VarHandle")
    {W9 : Nat} {Pre : Pt → Array Value → Prop} {Post : Pt → Array Value → Option Value → Pt → Prop} {PostX : Pt → Array Value → Addr → Pt → Prop} (hK : vx_Back l R p e below s args y 3 W9 Pre Post PostX)
    {b : Addr} {cellB : Cell} (hcell : T.heap[b]? = some cellB) (hobj : cellB.vm.isStatics = false) (hcls : s.vm.findClass C = some cellB.cls)
    {g : JFrame} (hg : g.method = m) (hsize : g.locals.size = c.maxLocals) {argsL rest : List Value} (hlen : ∀ sig, parseMethodDescriptor y.desc = some sig → argsL.length = sig.parameters.length)
    (hstack : g.stack = argsL.reverse ++ .ref b :: rest) (hW : 2 * g.monitorRoom + (rest.map fun v => v.category).sum ≤ W9) (hdg : decode c.code g.pc = .ok (.invokevirtual index, 3))
    (hpre : ∀ vm₁, s.WarmedH vm₁ → Pre ⟨T.setVm vm₁, locs, cells, slots⟩ (Value.ref b :: argsL).toArray) :
    (∃ (v : Option Value) (vm₁ : Vm) (B : Pt), s.WarmedH vm₁ ∧ Stand p l e R s m args below meth c B.U B.locs B.cells B.slots ∧ Post ⟨T.setVm vm₁, locs, cells, slots⟩ (Value.ref b :: argsL).toArray v B ∧
      ∀ target, Steps p.tables e below (B.U.setTop { g with pc := g.pc + 3, stack := v.toList ++ rest }) target → Steps p.tables e below (T.setTop g) target) ∨
    (∃ (q : Addr) (vm₁ : Vm) (B : Pt), s.WarmedH vm₁ ∧ Stand p l e R s m args below meth c B.U B.locs B.cells B.slots ∧ PostX ⟨T.setVm vm₁, locs, cells, slots⟩ (Value.ref b :: argsL).toArray q B ∧
      Steps p.tables e below (T.setTop g) ((B.U.setTop { g with stack := rest }).pushFrame (.throwing q))) := by
  obtain ⟨mk, methM, hnamed, hmethM, hstM, habM⟩ := Cond.instanceMethod_spec hinst
  obtain ⟨methM', cM, hmethM', -, -, -, -, -, -, hsigM⟩ := Cond.code_spec hnamed hcode
  cases hmethM.symm.trans hmethM'
  obtain ⟨c2, r2, m2, q1, q2, q3, q4, kP, hkP, hkPi⟩ := Cond.selects_spec hsel
  cases hcls.symm.trans q1
  cases (State.methodFound?_of_named hnamed hy).symm.trans q2
  cases hnamed.symm.trans q3
  have hselP : selectMethod e.platform s.vm cellB.cls mk = .method mk := by rw [Launch.admits_selectMethod X.admits]; exact q4
  obtain ⟨vm₁, X₁, hstep₁⟩ := X.invokevirtual hexec hown hlink hnamed hmethM hstM hkP hkPi hy (a := b) (cell := cellB) hcell
    (fun z h => by rw [h] at hobj; cases hobj) hselP hmethM habM hkP hkPi (g := g) hg (argsL := argsL) (rest := rest) (hlen _ hsigM) hstack hdg
  rcases hK m meth c ⟨T.setVm vm₁, locs, cells, slots⟩ { g with stack := rest } (.invokevirtual index) mk (Value.ref b :: argsL).toArray X₁ hg hsize hdg hW (X₁.named hnamed) (hpre vm₁ X₁.warmed) with ⟨v, B, X', hpost, hsteps⟩ | ⟨q, B, X', hpost, hsteps⟩
  · exact Or.inl ⟨v, vm₁, B, X₁.warmed, X', hpost, fun target h => hstep₁ _ fun acts => by rw [doInvoke_state]; exact hsteps.trans h⟩
  · exact Or.inr ⟨q, vm₁, B, X₁.warmed, X', hpost, hstep₁ _ fun acts => by rw [doInvoke_state]; exact hsteps⟩
theorem vx_callS (X : Stand p l e R s m args below meth c T locs cells slots) (hexec : p.tables.exec = Jvm.exec) {own : String} {index : Nat} {y : MethodName} {bytes : ByteArray} {maxL : Nat} {ret : Option FieldType}
    (hown : s.vm.findClass own = some m.cls) (hlink : (Cond.methodLink own index y).before args s = true) (hstat : (Cond.static y).before args s = true) (hinit : (Cond.initialized y.cls).before args s = true)
    (hcode : (Cond.code y bytes maxL ret).before args s = true) (hy : y.cls ≠ "java/lang/invoke/MethodHandle" ∧ y.cls ≠ "java/lang/invoke/VarHandle")
    {W9 : Nat} {Pre : Pt → Array Value → Prop} {Post : Pt → Array Value → Option Value → Pt → Prop} {PostX : Pt → Array Value → Addr → Pt → Prop} (hK : vx_Back l R p e below s args y 3 W9 Pre Post PostX)
    {g : JFrame} (hg : g.method = m) (hsize : g.locals.size = c.maxLocals) {argsL rest : List Value} (hlen : ∀ sig, parseMethodDescriptor y.desc = some sig → argsL.length = sig.parameters.length)
    (hstack : g.stack = argsL.reverse ++ rest) (hW : 2 * g.monitorRoom + (rest.map fun v => v.category).sum ≤ W9) (hdg : decode c.code g.pc = .ok (.invokestatic index, 3))
    (hpre : ∀ vm₁, s.WarmedH vm₁ → Pre ⟨T.setVm vm₁, locs, cells, slots⟩ argsL.toArray) :
    (∃ (v : Option Value) (vm₁ : Vm) (B : Pt), s.WarmedH vm₁ ∧ Stand p l e R s m args below meth c B.U B.locs B.cells B.slots ∧ Post ⟨T.setVm vm₁, locs, cells, slots⟩ argsL.toArray v B ∧
      ∀ target, Steps p.tables e below (B.U.setTop { g with pc := g.pc + 3, stack := v.toList ++ rest }) target → Steps p.tables e below (T.setTop g) target) ∨
    (∃ (q : Addr) (vm₁ : Vm) (B : Pt), s.WarmedH vm₁ ∧ Stand p l e R s m args below meth c B.U B.locs B.cells B.slots ∧ PostX ⟨T.setVm vm₁, locs, cells, slots⟩ argsL.toArray q B ∧
      Steps p.tables e below (T.setTop g) ((B.U.setTop { g with stack := rest }).pushFrame (.throwing q))) := by
  obtain ⟨mk, hnamed⟩ := Cond.code_named hcode
  obtain ⟨methM, cM, hmethM, -, -, -, -, -, -, hsigM⟩ := Cond.code_spec hnamed hcode
  have hstatic : methM.isStatic = true := Cond.static_spec hnamed hmethM hstat
  obtain ⟨kP, hkP, -⟩ := className_of_methodNamed hnamed
  have hinitP : kP.init = .initialized := Cond.initialized_spec (findClass_of_methodNamed hnamed) hkP hinit
  obtain ⟨vm₁, X₁, hstep₁⟩ := X.invokestatic hexec hown hlink hnamed hmethM hstatic hkP hinitP hy (g := g) hg (argsL := argsL) (rest := rest) (hlen _ hsigM) hstack hdg
  rcases hK m meth c ⟨T.setVm vm₁, locs, cells, slots⟩ { g with stack := rest } (.invokestatic index) mk argsL.toArray X₁ hg hsize hdg hW (X₁.named hnamed) (hpre vm₁ X₁.warmed) with ⟨v, B, X', hpost, hsteps⟩ | ⟨q, B, X', hpost, hsteps⟩
  · exact Or.inl ⟨v, vm₁, B, X₁.warmed, X', hpost, fun target h => hstep₁ _ fun acts => by rw [doInvoke_state]; exact hsteps.trans h⟩
  · exact Or.inr ⟨q, vm₁, B, X₁.warmed, X', hpost, hstep₁ _ fun acts => by rw [doInvoke_state]; exact hsteps⟩
end Calls
theorem vx_cls {s : State} {T : State} {vm₁ : Vm} {E : String} {k : ClassId} (hW : s.WarmedH vm₁) (h : (T.setVm vm₁).vm.findClass E = some k) : s.vm.findClass E = some k := by
  have h1 : vm₁.findClass E = some k := h
  rw [hW.alike.findClass] at h1
  exact h1
/-- the method's frame g, with q thrown over it -/
def vx_W (p : Program) (l : Launch) (e : Env) (R : Room) (s : State) (m : MethodId) (args : Array Value) (below : List Frame) (meth : Method) (c : Code) (H : Heap) (locs : List Loc) (cells slots : Nat) (Q : State → Prop) (g : JFrame) (q : Addr) : Prop :=
  ∀ T : State, T.heap = H → Stand p l e R s m args below meth c T locs cells slots → ∃ t, Steps p.tables e below ((T.setTop g).pushFrame (.throwing q)) t ∧ Q t
def vx_Run (p : Program) (l : Launch) (e : Env) (R : Room) (s : State) (m : MethodId) (args : Array Value) (below : List Frame) (meth : Method) (c : Code) (H : Heap) (locs : List Loc) (cells slots mc ms : Nat) (g : JFrame) (rest : List Value) (Qa : State → Outcome → State → Prop) (XC : String → State → State → Prop) (free : Addr → Prop) : Prop :=
  ∀ T : State, T.heap = H → Stand p l e R s m args below meth c T locs cells slots →
    (∃ (v : Option Value) (st₀ t T' : State) (L : List Loc), st₀.heap = H ∧ Stand p l e R s m args below meth c T' (locs ++ L) (cells + mc) (slots + ms) ∧ (∀ q ∈ L, free q.base) ∧ T'.heap = t.heap ∧ T'.vm = t.vm ∧ Qa st₀ (.returned v) t ∧
      Goes p e below T g T' { g with pc := g.pc + 3, stack := v.toList ++ rest }) ∨
    (∃ (q : Addr) (st₀ t T' : State) (L : List Loc) (E : String) (ce : Cell), st₀.heap = H ∧ Stand p l e R s m args below meth c T' (locs ++ L) (cells + mc) (slots + ms) ∧ (∀ z ∈ L, free z.base) ∧ T'.heap = t.heap ∧ T'.vm = t.vm ∧ XC E st₀ t ∧ t.heap[q]? = some ce ∧ ce.vm = .none ∧ s.vm.findClass E = some ce.cls ∧
      Steps p.tables e below (T.setTop g) ((T'.setTop { g with stack := rest }).pushFrame (.throwing q)))
def vx_X {S : Type} (px : S → Prop) (B : String → S → State → Prop) (A : Nat → Prop) : String → State → State → Prop := fun E st t => ∃ u : S, px u ∧ B E u t ∧ va_F A st t
section Runs
variable {p : Program} {l : Launch} {e : Env} {R : Room} {s : State} {m : MethodId} {args : Array Value} {below : List Frame} {meth : Method} {c : Code} {H : Heap} {locs : List Loc} {cells slots : Nat}
variable {y : MethodName} {bytes cc : ByteArray} {maxL nL mc ms n index : Nat} {ret : Option FieldType} {ws : List Cond} {rm : Room} {Pc : Array Value → State → Prop} {Qc : Array Value → State → Outcome → State → Prop} {XC : String → State → State → Prop} {free : Addr → Prop} {Ts : List Cond} {own C : String} {b : Addr} {As rest : List Value} {g : JFrame}
theorem vx_callBack (cb : CallB R s args own index y bytes maxL ret ws rm mc ms n) (hM : vx_Met l y ws rm Pc Qc XC mc ms free) (hbl : FrameBlind Pc) : vx_Back l R p e below s args y 3 8 (PreOf R mc ms Pc) (PostOf Qc mc ms free) (vx_Post XC mc ms free) := by
  obtain ⟨hrc, hrs, hfr, hlo, hws, hcw, -, hini, -⟩ := cb
  exact vx_back (bytes := bytes) (maxL := maxL) (ret := ret) hM hbl hrc hrs hfr hlo hws hcw (fun a' U hW => word_at hW (Or.inl (by first | rfl | simp [Cond.onTables, Cond.keeps, Cond.steady])) hini)
theorem vx_runV (S : CallFix p m c cc nL s args Ts own) (hM : vx_Met l y ws rm Pc Qc XC mc ms free) (cw : CallW R s args own C index y bytes maxL ret ws rm mc ms n) (hp : PreV s H C b Pc As)
    (hg : g.method = m) (hn : As.length = n) (hsize : g.locals.size = nL) (hstack : g.stack = As.reverse ++ .ref b :: rest) (hW : 2 * g.monitorRoom + (rest.map fun v => v.category).sum ≤ 8) (hdg : decode cc g.pc = .ok (.invokevirtual index, 3)) (hf : cells + mc ≤ R.cells ∧ slots + ms ≤ R.slots) :
    vx_Run p l e R s m args below meth c H locs cells slots mc ms g rest (Qc (Value.ref b :: As).toArray) XC free := by
  have hK : vx_Back l R p e below s args y 3 8 (PreOf R mc ms Pc) (PostOf Qc mc ms free) (vx_Post XC mc ms free) := vx_callBack cw.1 hM hp.1
  obtain ⟨⟨-, -, -, -, -, -, hcode, -, hy, hlen, hl⟩, hin, hse⟩ := cw
  obtain ⟨hx, hb, hml, ho, -⟩ := S
  obtain ⟨-, ⟨cellB, hcB, hoB, hclB⟩, hPc⟩ := hp
  intro T hT X
  rcases vx_callV X hx (C := C) (bytes := bytes) (maxL := maxL) (ret := ret) ho hl hin hse hcode hy hK (by rw [hT]; exact hcB) hoB hclB hg (hsize.trans hml.symm) (argsL := As) (rest := rest) (fun sig h => hn.trans (hlen sig h)) hstack hW (by rw [hb]; exact hdg)
    (fun vm₁ hW₁ => ⟨hf.1, hf.2, hPc (T.setVm vm₁) hT hW₁⟩) with ⟨v, vm₁, ⟨U', l2, c2, s2⟩, hW₁, X', ⟨g', mk, t, L, e1, e2, hq, h1, hL, h2, h3⟩, st⟩ | ⟨q, vm₁, ⟨U', l2, c2, s2⟩, hW₁, X', ⟨g', mk, t, L, E, ce, e1, e2, hq, hce, hcv, hcl, h1, hL, h2, h3⟩, st⟩
  · dsimp only [Pt.U, Pt.locs, Pt.cells, Pt.slots] at X' e1 e2 h1 h2 h3 st
    subst h1; subst h2; subst h3
    exact Or.inl ⟨v, (T.setVm vm₁).calling g' mk (Value.ref b :: As).toArray, t, U', L, hT, X', hL, e1, e2, hq, st⟩
  · dsimp only [Pt.U, Pt.locs, Pt.cells, Pt.slots] at X' e1 e2 h1 h2 h3 st hcl
    subst h1; subst h2; subst h3
    exact Or.inr ⟨q, (T.setVm vm₁).calling g' mk (Value.ref b :: As).toArray, t, U', L, E, ce, hT, X', hL, e1, e2, hq, hce, hcv, vx_cls hW₁ hcl, st⟩
theorem vx_runS (S : CallFix p m c cc nL s args Ts own) (hM : vx_Met l y ws rm Pc Qc XC mc ms free) (cw : CallB R s args own index y bytes maxL ret ws rm mc ms n ∧ (Cond.static y).before args s = true) (hp : PreS s H Pc As)
    (hg : g.method = m) (hn : As.length = n) (hsize : g.locals.size = nL) (hstack : g.stack = As.reverse ++ rest) (hW : 2 * g.monitorRoom + (rest.map fun v => v.category).sum ≤ 8) (hdg : decode cc g.pc = .ok (.invokestatic index, 3)) (hf : cells + mc ≤ R.cells ∧ slots + ms ≤ R.slots) :
    vx_Run p l e R s m args below meth c H locs cells slots mc ms g rest (Qc As.toArray) XC free := by
  have hK : vx_Back l R p e below s args y 3 8 (PreOf R mc ms Pc) (PostOf Qc mc ms free) (vx_Post XC mc ms free) := vx_callBack cw.1 hM hp.1
  obtain ⟨⟨-, -, -, -, -, -, hcode, hini, hy, hlen, hl⟩, hstt⟩ := cw
  obtain ⟨hx, hb, hml, ho, -⟩ := S
  intro T hT X
  rcases vx_callS X hx (bytes := bytes) (maxL := maxL) (ret := ret) ho hl hstt hini hcode hy hK hg (hsize.trans hml.symm) (argsL := As) (rest := rest) (fun sig h => hn.trans (hlen sig h)) hstack hW (by rw [hb]; exact hdg)
    (fun vm₁ hW₁ => ⟨hf.1, hf.2, hp.2 (T.setVm vm₁) hT hW₁⟩) with ⟨v, vm₁, ⟨U', l2, c2, s2⟩, hW₁, X', ⟨g', mk, t, L, e1, e2, hq, h1, hL, h2, h3⟩, st⟩ | ⟨q, vm₁, ⟨U', l2, c2, s2⟩, hW₁, X', ⟨g', mk, t, L, E, ce, e1, e2, hq, hce, hcv, hcl, h1, hL, h2, h3⟩, st⟩
  · dsimp only [Pt.U, Pt.locs, Pt.cells, Pt.slots] at X' e1 e2 h1 h2 h3 st
    subst h1; subst h2; subst h3
    exact Or.inl ⟨v, (T.setVm vm₁).calling g' mk As.toArray, t, U', L, hT, X', hL, e1, e2, hq, st⟩
  · dsimp only [Pt.U, Pt.locs, Pt.cells, Pt.slots] at X' e1 e2 h1 h2 h3 st hcl
    subst h1; subst h2; subst h3
    exact Or.inr ⟨q, (T.setVm vm₁).calling g' mk As.toArray, t, U', L, E, ce, hT, X', hL, e1, e2, hq, hce, hcv, vx_cls hW₁ hcl, st⟩
end Runs
section Rows
variable {p : Program} {l : Launch} {e : Env} {R : Room} {s : State} {m : MethodId} {args : Array Value} {below : List Frame} {meth : Method} {c : Code} {H : Heap} {locs : List Loc} {cells slots : Nat} {Q : State → Prop}
variable {mc ms : Nat} {free : Addr → Prop} {A0 A1 : Nat → Prop} {H0 : Heap} {a : Array Value} {pc : Nat} {ls : Array Slot} {st0 rest : List Value}
theorem vx_keep {st₀ t T' : State} {L : List Loc} (h0 : st₀.heap = H) (e1 : T'.heap = t.heap) (hS : va_S A0 H0 H locs) (hA : ∀ q, q < H.size → A1 q → A0 q) (hf : ∀ q, free q → A0 q) (hL : ∀ q ∈ L, free q.base) (hF : va_F A1 st₀ t) :
    H.size ≤ T'.heap.size ∧ (∀ q : Nat, q < H.size → ¬ A1 q → T'.heap[q]? = H[q]?) ∧ va_S A0 H0 T'.heap (locs ++ L) := by
  obtain ⟨hz, hk⟩ := hF
  rw [h0] at hz hk
  exact ⟨by rw [e1]; exact hz, fun q h1 h2 => by rw [e1]; exact hk q h1 h2,
    ⟨Nat.le_trans hS.1 (by rw [e1]; exact hz), fun q h1 h2 => by rw [e1, hk q (Nat.lt_of_lt_of_le h1 hS.1) (fun z => h2 (hA q (Nat.lt_of_lt_of_le h1 hS.1) z))]; exact hS.2.1 q h1 h2, fun q hq => by
      rcases List.mem_append.mp hq with h | h
      · exact hS.2.2 q h
      · exact hf _ (hL q h)⟩⟩
theorem vx_calli {S SX : Type} {post : Int32 → S → Prop} {px : SX → Prop} {B : S → State → Prop} {BX : String → SX → State → Prop} {AX : Nat → Prop} (hr : vx_Run p l e R s m args below meth c H locs cells slots mc ms (F0 m pc ls st0) rest (va_Qi post B A1 a) (vx_X px BX AX) free) (hS : va_S A0 H0 H locs) (hA : ∀ q, q < H.size → A1 q → A0 q) (hf : ∀ q, free q → A0 q) (hAX : ∀ q, q < H.size → AX q → A0 q)
    (kx : ∀ (E : String) (ce : Cell) (q9 : Addr) (u : SX) (t : State) (H1 : Heap) (locs1 : List Loc), t.heap = H1 → s.vm.Alike t.vm → px u → BX E u t → H.size ≤ H1.size → (∀ q : Nat, q < H.size → ¬ AX q → H1[q]? = H[q]?) → va_S A0 H0 H1 locs1 → H1[q9]? = some ce → ce.vm = .none → s.vm.findClass E = some ce.cls → vx_W p l e R s m args below meth c H1 locs1 (cells + mc) (slots + ms) Q (F0 m pc ls rest) q9)
    (kk : ∀ (r : Int32) (u : S) (t : State) (H1 : Heap) (locs1 : List Loc), t.heap = H1 → s.vm.Alike t.vm → post r u → B u t → H.size ≤ H1.size → (∀ q : Nat, q < H.size → ¬ A1 q → H1[q]? = H[q]?) → va_S A0 H0 H1 locs1 → W p l e R s m args below meth c H1 locs1 (cells + mc) (slots + ms) Q (F0 m (pc + 3) ls (.int r :: rest))) : W p l e R s m args below meth c H locs cells slots Q (F0 m pc ls st0) := by
  intro T hT X
  rcases hr T hT X with ⟨v, st₀, t, T', L, h0, X', hL, e1, e2, ⟨⟨r, u, hv, hp, hb⟩, hF⟩, st⟩ | ⟨q, st₀, t, T', L, E, ce, h0, X', hL, e1, e2, ⟨u, hp, hb, hF⟩, hce, hcv, hcl, st⟩
  · cases hv
    obtain ⟨k1, k2, k3⟩ := vx_keep h0 e1 hS hA hf hL hF
    obtain ⟨t2, a1, b1⟩ := kk r u t T'.heap (locs ++ L) e1.symm (by rw [← e2]; exact X'.warmed.alike) hp hb k1 k2 k3 T' rfl X'
    exact ⟨t2, st t2 a1, b1⟩
  · obtain ⟨k1, k2, k3⟩ := vx_keep h0 e1 hS hAX hf hL hF
    obtain ⟨t2, a1, b1⟩ := kx E ce q u t T'.heap (locs ++ L) e1.symm (by rw [← e2]; exact X'.warmed.alike) hp hb k1 k2 k3 (by rw [e1]; exact hce) hcv hcl T' rfl X'
    exact ⟨t2, st.trans a1, b1⟩
theorem vx_calll {S SX : Type} {post : Int64 → S → Prop} {px : SX → Prop} {B : S → State → Prop} {BX : String → SX → State → Prop} {AX : Nat → Prop} (hr : vx_Run p l e R s m args below meth c H locs cells slots mc ms (F0 m pc ls st0) rest (va_Ql post B A1 a) (vx_X px BX AX) free) (hS : va_S A0 H0 H locs) (hA : ∀ q, q < H.size → A1 q → A0 q) (hf : ∀ q, free q → A0 q) (hAX : ∀ q, q < H.size → AX q → A0 q)
    (kx : ∀ (E : String) (ce : Cell) (q9 : Addr) (u : SX) (t : State) (H1 : Heap) (locs1 : List Loc), t.heap = H1 → s.vm.Alike t.vm → px u → BX E u t → H.size ≤ H1.size → (∀ q : Nat, q < H.size → ¬ AX q → H1[q]? = H[q]?) → va_S A0 H0 H1 locs1 → H1[q9]? = some ce → ce.vm = .none → s.vm.findClass E = some ce.cls → vx_W p l e R s m args below meth c H1 locs1 (cells + mc) (slots + ms) Q (F0 m pc ls rest) q9)
    (kk : ∀ (r : Int64) (u : S) (t : State) (H1 : Heap) (locs1 : List Loc), t.heap = H1 → s.vm.Alike t.vm → post r u → B u t → H.size ≤ H1.size → (∀ q : Nat, q < H.size → ¬ A1 q → H1[q]? = H[q]?) → va_S A0 H0 H1 locs1 → W p l e R s m args below meth c H1 locs1 (cells + mc) (slots + ms) Q (F0 m (pc + 3) ls (.long r :: rest))) : W p l e R s m args below meth c H locs cells slots Q (F0 m pc ls st0) := by
  intro T hT X
  rcases hr T hT X with ⟨v, st₀, t, T', L, h0, X', hL, e1, e2, ⟨⟨r, u, hv, hp, hb⟩, hF⟩, st⟩ | ⟨q, st₀, t, T', L, E, ce, h0, X', hL, e1, e2, ⟨u, hp, hb, hF⟩, hce, hcv, hcl, st⟩
  · cases hv
    obtain ⟨k1, k2, k3⟩ := vx_keep h0 e1 hS hA hf hL hF
    obtain ⟨t2, a1, b1⟩ := kk r u t T'.heap (locs ++ L) e1.symm (by rw [← e2]; exact X'.warmed.alike) hp hb k1 k2 k3 T' rfl X'
    exact ⟨t2, st t2 a1, b1⟩
  · obtain ⟨k1, k2, k3⟩ := vx_keep h0 e1 hS hAX hf hL hF
    obtain ⟨t2, a1, b1⟩ := kx E ce q u t T'.heap (locs ++ L) e1.symm (by rw [← e2]; exact X'.warmed.alike) hp hb k1 k2 k3 (by rw [e1]; exact hce) hcv hcl T' rfl X'
    exact ⟨t2, st.trans a1, b1⟩
theorem vx_callf {S SX : Type} {post : UInt32 → S → Prop} {px : SX → Prop} {B : S → State → Prop} {BX : String → SX → State → Prop} {AX : Nat → Prop} (hr : vx_Run p l e R s m args below meth c H locs cells slots mc ms (F0 m pc ls st0) rest (va_Qf post B A1 a) (vx_X px BX AX) free) (hS : va_S A0 H0 H locs) (hA : ∀ q, q < H.size → A1 q → A0 q) (hf : ∀ q, free q → A0 q) (hAX : ∀ q, q < H.size → AX q → A0 q)
    (kx : ∀ (E : String) (ce : Cell) (q9 : Addr) (u : SX) (t : State) (H1 : Heap) (locs1 : List Loc), t.heap = H1 → s.vm.Alike t.vm → px u → BX E u t → H.size ≤ H1.size → (∀ q : Nat, q < H.size → ¬ AX q → H1[q]? = H[q]?) → va_S A0 H0 H1 locs1 → H1[q9]? = some ce → ce.vm = .none → s.vm.findClass E = some ce.cls → vx_W p l e R s m args below meth c H1 locs1 (cells + mc) (slots + ms) Q (F0 m pc ls rest) q9)
    (kk : ∀ (r : UInt32) (u : S) (t : State) (H1 : Heap) (locs1 : List Loc), t.heap = H1 → s.vm.Alike t.vm → post r u → B u t → H.size ≤ H1.size → (∀ q : Nat, q < H.size → ¬ A1 q → H1[q]? = H[q]?) → va_S A0 H0 H1 locs1 → W p l e R s m args below meth c H1 locs1 (cells + mc) (slots + ms) Q (F0 m (pc + 3) ls (.float r :: rest))) : W p l e R s m args below meth c H locs cells slots Q (F0 m pc ls st0) := by
  intro T hT X
  rcases hr T hT X with ⟨v, st₀, t, T', L, h0, X', hL, e1, e2, ⟨⟨r, u, hv, hp, hb⟩, hF⟩, st⟩ | ⟨q, st₀, t, T', L, E, ce, h0, X', hL, e1, e2, ⟨u, hp, hb, hF⟩, hce, hcv, hcl, st⟩
  · cases hv
    obtain ⟨k1, k2, k3⟩ := vx_keep h0 e1 hS hA hf hL hF
    obtain ⟨t2, a1, b1⟩ := kk r u t T'.heap (locs ++ L) e1.symm (by rw [← e2]; exact X'.warmed.alike) hp hb k1 k2 k3 T' rfl X'
    exact ⟨t2, st t2 a1, b1⟩
  · obtain ⟨k1, k2, k3⟩ := vx_keep h0 e1 hS hAX hf hL hF
    obtain ⟨t2, a1, b1⟩ := kx E ce q u t T'.heap (locs ++ L) e1.symm (by rw [← e2]; exact X'.warmed.alike) hp hb k1 k2 k3 (by rw [e1]; exact hce) hcv hcl T' rfl X'
    exact ⟨t2, st.trans a1, b1⟩
theorem vx_calld {S SX : Type} {post : UInt64 → S → Prop} {px : SX → Prop} {B : S → State → Prop} {BX : String → SX → State → Prop} {AX : Nat → Prop} (hr : vx_Run p l e R s m args below meth c H locs cells slots mc ms (F0 m pc ls st0) rest (va_Qd post B A1 a) (vx_X px BX AX) free) (hS : va_S A0 H0 H locs) (hA : ∀ q, q < H.size → A1 q → A0 q) (hf : ∀ q, free q → A0 q) (hAX : ∀ q, q < H.size → AX q → A0 q)
    (kx : ∀ (E : String) (ce : Cell) (q9 : Addr) (u : SX) (t : State) (H1 : Heap) (locs1 : List Loc), t.heap = H1 → s.vm.Alike t.vm → px u → BX E u t → H.size ≤ H1.size → (∀ q : Nat, q < H.size → ¬ AX q → H1[q]? = H[q]?) → va_S A0 H0 H1 locs1 → H1[q9]? = some ce → ce.vm = .none → s.vm.findClass E = some ce.cls → vx_W p l e R s m args below meth c H1 locs1 (cells + mc) (slots + ms) Q (F0 m pc ls rest) q9)
    (kk : ∀ (r : UInt64) (u : S) (t : State) (H1 : Heap) (locs1 : List Loc), t.heap = H1 → s.vm.Alike t.vm → post r u → B u t → H.size ≤ H1.size → (∀ q : Nat, q < H.size → ¬ A1 q → H1[q]? = H[q]?) → va_S A0 H0 H1 locs1 → W p l e R s m args below meth c H1 locs1 (cells + mc) (slots + ms) Q (F0 m (pc + 3) ls (.double r :: rest))) : W p l e R s m args below meth c H locs cells slots Q (F0 m pc ls st0) := by
  intro T hT X
  rcases hr T hT X with ⟨v, st₀, t, T', L, h0, X', hL, e1, e2, ⟨⟨r, u, hv, hp, hb⟩, hF⟩, st⟩ | ⟨q, st₀, t, T', L, E, ce, h0, X', hL, e1, e2, ⟨u, hp, hb, hF⟩, hce, hcv, hcl, st⟩
  · cases hv
    obtain ⟨k1, k2, k3⟩ := vx_keep h0 e1 hS hA hf hL hF
    obtain ⟨t2, a1, b1⟩ := kk r u t T'.heap (locs ++ L) e1.symm (by rw [← e2]; exact X'.warmed.alike) hp hb k1 k2 k3 T' rfl X'
    exact ⟨t2, st t2 a1, b1⟩
  · obtain ⟨k1, k2, k3⟩ := vx_keep h0 e1 hS hAX hf hL hF
    obtain ⟨t2, a1, b1⟩ := kx E ce q u t T'.heap (locs ++ L) e1.symm (by rw [← e2]; exact X'.warmed.alike) hp hb k1 k2 k3 (by rw [e1]; exact hce) hcv hcl T' rfl X'
    exact ⟨t2, st.trans a1, b1⟩
theorem vx_callv {S SX : Type} {post : S → Prop} {px : SX → Prop} {B : S → State → Prop} {BX : String → SX → State → Prop} {AX : Nat → Prop} (hr : vx_Run p l e R s m args below meth c H locs cells slots mc ms (F0 m pc ls st0) rest (va_Qv post B A1 a) (vx_X px BX AX) free) (hS : va_S A0 H0 H locs) (hA : ∀ q, q < H.size → A1 q → A0 q) (hf : ∀ q, free q → A0 q) (hAX : ∀ q, q < H.size → AX q → A0 q)
    (kx : ∀ (E : String) (ce : Cell) (q9 : Addr) (u : SX) (t : State) (H1 : Heap) (locs1 : List Loc), t.heap = H1 → s.vm.Alike t.vm → px u → BX E u t → H.size ≤ H1.size → (∀ q : Nat, q < H.size → ¬ AX q → H1[q]? = H[q]?) → va_S A0 H0 H1 locs1 → H1[q9]? = some ce → ce.vm = .none → s.vm.findClass E = some ce.cls → vx_W p l e R s m args below meth c H1 locs1 (cells + mc) (slots + ms) Q (F0 m pc ls rest) q9)
    (kk : ∀ (u : S) (t : State) (H1 : Heap) (locs1 : List Loc), t.heap = H1 → s.vm.Alike t.vm → post u → B u t → H.size ≤ H1.size → (∀ q : Nat, q < H.size → ¬ A1 q → H1[q]? = H[q]?) → va_S A0 H0 H1 locs1 → W p l e R s m args below meth c H1 locs1 (cells + mc) (slots + ms) Q (F0 m (pc + 3) ls (rest))) : W p l e R s m args below meth c H locs cells slots Q (F0 m pc ls st0) := by
  intro T hT X
  rcases hr T hT X with ⟨v, st₀, t, T', L, h0, X', hL, e1, e2, ⟨⟨u, hv, hp, hb⟩, hF⟩, st⟩ | ⟨q, st₀, t, T', L, E, ce, h0, X', hL, e1, e2, ⟨u, hp, hb, hF⟩, hce, hcv, hcl, st⟩
  · cases hv
    obtain ⟨k1, k2, k3⟩ := vx_keep h0 e1 hS hA hf hL hF
    obtain ⟨t2, a1, b1⟩ := kk u t T'.heap (locs ++ L) e1.symm (by rw [← e2]; exact X'.warmed.alike) hp hb k1 k2 k3 T' rfl X'
    exact ⟨t2, st t2 a1, b1⟩
  · obtain ⟨k1, k2, k3⟩ := vx_keep h0 e1 hS hAX hf hL hF
    obtain ⟨t2, a1, b1⟩ := kx E ce q u t T'.heap (locs ++ L) e1.symm (by rw [← e2]; exact X'.warmed.alike) hp hb k1 k2 k3 (by rw [e1]; exact hce) hcv hcl T' rfl X'
    exact ⟨t2, st.trans a1, b1⟩
/-- caught by the row x of this method's table; the rows ahead don't take it -/
theorem vx_catch {own name : String} {E : String} {ce : Cell} {q : Addr} (hown : s.vm.findClass own = some m.cls) (pre : List ExceptionTableEntry) (x : ExceptionTableEntry) (suf : List ExceptionTableEntry) (hsplit : c.exceptionTable.toList = pre ++ x :: suf)
    (hpass : ∀ z ∈ pre, covers z pc = false ∨ (z.catchType ≠ 0 ∧ ∃ nm : String, (Cond.classLink own z.catchType nm).before args s = true ∧ va_Nc E nm s)) (hx : covers x pc = true) (h0 : x.catchType ≠ 0)
    (hlink : (Cond.classLink own x.catchType name).before args s = true) (hcast : (Cond.castable E name).before args s = true) (hcell : H[q]? = some ce) (hv : ce.vm = .none) (hcl : s.vm.findClass E = some ce.cls)
    (kk : W p l e R s m args below meth c H locs cells slots Q (F0 m x.handlerPc ls [.ref q])) : vx_W p l e R s m args below meth c H locs cells slots Q (F0 m pc ls rest) q := by
  intro T hT X
  have hpl : e.platform.magicAccessors = ({} : Platform).magicAccessors := by rw [X.admits.platform]
  obtain ⟨c3, c4, hc3, hc4, hasg⟩ := Cond.castable_spec hcast
  cases Option.some.inj (hc3.symm.trans hcl)
  obtain ⟨c5, hc5, hcl5⟩ := Cond.classLink_spec hown hlink e.platform hpl
  cases Option.some.inj (hc4.symm.trans hc5)
  obtain ⟨vm', X', st⟩ := X.thenCaughtThrough q (g := F0 m pc ls rest) rfl (Steps.refl _) (by rw [hT]; exact hcell) (by rw [hv]; rfl) (by obtain ⟨k9, h9, -⟩ := Vm.findClass_spec hcl; exact ⟨k9, h9⟩) pre x suf hsplit
    (fun z hz => by
      rcases hpass z hz with h | ⟨hz0, nm, hl1, hn1⟩
      · exact Or.inl h
      · obtain ⟨c6, hc6, hcl6⟩ := Cond.classLink_spec hown hl1 e.platform hpl
        obtain ⟨a8, b8, h1, h2, h3⟩ := hn1
        cases Option.some.inj (h1.symm.trans hcl)
        cases Option.some.inj (h2.symm.trans hc6)
        exact Or.inr ⟨hz0, _, hcl6, h3⟩) hx (Or.inr ⟨h0, c4, hcl5, hasg⟩)
  obtain ⟨t, a1, b1⟩ := kk (T.setVm vm') hT X'
  exact ⟨t, st.trans a1, b1⟩
end Rows
section Ends
variable {p : Program} {l : Launch} {e : Env} {R : Room} {s : State} {m : MethodId} {args : Array Value} {below : List Frame} {meth : Method} {c : Code} {H : Heap} {locs : List Loc} {cells slots : Nat} {Q : State → Prop}
variable {mc ms : Nat} {free : Addr → Prop} {A0 A1 : Nat → Prop} {H0 : Heap} {a : Array Value} {ls : Array Slot} {st0 rest : List Value}
variable {Qc : Array Value → State → Outcome → State → Prop} {XC : String → State → State → Prop}
/-- what a body that may throw owes at its end -/
def vx_MQ (below : List Frame) (Qc : Array Value → State → Outcome → State → Prop) (XC : String → State → State → Prop) (a : Array Value) (s : State) (mc ms : Nat) (free : Addr → Prop) : State → Prop := fun t =>
  ∃ o, t.status = .running ∧ Ended t below o ∧ vx_Q Qc XC mc ms free a s o t
theorem vx_ret {g : JFrame} {mc ms : Nat} (k : W p l e R s m args below meth c H locs cells slots (MQ below Qc args s mc ms free) g) : W p l e R s m args below meth c H locs cells slots (vx_MQ below Qc XC args s mc ms free) g := by
  intro T hT X
  obtain ⟨t, a1, o, b1, b2, b3, b4⟩ := k T hT X
  exact ⟨t, a1, o, b1, b2, Or.inl ⟨b3, b4⟩⟩
/-- not caught here: it goes on to the caller -/
theorem vx_widen {g : JFrame} {q : Addr} {k n : Nat} (h1 : cells ≤ k) (h2 : slots ≤ n) (kk : vx_W p l e R s m args below meth c H locs k n Q g q) : vx_W p l e R s m args below meth c H locs cells slots Q g q := fun T hT X => kk T hT (stand_widen X h1 h2)
theorem vx_out {pc : Nat} {E : String} {ce : Cell} {q : Addr} {mc ms : Nat} (hout : ∀ x ∈ c.exceptionTable.toList, covers x pc = false) (hlocks : meth.locks = false) (hcell : H[q]? = some ce) (hv : ce.vm = .none) (hcl : s.vm.findClass E = some ce.cls)
    (hx : ∀ t : State, t.heap = H → s.vm.Alike t.vm → XC E s t) (hf : ∀ z ∈ locs, free z.base) (hc : cells ≤ mc) (hs : slots ≤ ms) :
    vx_W p l e R s m args below meth c H locs cells slots (vx_MQ below Qc XC args s mc ms free) (F0 m pc ls rest) q := by
  intro T hT X
  obtain ⟨st1, hrun, hend, hW, hsm⟩ := X.leaveThrown q (g := F0 m pc ls rest) rfl rfl rfl hout hlocks
  have hcell9 : (T.setFrames (.throwing q :: below)).heap[q]? = some ce := by
    show T.heap[q]? = some ce
    rw [hT]; exact hcell
  exact ⟨_, st1, .threw q, hrun, hend, Or.inr ⟨q, rfl, E, ce, locs, hx _ hT hW.alike, hcell9, hv, hcl, hW, hsm.mono hc hs, hf⟩⟩
theorem vx_frame {U : State} {k n : Nat} (h : s.sameButNew ({ U with vm := s.vm } : State) locs k n) : s.heap.size ≤ U.heap.size ∧ ∀ q : Nat, q < s.heap.size → (∀ z ∈ locs, z.base ≠ q) → U.heap[q]? = s.heap[q]? := by
  obtain ⟨-, h2, -, -, -, h6⟩ := h
  refine ⟨h2, fun q hq hz => ?_⟩
  obtain ⟨c9, e1, e2, e3, e4⟩ := h6 q _ (Array.getElem?_eq_getElem hq)
  have hs : c9.slots = (s.heap[q]).slots := Array.ext_getElem? fun i => e4 i fun hm => hz _ hm rfl
  have h9 : c9 = s.heap[q] := by
    rw [hs] at e2
    exact e2
  have e5 : U.heap[q]? = some c9 := e1
  rw [e5, h9, Array.getElem?_eq_getElem hq]
/-- the words of a throw but the four that speak of the heap -/
def vx_no (w : Cond) : Bool := decide (w ≠ .isRef (.static Bundle.tN "UNASSIGNED_STACK" Bundle.steD)) && decide (w ≠ .isRef (.static Bundle.tN "SUPPRESSED_SENTINEL" Bundle.listD)) && decide (w ≠ .laysStatic Bundle.tN "UNASSIGNED_STACK" Bundle.steD) && decide (w ≠ .laysStatic Bundle.tN "SUPPRESSED_SENTINEL" Bundle.listD)
def vx_at0 (own : String) (ic : Nat) (X : String) (names : List String) : List Cond := (Bundle.ownAtoms0 own ic X names).filter vx_no
def vx_atS (own : String) (ic : Nat) (X : String) (names : List String) : List Cond := (Bundle.ownAtoms own ic X names).filter vx_no
/-- a word that the tables alone decide, or a good one -/
def vx_ot (w : Cond) : Bool := w.onTables || goodWord w
theorem vx_ot_at {args a' : Array Value} {s U : State} {w : Cond} (hW : s.WarmedH U.vm) (hvm : s.vm = U.vm) (hg : vx_ot w = true) (h : w.before args s = true) : w.before a' U = true := by
  simp only [vx_ot, Bool.or_eq_true] at hg
  rcases hg with hg | hg
  · exact va_tabs hg hvm h
  · exact word_at hW (good_of_word hg) h
/-- a list's words: the good ones out of the method's own list, the others by premises of their own -/
theorem vx_hat {args : Array Value} {s : State} {L B : List Cond} (h1 : ∀ w ∈ L.filter goodWord, w.before args s = true) (h2 : ∀ w ∈ L.filter (fun w => !goodWord w), w ∈ B) (h3 : ∀ w ∈ B, w.before args s = true) : ∀ w ∈ L, w.before args s = true := by
  intro w hw
  by_cases g : goodWord w = true
  · exact h1 w (List.mem_filter.mpr ⟨hw, g⟩)
  · refine h3 w (h2 w (List.mem_filter.mpr ⟨hw, ?_⟩))
    show (!goodWord w) = true
    cases hgw : goodWord w
    · rfl
    · exact absurd hgw g
theorem vx_c {args : Array Value} {s : State} {w : Cond} {B : List Cond} (h : w.before args s = true) (t : ∀ w ∈ B, w.before args s = true) : ∀ w' ∈ w :: B, w'.before args s = true := fun w' h' => (List.mem_cons.mp h').elim (fun e => by rw [e]; exact h) (t w')
theorem vx_n {args : Array Value} {s : State} : ∀ w ∈ ([] : List Cond), w.before args s = true := fun _ h => nomatch h
theorem vx_own {args : Array Value} {s : State} {L : List Cond} (h1 : ∀ w ∈ L.filter vx_no, w.before args s = true)
    (hU : (Cond.isRef (.static Bundle.tN "UNASSIGNED_STACK" Bundle.steD)).before args s = true) (hN : (Cond.isRef (.static Bundle.tN "SUPPRESSED_SENTINEL" Bundle.listD)).before args s = true)
    (lU : (Cond.laysStatic Bundle.tN "UNASSIGNED_STACK" Bundle.steD).before args s = true) (lN : (Cond.laysStatic Bundle.tN "SUPPRESSED_SENTINEL" Bundle.listD).before args s = true) : ∀ w ∈ L, w.before args s = true := by
  intro w hw
  by_cases e1 : w = .isRef (.static Bundle.tN "UNASSIGNED_STACK" Bundle.steD)
  · rw [e1]; exact hU
  · by_cases e2 : w = .isRef (.static Bundle.tN "SUPPRESSED_SENTINEL" Bundle.listD)
    · rw [e2]; exact hN
    · by_cases e3 : w = .laysStatic Bundle.tN "UNASSIGNED_STACK" Bundle.steD
      · rw [e3]; exact lU
      · by_cases e4 : w = .laysStatic Bundle.tN "SUPPRESSED_SENTINEL" Bundle.listD
        · rw [e4]; exact lN
        · exact h1 w (List.mem_filter.mpr ⟨hw, by unfold vx_no; rw [decide_eq_true e1, decide_eq_true e2, decide_eq_true e3, decide_eq_true e4]; rfl⟩)
/-- where a static field lies, its class's statics cell in H -/
def vx_L (C n d : String) (A : Nat → Prop) (U : State) (H : Heap) : Prop := ∃ (c : ClassId) (k : Class) (i : Nat) (f : Field) (a : Nat) (cell : Cell), U.vm.findClass C = some c ∧ U.fieldFound? C n d = some (c, k, i, f) ∧ f.isStatic = true ∧ k.statics = some a ∧ H[a]? = some cell ∧ cell.vm.isStatics = true ∧ cell.cls = c ∧ f.slot < cell.slots.size ∧ k.staticTypes[f.slot]? = some f.type ∧ ¬ A a
theorem vx_L.moved {C n d : String} {A : Nat → Prop} {u U : State} {H : Heap} (hvm : u.vm.Alike U.vm) (h : vx_L C n d A u H) : vx_L C n d A U H := by
  obtain ⟨c, k, i, f, a, cell, h1, h2, h3, h4, h5, h6, h7, h8, h9, h10⟩ := h
  obtain ⟨k', hi', he⟩ := State.fieldFound?_setVm hvm h2
  exact ⟨c, k', i, f, a, cell, by rw [hvm.findClass]; exact h1, hi', h3, by rw [he]; exact h4, h5, h6, h7, h8, by rw [he]; exact h9, h10⟩
theorem vx_L.kept {C n d : String} {A : Nat → Prop} {U : State} {H H1 : Heap} (h : vx_L C n d A U H) (hq : ∀ a : Nat, a < H.size → ¬ A a → H1[a]? = H[a]?) : vx_L C n d A U H1 := by
  obtain ⟨c, k, i, f, a, cell, h1, h2, h3, h4, h5, h6, h7, h8, h9, h10⟩ := h
  exact ⟨c, k, i, f, a, cell, h1, h2, h3, h4, by rw [hq a (Array.getElem?_eq_some_iff.mp h5).1 h10]; exact h5, h6, h7, h8, h9, h10⟩
theorem vx_L.narrow {C n d : String} {A B : Nat → Prop} {U : State} {H : Heap} (h : vx_L C n d A U H) (hAB : ∀ q, B q → A q) : vx_L C n d B U H := by
  obtain ⟨c, k, i, f, a, cell, h1, h2, h3, h4, h5, h6, h7, h8, h9, h10⟩ := h
  exact ⟨c, k, i, f, a, cell, h1, h2, h3, h4, h5, h6, h7, h8, h9, fun z => h10 (hAB _ z)⟩
theorem vx_L.word {C n d : String} {A : Nat → Prop} {s : State} {args : Array Value} (h : vx_L C n d A s s.heap) : (Cond.laysStatic C n d).before args s = true := by
  obtain ⟨c, k, i, f, a, cell, h1, h2, h3, h4, h5, h6, h7, h8, h9, -⟩ := h
  show (Cond.laysStatic C n d).holds args s none s [] = true
  exact Cond.laysStatic_of h1 h2 h3 h4 h5 h6 h7 h8 h9
/-- .. and what it holds: null or some reference -/
def vx_Zq (C n d : String) (A : Nat → Prop) (U : State) (H : Heap) : Prop := va_Zq C n d A U H ∧ vx_L C n d A U H
theorem vx_Zq.moved {C n d : String} {A : Nat → Prop} {u U : State} {H : Heap} (hvm : u.vm.Alike U.vm) (h : vx_Zq C n d A u H) : vx_Zq C n d A U H := ⟨va_Zq.moved hvm h.1, vx_L.moved hvm h.2⟩
theorem vx_Zq.kept {C n d : String} {A : Nat → Prop} {U : State} {H H1 : Heap} (h : vx_Zq C n d A U H) (hq : ∀ a : Nat, a < H.size → ¬ A a → H1[a]? = H[a]?) : vx_Zq C n d A U H1 := ⟨va_Zq.kept h.1 hq, vx_L.kept h.2 hq⟩
theorem vx_Zq.narrow {C n d : String} {A B : Nat → Prop} {U : State} {H : Heap} (h : vx_Zq C n d A U H) (hAB : ∀ q, B q → A q) : vx_Zq C n d B U H := ⟨va_Zq.narrow h.1 hAB, vx_L.narrow h.2 hAB⟩
theorem vx_Zqof {args : Array Value} {s : State} {C n d : String} {A : Nat → Prop} (hl : (Cond.laysStatic C n d).before args s = true) (hini : (Cond.initialized C).before args s = true) (h : (Cond.isRef (.static C n d)).before args s = true) (hA : ∀ a : Nat, a < s.heap.size → ¬ A a) : vx_Zq C n d A s s.heap := by
  refine ⟨va_Zqof hl hini h hA, ?_⟩
  obtain ⟨c, k, i, f, a, cell, h1, h2, h3, h4, h5, h6, h7, h8, h9⟩ := Cond.laysStatic_spec hl
  exact ⟨c, k, i, f, a, cell, h1, h2, h3, h4, h5, h6, h7, h8, h9, hA a (Array.getElem?_eq_some_iff.mp h5).1⟩
theorem vx_isRef {C n d : String} {v : Value} {A : Nat → Prop} {s : State} {args : Array Value} (h : va_Z C n d v A s s.heap) (hv : v.isRef = true) : (Cond.isRef (.static C n d)).before args s = true := by
  obtain ⟨cf, kf, fi, f, a, cell, h1, h2, h3, h4, h5, h6, h7, -⟩ := h
  have he : (Term.static C n d).eval args s none [] s = some v := by
    simp [Term.eval, State.fieldNamed?, h1, h2, h4, h5, h6, h7]
  simp only [Cond.before, Cond.holds, Cond.value, he]
  cases v <;> simp_all [Value.isRef]
theorem vx_isRefq {C n d : String} {A : Nat → Prop} {s : State} {args : Array Value} (h : va_Zq C n d A s s.heap) : (Cond.isRef (.static C n d)).before args s = true := by
  rcases h with h | ⟨t, h⟩
  · exact vx_isRef h rfl
  · exact vx_isRef h rfl
/-- the same frame, seen from here: as if the method were called anew in this heap -/
theorem vx_rebase {T : State} (X : Stand p l e R s m args below meth c T locs cells slots) {R' : Room} (hf : R'.frames ≤ R.frames) (hl : R'.locals ≤ R.locals) (hc : cells + R'.cells ≤ R.cells) (hs : slots + R'.slots ≤ R.slots) :
    Stand p l e R' ((T.setVm s.vm).setFrames (.invoking m args :: below)) m args below meth c T [] 0 0 := by
  have htop : (T.setVm s.vm).topJava?.isSome := X.here.top
  have hF : ((T.setVm s.vm).setFrames (.invoking m args :: below)).frames = .invoking m args :: below := State.frames_setFrames _ (State.cur_lt_of_top htop)
  obtain ⟨g₀, hg0⟩ := Option.isSome_iff_exists.mp htop
  obtain ⟨r, hr⟩ := State.topJava?_eq_some.mp hg0
  have hl9 : e.platform.stackLimits (T.setVm s.vm).me = e.platform.stackLimits s.me := X.limits
  have hb9 : (T.setVm s.vm).me.stackBytes = s.me.stackBytes := X.bytes
  refine ⟨X.admits, X.cas, X.clock, hF, ?_, X.hears, X.method, X.code, X.here, X.tail, X.warmed, ?_, ?_, ?_⟩
  · have h := X.room
    have hU : ((T.setVm s.vm).setFrames (.invoking m args :: below)).localsInUse = s.localsInUse := by
      rw [State.localsInUse_invoking hF (meth := meth) (c := c) X.method X.code, State.localsInUse_invoking X.frames X.method X.code]
    simp only [State.hasRoom, Bool.and_eq_true, decide_eq_true_eq] at h ⊢
    obtain ⟨⟨⟨⟨h1, h2, h3, h4, h5, h6⟩, h7⟩, h8⟩, h9⟩ := h
    rw [X.frames, List.length_cons] at h2 h3
    have q1 := X.heapSize
    have q2 := X.used
    simp only [hF, hU, List.length_cons, State.stackLimits_setFrames, State.stackBytes_setFrames, hl9, hb9]
    refine ⟨⟨⟨⟨by omega, by omega, by omega, by omega, by omega, h6⟩, ?_⟩, ?_⟩, X.book⟩
    · show T.heap.size + R'.cells ≤ e.platform.maxCells
      omega
    · show T.slotsUsed + R'.slots ≤ e.platform.maxSlots
      omega
  · rw [State.stackLimits_setFrames]; rfl
  · rw [State.stackBytes_setFrames]; rfl
  · refine ⟨?_, Nat.le_refl _, Nat.le_refl _, ?_, ?_, fun a c9 h9 => ⟨c9, h9, rfl, rfl, fun _ _ => rfl⟩⟩
    · obtain ⟨t, ht, -⟩ := State.frames_cons hr
      show T.setVm s.vm = { ((T.setVm s.vm).setFrames (.invoking m args :: below)).setFrames (T.setVm s.vm).frames with heap := T.heap, slotsUsed := T.slotsUsed }
      rw [State.setFrames_setFrames, State.setFrames_self ht]
      rfl
    · show T.slotsUsed = T.slotsUsed + ((T.heap.toList.drop T.heap.size).map (·.slots.size)).sum
      rw [List.drop_eq_nil_of_le (Nat.le_of_eq Array.length_toList)]
      rfl
    · show ((T.heap.toList.drop T.heap.size).map (·.slots.size)).sum ≤ 0
      rw [List.drop_eq_nil_of_le (Nat.le_of_eq Array.length_toList)]
      exact Nat.le_refl _
/-- 'throw new E()': new; dup; invokespecial; athrow -/
theorem vx_throw0 {cc : ByteArray} {pc : Nat} (hexec : p.tables.exec = Jvm.exec) (hb : c.code = cc) (hl : l.stackTraces = false) {own cls : String} {names : List String} {ik ic mc ms : Nat} {A : Nat → Prop}
    (hown : s.vm.findClass own = some m.cls) (hcls : Bundle.fit cls = true) (hnames : ∀ n ∈ names, Bundle.fit n = true)
    (hk : (Cond.classLink own ik cls).before args s = true) (hini : (Cond.initialized cls).before args s = true) (hat : ∀ w ∈ vx_at0 own ic cls names, w.before args s = true)
    (hgood : ∀ w ∈ Cond.classLink own ik cls :: Cond.initialized cls :: vx_at0 own ic cls names, vx_ot w = true)
    (hU : vx_Zq Bundle.tN "UNASSIGNED_STACK" Bundle.steD A s s.heap) (hN : vx_Zq Bundle.tN "SUPPRESSED_SENTINEL" Bundle.listD A s s.heap) (hS : va_S A s.heap H locs) (hsize : ls.size = c.maxLocals)
    (d0 : decode cc pc = .ok (.new ik, 3)) (d3 : decode cc (pc + 3) = .ok (.dup, 1)) (d4 : decode cc (pc + 4) = .ok (.invokespecial ic, 3)) (d7 : decode cc (pc + 7) = .ok (.athrow, 1))
    (hout : ∀ x ∈ c.exceptionTable.toList, covers x (pc + 7) = false)
    (hRframes : names.length + 3 < R.frames) (hRlocals : (rest.map fun v => v.category).sum + (13 * (names.length + 1) + 42) ≤ R.locals) (hRcells : cells + 1 ≤ R.cells) (hRslots : slots + 6 ≤ R.slots) (hlocks : meth.locks = false)
    (hx : ∀ t : State, s.vm.Alike t.vm → H.size ≤ t.heap.size → (∀ q : Nat, q < H.size → t.heap[q]? = H[q]?) → XC cls s t)
    (hf : ∀ z ∈ locs, free z.base) (hc : cells + 1 ≤ mc) (hs : slots + 6 ≤ ms) :
    W p l e R s m args below meth c H locs cells slots (vx_MQ below Qc XC args s mc ms free) (F0 m pc ls rest) := by
  intro T hT X
  have htr : e.platform.stackTraces = false := (show e.platform.stackTraces = l.stackTraces by rw [X.admits.platform]).trans hl
  have Y := vx_rebase X (R' := { frames := R.frames, locals := R.locals, cells := 1, slots := 6 }) (Nat.le_refl _) (Nat.le_refl _) hRcells hRslots
  obtain ⟨s', hA⟩ : ∃ z, z = (T.setVm s.vm).setFrames (.invoking m args :: below) := ⟨_, rfl⟩
  rw [← hA] at Y
  have hvm : s'.vm = s.vm := by rw [hA]; rfl
  have hhp : s'.heap = H := by rw [hA]; exact hT
  have hW0 : s.WarmedH s'.vm := by rw [hvm]; exact State.WarmedH.refl s
  have hat' : ∀ w ∈ vx_at0 own ic cls names, w.before args s' = true := fun w hw => vx_ot_at hW0 hvm.symm (hgood w (List.mem_cons_of_mem _ (List.mem_cons_of_mem _ hw))) (hat w hw)
  have hk' : (Cond.classLink own ik cls).before args s' = true := vx_ot_at hW0 hvm.symm (hgood _ List.mem_cons_self) hk
  have hini' : (Cond.initialized cls).before args s' = true := vx_ot_at hW0 hvm.symm (hgood _ (List.mem_cons_of_mem _ List.mem_cons_self)) hini
  have hU' : vx_Zq Bundle.tN "UNASSIGNED_STACK" Bundle.steD A s' s'.heap := by rw [hhp]; exact vx_Zq.moved hW0.alike (hU.kept hS.2.1)
  have hN' : vx_Zq Bundle.tN "SUPPRESSED_SENTINEL" Bundle.listD A s' s'.heap := by rw [hhp]; exact vx_Zq.moved hW0.alike (hN.kept hS.2.1)
  have h : ∀ w ∈ Bundle.ownAtoms0 own ic cls names, w.before args s' = true := vx_own hat' (vx_isRefq hU'.1) (vx_isRefq hN'.1) hU'.2.word hN'.2.word
  have hown' : s'.vm.findClass own = some m.cls := by rw [hvm]; exact hown
  have hins : (Cond.instantiable cls 6).before args s' = true := h _ (by simp [Bundle.ownAtoms0])
  obtain ⟨vm₁, cX, kX, hfX, hkX, -, -, X₁, st1⟩ := Y.newCold hexec (own := own) (C := cls) (index := ik) (n := 6) hown' hk' hins hini'
    (g := F0 m pc ls rest) rfl (by rw [hb]; exact d0) (Nat.le_refl _) (Nat.le_refl _)
  generalize hT1 : (T.setVm vm₁).pushCell { cls := cX, slots := kX.instanceTypes.map defaultValue, vm := .none } = T1 at X₁ st1
  have hcat : (Value.ref T.heap.size).category = 1 := rfl
  have hcellA : T1.heap[T.heap.size]? = some (freshCell cX kX) := by rw [← hT1]; exact State.heap_pushCell_size _ _
  have d3' : decode c.code (pc + 3) = .ok (.dup, 1) := by rw [hb]; exact d3
  obtain ⟨U, hsteps, hrun, hend, hW, hsame, ce, hce, hO⟩ := X₁.ctorThrow0 hexec htr (own := own) (cls := cls) (names := names) (ic := ic) hown' hcls hnames h (fun x hx => nomatch hx) hfX hkX hcellA (by rw [hhp, hT]; exact Nat.le_refl _)
    (g := { method := m, pc := pc + 4, locals := ls, stack := .ref T.heap.size :: .ref T.heap.size :: rest, locked := none }) rfl hsize rfl rfl (rest := rest) rfl
    (by rw [hb]; exact d4) (by rw [hb]; exact d7) hout hRframes (by simp only [List.map_cons, List.sum_cons, hcat]; omega) hlocks
  obtain ⟨f1, f2⟩ := vx_frame hsame
  rw [hhp] at f1 f2
  have hWs : s.WarmedH U.vm := State.WarmedH.trans hW0 hW
  have hcl : s.vm.findClass cls = some ce.cls := by
    have h9 := hO.cls
    rw [hvm] at h9
    exact h9
  have hall : s.sameButNew ({ U with vm := s.vm } : State) locs mc ms := by
    subst hA
    obtain ⟨e1, e2⟩ := hsame
    rw [State.setFrames_setFrames] at e1
    have h2 : (T.setVm s.vm).sameButNew ({ U with vm := s.vm } : State) [] (0 + 1) (0 + 6) := ⟨e1, e2⟩
    have h3 := X.same.trans h2
    rw [List.append_nil] at h3
    exact h3.mono hc hs
  refine ⟨U, ?_, .threw T.heap.size, hrun, hend, Or.inr ⟨T.heap.size, rfl, cls, ce, locs, hx U hWs.alike f1 (fun q hq => f2 q hq (fun z hz => nomatch hz)), hce, hO.vm, hcl, hWs, hall, hf⟩⟩
  refine st1 _ ?_
  show Steps p.tables e below (T1.setTop { method := m, pc := pc + 3, locals := ls, stack := .ref T.heap.size :: rest, locked := none }) _
  jvm_step X₁.here [X₁.here.top, hexec, d3', Value.category]
  exact hsteps
/-- 'throw new E("text")': new; dup; ldc; invokespecial; athrow -/
theorem vx_throwS {cc : ByteArray} {pc : Nat} (hexec : p.tables.exec = Jvm.exec) (hb : c.code = cc) (hl : l.stackTraces = false) {own cls text : String} {names : List String} {ik is ic mc ms sa : Nat} {A : Nat → Prop}
    (hown : s.vm.findClass own = some m.cls) (hcls : Bundle.fit cls = true) (hnames : ∀ n ∈ names, Bundle.fit n = true)
    (hk : (Cond.classLink own ik cls).before args s = true) (hini : (Cond.initialized cls).before args s = true) (hstr : vk_R own is text sa s) (hat : ∀ w ∈ vx_atS own ic cls names, w.before args s = true)
    (hgood : ∀ w ∈ Cond.classLink own ik cls :: Cond.initialized cls :: vx_atS own ic cls names, vx_ot w = true)
    (hU : vx_Zq Bundle.tN "UNASSIGNED_STACK" Bundle.steD A s s.heap) (hN : vx_Zq Bundle.tN "SUPPRESSED_SENTINEL" Bundle.listD A s s.heap) (hS : va_S A s.heap H locs) (hsize : ls.size = c.maxLocals)
    (d0 : decode cc pc = .ok (.new ik, 3)) (d3 : decode cc (pc + 3) = .ok (.dup, 1)) (d4 : decode cc (pc + 4) = .ok (.ldc is, 2)) (d6 : decode cc (pc + 6) = .ok (.invokespecial ic, 3)) (d9 : decode cc (pc + 9) = .ok (.athrow, 1))
    (hout : ∀ x ∈ c.exceptionTable.toList, covers x (pc + 9) = false)
    (hRframes : names.length + 3 < R.frames) (hRlocals : (rest.map fun v => v.category).sum + (13 * (names.length + 1) + 43) ≤ R.locals) (hRcells : cells + 1 ≤ R.cells) (hRslots : slots + 6 ≤ R.slots) (hlocks : meth.locks = false)
    (hx : ∀ t : State, s.vm.Alike t.vm → H.size ≤ t.heap.size → (∀ q : Nat, q < H.size → t.heap[q]? = H[q]?) → XC cls s t)
    (hf : ∀ z ∈ locs, free z.base) (hc : cells + 1 ≤ mc) (hs : slots + 6 ≤ ms) :
    W p l e R s m args below meth c H locs cells slots (vx_MQ below Qc XC args s mc ms free) (F0 m pc ls rest) := by
  intro T hT X
  have htr : e.platform.stackTraces = false := (show e.platform.stackTraces = l.stackTraces by rw [X.admits.platform]).trans hl
  have Y := vx_rebase X (R' := { frames := R.frames, locals := R.locals, cells := 1, slots := 6 }) (Nat.le_refl _) (Nat.le_refl _) hRcells hRslots
  obtain ⟨s', hA⟩ : ∃ z, z = (T.setVm s.vm).setFrames (.invoking m args :: below) := ⟨_, rfl⟩
  rw [← hA] at Y
  have hvm : s'.vm = s.vm := by rw [hA]; rfl
  have hhp : s'.heap = H := by rw [hA]; exact hT
  have hW0 : s.WarmedH s'.vm := by rw [hvm]; exact State.WarmedH.refl s
  have hat' : ∀ w ∈ vx_atS own ic cls names, w.before args s' = true := fun w hw => vx_ot_at hW0 hvm.symm (hgood w (List.mem_cons_of_mem _ (List.mem_cons_of_mem _ hw))) (hat w hw)
  have hk' : (Cond.classLink own ik cls).before args s' = true := vx_ot_at hW0 hvm.symm (hgood _ List.mem_cons_self) hk
  have hini' : (Cond.initialized cls).before args s' = true := vx_ot_at hW0 hvm.symm (hgood _ (List.mem_cons_of_mem _ List.mem_cons_self)) hini
  have hU' : vx_Zq Bundle.tN "UNASSIGNED_STACK" Bundle.steD A s' s'.heap := by rw [hhp]; exact vx_Zq.moved hW0.alike (hU.kept hS.2.1)
  have hN' : vx_Zq Bundle.tN "SUPPRESSED_SENTINEL" Bundle.listD A s' s'.heap := by rw [hhp]; exact vx_Zq.moved hW0.alike (hN.kept hS.2.1)
  have h : ∀ w ∈ Bundle.ownAtoms own ic cls names, w.before args s' = true := vx_own hat' (vx_isRefq hU'.1) (vx_isRefq hN'.1) hU'.2.word hN'.2.word
  have hown' : s'.vm.findClass own = some m.cls := by rw [hvm]; exact hown
  have hins : (Cond.instantiable cls 6).before args s' = true := h _ (by simp [Bundle.ownAtoms])
  obtain ⟨vm₁, cX, kX, hfX, hkX, -, -, X₁, st1⟩ := Y.newCold hexec (own := own) (C := cls) (index := ik) (n := 6) hown' hk' hins hini'
    (g := F0 m pc ls rest) rfl (by rw [hb]; exact d0) (Nat.le_refl _) (Nat.le_refl _)
  generalize hT1 : (T.setVm vm₁).pushCell { cls := cX, slots := kX.instanceTypes.map defaultValue, vm := .none } = T1 at X₁ st1
  have hcat : (Value.ref T.heap.size).category = 1 := rfl
  have hcellA : T1.heap[T.heap.size]? = some (freshCell cX kX) := by rw [← hT1]; exact State.heap_pushCell_size _ _
  have d3' : decode c.code (pc + 3) = .ok (.dup, 1) := by rw [hb]; exact d3
  have d4' : decode c.code (pc + 4) = .ok (.ldc is, 2) := by rw [hb]; exact d4
  have hstr' : vk_R own is text sa s' := vk_R.warm hW0 hstr
  obtain ⟨U, hsteps, hrun, hend, hW, hsame, ce, hce, hO⟩ := X₁.ctorThrowS hexec htr (own := own) (cls := cls) (names := names) (ic := ic) hown' hcls hnames h (fun x hx => nomatch hx) hfX hkX hcellA (by rw [hhp, hT]; exact Nat.le_refl _) (msg := .ref sa) rfl
    (g := { method := m, pc := pc + 6, locals := ls, stack := .ref sa :: .ref T.heap.size :: .ref T.heap.size :: rest, locked := none }) rfl hsize rfl rfl (rest := rest) rfl
    (by rw [hb]; exact d6) (by rw [hb]; exact d9) hout hRframes (by simp only [List.map_cons, List.sum_cons, hcat]; omega) hlocks
  obtain ⟨f1, f2⟩ := vx_frame hsame
  rw [hhp] at f1 f2
  have hWs : s.WarmedH U.vm := State.WarmedH.trans hW0 hW
  have hcl : s.vm.findClass cls = some ce.cls := by
    have h9 := hO.cls
    rw [hvm] at h9
    exact h9
  have hall : s.sameButNew ({ U with vm := s.vm } : State) locs mc ms := by
    subst hA
    obtain ⟨e1, e2⟩ := hsame
    rw [State.setFrames_setFrames] at e1
    have h2 : (T.setVm s.vm).sameButNew ({ U with vm := s.vm } : State) [] (0 + 1) (0 + 6) := ⟨e1, e2⟩
    have h3 := X.same.trans h2
    rw [List.append_nil] at h3
    exact h3.mono hc hs
  refine ⟨U, ?_, .threw T.heap.size, hrun, hend, Or.inr ⟨T.heap.size, rfl, cls, ce, locs, hx U hWs.alike f1 (fun q hq => f2 q hq (fun z hz => nomatch hz)), hce, hO.vm, hcl, hWs, hall, hf⟩⟩
  refine st1 _ ?_
  show Steps p.tables e below (T1.setTop { method := m, pc := pc + 3, locals := ls, stack := .ref T.heap.size :: rest, locked := none }) _
  jvm_step X₁.here [X₁.here.top, hexec, d3', Value.category]
  exact X₁.ldcString hexec (own := own) (text := text) (index := is) (a := sa) hown' hstr'.1 hstr'.2
    (g := { method := m, pc := pc + 4, locals := ls, stack := .ref T.heap.size :: .ref T.heap.size :: rest, locked := none }) rfl d4' _ hsteps
/-- 'throw new E("text")', the text by a wide index -/
theorem vx_throwSW {cc : ByteArray} {pc : Nat} (hexec : p.tables.exec = Jvm.exec) (hb : c.code = cc) (hl : l.stackTraces = false) {own cls text : String} {names : List String} {ik is ic mc ms sa : Nat} {A : Nat → Prop}
    (hown : s.vm.findClass own = some m.cls) (hcls : Bundle.fit cls = true) (hnames : ∀ n ∈ names, Bundle.fit n = true)
    (hk : (Cond.classLink own ik cls).before args s = true) (hini : (Cond.initialized cls).before args s = true) (hstr : vk_R own is text sa s) (hat : ∀ w ∈ vx_atS own ic cls names, w.before args s = true)
    (hgood : ∀ w ∈ Cond.classLink own ik cls :: Cond.initialized cls :: vx_atS own ic cls names, vx_ot w = true)
    (hU : vx_Zq Bundle.tN "UNASSIGNED_STACK" Bundle.steD A s s.heap) (hN : vx_Zq Bundle.tN "SUPPRESSED_SENTINEL" Bundle.listD A s s.heap) (hS : va_S A s.heap H locs) (hsize : ls.size = c.maxLocals)
    (d0 : decode cc pc = .ok (.new ik, 3)) (d3 : decode cc (pc + 3) = .ok (.dup, 1)) (d4 : decode cc (pc + 4) = .ok (.ldc_w is, 3)) (d7 : decode cc (pc + 7) = .ok (.invokespecial ic, 3)) (d10 : decode cc (pc + 10) = .ok (.athrow, 1))
    (hout : ∀ x ∈ c.exceptionTable.toList, covers x (pc + 10) = false)
    (hRframes : names.length + 3 < R.frames) (hRlocals : (rest.map fun v => v.category).sum + (13 * (names.length + 1) + 43) ≤ R.locals) (hRcells : cells + 1 ≤ R.cells) (hRslots : slots + 6 ≤ R.slots) (hlocks : meth.locks = false)
    (hx : ∀ t : State, s.vm.Alike t.vm → H.size ≤ t.heap.size → (∀ q : Nat, q < H.size → t.heap[q]? = H[q]?) → XC cls s t)
    (hf : ∀ z ∈ locs, free z.base) (hc : cells + 1 ≤ mc) (hs : slots + 6 ≤ ms) :
    W p l e R s m args below meth c H locs cells slots (vx_MQ below Qc XC args s mc ms free) (F0 m pc ls rest) := by
  intro T hT X
  have htr : e.platform.stackTraces = false := (show e.platform.stackTraces = l.stackTraces by rw [X.admits.platform]).trans hl
  have Y := vx_rebase X (R' := { frames := R.frames, locals := R.locals, cells := 1, slots := 6 }) (Nat.le_refl _) (Nat.le_refl _) hRcells hRslots
  obtain ⟨s', hA⟩ : ∃ z, z = (T.setVm s.vm).setFrames (.invoking m args :: below) := ⟨_, rfl⟩
  rw [← hA] at Y
  have hvm : s'.vm = s.vm := by rw [hA]; rfl
  have hhp : s'.heap = H := by rw [hA]; exact hT
  have hW0 : s.WarmedH s'.vm := by rw [hvm]; exact State.WarmedH.refl s
  have hat' : ∀ w ∈ vx_atS own ic cls names, w.before args s' = true := fun w hw => vx_ot_at hW0 hvm.symm (hgood w (List.mem_cons_of_mem _ (List.mem_cons_of_mem _ hw))) (hat w hw)
  have hk' : (Cond.classLink own ik cls).before args s' = true := vx_ot_at hW0 hvm.symm (hgood _ List.mem_cons_self) hk
  have hini' : (Cond.initialized cls).before args s' = true := vx_ot_at hW0 hvm.symm (hgood _ (List.mem_cons_of_mem _ List.mem_cons_self)) hini
  have hU' : vx_Zq Bundle.tN "UNASSIGNED_STACK" Bundle.steD A s' s'.heap := by rw [hhp]; exact vx_Zq.moved hW0.alike (hU.kept hS.2.1)
  have hN' : vx_Zq Bundle.tN "SUPPRESSED_SENTINEL" Bundle.listD A s' s'.heap := by rw [hhp]; exact vx_Zq.moved hW0.alike (hN.kept hS.2.1)
  have h : ∀ w ∈ Bundle.ownAtoms own ic cls names, w.before args s' = true := vx_own hat' (vx_isRefq hU'.1) (vx_isRefq hN'.1) hU'.2.word hN'.2.word
  have hown' : s'.vm.findClass own = some m.cls := by rw [hvm]; exact hown
  have hins : (Cond.instantiable cls 6).before args s' = true := h _ (by simp [Bundle.ownAtoms])
  obtain ⟨vm₁, cX, kX, hfX, hkX, -, -, X₁, st1⟩ := Y.newCold hexec (own := own) (C := cls) (index := ik) (n := 6) hown' hk' hins hini'
    (g := F0 m pc ls rest) rfl (by rw [hb]; exact d0) (Nat.le_refl _) (Nat.le_refl _)
  generalize hT1 : (T.setVm vm₁).pushCell { cls := cX, slots := kX.instanceTypes.map defaultValue, vm := .none } = T1 at X₁ st1
  have hcat : (Value.ref T.heap.size).category = 1 := rfl
  have hcellA : T1.heap[T.heap.size]? = some (freshCell cX kX) := by rw [← hT1]; exact State.heap_pushCell_size _ _
  have d3' : decode c.code (pc + 3) = .ok (.dup, 1) := by rw [hb]; exact d3
  have d4' : decode c.code (pc + 4) = .ok (.ldc_w is, 3) := by rw [hb]; exact d4
  have hstr' : vk_R own is text sa s' := vk_R.warm hW0 hstr
  obtain ⟨U, hsteps, hrun, hend, hW, hsame, ce, hce, hO⟩ := X₁.ctorThrowS hexec htr (own := own) (cls := cls) (names := names) (ic := ic) hown' hcls hnames h (fun x hx => nomatch hx) hfX hkX hcellA (by rw [hhp, hT]; exact Nat.le_refl _) (msg := .ref sa) rfl
    (g := { method := m, pc := pc + 7, locals := ls, stack := .ref sa :: .ref T.heap.size :: .ref T.heap.size :: rest, locked := none }) rfl hsize rfl rfl (rest := rest) rfl
    (by rw [hb]; exact d7) (by rw [hb]; exact d10) hout hRframes (by simp only [List.map_cons, List.sum_cons, hcat]; omega) hlocks
  obtain ⟨f1, f2⟩ := vx_frame hsame
  rw [hhp] at f1 f2
  have hWs : s.WarmedH U.vm := State.WarmedH.trans hW0 hW
  have hcl : s.vm.findClass cls = some ce.cls := by
    have h9 := hO.cls
    rw [hvm] at h9
    exact h9
  have hall : s.sameButNew ({ U with vm := s.vm } : State) locs mc ms := by
    subst hA
    obtain ⟨e1, e2⟩ := hsame
    rw [State.setFrames_setFrames] at e1
    have h2 : (T.setVm s.vm).sameButNew ({ U with vm := s.vm } : State) [] (0 + 1) (0 + 6) := ⟨e1, e2⟩
    have h3 := X.same.trans h2
    rw [List.append_nil] at h3
    exact h3.mono hc hs
  refine ⟨U, ?_, .threw T.heap.size, hrun, hend, Or.inr ⟨T.heap.size, rfl, cls, ce, locs, hx U hWs.alike f1 (fun q hq => f2 q hq (fun z hz => nomatch hz)), hce, hO.vm, hcl, hWs, hall, hf⟩⟩
  refine st1 _ ?_
  show Steps p.tables e below (T1.setTop { method := m, pc := pc + 3, locals := ls, stack := .ref T.heap.size :: rest, locked := none }) _
  jvm_step X₁.here [X₁.here.top, hexec, d3', Value.category]
  exact X₁.ldcStringW hexec (own := own) (text := text) (index := is) (a := sa) hown' hstr'.1 hstr'.2
    (g := { method := m, pc := pc + 4, locals := ls, stack := .ref T.heap.size :: .ref T.heap.size :: rest, locked := none }) rfl d4' _ hsteps
end Ends
section Bodies
variable {l : Launch}
theorem vx_ofW {y : MethodName} {ws ws' : List Cond} {rm : Room} {Pc : Array Value → State → Prop} {Qc : Array Value → State → Outcome → State → Prop} {XC : String → State → State → Prop} {mc ms : Nat} {free : Addr → Prop} {cc : ByteArray} {maxL : Nat} {ret : Option FieldType}
    (hy : plainName y.cls = true) (hw : ws = Cond.code y cc maxL ret :: ws')
    (body : ∀ p e s m args below meth c s₁, BodyLoose p l y (headSpec ws rm) cc maxL ret e s m args below meth c s₁ → c.maxLocals = maxL → (∀ x ∈ c.exceptionTable.toList, False) → Pc args s →
      W p l e (headSpec ws rm).room s m args below meth c s.heap [] 0 0 (vx_MQ below Qc XC args s mc ms free) (entryFrame m args maxL)) : vx_Met l y ws rm Pc Qc XC mc ms free := by
  refine MetFree.of_bodyS (code := cc) (maxLocals := maxL) (ret := ret) hy ?_ ?_
  · intro args s m h hn
    obtain ⟨meth, c, h1, h2, h3, h4, h5, h6, -, -⟩ := Cond.code_spec hn (atoms_spec (ws := ws) h _ (by rw [hw]; exact List.mem_cons_self))
    exact ⟨meth, c, h1, h2, h3, h4, h5, h6⟩
  · intro p e s m args below meth c s₁ B hml hP _
    have hh0 : s₁.heap = s.heap := by rw [B.state]; rfl
    have ht : ∀ x ∈ c.exceptionTable.toList, False := by
      obtain ⟨meth9, c9, h1, h2, -, -, -, -, h7, -⟩ := Cond.code_spec B.named (atoms_spec (ws := ws) B.pre _ (by rw [hw]; exact List.mem_cons_self))
      cases Option.some.inj (h1.symm.trans B.method)
      cases Option.some.inj (h2.symm.trans (Stand.of_body B).code)
      intro x hx
      rw [Array.isEmpty_iff.mp h7] at hx
      cases hx
    obtain ⟨t, a1, o, b1, b2, b3⟩ := body p e s m args below meth c s₁ B hml ht hP s₁ hh0 (Stand.of_body B)
    exact ⟨t, o, a1, b1, b2, b3⟩
/-- the table of a body with handlers -/
theorem vx_table {p : Program} {x y : MethodName} {S : Spec} {cc bytes : ByteArray} {maxL maxL' : Nat} {ret ret' : Option FieldType} {e : Env} {s s₁ : State} {m : MethodId} {args : Array Value} {below : List Frame} {meth : Method} {c : Code} {hh : List (Nat × Nat × Nat × Nat)}
    (B : BodyLoose p l y S cc maxL ret e s m args below meth c s₁) (h : (Cond.codeWith y bytes maxL' ret' hh).before args s = true) : c.exceptionTable.toList = tableOf hh := by
  obtain ⟨m9, meth9, c9, hn9, h1, h2, -, -, h6, -⟩ := Cond.codeWith_spec h
  cases Option.some.inj (hn9.symm.trans B.named)
  cases Option.some.inj (h1.symm.trans B.method)
  cases Option.some.inj (h2.symm.trans (Stand.of_body B).code)
  rw [← h6, table_eq]
end Bodies
end VXA
/-! ===== END ===== -/
/-! ===== BEGIN a static call of a method with an exception table ===== -/
section VXS
variable {p : Program} {l : Launch} {e : Env} {R : Room} {s : State} {m : MethodId} {args : Array Value} {below : List Frame} {meth : Method} {c : Code} {T : State} {H : Heap} {locs : List Loc} {cells slots : Nat}
abbrev vx_CSW (R : Room) (s : State) (args : Array Value) (own : String) (index : Nat) (y : MethodName) (bytes : ByteArray) (maxL : Nat) (ret : Option FieldType) (hh : List (Nat × Nat × Nat × Nat)) (ws : List Cond) (rm : Room) (mc ms n : Nat) : Prop :=
  (rm.cells = mc ∧ rm.slots = ms ∧ rm.frames + 1 ≤ R.frames ∧ 8 + (maxL + 11) + rm.locals ≤ R.locals ∧ (∀ w ∈ ws, ∀ (a' : Array Value) (U : State), s.WarmedH U.vm → w.before a' U = true) ∧ Cond.codeWith y bytes maxL ret hh ∈ ws) ∧
  (Cond.codeWith y bytes maxL ret hh).before args s = true ∧ (Cond.initialized y.cls).before args s = true ∧ (y.cls ≠ "java/lang/invoke/MethodHandle" ∧ y.cls ≠ "java/lang/invoke/VarHandle") ∧
  (∀ sig, parseMethodDescriptor y.desc = some sig → n = sig.parameters.length) ∧ (Cond.methodLink own index y).before args s = true ∧ (Cond.static y).before args s = true
theorem vx_cwSW {own : String} {index maxL mc ms : Nat} {y : MethodName} {bytes : ByteArray} {ret : Option FieldType} {hh : List (Nat × Nat × Nat × Nat)} {Ts ws ws' : List Cond} {rm : Room} (n : Nat) (ht : ∀ w ∈ Ts, w.before args s = true) (hT : GoodIn Ts (va_wsS own index y ws)) (hw : ws = Cond.codeWith y bytes maxL ret hh :: ws') (hrc : rm.cells = mc) (hrs : rm.slots = ms)
    (hd : y.cls ≠ "java/lang/invoke/MethodHandle" ∧ y.cls ≠ "java/lang/invoke/VarHandle" ∧ (parseMethodDescriptor y.desc).map (fun d => d.parameters.length) = some n) (hR : rm.frames + 1 ≤ R.frames ∧ 8 + (maxL + 11) + rm.locals ≤ R.locals) :
    vx_CSW R s args own index y bytes maxL ret hh ws rm mc ms n := by
  have ok : ∀ w ∈ va_wsS own index y ws, w.before args s = true := fun w h => ht w (hT w h).1
  have hG : GoodIn Ts ws := fun w h => hT w (by unfold va_wsS; exact List.mem_append_right _ h)
  have hc : Cond.codeWith y bytes maxL ret hh ∈ ws := by rw [hw]; exact List.mem_cons_self
  refine ⟨⟨hrc, hrs, hR.1, hR.2, pay_in ht hG, hc⟩, ht _ (hG _ hc).1, ok _ (by simp [va_wsS]), ⟨hd.1, hd.2.1⟩, fun sig h => ?_, ok _ (by simp [va_wsS]), ok _ (by simp [va_wsS])⟩
  have h2 := hd.2.2
  rw [h] at h2
  exact (Option.some.inj h2).symm
theorem vx_callSW (X : Stand p l e R s m args below meth c T locs cells slots) (hexec : p.tables.exec = Jvm.exec) {own : String} {index : Nat} {y : MethodName} {bytes : ByteArray} {maxL : Nat} {ret : Option FieldType} {hh : List (Nat × Nat × Nat × Nat)}
    (hown : s.vm.findClass own = some m.cls) (hlink : (Cond.methodLink own index y).before args s = true) (hstat : (Cond.static y).before args s = true) (hinit : (Cond.initialized y.cls).before args s = true)
    (hcode : (Cond.codeWith y bytes maxL ret hh).before args s = true) (hy : y.cls ≠ "java/lang/invoke/MethodHandle" ∧ y.cls ≠ "java/lang/invoke/VarHandle")
    {W9 : Nat} {Pre : Pt → Array Value → Prop} {Post : Pt → Array Value → Option Value → Pt → Prop} (hK : Back l R p e below s args y 3 W9 Pre Post)
    {g : JFrame} (hg : g.method = m) (hsize : g.locals.size = c.maxLocals) {argsL rest : List Value} (hlen : ∀ sig, parseMethodDescriptor y.desc = some sig → argsL.length = sig.parameters.length)
    (hstack : g.stack = argsL.reverse ++ rest) (hW : 2 * g.monitorRoom + (rest.map fun v => v.category).sum ≤ W9) (hdg : decode c.code g.pc = .ok (.invokestatic index, 3))
    (hpre : ∀ vm₁, s.WarmedH vm₁ → Pre ⟨T.setVm vm₁, locs, cells, slots⟩ argsL.toArray) :
    ∃ (v : Option Value) (vm₁ : Vm) (B : Pt), s.WarmedH vm₁ ∧ Stand p l e R s m args below meth c B.U B.locs B.cells B.slots ∧ Post ⟨T.setVm vm₁, locs, cells, slots⟩ argsL.toArray v B ∧
      ∀ target, Steps p.tables e below (B.U.setTop { g with pc := g.pc + 3, stack := v.toList ++ rest }) target → Steps p.tables e below (T.setTop g) target := by
  obtain ⟨mk, methM, cM, hnamed, hmethM, -, -, -, -, -, -, hsigM⟩ := Cond.codeWith_spec hcode
  have hstatic : methM.isStatic = true := Cond.static_spec hnamed hmethM hstat
  obtain ⟨kP, hkP, -⟩ := className_of_methodNamed hnamed
  have hinitP : kP.init = .initialized := Cond.initialized_spec (findClass_of_methodNamed hnamed) hkP hinit
  obtain ⟨vm₁, X₁, hstep₁⟩ := X.invokestatic hexec hown hlink hnamed hmethM hstatic hkP hinitP hy (g := g) hg (argsL := argsL) (rest := rest) (hlen _ hsigM) hstack hdg
  obtain ⟨v, B, X', hpost, hsteps⟩ := hK m meth c ⟨T.setVm vm₁, locs, cells, slots⟩ { g with stack := rest } (.invokestatic index) mk argsL.toArray X₁ hg hsize hdg hW (X₁.named hnamed) (hpre vm₁ X₁.warmed)
  exact ⟨v, vm₁, B, X₁.warmed, X', hpost, fun target h => hstep₁ _ fun acts => by rw [doInvoke_state]; exact hsteps.trans h⟩
theorem vx_runSW {y : MethodName} {bytes cc : ByteArray} {maxL nL mc ms n index : Nat} {ret : Option FieldType} {hh : List (Nat × Nat × Nat × Nat)} {ws : List Cond} {rm : Room} {Pc : Array Value → State → Prop} {Qc : Array Value → State → Outcome → State → Prop} {free : Addr → Prop} {Ts : List Cond} {own : String} {As rest : List Value} {g : JFrame}
    (S : CallFix p m c cc nL s args Ts own) (hM : Met l y ws rm Pc Qc mc ms free) (cw : vx_CSW R s args own index y bytes maxL ret hh ws rm mc ms n) (hp : PreS s H Pc As)
    (hg : g.method = m) (hn : As.length = n) (hsize : g.locals.size = nL) (hstack : g.stack = As.reverse ++ rest) (hW : 2 * g.monitorRoom + (rest.map fun v => v.category).sum ≤ 8) (hdg : decode cc g.pc = .ok (.invokestatic index, 3)) (hf : cells + mc ≤ R.cells ∧ slots + ms ≤ R.slots) :
    va_Run p l e R s m args below meth c H locs cells slots mc ms g rest (Qc As.toArray) (free) := by
  obtain ⟨⟨hrc, hrs, hfr, hlo, hws, hcw⟩, hcode, hini, hy, hlen, hl, hstt⟩ := cw
  have hK : Back l R p e below s args y 3 8 (PreOf R mc ms Pc) (PostOf Qc mc ms free) := va_backW (hh := hh) (bytes := bytes) (maxL := maxL) (ret := ret) hM hp.1 hrc hrs hfr hlo hws hcw (fun a' U hW => word_at hW (Or.inl (by first | rfl | simp [Cond.onTables, Cond.keeps, Cond.steady])) hini)
  obtain ⟨hx, hb, hml, ho, -⟩ := S
  intro T hT X
  obtain ⟨v, vm₁, ⟨U', l2, c2, s2⟩, hW₁, X', ⟨g', mk, t, L, e1, e2, hq, h1, hL, h2, h3⟩, st⟩ := vx_callSW X hx (hh := hh) (bytes := bytes) (maxL := maxL) (ret := ret) ho hl hstt hini hcode hy hK hg (hsize.trans hml.symm) (argsL := As) (rest := rest) (fun sig h => hn.trans (hlen sig h)) hstack hW (by rw [hb]; exact hdg)
    (fun vm₁ hW₁ => ⟨hf.1, hf.2, hp.2 (T.setVm vm₁) hT hW₁⟩)
  dsimp only [Pt.U, Pt.locs, Pt.cells, Pt.slots] at X' e1 e2 h1 h2 h3 st
  subst h1; subst h2; subst h3
  exact ⟨v, (T.setVm vm₁).calling g' mk As.toArray, t, U', L, hT, X', hL, e1, e2, hq, st⟩
/-- not caught here, past rows that name other classes: it goes on to the caller -/
theorem vx_outP {p : Program} {l : Launch} {e : Env} {R : Room} {s : State} {m : MethodId} {args : Array Value} {below : List Frame} {meth : Method} {c : Code} {H : Heap} {locs : List Loc} {cells slots : Nat} {free : Addr → Prop} {ls : Array Slot} {rest : List Value} {Qc : Array Value → State → Outcome → State → Prop} {XC : String → State → State → Prop}
    {pc : Nat} {own E : String} {ce : Cell} {q : Addr} {mc ms : Nat} (hown : s.vm.findClass own = some m.cls) (hlocks : meth.locks = false)
    (hpass : ∀ z ∈ c.exceptionTable.toList, covers z pc = false ∨ (z.catchType ≠ 0 ∧ ∃ nm : String, (Cond.classLink own z.catchType nm).before args s = true ∧ va_Nc E nm s)) (hcell : H[q]? = some ce) (hv : ce.vm = .none) (hcl : s.vm.findClass E = some ce.cls)
    (hx : ∀ t : State, t.heap = H → s.vm.Alike t.vm → XC E s t) (hf : ∀ z ∈ locs, free z.base) (hc : cells ≤ mc) (hs : slots ≤ ms) :
    vx_W p l e R s m args below meth c H locs cells slots (vx_MQ below Qc XC args s mc ms free) (F0 m pc ls rest) q := by
  intro T hT X
  have hpl : e.platform.magicAccessors = ({} : Platform).magicAccessors := by rw [X.admits.platform]
  obtain ⟨vm', hW', X', st⟩ := X.outThrough hlocks q (g := F0 m pc ls rest) rfl rfl rfl (cell := ce) (by rw [hT]; exact hcell) (by rw [hv]; rfl)
    (by obtain ⟨k9, h9, -⟩ := Vm.findClass_spec hcl; exact ⟨k9, h9⟩) (fun z hz => by
      rcases hpass z hz with h | ⟨hz0, nm, hl1, hn1⟩
      · exact Or.inl h
      · obtain ⟨c6, hc6, hcl6⟩ := Cond.classLink_spec hown hl1 e.platform hpl
        obtain ⟨a8, b8, h1, h2, h3⟩ := hn1
        cases Option.some.inj (h1.symm.trans hcl)
        cases Option.some.inj (h2.symm.trans hc6)
        exact Or.inr ⟨hz0, _, hcl6, h3⟩)
  obtain ⟨g₀, hfr⟩ := X'.frames_eq
  have hcell9 : ((T.setVm vm').setFrames (.throwing q :: below)).heap[q]? = some ce := by
    show T.heap[q]? = some ce
    rw [hT]; exact hcell
  have hend : Ended ((T.setVm vm').setFrames (.throwing q :: below)) below (.threw q) := State.frames_setFrames _ (State.cur_lt_of_frames hfr)
  refine ⟨(T.setVm vm').setFrames (.throwing q :: below), ?_, .threw q, X'.here.running, hend, Or.inr ⟨q, rfl, E, ce, locs, hx _ hT (X'.ends _).1.alike, hcell9, hv, hcl, (X'.ends _).1, (X'.ends _).2.mono hc hs, hf⟩⟩
  rw [X.pushThrowing_eq]
  exact st
/-- a thing of a world lies in the heap -/
theorem vx_lt {D : va_G} {cl : List vw_C} {ws : va_W} {H1 : Heap} (h : va_P D cl ws H1) {k : Nat} {q : Nat × va_E} (hk : ws[k]? = some q) : q.1 < H1.size := (h k q hk).lt
end VXS
/-! ===== END ===== -/
/-! ===== BEGIN methods with a table of their own: called by a name, returning or throwing ===== -/
section VXH
/-! vx_backW, vx_callVX, vx_callSX, vx_callVW, vx_runVW, vx_runVX, vx_runSX, vx_ofWH follow the same proofs as their sisters above (Free/Laws.lean, Shelf42/LK1.lean); vx_outP calls Shelf42/NT130.lean (outThrough). -/
section
variable {l : Launch} {R : Room} {p : Program} {e : Env} {below : List Frame} {s : State} {sargs : Array Value} {y : MethodName} {len W9 : Nat}
theorem vx_backW {ws : List Cond} {rm : Room} {Pc : Array Value → State → Prop} {Qc : Array Value → State → Outcome → State → Prop} {XC : String → State → State → Prop} {mc ms : Nat} {free : Addr → Prop} {bytes : ByteArray} {maxL : Nat} {ret : Option FieldType} {hh : List (Nat × Nat × Nat × Nat)}
    (hM : vx_Met l y ws rm Pc Qc XC mc ms free) (hblind : FrameBlind Pc) (hrc : rm.cells = mc) (hrs : rm.slots = ms)
    (hframes : rm.frames + 1 ≤ R.frames) (hlocals : W9 + (maxL + 11) + rm.locals ≤ R.locals)
    (hws : ∀ w ∈ ws, ∀ a' U, s.WarmedH U.vm → w.before a' U = true) (hcode : Cond.codeWith y bytes maxL ret hh ∈ ws) (hinit : ∀ a' U, s.WarmedH U.vm → (Cond.initialized y.cls).before a' U = true) :
    vx_Back l R p e below s sargs y len W9 (PreOf R mc ms Pc) (PostOf Qc mc ms free) (vx_Post XC mc ms free) := by
  intro m meth c A g ig mk a X hg hsize hdg hW hn hp
  have h1 : (headSpec ws rm).pre.before a A.U = true := atoms_intro fun w hw => hws w hw _ _ X.warmed
  have h2 : (Cond.codeWith y bytes maxL ret hh).before a A.U = true := hws _ hcode _ _ X.warmed
  have h3 : (Cond.initialized y.cls).before a A.U = true := hinit _ _ X.warmed
  have h4 : A.cells + (headSpec ws rm).room.cells ≤ R.cells := by rw [show (headSpec ws rm).room.cells = mc from hrc]; exact hp.1
  have h5 : A.slots + (headSpec ws rm).room.slots ≤ R.slots := by rw [show (headSpec ws rm).room.slots = ms from hrs]; exact hp.2.1
  have hPc : Pc a (A.U.calling g mk a) := hblind _ _ _ _ hp.2.2
  obtain ⟨U, Ls, c0, s0⟩ := A
  dsimp only [Pt.U, Pt.locs, Pt.cells, Pt.slots] at h1 h2 h3 h4 h5 X hn hPc ⊢
  obtain ⟨m9, methY, cY, hn9, hmY, hcY, -, hlY, -⟩ := Cond.codeWith_spec h2
  cases Option.some.inj (hn9.symm.trans hn)
  obtain ⟨kY, hkY, -⟩ := className_of_methodNamed hn
  have hinitY : kY.init = .initialized := Cond.initialized_spec (findClass_of_methodNamed hn) hkY h3
  have h : At U g.method c below := by rw [hg]; exact X.here
  have hlocals9 : W9 + (maxL + 11) + (headSpec ws rm).room.locals ≤ R.locals := hlocals
  have happ : (headSpec ws rm).appliesLoose y e.platform (U.calling g mk a) = true :=
    Spec.appliesLoose_calling (g := g) h hdg hn hkY hinitY
      (X.room_calling (g := g) (R' := (headSpec ws rm).room) hsize hmY hcY hframes (by rw [hlY]; omega) h4 h5) h1
  obtain ⟨mid, hmid⟩ := h.above
  have hfr : (U.setTop g).frames = (.java g :: mid) ++ below := by rw [State.frames_setTop' g h.top, hmid]; rfl
  obtain ⟨o, s₂, hsteps, -, hend, hq⟩ := Steps.callFree hM p X.admits X.cas X.clock (acts := []) hfr happ hPc trivial
  have hq' : vx_Q Qc XC mc ms free a (U.calling g mk a) o s₂ := hq
  rw [State.frames_setTop' g h.top] at hend
  obtain ⟨g₀, hg0⟩ := Option.isSome_iff_exists.mp h.top
  obtain ⟨r, hr⟩ := State.topJava?_eq_some.mp hg0
  have hr' : (({ U with heap := s₂.heap, slotsUsed := s₂.slotsUsed } : State).setVm s₂.vm).frames = .java g₀ :: r := hr
  rcases hq' with ⟨hqc, L, hfe, hL⟩ | ⟨q, rfl, E, ce, L, hx, hce, hcv, hcl, hW₂, hsm, hL⟩
  · obtain ⟨⟨v, rfl⟩, hW₂, e2, q2, q3, q4, q5, q6⟩ := id hfe
    have e3 : s₂ = ({ (U.calling g mk a).setFrames s₂.frames with heap := s₂.heap, slotsUsed := s₂.slotsUsed } : State).setVm s₂.vm := by
      have : s₂ = ({ s₂ with vm := (U.calling g mk a).vm } : State).setVm s₂.vm := rfl
      rw [e2] at this
      exact this
    obtain ⟨c₂, i₂, len₂, hc₂, hd₂, hf₂⟩ := hend
    have hW' : U.WarmedH s₂.vm := hW₂
    have hcc : c₂ = c := by
      have h1 : s₂.code? g.method = U.code? g.method := by
        rw [State.code?_eq, State.code?_eq, hW'.alike.method?]
      exact Option.some.inj (hc₂.symm.trans (h1.trans h.code))
    subst hcc
    have hlen : len₂ = len := by rw [hdg] at hd₂; cases hd₂; rfl
    subst hlen
    have hs₂ : s₂ = (({ U with heap := s₂.heap, slotsUsed := s₂.slotsUsed } : State).setVm s₂.vm).setTop { g with pc := g.pc + len₂, stack := v.toList ++ g.stack } := by
      refine e3.trans ?_
      rw [hf₂, State.calling_eq h.top, State.setFrames_setFrames, State.setTop_of_frames _ hr', hr]
      rfl
    have hsame : U.sameButNew ({ U with heap := s₂.heap, slotsUsed := s₂.slotsUsed } : State) L mc ms := by
      refine ⟨?_, q2, q3, q4, q5, q6⟩
      obtain ⟨t, ht, -⟩ := State.frames_cons hr
      show ({ U with heap := s₂.heap, slotsUsed := s₂.slotsUsed } : State) = { U.setFrames U.frames with heap := s₂.heap, slotsUsed := s₂.slotsUsed }
      rw [State.setFrames_self ht]
    subst hg
    refine Or.inl ⟨v, ⟨(({ U with heap := s₂.heap, slotsUsed := s₂.slotsUsed } : State).setVm s₂.vm), Ls ++ L, c0 + mc, s0 + ms⟩,
      ⟨X.admits, X.cas, X.clock, X.frames, X.room, X.hears, X.method, X.code, (X.here.setHeapUsed s₂.heap s₂.slotsUsed).setVm hW'.alike, X.tail, State.WarmedH.trans X.warmed hW', X.limits, X.bytes, X.same.trans (hsame.setVm s.vm)⟩,
      ⟨g, mk, s₂, L, rfl, rfl, hqc, rfl, hL, rfl, rfl⟩, ?_⟩
    show Steps p.tables e below _ ((({ U with heap := s₂.heap, slotsUsed := s₂.slotsUsed } : State).setVm s₂.vm).setTop { g with pc := g.pc + len₂, stack := v.toList ++ g.stack })
    rw [← hs₂]
    exact hsteps
  · obtain ⟨e2, q2, q3, q4, q5, q6⟩ := id hsm
    have e3 : s₂ = ({ (U.calling g mk a).setFrames s₂.frames with heap := s₂.heap, slotsUsed := s₂.slotsUsed } : State).setVm s₂.vm := by
      have : s₂ = ({ s₂ with vm := (U.calling g mk a).vm } : State).setVm s₂.vm := rfl
      rw [e2] at this
      exact this
    have hf₂ : s₂.frames = .throwing q :: .java g :: U.frames.tail := hend
    have hW' : U.WarmedH s₂.vm := hW₂
    have hs₂ : s₂ = ((({ U with heap := s₂.heap, slotsUsed := s₂.slotsUsed } : State).setVm s₂.vm).setTop g).pushFrame (.throwing q) := by
      refine e3.trans ?_
      rw [hf₂, State.calling_eq h.top, State.setFrames_setFrames, State.pushFrame, State.frames_setTop _ hr', State.setTop_of_frames _ hr', State.setFrames_setFrames, hr]
      rfl
    have hsame : U.sameButNew ({ U with heap := s₂.heap, slotsUsed := s₂.slotsUsed } : State) L mc ms := by
      refine ⟨?_, q2, q3, q4, q5, q6⟩
      obtain ⟨t, ht, -⟩ := State.frames_cons hr
      show ({ U with heap := s₂.heap, slotsUsed := s₂.slotsUsed } : State) = { U.setFrames U.frames with heap := s₂.heap, slotsUsed := s₂.slotsUsed }
      rw [State.setFrames_self ht]
    subst hg
    refine Or.inr ⟨q, ⟨(({ U with heap := s₂.heap, slotsUsed := s₂.slotsUsed } : State).setVm s₂.vm), Ls ++ L, c0 + mc, s0 + ms⟩,
      ⟨X.admits, X.cas, X.clock, X.frames, X.room, X.hears, X.method, X.code, (X.here.setHeapUsed s₂.heap s₂.slotsUsed).setVm hW'.alike, X.tail, State.WarmedH.trans X.warmed hW', X.limits, X.bytes, X.same.trans (hsame.setVm s.vm)⟩,
      ⟨g, mk, s₂, L, E, ce, rfl, rfl, hx, hce, hcv, hcl, rfl, hL, rfl, rfl⟩, ?_⟩
    show Steps p.tables e below _ (((({ U with heap := s₂.heap, slotsUsed := s₂.slotsUsed } : State).setVm s₂.vm).setTop g).pushFrame (.throwing q))
    rw [← hs₂]
    exact hsteps
end
variable {p : Program} {l : Launch} {e : Env} {R : Room} {s : State} {m : MethodId} {args : Array Value} {below : List Frame} {meth : Method} {c : Code} {T : State} {H : Heap} {locs : List Loc} {cells slots : Nat}
theorem vx_callVX (X : Stand p l e R s m args below meth c T locs cells slots) (hexec : p.tables.exec = Jvm.exec) {own C : String} {index : Nat} {y : MethodName} {bytes : ByteArray} {maxL : Nat} {ret : Option FieldType} {hh : List (Nat × Nat × Nat × Nat)}
    (hown : s.vm.findClass own = some m.cls) (hlink : (Cond.methodLink own index y).before args s = true) (hinst : (Cond.instanceMethod y).before args s = true) (hsel : (Cond.selects C y y).before args s = true)
    (hcode : (Cond.codeWith y bytes maxL ret hh).before args s = true) (hy : y.cls ≠ "java/lang/invoke/MethodHandle" ∧ y.cls ≠ "java/lang/invoke/VarHandle")
    {W9 : Nat} {Pre : Pt → Array Value → Prop} {Post : Pt → Array Value → Option Value → Pt → Prop} {PostX : Pt → Array Value → Addr → Pt → Prop} (hK : vx_Back l R p e below s args y 3 W9 Pre Post PostX)
    {b : Addr} {cellB : Cell} (hcell : T.heap[b]? = some cellB) (hobj : cellB.vm.isStatics = false) (hcls : s.vm.findClass C = some cellB.cls)
    {g : JFrame} (hg : g.method = m) (hsize : g.locals.size = c.maxLocals) {argsL rest : List Value} (hlen : ∀ sig, parseMethodDescriptor y.desc = some sig → argsL.length = sig.parameters.length)
    (hstack : g.stack = argsL.reverse ++ .ref b :: rest) (hW : 2 * g.monitorRoom + (rest.map fun v => v.category).sum ≤ W9) (hdg : decode c.code g.pc = .ok (.invokevirtual index, 3))
    (hpre : ∀ vm₁, s.WarmedH vm₁ → Pre ⟨T.setVm vm₁, locs, cells, slots⟩ (Value.ref b :: argsL).toArray) :
    (∃ (v : Option Value) (vm₁ : Vm) (B : Pt), s.WarmedH vm₁ ∧ Stand p l e R s m args below meth c B.U B.locs B.cells B.slots ∧ Post ⟨T.setVm vm₁, locs, cells, slots⟩ (Value.ref b :: argsL).toArray v B ∧
      ∀ target, Steps p.tables e below (B.U.setTop { g with pc := g.pc + 3, stack := v.toList ++ rest }) target → Steps p.tables e below (T.setTop g) target) ∨
    (∃ (q : Addr) (vm₁ : Vm) (B : Pt), s.WarmedH vm₁ ∧ Stand p l e R s m args below meth c B.U B.locs B.cells B.slots ∧ PostX ⟨T.setVm vm₁, locs, cells, slots⟩ (Value.ref b :: argsL).toArray q B ∧
      Steps p.tables e below (T.setTop g) ((B.U.setTop { g with stack := rest }).pushFrame (.throwing q))) := by
  obtain ⟨mk, methM, hnamed, hmethM, hstM, habM⟩ := Cond.instanceMethod_spec hinst
  obtain ⟨m8, methM', cM, hn8, hmethM', -, -, -, -, -, -, hsigM⟩ := Cond.codeWith_spec hcode
  cases Option.some.inj (hn8.symm.trans hnamed)
  cases hmethM.symm.trans hmethM'
  obtain ⟨c2, r2, m2, q1, q2, q3, q4, kP, hkP, hkPi⟩ := Cond.selects_spec hsel
  cases hcls.symm.trans q1
  cases (State.methodFound?_of_named hnamed hy).symm.trans q2
  cases hnamed.symm.trans q3
  have hselP : selectMethod e.platform s.vm cellB.cls mk = .method mk := by rw [Launch.admits_selectMethod X.admits]; exact q4
  obtain ⟨vm₁, X₁, hstep₁⟩ := X.invokevirtual hexec hown hlink hnamed hmethM hstM hkP hkPi hy (a := b) (cell := cellB) hcell
    (fun z h => by rw [h] at hobj; cases hobj) hselP hmethM habM hkP hkPi (g := g) hg (argsL := argsL) (rest := rest) (hlen _ hsigM) hstack hdg
  rcases hK m meth c ⟨T.setVm vm₁, locs, cells, slots⟩ { g with stack := rest } (.invokevirtual index) mk (Value.ref b :: argsL).toArray X₁ hg hsize hdg hW (X₁.named hnamed) (hpre vm₁ X₁.warmed) with ⟨v, B, X', hpost, hsteps⟩ | ⟨q, B, X', hpost, hsteps⟩
  · exact Or.inl ⟨v, vm₁, B, X₁.warmed, X', hpost, fun target h => hstep₁ _ fun acts => by rw [doInvoke_state]; exact hsteps.trans h⟩
  · exact Or.inr ⟨q, vm₁, B, X₁.warmed, X', hpost, hstep₁ _ fun acts => by rw [doInvoke_state]; exact hsteps⟩
theorem vx_callSX (X : Stand p l e R s m args below meth c T locs cells slots) (hexec : p.tables.exec = Jvm.exec) {own : String} {index : Nat} {y : MethodName} {bytes : ByteArray} {maxL : Nat} {ret : Option FieldType} {hh : List (Nat × Nat × Nat × Nat)}
    (hown : s.vm.findClass own = some m.cls) (hlink : (Cond.methodLink own index y).before args s = true) (hstat : (Cond.static y).before args s = true) (hinit : (Cond.initialized y.cls).before args s = true)
    (hcode : (Cond.codeWith y bytes maxL ret hh).before args s = true) (hy : y.cls ≠ "java/lang/invoke/MethodHandle" ∧ y.cls ≠ "java/lang/invoke/VarHandle")
    {W9 : Nat} {Pre : Pt → Array Value → Prop} {Post : Pt → Array Value → Option Value → Pt → Prop} {PostX : Pt → Array Value → Addr → Pt → Prop} (hK : vx_Back l R p e below s args y 3 W9 Pre Post PostX)
    {g : JFrame} (hg : g.method = m) (hsize : g.locals.size = c.maxLocals) {argsL rest : List Value} (hlen : ∀ sig, parseMethodDescriptor y.desc = some sig → argsL.length = sig.parameters.length)
    (hstack : g.stack = argsL.reverse ++ rest) (hW : 2 * g.monitorRoom + (rest.map fun v => v.category).sum ≤ W9) (hdg : decode c.code g.pc = .ok (.invokestatic index, 3))
    (hpre : ∀ vm₁, s.WarmedH vm₁ → Pre ⟨T.setVm vm₁, locs, cells, slots⟩ argsL.toArray) :
    (∃ (v : Option Value) (vm₁ : Vm) (B : Pt), s.WarmedH vm₁ ∧ Stand p l e R s m args below meth c B.U B.locs B.cells B.slots ∧ Post ⟨T.setVm vm₁, locs, cells, slots⟩ argsL.toArray v B ∧
      ∀ target, Steps p.tables e below (B.U.setTop { g with pc := g.pc + 3, stack := v.toList ++ rest }) target → Steps p.tables e below (T.setTop g) target) ∨
    (∃ (q : Addr) (vm₁ : Vm) (B : Pt), s.WarmedH vm₁ ∧ Stand p l e R s m args below meth c B.U B.locs B.cells B.slots ∧ PostX ⟨T.setVm vm₁, locs, cells, slots⟩ argsL.toArray q B ∧
      Steps p.tables e below (T.setTop g) ((B.U.setTop { g with stack := rest }).pushFrame (.throwing q))) := by
  obtain ⟨mk, methM, cM, hnamed, hmethM, -, -, -, -, -, -, hsigM⟩ := Cond.codeWith_spec hcode
  have hstatic : methM.isStatic = true := Cond.static_spec hnamed hmethM hstat
  obtain ⟨kP, hkP, -⟩ := className_of_methodNamed hnamed
  have hinitP : kP.init = .initialized := Cond.initialized_spec (findClass_of_methodNamed hnamed) hkP hinit
  obtain ⟨vm₁, X₁, hstep₁⟩ := X.invokestatic hexec hown hlink hnamed hmethM hstatic hkP hinitP hy (g := g) hg (argsL := argsL) (rest := rest) (hlen _ hsigM) hstack hdg
  rcases hK m meth c ⟨T.setVm vm₁, locs, cells, slots⟩ { g with stack := rest } (.invokestatic index) mk argsL.toArray X₁ hg hsize hdg hW (X₁.named hnamed) (hpre vm₁ X₁.warmed) with ⟨v, B, X', hpost, hsteps⟩ | ⟨q, B, X', hpost, hsteps⟩
  · exact Or.inl ⟨v, vm₁, B, X₁.warmed, X', hpost, fun target h => hstep₁ _ fun acts => by rw [doInvoke_state]; exact hsteps.trans h⟩
  · exact Or.inr ⟨q, vm₁, B, X₁.warmed, X', hpost, hstep₁ _ fun acts => by rw [doInvoke_state]; exact hsteps⟩
theorem vx_callVW (X : Stand p l e R s m args below meth c T locs cells slots) (hexec : p.tables.exec = Jvm.exec) {own C : String} {index : Nat} {y : MethodName} {bytes : ByteArray} {maxL : Nat} {ret : Option FieldType} {hh : List (Nat × Nat × Nat × Nat)}
    (hown : s.vm.findClass own = some m.cls) (hlink : (Cond.methodLink own index y).before args s = true) (hinst : (Cond.instanceMethod y).before args s = true) (hsel : (Cond.selects C y y).before args s = true)
    (hcode : (Cond.codeWith y bytes maxL ret hh).before args s = true) (hy : y.cls ≠ "java/lang/invoke/MethodHandle" ∧ y.cls ≠ "java/lang/invoke/VarHandle")
    {W9 : Nat} {Pre : Pt → Array Value → Prop} {Post : Pt → Array Value → Option Value → Pt → Prop} (hK : Back l R p e below s args y 3 W9 Pre Post)
    {b : Addr} {cellB : Cell} (hcell : T.heap[b]? = some cellB) (hobj : cellB.vm.isStatics = false) (hcls : s.vm.findClass C = some cellB.cls)
    {g : JFrame} (hg : g.method = m) (hsize : g.locals.size = c.maxLocals) {argsL rest : List Value} (hlen : ∀ sig, parseMethodDescriptor y.desc = some sig → argsL.length = sig.parameters.length)
    (hstack : g.stack = argsL.reverse ++ .ref b :: rest) (hW : 2 * g.monitorRoom + (rest.map fun v => v.category).sum ≤ W9) (hdg : decode c.code g.pc = .ok (.invokevirtual index, 3))
    (hpre : ∀ vm₁, s.WarmedH vm₁ → Pre ⟨T.setVm vm₁, locs, cells, slots⟩ (Value.ref b :: argsL).toArray) :
    ∃ (v : Option Value) (vm₁ : Vm) (B : Pt), s.WarmedH vm₁ ∧ Stand p l e R s m args below meth c B.U B.locs B.cells B.slots ∧ Post ⟨T.setVm vm₁, locs, cells, slots⟩ (Value.ref b :: argsL).toArray v B ∧
      ∀ target, Steps p.tables e below (B.U.setTop { g with pc := g.pc + 3, stack := v.toList ++ rest }) target → Steps p.tables e below (T.setTop g) target := by
  obtain ⟨mk, methM, hnamed, hmethM, hstM, habM⟩ := Cond.instanceMethod_spec hinst
  obtain ⟨m8, methM', cM, hn8, hmethM', -, -, -, -, -, -, hsigM⟩ := Cond.codeWith_spec hcode
  cases Option.some.inj (hn8.symm.trans hnamed)
  cases hmethM.symm.trans hmethM'
  obtain ⟨c2, r2, m2, q1, q2, q3, q4, kP, hkP, hkPi⟩ := Cond.selects_spec hsel
  cases hcls.symm.trans q1
  cases (State.methodFound?_of_named hnamed hy).symm.trans q2
  cases hnamed.symm.trans q3
  have hselP : selectMethod e.platform s.vm cellB.cls mk = .method mk := by rw [Launch.admits_selectMethod X.admits]; exact q4
  obtain ⟨vm₁, X₁, hstep₁⟩ := X.invokevirtual hexec hown hlink hnamed hmethM hstM hkP hkPi hy (a := b) (cell := cellB) hcell
    (fun z h => by rw [h] at hobj; cases hobj) hselP hmethM habM hkP hkPi (g := g) hg (argsL := argsL) (rest := rest) (hlen _ hsigM) hstack hdg
  obtain ⟨v, B, X', hpost, hsteps⟩ := hK m meth c ⟨T.setVm vm₁, locs, cells, slots⟩ { g with stack := rest } (.invokevirtual index) mk (Value.ref b :: argsL).toArray X₁ hg hsize hdg hW (X₁.named hnamed) (hpre vm₁ X₁.warmed)
  exact ⟨v, vm₁, B, X₁.warmed, X', hpost, fun target h => hstep₁ _ fun acts => by rw [doInvoke_state]; exact hsteps.trans h⟩
abbrev vx_CVW (R : Room) (s : State) (args : Array Value) (own C : String) (index : Nat) (y : MethodName) (bytes : ByteArray) (maxL : Nat) (ret : Option FieldType) (hh : List (Nat × Nat × Nat × Nat)) (ws : List Cond) (rm : Room) (mc ms n : Nat) : Prop :=
  (rm.cells = mc ∧ rm.slots = ms ∧ rm.frames + 1 ≤ R.frames ∧ 8 + (maxL + 11) + rm.locals ≤ R.locals ∧ (∀ w ∈ ws, ∀ (a' : Array Value) (U : State), s.WarmedH U.vm → w.before a' U = true) ∧ Cond.codeWith y bytes maxL ret hh ∈ ws) ∧
  (Cond.codeWith y bytes maxL ret hh).before args s = true ∧ (Cond.initialized y.cls).before args s = true ∧ (y.cls ≠ "java/lang/invoke/MethodHandle" ∧ y.cls ≠ "java/lang/invoke/VarHandle") ∧
  (∀ sig, parseMethodDescriptor y.desc = some sig → n = sig.parameters.length) ∧ (Cond.methodLink own index y).before args s = true ∧ (Cond.instanceMethod y).before args s = true ∧ (Cond.selects C y y).before args s = true
theorem vx_cwVW {own C : String} {index maxL mc ms : Nat} {y : MethodName} {bytes : ByteArray} {ret : Option FieldType} {hh : List (Nat × Nat × Nat × Nat)} {Ts ws ws' : List Cond} {rm : Room} (n : Nat) (ht : ∀ w ∈ Ts, w.before args s = true) (hT : GoodIn Ts (wsV own index C y ws)) (hw : ws = Cond.codeWith y bytes maxL ret hh :: ws') (hrc : rm.cells = mc) (hrs : rm.slots = ms)
    (hd : y.cls = C ∧ y.cls ≠ "java/lang/invoke/MethodHandle" ∧ y.cls ≠ "java/lang/invoke/VarHandle" ∧ (parseMethodDescriptor y.desc).map (fun d => d.parameters.length) = some n) (hR : rm.frames + 1 ≤ R.frames ∧ 8 + (maxL + 11) + rm.locals ≤ R.locals) :
    vx_CVW R s args own C index y bytes maxL ret hh ws rm mc ms n := by
  obtain ⟨hC, hd⟩ := hd
  subst hC
  have ok : ∀ w ∈ wsV own index y.cls y ws, w.before args s = true := fun w h => ht w (hT w h).1
  have hG : GoodIn Ts ws := fun w h => hT w (by unfold wsV; exact List.mem_append_right _ h)
  have hc : Cond.codeWith y bytes maxL ret hh ∈ ws := by rw [hw]; exact List.mem_cons_self
  refine ⟨⟨hrc, hrs, hR.1, hR.2, pay_in ht hG, hc⟩, ht _ (hG _ hc).1, ok _ (by simp [wsV]), ⟨hd.1, hd.2.1⟩, fun sig h => ?_, ok _ (by simp [wsV]), ok _ (by simp [wsV]), ok _ (by simp [wsV])⟩
  have h2 := hd.2.2
  rw [h] at h2
  exact (Option.some.inj h2).symm
theorem vx_runVW {y : MethodName} {bytes cc : ByteArray} {maxL nL mc ms n index : Nat} {ret : Option FieldType} {hh : List (Nat × Nat × Nat × Nat)} {ws : List Cond} {rm : Room} {Pc : Array Value → State → Prop} {Qc : Array Value → State → Outcome → State → Prop} {free : Addr → Prop} {Ts : List Cond} {own C : String} {b : Addr} {As rest : List Value} {g : JFrame}
    (S : CallFix p m c cc nL s args Ts own) (hM : Met l y ws rm Pc Qc mc ms free) (cw : vx_CVW R s args own C index y bytes maxL ret hh ws rm mc ms n) (hp : PreV s H C b Pc As)
    (hg : g.method = m) (hn : As.length = n) (hsize : g.locals.size = nL) (hstack : g.stack = As.reverse ++ .ref b :: rest) (hW : 2 * g.monitorRoom + (rest.map fun v => v.category).sum ≤ 8) (hdg : decode cc g.pc = .ok (.invokevirtual index, 3)) (hf : cells + mc ≤ R.cells ∧ slots + ms ≤ R.slots) :
    va_Run p l e R s m args below meth c H locs cells slots mc ms g rest (Qc (Value.ref b :: As).toArray) free := by
  obtain ⟨⟨hrc, hrs, hfr, hlo, hws, hcw⟩, hcode, hini, hy, hlen, hl, hin, hse⟩ := cw
  have hK : Back l R p e below s args y 3 8 (PreOf R mc ms Pc) (PostOf Qc mc ms free) := va_backW (hh := hh) (bytes := bytes) (maxL := maxL) (ret := ret) hM hp.1 hrc hrs hfr hlo hws hcw (fun a' U hW => word_at hW (Or.inl (by first | rfl | simp [Cond.onTables, Cond.keeps, Cond.steady])) hini)
  obtain ⟨hx, hb, hml, ho, -⟩ := S
  obtain ⟨-, ⟨cellB, hcB, hoB, hclB⟩, hPc⟩ := hp
  intro T hT X
  obtain ⟨v, vm₁, ⟨U', l2, c2, s2⟩, hW₁, X', ⟨g', mk, t, L, e1, e2, hq, h1, hL, h2, h3⟩, st⟩ := vx_callVW X hx (C := C) (hh := hh) (bytes := bytes) (maxL := maxL) (ret := ret) ho hl hin hse hcode hy hK (by rw [hT]; exact hcB) hoB hclB hg (hsize.trans hml.symm) (argsL := As) (rest := rest) (fun sig h => hn.trans (hlen sig h)) hstack hW (by rw [hb]; exact hdg)
    (fun vm₁ hW₁ => ⟨hf.1, hf.2, hPc (T.setVm vm₁) hT hW₁⟩)
  dsimp only [Pt.U, Pt.locs, Pt.cells, Pt.slots] at X' e1 e2 h1 h2 h3 st
  subst h1; subst h2; subst h3
  exact ⟨v, (T.setVm vm₁).calling g' mk (Value.ref b :: As).toArray, t, U', L, hT, X', hL, e1, e2, hq, st⟩
section
variable {y : MethodName} {bytes cc : ByteArray} {maxL nL mc ms n index : Nat} {ret : Option FieldType} {ws : List Cond} {rm : Room} {Pc : Array Value → State → Prop} {Qc : Array Value → State → Outcome → State → Prop} {XC : String → State → State → Prop} {free : Addr → Prop} {Ts : List Cond} {own C : String} {b : Addr} {As rest : List Value} {g : JFrame}
theorem vx_runVX {hh : List (Nat × Nat × Nat × Nat)} (S : CallFix p m c cc nL s args Ts own) (hM : vx_Met l y ws rm Pc Qc XC mc ms free) (cw : vx_CVW R s args own C index y bytes maxL ret hh ws rm mc ms n) (hp : PreV s H C b Pc As)
    (hg : g.method = m) (hn : As.length = n) (hsize : g.locals.size = nL) (hstack : g.stack = As.reverse ++ .ref b :: rest) (hW : 2 * g.monitorRoom + (rest.map fun v => v.category).sum ≤ 8) (hdg : decode cc g.pc = .ok (.invokevirtual index, 3)) (hf : cells + mc ≤ R.cells ∧ slots + ms ≤ R.slots) :
    vx_Run p l e R s m args below meth c H locs cells slots mc ms g rest (Qc (Value.ref b :: As).toArray) XC free := by
  obtain ⟨⟨hrc, hrs, hfr, hlo, hws, hcw⟩, hcode, hini, hy, hlen, hl, hin, hse⟩ := cw
  have hK : vx_Back l R p e below s args y 3 8 (PreOf R mc ms Pc) (PostOf Qc mc ms free) (vx_Post XC mc ms free) := vx_backW (hh := hh) (bytes := bytes) (maxL := maxL) (ret := ret) hM hp.1 hrc hrs hfr hlo hws hcw (fun a' U hW => word_at hW (Or.inl (by first | rfl | simp [Cond.onTables, Cond.keeps, Cond.steady])) hini)
  obtain ⟨hx, hb, hml, ho, -⟩ := S
  obtain ⟨-, ⟨cellB, hcB, hoB, hclB⟩, hPc⟩ := hp
  intro T hT X
  rcases vx_callVX X hx (C := C) (hh := hh) (bytes := bytes) (maxL := maxL) (ret := ret) ho hl hin hse hcode hy hK (by rw [hT]; exact hcB) hoB hclB hg (hsize.trans hml.symm) (argsL := As) (rest := rest) (fun sig h => hn.trans (hlen sig h)) hstack hW (by rw [hb]; exact hdg)
    (fun vm₁ hW₁ => ⟨hf.1, hf.2, hPc (T.setVm vm₁) hT hW₁⟩) with ⟨v, vm₁, ⟨U', l2, c2, s2⟩, hW₁, X', ⟨g', mk, t, L, e1, e2, hq, h1, hL, h2, h3⟩, st⟩ | ⟨q, vm₁, ⟨U', l2, c2, s2⟩, hW₁, X', ⟨g', mk, t, L, E, ce, e1, e2, hq, hce, hcv, hcl, h1, hL, h2, h3⟩, st⟩
  · dsimp only [Pt.U, Pt.locs, Pt.cells, Pt.slots] at X' e1 e2 h1 h2 h3 st
    subst h1; subst h2; subst h3
    exact Or.inl ⟨v, (T.setVm vm₁).calling g' mk (Value.ref b :: As).toArray, t, U', L, hT, X', hL, e1, e2, hq, st⟩
  · dsimp only [Pt.U, Pt.locs, Pt.cells, Pt.slots] at X' e1 e2 h1 h2 h3 st hcl
    subst h1; subst h2; subst h3
    exact Or.inr ⟨q, (T.setVm vm₁).calling g' mk (Value.ref b :: As).toArray, t, U', L, E, ce, hT, X', hL, e1, e2, hq, hce, hcv, vx_cls hW₁ hcl, st⟩
theorem vx_runSX {hh : List (Nat × Nat × Nat × Nat)} (S : CallFix p m c cc nL s args Ts own) (hM : vx_Met l y ws rm Pc Qc XC mc ms free) (cw : vx_CSW R s args own index y bytes maxL ret hh ws rm mc ms n) (hp : PreS s H Pc As)
    (hg : g.method = m) (hn : As.length = n) (hsize : g.locals.size = nL) (hstack : g.stack = As.reverse ++ rest) (hW : 2 * g.monitorRoom + (rest.map fun v => v.category).sum ≤ 8) (hdg : decode cc g.pc = .ok (.invokestatic index, 3)) (hf : cells + mc ≤ R.cells ∧ slots + ms ≤ R.slots) :
    vx_Run p l e R s m args below meth c H locs cells slots mc ms g rest (Qc As.toArray) XC free := by
  obtain ⟨⟨hrc, hrs, hfr, hlo, hws, hcw⟩, hcode, hini, hy, hlen, hl, hstt⟩ := cw
  have hK : vx_Back l R p e below s args y 3 8 (PreOf R mc ms Pc) (PostOf Qc mc ms free) (vx_Post XC mc ms free) := vx_backW (hh := hh) (bytes := bytes) (maxL := maxL) (ret := ret) hM hp.1 hrc hrs hfr hlo hws hcw (fun a' U hW => word_at hW (Or.inl (by first | rfl | simp [Cond.onTables, Cond.keeps, Cond.steady])) hini)
  obtain ⟨hx, hb, hml, ho, -⟩ := S
  intro T hT X
  rcases vx_callSX X hx (hh := hh) (bytes := bytes) (maxL := maxL) (ret := ret) ho hl hstt hini hcode hy hK hg (hsize.trans hml.symm) (argsL := As) (rest := rest) (fun sig h => hn.trans (hlen sig h)) hstack hW (by rw [hb]; exact hdg)
    (fun vm₁ hW₁ => ⟨hf.1, hf.2, hp.2 (T.setVm vm₁) hT hW₁⟩) with ⟨v, vm₁, ⟨U', l2, c2, s2⟩, hW₁, X', ⟨g', mk, t, L, e1, e2, hq, h1, hL, h2, h3⟩, st⟩ | ⟨q, vm₁, ⟨U', l2, c2, s2⟩, hW₁, X', ⟨g', mk, t, L, E, ce, e1, e2, hq, hce, hcv, hcl, h1, hL, h2, h3⟩, st⟩
  · dsimp only [Pt.U, Pt.locs, Pt.cells, Pt.slots] at X' e1 e2 h1 h2 h3 st
    subst h1; subst h2; subst h3
    exact Or.inl ⟨v, (T.setVm vm₁).calling g' mk As.toArray, t, U', L, hT, X', hL, e1, e2, hq, st⟩
  · dsimp only [Pt.U, Pt.locs, Pt.cells, Pt.slots] at X' e1 e2 h1 h2 h3 st hcl
    subst h1; subst h2; subst h3
    exact Or.inr ⟨q, (T.setVm vm₁).calling g' mk As.toArray, t, U', L, E, ce, hT, X', hL, e1, e2, hq, hce, hcv, vx_cls hW₁ hcl, st⟩
end
end VXH
theorem vx_ofWH {l : Launch} {y : MethodName} {ws ws' : List Cond} {rm : Room} {Pc : Array Value → State → Prop} {Qc : Array Value → State → Outcome → State → Prop} {XC : String → State → State → Prop} {mc ms : Nat} {free : Addr → Prop} {cc : ByteArray} {maxL : Nat} {ret : Option FieldType} {hh : List (Nat × Nat × Nat × Nat)}
    (hy : plainName y.cls = true) (hw : ws = Cond.codeWith y cc maxL ret hh :: ws')
    (body : ∀ p e s m args below meth c s₁, BodyLoose p l y (headSpec ws rm) cc maxL ret e s m args below meth c s₁ → c.maxLocals = maxL → Pc args s →
      W p l e (headSpec ws rm).room s m args below meth c s.heap [] 0 0 (vx_MQ below Qc XC args s mc ms free) (entryFrame m args maxL)) : vx_Met l y ws rm Pc Qc XC mc ms free := by
  refine MetFree.of_bodyS (code := cc) (maxLocals := maxL) (ret := ret) hy ?_ ?_
  · intro args s m h hn
    obtain ⟨m9, meth, c, hn9, h1, h2, h3, h4, -, h5, h6, -⟩ := Cond.codeWith_spec (atoms_spec (ws := ws) h _ (by rw [hw]; exact List.mem_cons_self))
    cases hn.symm.trans hn9
    exact ⟨meth, c, h1, h2, h3, h4, h5, h6⟩
  · intro p e s m args below meth c s₁ B hml hP _
    have hh0 : s₁.heap = s.heap := by rw [B.state]; rfl
    obtain ⟨t, a1, o, b1, b2, b3⟩ := body p e s m args below meth c s₁ B hml hP s₁ hh0 (Stand.of_body B)
    exact ⟨t, o, a1, b1, b2, b3⟩
/-! ===== END ===== -/

/-! ===== BEGIN printed: names, fields, word lists, decode rows ===== -/
def RX0 : String := "WellRights$Well"
def TX0 : u_T := fun k => match k with
  | 0 => ("WellRights$Well", "number", "I", true)
  | 1 => ("WellRights$Well", "layer", "I", true)
  | 2 => ("WellRights$Well", "place", "I", true)
  | 3 => ("WellRights$Well", "limit", "I", true)
  | 4 => ("WellRights$Well", "age", "I", true)
  | 5 => ("WellRights$Well", "right", "I", true)
  | 6 => ("WellRights$Well", "text", "Ljava/lang/String;", true)
  | 7 => ("WellRights$Well", "lentTo", "[I", true)
  | 8 => ("WellRights$Well", "level", "I", false)
  | 9 => ("WellRights$Well", "planned", "I", false)
  | 10 => ("WellRights$Well", "drew", "I", false)
  | 11 => ("WellRights$Well", "told", "I", false)
  | 12 => ("WellRights$Well", "meterWorks", "Z", false)
  | 13 => ("WellRights$Well", "power", "I", false)
  | 14 => ("WellRights$Well", "bank", "I", false)
  | _ => ("WellRights$Well", "fines", "I", false)
def tyX0 : Nat → FieldType := fun k => match k with
  | 0 => .int
  | 1 => .int
  | 2 => .int
  | 3 => .int
  | 4 => .int
  | 5 => .int
  | 6 => .object "java/lang/String"
  | 7 => .array .int
  | 8 => .int
  | 9 => .int
  | 10 => .int
  | 11 => .int
  | 12 => .boolean
  | 13 => .int
  | 14 => .int
  | _ => .int
abbrev wsX00 : List Cond := u_ws RX0 TX0 16
theorem nmX0 : ∀ a, a < 16 → ∀ b, b < 16 → a ≠ b → (TX0 a).2.1 ≠ (TX0 b).2.1 := by decide +kernel
theorem tyX0_ok : ∀ k, k < 16 → parseFieldDescriptor (TX0 k).2.2.1 = some (tyX0 k) := by decide +kernel
abbrev cX0_init : ByteArray := prog_2_method_1_code
def yX0_init : MethodName := ⟨RX0, "<init>", "(IIIIIII)V"⟩
abbrev cX0_textOf : ByteArray := prog_2_method_2_code
def yX0_textOf : MethodName := ⟨RX0, "textOf", "(III)Ljava/lang/String;"⟩
abbrev cX0_bit : ByteArray := prog_2_method_3_code
def yX0_bit : MethodName := ⟨RX0, "bit", "()I"⟩
abbrev cX0_isIn : ByteArray := prog_2_method_4_code
def yX0_isIn : MethodName := ⟨RX0, "isIn", "(I)Z"⟩
abbrev cX0_isOlderThan : ByteArray := prog_2_method_5_code
def yX0_isOlderThan : MethodName := ⟨RX0, "isOlderThan", "(LWellRights$Well;)Z"⟩
abbrev cX0_drawUnder : ByteArray := prog_2_method_6_code
def yX0_drawUnder : MethodName := ⟨RX0, "drawUnder", "(I)I"⟩
abbrev cX0_reachedFrom : ByteArray := prog_2_method_7_code
def yX0_reachedFrom : MethodName := ⟨RX0, "reachedFrom", "(II)I"⟩
def RX1 : String := "WellRights"
def TX1 : u_T := fun k => match k with
  | 0 => ("WellRights", "wells", "Ljava/util/ArrayList;", true)
  | 1 => ("WellRights", "recharges", "[I", true)
  | 2 => ("WellRights", "pondPlaces", "[I", true)
  | 3 => ("WellRights", "pondCount", "I", false)
  | 4 => ("WellRights", "fund", "I", false)
  | _ => ("WellRights", "years", "I", false)
def tyX1 : Nat → FieldType := fun k => match k with
  | 0 => .object "java/util/ArrayList"
  | 1 => .array .int
  | 2 => .array .int
  | 3 => .int
  | 4 => .int
  | _ => .int
abbrev wsX10 : List Cond := u_ws RX1 TX1 6
theorem nmX1 : ∀ a, a < 6 → ∀ b, b < 6 → a ≠ b → (TX1 a).2.1 ≠ (TX1 b).2.1 := by decide +kernel
theorem tyX1_ok : ∀ k, k < 6 → parseFieldDescriptor (TX1 k).2.2.1 = some (tyX1 k) := by decide +kernel
abbrev cX1_init : ByteArray := prog_1_method_1_code
def yX1_init : MethodName := ⟨RX1, "<init>", "()V"⟩
abbrev cX1_addWell : ByteArray := prog_1_method_2_code
def yX1_addWell : MethodName := ⟨RX1, "addWell", "(IIIIII)I"⟩
abbrev cX1_plan : ByteArray := prog_1_method_3_code
def yX1_plan : MethodName := ⟨RX1, "plan", "(II)I"⟩
abbrev cX1_setRecharge : ByteArray := prog_1_method_4_code
def yX1_setRecharge : MethodName := ⟨RX1, "setRecharge", "(II)I"⟩
abbrev cX1_reach : ByteArray := prog_1_method_5_code
def yX1_reach : MethodName := ⟨RX1, "reach", "(II)I"⟩
abbrev cX1_level : ByteArray := prog_1_method_6_code
def yX1_level : MethodName := ⟨RX1, "level", "(I)I"⟩
abbrev cX1_sign : ByteArray := prog_1_method_7_code
def yX1_sign : MethodName := ⟨RX1, "sign", "(II)C"⟩
abbrev cX1_year : ByteArray := prog_1_method_8_code
def yX1_year : MethodName := ⟨RX1, "year", "()I"⟩
abbrev cX1_years : ByteArray := prog_1_method_9_code
def yX1_years : MethodName := ⟨RX1, "years", "()I"⟩
abbrev cX1_wouldStop : ByteArray := prog_1_method_10_code
def yX1_wouldStop : MethodName := ⟨RX1, "wouldStop", "()I"⟩
abbrev cX1_drew : ByteArray := prog_1_method_11_code
def yX1_drew : MethodName := ⟨RX1, "drew", "(I)I"⟩
abbrev cX1_told : ByteArray := prog_1_method_12_code
def yX1_told : MethodName := ⟨RX1, "told", "(I)I"⟩
abbrev cX1_toggleMeter : ByteArray := prog_1_method_13_code
def yX1_toggleMeter : MethodName := ⟨RX1, "toggleMeter", "(I)Z"⟩
abbrev cX1_power : ByteArray := prog_1_method_14_code
def yX1_power : MethodName := ⟨RX1, "power", "(II)I"⟩
abbrev cX1_bank : ByteArray := prog_1_method_15_code
def yX1_bank : MethodName := ⟨RX1, "bank", "(I)I"⟩
abbrev cX1_lend : ByteArray := prog_1_method_16_code
def yX1_lend : MethodName := ⟨RX1, "lend", "(III)I"⟩
abbrev cX1_callBack : ByteArray := prog_1_method_17_code
def yX1_callBack : MethodName := ⟨RX1, "callBack", "(II)I"⟩
abbrev cX1_fines : ByteArray := prog_1_method_18_code
def yX1_fines : MethodName := ⟨RX1, "fines", "(I)I"⟩
abbrev cX1_fund : ByteArray := prog_1_method_19_code
def yX1_fund : MethodName := ⟨RX1, "fund", "()I"⟩
abbrev cX1_build : ByteArray := prog_1_method_20_code
def yX1_build : MethodName := ⟨RX1, "build", "(I)I"⟩
abbrev cX1_wellAt : ByteArray := prog_1_method_21_code
def yX1_wellAt : MethodName := ⟨RX1, "wellAt", "(I)LWellRights$Well;"⟩
abbrev cX1_requireLayer : ByteArray := prog_1_method_22_code
def yX1_requireLayer : MethodName := ⟨RX1, "requireLayer", "(I)V"⟩
abbrev cX1_requireWithin : ByteArray := prog_1_method_23_code
def yX1_requireWithin : MethodName := ⟨RX1, "requireWithin", "(III)V"⟩
abbrev cX1_requireDifferent : ByteArray := prog_1_method_24_code
def yX1_requireDifferent : MethodName := ⟨RX1, "requireDifferent", "(II)V"⟩
abbrev cX1_whoIsStopped : ByteArray := prog_1_method_25_code
def yX1_whoIsStopped : MethodName := ⟨RX1, "whoIsStopped", "()I"⟩
abbrev cX1_nextToStop : ByteArray := prog_1_method_26_code
def yX1_nextToStop : MethodName := ⟨RX1, "nextToStop", "(I)LWellRights$Well;"⟩
abbrev cX1_youngestDrawerOn : ByteArray := prog_1_method_27_code
def yX1_youngestDrawerOn : MethodName := ⟨RX1, "youngestDrawerOn", "(LWellRights$Well;I)LWellRights$Well;"⟩
abbrev cX1_levelBehind : ByteArray := prog_1_method_28_code
def yX1_levelBehind : MethodName := ⟨RX1, "levelBehind", "(LWellRights$Well;I)I"⟩
abbrev cX1_hundredths : ByteArray := prog_1_method_29_code
def yX1_hundredths : MethodName := ⟨RX1, "hundredths", "(II)I"⟩
abbrev cX1_shrinkBanks : ByteArray := prog_1_method_30_code
def yX1_shrinkBanks : MethodName := ⟨RX1, "shrinkBanks", "()V"⟩
abbrev cX1_drawWater : ByteArray := prog_1_method_31_code
def yX1_drawWater : MethodName := ⟨RX1, "drawWater", "(I)V"⟩
abbrev cX1_tellWater : ByteArray := prog_1_method_32_code
def yX1_tellWater : MethodName := ⟨RX1, "tellWater", "()V"⟩
abbrev cX1_meanOfWorkingMeters : ByteArray := prog_1_method_33_code
def yX1_meanOfWorkingMeters : MethodName := ⟨RX1, "meanOfWorkingMeters", "(I)I"⟩
abbrev cX1_settleRights : ByteArray := prog_1_method_34_code
def yX1_settleRights : MethodName := ⟨RX1, "settleRights", "(I)V"⟩
abbrev cX1_chargeAbove : ByteArray := prog_1_method_35_code
def yX1_chargeAbove : MethodName := ⟨RX1, "chargeAbove", "(LWellRights$Well;I)V"⟩
abbrev cX1_forgetPower : ByteArray := prog_1_method_36_code
def yX1_forgetPower : MethodName := ⟨RX1, "forgetPower", "()V"⟩
def RX2 : String := "WellRightsModel"
def TX2 : u_T := fun k => match k with
  | 0 => ("WellRightsModel", "thrown", "I", false)
  | 1 => ("WellRightsModel", "wells", "I", false)
  | 2 => ("WellRightsModel", "layer", "[I", true)
  | 3 => ("WellRightsModel", "place", "[I", true)
  | 4 => ("WellRightsModel", "level", "[I", true)
  | 5 => ("WellRightsModel", "limit", "[I", true)
  | 6 => ("WellRightsModel", "age", "[I", true)
  | 7 => ("WellRightsModel", "right", "[I", true)
  | 8 => ("WellRightsModel", "plans", "[I", true)
  | 9 => ("WellRightsModel", "fails", "[Z", true)
  | 10 => ("WellRightsModel", "power", "[I", true)
  | 11 => ("WellRightsModel", "bank", "[I", true)
  | 12 => ("WellRightsModel", "fines", "[I", true)
  | 13 => ("WellRightsModel", "drew", "[I", true)
  | 14 => ("WellRightsModel", "told", "[I", true)
  | 15 => ("WellRightsModel", "lent", "[I", true)
  | 16 => ("WellRightsModel", "recharge", "[I", true)
  | 17 => ("WellRightsModel", "ponds", "I", false)
  | 18 => ("WellRightsModel", "pond", "[I", true)
  | 19 => ("WellRightsModel", "fund", "I", false)
  | 20 => ("WellRightsModel", "years", "I", false)
  | 21 => ("WellRightsModel", "stopped", "[Z", true)
  | _ => ("WellRightsModel", "behind", "[I", true)
def tyX2 : Nat → FieldType := fun k => match k with
  | 0 => .int
  | 1 => .int
  | 2 => .array .int
  | 3 => .array .int
  | 4 => .array .int
  | 5 => .array .int
  | 6 => .array .int
  | 7 => .array .int
  | 8 => .array .int
  | 9 => .array .boolean
  | 10 => .array .int
  | 11 => .array .int
  | 12 => .array .int
  | 13 => .array .int
  | 14 => .array .int
  | 15 => .array .int
  | 16 => .array .int
  | 17 => .int
  | 18 => .array .int
  | 19 => .int
  | 20 => .int
  | 21 => .array .boolean
  | _ => .array .int
abbrev wsX20 : List Cond := u_ws RX2 TX2 23
theorem nmX2 : ∀ a, a < 23 → ∀ b, b < 23 → a ≠ b → (TX2 a).2.1 ≠ (TX2 b).2.1 := by decide +kernel
theorem tyX2_ok : ∀ k, k < 23 → parseFieldDescriptor (TX2 k).2.2.1 = some (tyX2 k) := by decide +kernel
abbrev cX2_init : ByteArray := prog_4_method_1_code
def yX2_init : MethodName := ⟨RX2, "<init>", "()V"⟩
abbrev cX2_thrown : ByteArray := prog_4_method_2_code
def yX2_thrown : MethodName := ⟨RX2, "thrown", "()I"⟩
abbrev cX2_refuses : ByteArray := prog_4_method_3_code
def yX2_refuses : MethodName := ⟨RX2, "refuses", "(I)I"⟩
abbrev cX2_in : ByteArray := prog_4_method_4_code
def yX2_in : MethodName := ⟨RX2, "in", "(III)Z"⟩
abbrev cX2_isWell : ByteArray := prog_4_method_5_code
def yX2_isWell : MethodName := ⟨RX2, "isWell", "(I)Z"⟩
abbrev cX2_isAsked : ByteArray := prog_4_method_6_code
def yX2_isAsked : MethodName := ⟨RX2, "isAsked", "(I)Z"⟩
abbrev cX2_addWell : ByteArray := prog_4_method_7_code
def yX2_addWell : MethodName := ⟨RX2, "addWell", "(IIIIII)I"⟩
abbrev cX2_plan : ByteArray := prog_4_method_8_code
def yX2_plan : MethodName := ⟨RX2, "plan", "(II)I"⟩
abbrev cX2_setRecharge : ByteArray := prog_4_method_9_code
def yX2_setRecharge : MethodName := ⟨RX2, "setRecharge", "(II)I"⟩
abbrev cX2_reaches : ByteArray := prog_4_method_10_code
def yX2_reaches : MethodName := ⟨RX2, "reaches", "(III)I"⟩
abbrev cX2_reach : ByteArray := prog_4_method_11_code
def yX2_reach : MethodName := ⟨RX2, "reach", "(II)I"⟩
abbrev cX2_level : ByteArray := prog_4_method_12_code
def yX2_level : MethodName := ⟨RX2, "level", "(I)I"⟩
abbrev cX2_sign : ByteArray := prog_4_method_13_code
def yX2_sign : MethodName := ⟨RX2, "sign", "(II)C"⟩
abbrev cX2_levels : ByteArray := prog_4_method_14_code
def yX2_levels : MethodName := ⟨RX2, "levels", "()V"⟩
abbrev cX2_isYounger : ByteArray := prog_4_method_15_code
def yX2_isYounger : MethodName := ⟨RX2, "isYounger", "(II)Z"⟩
abbrev cX2_youngest : ByteArray := prog_4_method_16_code
def yX2_youngest : MethodName := ⟨RX2, "youngest", "(I)I"⟩
abbrev cX2_stops : ByteArray := prog_4_method_17_code
def yX2_stops : MethodName := ⟨RX2, "stops", "()I"⟩
abbrev cX2_mean : ByteArray := prog_4_method_18_code
def yX2_mean : MethodName := ⟨RX2, "mean", "(I)I"⟩
abbrev cX2_pays : ByteArray := prog_4_method_19_code
def yX2_pays : MethodName := ⟨RX2, "pays", "(I)V"⟩
abbrev cX2_year : ByteArray := prog_4_method_20_code
def yX2_year : MethodName := ⟨RX2, "year", "()I"⟩
abbrev cX2_years : ByteArray := prog_4_method_21_code
def yX2_years : MethodName := ⟨RX2, "years", "()I"⟩
abbrev cX2_wouldStop : ByteArray := prog_4_method_22_code
def yX2_wouldStop : MethodName := ⟨RX2, "wouldStop", "()I"⟩
abbrev cX2_drew : ByteArray := prog_4_method_23_code
def yX2_drew : MethodName := ⟨RX2, "drew", "(I)I"⟩
abbrev cX2_told : ByteArray := prog_4_method_24_code
def yX2_told : MethodName := ⟨RX2, "told", "(I)I"⟩
abbrev cX2_toggleMeter : ByteArray := prog_4_method_25_code
def yX2_toggleMeter : MethodName := ⟨RX2, "toggleMeter", "(I)Z"⟩
abbrev cX2_power : ByteArray := prog_4_method_26_code
def yX2_power : MethodName := ⟨RX2, "power", "(II)I"⟩
abbrev cX2_bank : ByteArray := prog_4_method_27_code
def yX2_bank : MethodName := ⟨RX2, "bank", "(I)I"⟩
abbrev cX2_lend : ByteArray := prog_4_method_28_code
def yX2_lend : MethodName := ⟨RX2, "lend", "(III)I"⟩
abbrev cX2_callBack : ByteArray := prog_4_method_29_code
def yX2_callBack : MethodName := ⟨RX2, "callBack", "(II)I"⟩
abbrev cX2_fines : ByteArray := prog_4_method_30_code
def yX2_fines : MethodName := ⟨RX2, "fines", "(I)I"⟩
abbrev cX2_fund : ByteArray := prog_4_method_31_code
def yX2_fund : MethodName := ⟨RX2, "fund", "()I"⟩
abbrev cX2_build : ByteArray := prog_4_method_32_code
def yX2_build : MethodName := ⟨RX2, "build", "(I)I"⟩
def RJx145de : String := "java/io/Serializable"
def TJx145de : u_T := fun k => match k with
  | _ => ("", "", "", false)
def tyJx145de : Nat → FieldType := fun k => match k with
  | _ => .int
abbrev wsJx145de0 : List Cond := u_ws RJx145de TJx145de 0
theorem nmJx145de : ∀ a, a < 0 → ∀ b, b < 0 → a ≠ b → (TJx145de a).2.1 ≠ (TJx145de b).2.1 := by decide +kernel
theorem tyJx145de_ok : ∀ k, k < 0 → parseFieldDescriptor (TJx145de k).2.2.1 = some (tyJx145de k) := by decide +kernel
def RJ5 : String := "java/lang/AbstractStringBuilder"
def TJ5 : u_T := fun k => match k with
  | _ => ("", "", "", false)
def tyJ5 : Nat → FieldType := fun k => match k with
  | _ => .int
abbrev wsJ50 : List Cond := u_ws RJ5 TJ5 0
theorem nmJ5 : ∀ a, a < 0 → ∀ b, b < 0 → a ≠ b → (TJ5 a).2.1 ≠ (TJ5 b).2.1 := by decide +kernel
theorem tyJ5_ok : ∀ k, k < 0 → parseFieldDescriptor (TJ5 k).2.2.1 = some (tyJ5 k) := by decide +kernel
abbrev cJ5_init_d00df : ByteArray := prog_6_method_2_code
def yJ5_init_d00df : MethodName := ⟨RJ5, "<init>", "(I)V"⟩
abbrev cJ5_length_8abf5 : ByteArray := prog_6_method_6_code
def yJ5_length_8abf5 : MethodName := ⟨RJ5, "length", "()I"⟩
abbrev cJ5_ensureCapacityInternal_d00df : ByteArray := prog_6_method_9_code
def yJ5_ensureCapacityInternal_d00df : MethodName := ⟨RJ5, "ensureCapacityInternal", "(I)V"⟩
abbrev cJ5_newCapacity_0f7a4 : ByteArray := prog_6_method_10_code
def yJ5_newCapacity_0f7a4 : MethodName := ⟨RJ5, "newCapacity", "(I)I"⟩
abbrev cJ5_inflate_da8c8 : ByteArray := prog_6_method_11_code
def yJ5_inflate_da8c8 : MethodName := ⟨RJ5, "inflate", "()V"⟩
abbrev cJ5_append_cf1ce : ByteArray := prog_6_method_22_code
def yJ5_append_cf1ce : MethodName := ⟨RJ5, "append", "(Ljava/lang/String;)Ljava/lang/AbstractStringBuilder;"⟩
abbrev cJ5_appendNull_278bc : ByteArray := prog_6_method_26_code
def yJ5_appendNull_278bc : MethodName := ⟨RJ5, "appendNull", "()Ljava/lang/AbstractStringBuilder;"⟩
abbrev cJ5_append_3fe6f : ByteArray := prog_6_method_31_code
def yJ5_append_3fe6f : MethodName := ⟨RJ5, "append", "(C)Ljava/lang/AbstractStringBuilder;"⟩
abbrev cJ5_append_c97b9 : ByteArray := prog_6_method_32_code
def yJ5_append_c97b9 : MethodName := ⟨RJ5, "append", "(I)Ljava/lang/AbstractStringBuilder;"⟩
abbrev cJ5_getValue_6d5f1 : ByteArray := prog_6_method_64_code
def yJ5_getValue_6d5f1 : MethodName := ⟨RJ5, "getValue", "()[B"⟩
abbrev cJ5_isLatin1_aae02 : ByteArray := prog_6_method_68_code
def yJ5_isLatin1_aae02 : MethodName := ⟨RJ5, "isLatin1", "()Z"⟩
abbrev cJ5_inflateIfNeededFor_a7421 : ByteArray := prog_6_method_71_code
def yJ5_inflateIfNeededFor_a7421 : MethodName := ⟨RJ5, "inflateIfNeededFor", "(Ljava/lang/String;)V"⟩
abbrev cJ5_putStringAt_47b60 : ByteArray := prog_6_method_73_code
def yJ5_putStringAt_47b60 : MethodName := ⟨RJ5, "putStringAt", "(ILjava/lang/String;)V"⟩
def RJx2cfe8 : String := "java/lang/Appendable"
def TJx2cfe8 : u_T := fun k => match k with
  | _ => ("", "", "", false)
def tyJx2cfe8 : Nat → FieldType := fun k => match k with
  | _ => .int
abbrev wsJx2cfe80 : List Cond := u_ws RJx2cfe8 TJx2cfe8 0
theorem nmJx2cfe8 : ∀ a, a < 0 → ∀ b, b < 0 → a ≠ b → (TJx2cfe8 a).2.1 ≠ (TJx2cfe8 b).2.1 := by decide +kernel
theorem tyJx2cfe8_ok : ∀ k, k < 0 → parseFieldDescriptor (TJx2cfe8 k).2.2.1 = some (tyJx2cfe8 k) := by decide +kernel
def RJx9f9b0 : String := "java/lang/CharSequence"
def TJx9f9b0 : u_T := fun k => match k with
  | _ => ("", "", "", false)
def tyJx9f9b0 : Nat → FieldType := fun k => match k with
  | _ => .int
abbrev wsJx9f9b00 : List Cond := u_ws RJx9f9b0 TJx9f9b0 0
theorem nmJx9f9b0 : ∀ a, a < 0 → ∀ b, b < 0 → a ≠ b → (TJx9f9b0 a).2.1 ≠ (TJx9f9b0 b).2.1 := by decide +kernel
theorem tyJx9f9b0_ok : ∀ k, k < 0 → parseFieldDescriptor (TJx9f9b0 k).2.2.1 = some (tyJx9f9b0 k) := by decide +kernel
def RJx8e188 : String := "java/lang/Cloneable"
def TJx8e188 : u_T := fun k => match k with
  | _ => ("", "", "", false)
def tyJx8e188 : Nat → FieldType := fun k => match k with
  | _ => .int
abbrev wsJx8e1880 : List Cond := u_ws RJx8e188 TJx8e188 0
theorem nmJx8e188 : ∀ a, a < 0 → ∀ b, b < 0 → a ≠ b → (TJx8e188 a).2.1 ≠ (TJx8e188 b).2.1 := by decide +kernel
theorem tyJx8e188_ok : ∀ k, k < 0 → parseFieldDescriptor (TJx8e188 k).2.2.1 = some (tyJx8e188 k) := by decide +kernel
def RJxb160c : String := "java/lang/Comparable"
def TJxb160c : u_T := fun k => match k with
  | _ => ("", "", "", false)
def tyJxb160c : Nat → FieldType := fun k => match k with
  | _ => .int
abbrev wsJxb160c0 : List Cond := u_ws RJxb160c TJxb160c 0
theorem nmJxb160c : ∀ a, a < 0 → ∀ b, b < 0 → a ≠ b → (TJxb160c a).2.1 ≠ (TJxb160c b).2.1 := by decide +kernel
theorem tyJxb160c_ok : ∀ k, k < 0 → parseFieldDescriptor (TJxb160c k).2.2.1 = some (tyJxb160c k) := by decide +kernel
def RJ6 : String := "java/lang/Integer"
def TJ6 : u_T := fun k => match k with
  | _ => ("", "", "", false)
def tyJ6 : Nat → FieldType := fun k => match k with
  | _ => .int
abbrev wsJ60 : List Cond := u_ws RJ6 TJ6 0
theorem nmJ6 : ∀ a, a < 0 → ∀ b, b < 0 → a ≠ b → (TJ6 a).2.1 ≠ (TJ6 b).2.1 := by decide +kernel
theorem tyJ6_ok : ∀ k, k < 0 → parseFieldDescriptor (TJ6 k).2.2.1 = some (tyJ6 k) := by decide +kernel
abbrev cJ6_getChars_ba4f3 : ByteArray := prog_15_method_12_code
def yJ6_getChars_ba4f3 : MethodName := ⟨RJ6, "getChars", "(II[B)I"⟩
abbrev cJ6_stringSize_0f7a4 : ByteArray := prog_15_method_13_code
def yJ6_stringSize_0f7a4 : MethodName := ⟨RJ6, "stringSize", "(I)I"⟩
abbrev cJ6_bitCount_0f7a4 : ByteArray := prog_15_method_49_code
def yJ6_bitCount_0f7a4 : MethodName := ⟨RJ6, "bitCount", "(I)I"⟩
def RJxab1ab : String := "java/lang/Iterable"
def TJxab1ab : u_T := fun k => match k with
  | _ => ("", "", "", false)
def tyJxab1ab : Nat → FieldType := fun k => match k with
  | _ => .int
abbrev wsJxab1ab0 : List Cond := u_ws RJxab1ab TJxab1ab 0
theorem nmJxab1ab : ∀ a, a < 0 → ∀ b, b < 0 → a ≠ b → (TJxab1ab a).2.1 ≠ (TJxab1ab b).2.1 := by decide +kernel
theorem tyJxab1ab_ok : ∀ k, k < 0 → parseFieldDescriptor (TJxab1ab k).2.2.1 = some (tyJxab1ab k) := by decide +kernel
def RJ9 : String := "java/lang/Math"
def TJ9 : u_T := fun k => match k with
  | _ => ("", "", "", false)
def tyJ9 : Nat → FieldType := fun k => match k with
  | _ => .int
abbrev wsJ90 : List Cond := u_ws RJ9 TJ9 0
theorem nmJ9 : ∀ a, a < 0 → ∀ b, b < 0 → a ≠ b → (TJ9 a).2.1 ≠ (TJ9 b).2.1 := by decide +kernel
theorem tyJ9_ok : ∀ k, k < 0 → parseFieldDescriptor (TJ9 k).2.2.1 = some (tyJ9 k) := by decide +kernel
abbrev cJ9_abs_0f7a4 : ByteArray := prog_17_method_59_code
def yJ9_abs_0f7a4 : MethodName := ⟨RJ9, "abs", "(I)I"⟩
abbrev cJ9_max_7cf53 : ByteArray := prog_17_method_65_code
def yJ9_max_7cf53 : MethodName := ⟨RJ9, "max", "(II)I"⟩
abbrev cJ9_min_7cf53 : ByteArray := prog_17_method_69_code
def yJ9_min_7cf53 : MethodName := ⟨RJ9, "min", "(II)I"⟩
def RJxd2413 : String := "java/lang/Number"
def TJxd2413 : u_T := fun k => match k with
  | _ => ("", "", "", false)
def tyJxd2413 : Nat → FieldType := fun k => match k with
  | _ => .int
abbrev wsJxd24130 : List Cond := u_ws RJxd2413 TJxd2413 0
theorem nmJxd2413 : ∀ a, a < 0 → ∀ b, b < 0 → a ≠ b → (TJxd2413 a).2.1 ≠ (TJxd2413 b).2.1 := by decide +kernel
theorem tyJxd2413_ok : ∀ k, k < 0 → parseFieldDescriptor (TJxd2413 k).2.2.1 = some (tyJxd2413 k) := by decide +kernel
def RJ0 : String := "java/lang/String"
def TJ0 : u_T := fun k => match k with
  | 0 => ("java/lang/String", "value", "[B", true)
  | 1 => ("java/lang/String", "coder", "B", true)
  | 2 => ("java/lang/String", "hash", "I", false)
  | _ => ("java/lang/String", "hashIsZero", "Z", false)
def tyJ0 : Nat → FieldType := fun k => match k with
  | 0 => .array .byte
  | 1 => .byte
  | 2 => .int
  | _ => .boolean
abbrev wsJ00 : List Cond := u_ws RJ0 TJ0 4
theorem nmJ0 : ∀ a, a < 4 → ∀ b, b < 4 → a ≠ b → (TJ0 a).2.1 ≠ (TJ0 b).2.1 := by decide +kernel
theorem tyJ0_ok : ∀ k, k < 4 → parseFieldDescriptor (TJ0 k).2.2.1 = some (tyJ0 k) := by decide +kernel
abbrev cJ0_init_81219 : ByteArray := prog_20_method_53_code
def yJ0_init_81219 : MethodName := ⟨RJ0, "<init>", "(Ljava/lang/StringBuilder;)V"⟩
abbrev cJ0_length_8abf5 : ByteArray := prog_20_method_54_code
def yJ0_length_8abf5 : MethodName := ⟨RJ0, "length", "()I"⟩
abbrev cJ0_charAt_5068e : ByteArray := prog_20_method_56_code
def yJ0_charAt_5068e : MethodName := ⟨RJ0, "charAt", "(I)C"⟩
abbrev cJ0_getBytes_840e7 : ByteArray := prog_20_method_147_code
def yJ0_getBytes_840e7 : MethodName := ⟨RJ0, "getBytes", "([BIB)V"⟩
abbrev cJ0_init_db425 : ByteArray := prog_20_method_150_code
def yJ0_init_db425 : MethodName := ⟨RJ0, "<init>", "(Ljava/lang/AbstractStringBuilder;Ljava/lang/Void;)V"⟩
abbrev cJ0_coder_7d493 : ByteArray := prog_20_method_152_code
def yJ0_coder_7d493 : MethodName := ⟨RJ0, "coder", "()B"⟩
abbrev cJ0_isLatin1_aae02 : ByteArray := prog_20_method_154_code
def yJ0_isLatin1_aae02 : MethodName := ⟨RJ0, "isLatin1", "()Z"⟩
abbrev cJ0_checkIndex_df160 : ByteArray := prog_20_method_155_code
def yJ0_checkIndex_df160 : MethodName := ⟨RJ0, "checkIndex", "(II)V"⟩
abbrev cJ0_checkBoundsOffCount_cabcc : ByteArray := prog_20_method_157_code
def yJ0_checkBoundsOffCount_cabcc : MethodName := ⟨RJ0, "checkBoundsOffCount", "(III)I"⟩
abbrev cJ0_checkBoundsBeginEnd_23922 : ByteArray := prog_20_method_158_code
def yJ0_checkBoundsBeginEnd_23922 : MethodName := ⟨RJ0, "checkBoundsBeginEnd", "(III)V"⟩
def RJ4 : String := "java/lang/StringBuilder"
def TJ4 : u_T := fun k => match k with
  | 0 => ("java/lang/AbstractStringBuilder", "value", "[B", false)
  | 1 => ("java/lang/AbstractStringBuilder", "coder", "B", false)
  | 2 => ("java/lang/AbstractStringBuilder", "maybeLatin1", "Z", false)
  | _ => ("java/lang/AbstractStringBuilder", "count", "I", false)
def tyJ4 : Nat → FieldType := fun k => match k with
  | 0 => .array .byte
  | 1 => .byte
  | 2 => .boolean
  | _ => .int
abbrev wsJ40 : List Cond := u_ws RJ4 TJ4 4
theorem nmJ4 : ∀ a, a < 4 → ∀ b, b < 4 → a ≠ b → (TJ4 a).2.1 ≠ (TJ4 b).2.1 := by decide +kernel
theorem tyJ4_ok : ∀ k, k < 4 → parseFieldDescriptor (TJ4 k).2.2.1 = some (tyJ4 k) := by decide +kernel
abbrev cJ4_init_da8c8 : ByteArray := prog_21_method_1_code
def yJ4_init_da8c8 : MethodName := ⟨RJ4, "<init>", "()V"⟩
abbrev cJ4_append_15ec4 : ByteArray := prog_21_method_7_code
def yJ4_append_15ec4 : MethodName := ⟨RJ4, "append", "(Ljava/lang/String;)Ljava/lang/StringBuilder;"⟩
abbrev cJ4_append_cf468 : ByteArray := prog_21_method_14_code
def yJ4_append_cf468 : MethodName := ⟨RJ4, "append", "(C)Ljava/lang/StringBuilder;"⟩
abbrev cJ4_append_bf812 : ByteArray := prog_21_method_15_code
def yJ4_append_bf812 : MethodName := ⟨RJ4, "append", "(I)Ljava/lang/StringBuilder;"⟩
abbrev cJ4_toString_0e30d : ByteArray := prog_21_method_42_code
def yJ4_toString_0e30d : MethodName := ⟨RJ4, "toString", "()Ljava/lang/String;"⟩
abbrev cJ4_length_8abf5 : ByteArray := prog_21_method_93_code
def yJ4_length_8abf5 : MethodName := ⟨RJ4, "length", "()I"⟩
def RJ1 : String := "java/lang/StringLatin1"
def TJ1 : u_T := fun k => match k with
  | _ => ("", "", "", false)
def tyJ1 : Nat → FieldType := fun k => match k with
  | _ => .int
abbrev wsJ10 : List Cond := u_ws RJ1 TJ1 0
theorem nmJ1 : ∀ a, a < 0 → ∀ b, b < 0 → a ≠ b → (TJ1 a).2.1 ≠ (TJ1 b).2.1 := by decide +kernel
theorem tyJ1_ok : ∀ k, k < 0 → parseFieldDescriptor (TJ1 k).2.2.1 = some (tyJ1 k) := by decide +kernel
abbrev cJ1_charAt_3b067 : ByteArray := prog_22_method_2_code
def yJ1_charAt_3b067 : MethodName := ⟨RJ1, "charAt", "([BI)C"⟩
abbrev cJ1_canEncode_fc78d : ByteArray := prog_22_method_3_code
def yJ1_canEncode_fc78d : MethodName := ⟨RJ1, "canEncode", "(C)Z"⟩
abbrev cJ1_inflate_0e8fd : ByteArray := prog_22_method_50_code
def yJ1_inflate_0e8fd : MethodName := ⟨RJ1, "inflate", "([BI[BII)V"⟩
def RJ2 : String := "java/lang/StringUTF16"
def TJ2 : u_T := fun k => match k with
  | _ => ("", "", "", false)
def tyJ2 : Nat → FieldType := fun k => match k with
  | _ => .int
abbrev wsJ20 : List Cond := u_ws RJ2 TJ2 0
theorem nmJ2 : ∀ a, a < 0 → ∀ b, b < 0 → a ≠ b → (TJ2 a).2.1 ≠ (TJ2 b).2.1 := by decide +kernel
theorem tyJ2_ok : ∀ k, k < 0 → parseFieldDescriptor (TJ2 k).2.2.1 = some (tyJ2 k) := by decide +kernel
abbrev cJ2_newBytesFor_77867 : ByteArray := prog_23_method_2_code
def yJ2_newBytesFor_77867 : MethodName := ⟨RJ2, "newBytesFor", "(I)[B"⟩
abbrev cJ2_newBytesLength_0f7a4 : ByteArray := prog_23_method_3_code
def yJ2_newBytesLength_0f7a4 : MethodName := ⟨RJ2, "newBytesLength", "(I)I"⟩
abbrev cJ2_putChar_b72d1 : ByteArray := prog_23_method_4_code
def yJ2_putChar_b72d1 : MethodName := ⟨RJ2, "putChar", "([BII)V"⟩
abbrev cJ2_getChar_3b067 : ByteArray := prog_23_method_5_code
def yJ2_getChar_3b067 : MethodName := ⟨RJ2, "getChar", "([BI)C"⟩
abbrev cJ2_length_9d52b : ByteArray := prog_23_method_6_code
def yJ2_length_9d52b : MethodName := ⟨RJ2, "length", "([B)I"⟩
abbrev cJ2_coderFromArrayLen_85cad : ByteArray := prog_23_method_15_code
def yJ2_coderFromArrayLen_85cad : MethodName := ⟨RJ2, "coderFromArrayLen", "([BI)B"⟩
abbrev cJ2_compress_39247 : ByteArray := prog_23_method_17_code
def yJ2_compress_39247 : MethodName := ⟨RJ2, "compress", "([BII)[B"⟩
abbrev cJ2_compress_5af95 : ByteArray := prog_23_method_22_code
def yJ2_compress_5af95 : MethodName := ⟨RJ2, "compress", "([BI[BII)I"⟩
abbrev cJ2_putCharSB_b72d1 : ByteArray := prog_23_method_71_code
def yJ2_putCharSB_b72d1 : MethodName := ⟨RJ2, "putCharSB", "([BII)V"⟩
abbrev cJ2_getChars_46870 : ByteArray := prog_23_method_77_code
def yJ2_getChars_46870 : MethodName := ⟨RJ2, "getChars", "(III[B)I"⟩
abbrev cJ2_putCharsAt_cd4e5 : ByteArray := prog_23_method_81_code
def yJ2_putCharsAt_cd4e5 : MethodName := ⟨RJ2, "putCharsAt", "([BICCCC)I"⟩
abbrev cJ2_charAt_3b067 : ByteArray := prog_23_method_83_code
def yJ2_charAt_3b067 : MethodName := ⟨RJ2, "charAt", "([BI)C"⟩
abbrev cJ2_inflate_0e8fd : ByteArray := prog_23_method_86_code
def yJ2_inflate_0e8fd : MethodName := ⟨RJ2, "inflate", "([BI[BII)V"⟩
abbrev cJ2_getChars_ba4f3 : ByteArray := prog_23_method_89_code
def yJ2_getChars_ba4f3 : MethodName := ⟨RJ2, "getChars", "(II[B)I"⟩
abbrev cJ2_checkIndex_2214a : ByteArray := prog_23_method_91_code
def yJ2_checkIndex_2214a : MethodName := ⟨RJ2, "checkIndex", "(I[B)V"⟩
abbrev cJ2_checkBoundsBeginEnd_d044e : ByteArray := prog_23_method_93_code
def yJ2_checkBoundsBeginEnd_d044e : MethodName := ⟨RJ2, "checkBoundsBeginEnd", "(II[B)V"⟩
abbrev cJ2_checkBoundsOffCount_d044e : ByteArray := prog_23_method_94_code
def yJ2_checkBoundsOffCount_d044e : MethodName := ⟨RJ2, "checkBoundsOffCount", "(II[B)V"⟩
def RJ10 : String := "java/lang/System"
def TJ10 : u_T := fun k => match k with
  | _ => ("", "", "", false)
def tyJ10 : Nat → FieldType := fun k => match k with
  | _ => .int
abbrev wsJ100 : List Cond := u_ws RJ10 TJ10 0
theorem nmJ10 : ∀ a, a < 0 → ∀ b, b < 0 → a ≠ b → (TJ10 a).2.1 ≠ (TJ10 b).2.1 := by decide +kernel
theorem tyJ10_ok : ∀ k, k < 0 → parseFieldDescriptor (TJ10 k).2.2.1 = some (tyJ10 k) := by decide +kernel
def RJxfd54e : String := "java/lang/constant/Constable"
def TJxfd54e : u_T := fun k => match k with
  | _ => ("", "", "", false)
def tyJxfd54e : Nat → FieldType := fun k => match k with
  | _ => .int
abbrev wsJxfd54e0 : List Cond := u_ws RJxfd54e TJxfd54e 0
theorem nmJxfd54e : ∀ a, a < 0 → ∀ b, b < 0 → a ≠ b → (TJxfd54e a).2.1 ≠ (TJxfd54e b).2.1 := by decide +kernel
theorem tyJxfd54e_ok : ∀ k, k < 0 → parseFieldDescriptor (TJxfd54e k).2.2.1 = some (tyJxfd54e k) := by decide +kernel
def RJx3cf43 : String := "java/lang/constant/ConstantDesc"
def TJx3cf43 : u_T := fun k => match k with
  | _ => ("", "", "", false)
def tyJx3cf43 : Nat → FieldType := fun k => match k with
  | _ => .int
abbrev wsJx3cf430 : List Cond := u_ws RJx3cf43 TJx3cf43 0
theorem nmJx3cf43 : ∀ a, a < 0 → ∀ b, b < 0 → a ≠ b → (TJx3cf43 a).2.1 ≠ (TJx3cf43 b).2.1 := by decide +kernel
theorem tyJx3cf43_ok : ∀ k, k < 0 → parseFieldDescriptor (TJx3cf43 k).2.2.1 = some (tyJx3cf43 k) := by decide +kernel
def RJxa1e45 : String := "java/util/AbstractCollection"
def TJxa1e45 : u_T := fun k => match k with
  | _ => ("", "", "", false)
def tyJxa1e45 : Nat → FieldType := fun k => match k with
  | _ => .int
abbrev wsJxa1e450 : List Cond := u_ws RJxa1e45 TJxa1e45 0
theorem nmJxa1e45 : ∀ a, a < 0 → ∀ b, b < 0 → a ≠ b → (TJxa1e45 a).2.1 ≠ (TJxa1e45 b).2.1 := by decide +kernel
theorem tyJxa1e45_ok : ∀ k, k < 0 → parseFieldDescriptor (TJxa1e45 k).2.2.1 = some (tyJxa1e45 k) := by decide +kernel
abbrev cJxa1e45_init_da8c8 : ByteArray := prog_28_method_1_code
def yJxa1e45_init_da8c8 : MethodName := ⟨RJxa1e45, "<init>", "()V"⟩
def RJxc12de : String := "java/util/AbstractList"
def TJxc12de : u_T := fun k => match k with
  | _ => ("", "", "", false)
def tyJxc12de : Nat → FieldType := fun k => match k with
  | _ => .int
abbrev wsJxc12de0 : List Cond := u_ws RJxc12de TJxc12de 0
theorem nmJxc12de : ∀ a, a < 0 → ∀ b, b < 0 → a ≠ b → (TJxc12de a).2.1 ≠ (TJxc12de b).2.1 := by decide +kernel
theorem tyJxc12de_ok : ∀ k, k < 0 → parseFieldDescriptor (TJxc12de k).2.2.1 = some (tyJxc12de k) := by decide +kernel
abbrev cJxc12de_init_da8c8 : ByteArray := prog_29_method_1_code
def yJxc12de_init_da8c8 : MethodName := ⟨RJxc12de, "<init>", "()V"⟩
def RJx4a65c : String := "java/util/ArrayList"
def TJx4a65c : u_T := fun k => match k with
  | 0 => ("java/util/AbstractList", "modCount", "I", false)
  | 1 => ("java/util/ArrayList", "elementData", "[Ljava/lang/Object;", false)
  | _ => ("java/util/ArrayList", "size", "I", false)
def tyJx4a65c : Nat → FieldType := fun k => match k with
  | 0 => .int
  | 1 => .array (.object "java/lang/Object")
  | _ => .int
abbrev wsJx4a65c0 : List Cond := u_ws RJx4a65c TJx4a65c 3
theorem nmJx4a65c : ∀ a, a < 3 → ∀ b, b < 3 → a ≠ b → (TJx4a65c a).2.1 ≠ (TJx4a65c b).2.1 := by decide +kernel
theorem tyJx4a65c_ok : ∀ k, k < 3 → parseFieldDescriptor (TJx4a65c k).2.2.1 = some (tyJx4a65c k) := by decide +kernel
abbrev cJx4a65c_init_da8c8 : ByteArray := prog_30_method_2_code
def yJx4a65c_init_da8c8 : MethodName := ⟨RJx4a65c, "<init>", "()V"⟩
abbrev cJx4a65c_grow_92f84 : ByteArray := prog_30_method_6_code
def yJx4a65c_grow_92f84 : MethodName := ⟨RJx4a65c, "grow", "(I)[Ljava/lang/Object;"⟩
abbrev cJx4a65c_grow_d5877 : ByteArray := prog_30_method_7_code
def yJx4a65c_grow_d5877 : MethodName := ⟨RJx4a65c, "grow", "()[Ljava/lang/Object;"⟩
abbrev cJx4a65c_size_8abf5 : ByteArray := prog_30_method_8_code
def yJx4a65c_size_8abf5 : MethodName := ⟨RJx4a65c, "size", "()I"⟩
abbrev cJx4a65c_elementData_915e3 : ByteArray := prog_30_method_18_code
def yJx4a65c_elementData_915e3 : MethodName := ⟨RJx4a65c, "elementData", "(I)Ljava/lang/Object;"⟩
abbrev cJx4a65c_get_915e3 : ByteArray := prog_30_method_20_code
def yJx4a65c_get_915e3 : MethodName := ⟨RJx4a65c, "get", "(I)Ljava/lang/Object;"⟩
abbrev cJx4a65c_add_72be8 : ByteArray := prog_30_method_24_code
def yJx4a65c_add_72be8 : MethodName := ⟨RJx4a65c, "add", "(Ljava/lang/Object;[Ljava/lang/Object;I)V"⟩
abbrev cJx4a65c_add_9ea2d : ByteArray := prog_30_method_25_code
def yJx4a65c_add_9ea2d : MethodName := ⟨RJx4a65c, "add", "(Ljava/lang/Object;)Z"⟩
def RJ7 : String := "java/util/Arrays"
def TJ7 : u_T := fun k => match k with
  | _ => ("", "", "", false)
def tyJ7 : Nat → FieldType := fun k => match k with
  | _ => .int
abbrev wsJ70 : List Cond := u_ws RJ7 TJ7 0
theorem nmJ7 : ∀ a, a < 0 → ∀ b, b < 0 → a ≠ b → (TJ7 a).2.1 ≠ (TJ7 b).2.1 := by decide +kernel
theorem tyJ7_ok : ∀ k, k < 0 → parseFieldDescriptor (TJ7 k).2.2.1 = some (tyJ7 k) := by decide +kernel
abbrev cJ7_copyOf_1904c : ByteArray := prog_31_method_119_code
def yJ7_copyOf_1904c : MethodName := ⟨RJ7, "copyOf", "([Ljava/lang/Object;I)[Ljava/lang/Object;"⟩
abbrev cJ7_copyOf_6403c : ByteArray := prog_31_method_120_code
def yJ7_copyOf_6403c : MethodName := ⟨RJ7, "copyOf", "([Ljava/lang/Object;ILjava/lang/Class;)[Ljava/lang/Object;"⟩
abbrev cJ7_copyOf_9075b : ByteArray := prog_31_method_121_code
def yJ7_copyOf_9075b : MethodName := ⟨RJ7, "copyOf", "([BI)[B"⟩
abbrev cJ7_checkLength_df160 : ByteArray := prog_31_method_131_code
def yJ7_checkLength_df160 : MethodName := ⟨RJ7, "checkLength", "(II)V"⟩
abbrev cJ7_copyOfRange_39247 : ByteArray := prog_31_method_132_code
def yJ7_copyOfRange_39247 : MethodName := ⟨RJ7, "copyOfRange", "([BII)[B"⟩
abbrev cJ7_copyOfRangeByte_39247 : ByteArray := prog_31_method_133_code
def yJ7_copyOfRangeByte_39247 : MethodName := ⟨RJ7, "copyOfRangeByte", "([BII)[B"⟩
def RJx5ef63 : String := "java/util/Collection"
def TJx5ef63 : u_T := fun k => match k with
  | _ => ("", "", "", false)
def tyJx5ef63 : Nat → FieldType := fun k => match k with
  | _ => .int
abbrev wsJx5ef630 : List Cond := u_ws RJx5ef63 TJx5ef63 0
theorem nmJx5ef63 : ∀ a, a < 0 → ∀ b, b < 0 → a ≠ b → (TJx5ef63 a).2.1 ≠ (TJx5ef63 b).2.1 := by decide +kernel
theorem tyJx5ef63_ok : ∀ k, k < 0 → parseFieldDescriptor (TJx5ef63 k).2.2.1 = some (tyJx5ef63 k) := by decide +kernel
def RJxbd725 : String := "java/util/List"
def TJxbd725 : u_T := fun k => match k with
  | _ => ("", "", "", false)
def tyJxbd725 : Nat → FieldType := fun k => match k with
  | _ => .int
abbrev wsJxbd7250 : List Cond := u_ws RJxbd725 TJxbd725 0
theorem nmJxbd725 : ∀ a, a < 0 → ∀ b, b < 0 → a ≠ b → (TJxbd725 a).2.1 ≠ (TJxbd725 b).2.1 := by decide +kernel
theorem tyJxbd725_ok : ∀ k, k < 0 → parseFieldDescriptor (TJxbd725 k).2.2.1 = some (tyJxbd725 k) := by decide +kernel
def RJ15 : String := "java/util/Objects"
def TJ15 : u_T := fun k => match k with
  | _ => ("", "", "", false)
def tyJ15 : Nat → FieldType := fun k => match k with
  | _ => .int
abbrev wsJ150 : List Cond := u_ws RJ15 TJ15 0
theorem nmJ15 : ∀ a, a < 0 → ∀ b, b < 0 → a ≠ b → (TJ15 a).2.1 ≠ (TJ15 b).2.1 := by decide +kernel
theorem tyJ15_ok : ∀ k, k < 0 → parseFieldDescriptor (TJ15 k).2.2.1 = some (tyJ15 k) := by decide +kernel
abbrev cJ15_checkIndex_7cf53 : ByteArray := prog_34_method_17_code
def yJ15_checkIndex_7cf53 : MethodName := ⟨RJ15, "checkIndex", "(II)I"⟩
def RJxf0a74 : String := "java/util/RandomAccess"
def TJxf0a74 : u_T := fun k => match k with
  | _ => ("", "", "", false)
def tyJxf0a74 : Nat → FieldType := fun k => match k with
  | _ => .int
abbrev wsJxf0a740 : List Cond := u_ws RJxf0a74 TJxf0a74 0
theorem nmJxf0a74 : ∀ a, a < 0 → ∀ b, b < 0 → a ≠ b → (TJxf0a74 a).2.1 ≠ (TJxf0a74 b).2.1 := by decide +kernel
theorem tyJxf0a74_ok : ∀ k, k < 0 → parseFieldDescriptor (TJxf0a74 k).2.2.1 = some (tyJxf0a74 k) := by decide +kernel
def RJxa66e6 : String := "java/util/SequencedCollection"
def TJxa66e6 : u_T := fun k => match k with
  | _ => ("", "", "", false)
def tyJxa66e6 : Nat → FieldType := fun k => match k with
  | _ => .int
abbrev wsJxa66e60 : List Cond := u_ws RJxa66e6 TJxa66e6 0
theorem nmJxa66e6 : ∀ a, a < 0 → ∀ b, b < 0 → a ≠ b → (TJxa66e6 a).2.1 ≠ (TJxa66e6 b).2.1 := by decide +kernel
theorem tyJxa66e6_ok : ∀ k, k < 0 → parseFieldDescriptor (TJxa66e6 k).2.2.1 = some (tyJxa66e6 k) := by decide +kernel
def RJ8 : String := "jdk/internal/util/ArraysSupport"
def TJ8 : u_T := fun k => match k with
  | _ => ("", "", "", false)
def tyJ8 : Nat → FieldType := fun k => match k with
  | _ => .int
abbrev wsJ80 : List Cond := u_ws RJ8 TJ8 0
theorem nmJ8 : ∀ a, a < 0 → ∀ b, b < 0 → a ≠ b → (TJ8 a).2.1 ≠ (TJ8 b).2.1 := by decide +kernel
theorem tyJ8_ok : ∀ k, k < 0 → parseFieldDescriptor (TJ8 k).2.2.1 = some (tyJ8 k) := by decide +kernel
abbrev cJ8_newLength_cabcc : ByteArray := prog_37_method_27_code
def yJ8_newLength_cabcc : MethodName := ⟨RJ8, "newLength", "(III)I"⟩
abbrev cJ8_hugeLength_7cf53 : ByteArray := prog_37_method_28_code
def yJ8_hugeLength_7cf53 : MethodName := ⟨RJ8, "hugeLength", "(II)I"⟩
def RJ3 : String := "jdk/internal/util/Preconditions"
def TJ3 : u_T := fun k => match k with
  | _ => ("", "", "", false)
def tyJ3 : Nat → FieldType := fun k => match k with
  | _ => .int
abbrev wsJ30 : List Cond := u_ws RJ3 TJ3 0
theorem nmJ3 : ∀ a, a < 0 → ∀ b, b < 0 → a ≠ b → (TJ3 a).2.1 ≠ (TJ3 b).2.1 := by decide +kernel
theorem tyJ3_ok : ∀ k, k < 0 → parseFieldDescriptor (TJ3 k).2.2.1 = some (tyJ3 k) := by decide +kernel
abbrev cJ3_checkIndex_8e157 : ByteArray := prog_38_method_11_code
def yJ3_checkIndex_8e157 : MethodName := ⟨RJ3, "checkIndex", "(IILjava/util/function/BiFunction;)I"⟩
abbrev cJ3_checkFromToIndex_8c36e : ByteArray := prog_38_method_12_code
def yJ3_checkFromToIndex_8c36e : MethodName := ⟨RJ3, "checkFromToIndex", "(IIILjava/util/function/BiFunction;)I"⟩
abbrev cJ3_checkFromIndexSize_8c36e : ByteArray := prog_38_method_13_code
def yJ3_checkFromIndexSize_8c36e : MethodName := ⟨RJ3, "checkFromIndexSize", "(IIILjava/util/function/BiFunction;)I"⟩
def RL : String := "WellRightsLaw"
abbrev cL_addWell : ByteArray := method_3_code
def yL_addWell : MethodName := ⟨RL, "addWell", "(LWellRights;IIIIII[J)I"⟩
abbrev cL_plan : ByteArray := method_4_code
def yL_plan : MethodName := ⟨RL, "plan", "(LWellRights;II[J)I"⟩
abbrev cL_setRecharge : ByteArray := method_5_code
def yL_setRecharge : MethodName := ⟨RL, "setRecharge", "(LWellRights;II[J)I"⟩
abbrev cL_reach : ByteArray := method_6_code
def yL_reach : MethodName := ⟨RL, "reach", "(LWellRights;II[J)I"⟩
abbrev cL_level : ByteArray := method_7_code
def yL_level : MethodName := ⟨RL, "level", "(LWellRights;I[J)I"⟩
abbrev cL_sign : ByteArray := method_8_code
def yL_sign : MethodName := ⟨RL, "sign", "(LWellRights;II[J)I"⟩
abbrev cL_year : ByteArray := method_9_code
def yL_year : MethodName := ⟨RL, "year", "(LWellRights;[J)I"⟩
abbrev cL_drew : ByteArray := method_10_code
def yL_drew : MethodName := ⟨RL, "drew", "(LWellRights;I[J)I"⟩
abbrev cL_told : ByteArray := method_11_code
def yL_told : MethodName := ⟨RL, "told", "(LWellRights;I[J)I"⟩
abbrev cL_toggleMeter : ByteArray := method_12_code
def yL_toggleMeter : MethodName := ⟨RL, "toggleMeter", "(LWellRights;I[J)I"⟩
abbrev cL_power : ByteArray := method_13_code
def yL_power : MethodName := ⟨RL, "power", "(LWellRights;II[J)I"⟩
abbrev cL_bank : ByteArray := method_14_code
def yL_bank : MethodName := ⟨RL, "bank", "(LWellRights;I[J)I"⟩
abbrev cL_lend : ByteArray := method_15_code
def yL_lend : MethodName := ⟨RL, "lend", "(LWellRights;III[J)I"⟩
abbrev cL_callBack : ByteArray := method_16_code
def yL_callBack : MethodName := ⟨RL, "callBack", "(LWellRights;II[J)I"⟩
abbrev cL_fines : ByteArray := method_17_code
def yL_fines : MethodName := ⟨RL, "fines", "(LWellRights;I[J)I"⟩
abbrev cL_build : ByteArray := method_18_code
def yL_build : MethodName := ⟨RL, "build", "(LWellRights;I[J)I"⟩
abbrev cL_law : ByteArray := code
def yL_law : MethodName := ⟨RL, "law", "([I)Z"⟩
def wsL_law0_r1 : List Cond := [Cond.classLink RL 8 RX1, Cond.instantiable RX1 6, Cond.initialized RX1, Cond.classLink RL 71 RX2, Cond.instantiable RX2 23, Cond.initialized RX2, Cond.arrayClass .long, Cond.methodLink RL 70 yX1_init, Cond.instanceMethod yX1_init, Cond.code yX1_init cX1_init 1 none, Cond.methodLink RX1 1 objectInit, Cond.instanceMethod objectInit, Cond.code objectInit ⟨#[0xb1]⟩ 1 none, Cond.classLink RX1 7 RJx4a65c, Cond.instantiable RJx4a65c 3, Cond.initialized RJx4a65c, Cond.fieldLink RX1 10 "WellRights" "wells" "Ljava/util/ArrayList;", Cond.arrayClass .int, Cond.fieldLink RX1 16 "WellRights" "recharges" "[I", Cond.fieldLink RX1 20 "WellRights" "pondPlaces" "[I", Cond.fieldLink RX1 23 "WellRights" "pondCount" "I", Cond.fieldLink RX1 27 "WellRights" "fund" "I", Cond.fieldLink RX1 30 "WellRights" "years" "I", Cond.methodLink RX1 9 yJx4a65c_init_da8c8]
def wsL_law0_r2 : List Cond := [Cond.instanceMethod yJx4a65c_init_da8c8, Cond.code yJx4a65c_init_da8c8 cJx4a65c_init_da8c8 1 none, Cond.fieldLink RJx4a65c 39 "java/util/ArrayList" "DEFAULTCAPACITY_EMPTY_ELEMENTDATA" "[Ljava/lang/Object;", Cond.fieldLink RJx4a65c 9 "java/util/ArrayList" "elementData" "[Ljava/lang/Object;", Cond.methodLink RJx4a65c 1 yJxc12de_init_da8c8, Cond.instanceMethod yJxc12de_init_da8c8, Cond.initialized RJxc12de, Cond.code yJxc12de_init_da8c8 cJxc12de_init_da8c8 1 none, Cond.fieldLink RJxc12de 7 "java/util/AbstractList" "modCount" "I", Cond.methodLink RJxc12de 1 yJxa1e45_init_da8c8, Cond.instanceMethod yJxa1e45_init_da8c8, Cond.initialized RJxa1e45, Cond.code yJxa1e45_init_da8c8 cJxa1e45_init_da8c8 1 none, Cond.methodLink RJxa1e45 1 objectInit, Cond.methodLink RL 73 yX2_init, Cond.instanceMethod yX2_init, Cond.code yX2_init cX2_init 1 none, Cond.methodLink RX2 1 objectInit, Cond.fieldLink RX2 7 "WellRightsModel" "layer" "[I", Cond.fieldLink RX2 13 "WellRightsModel" "place" "[I", Cond.fieldLink RX2 16 "WellRightsModel" "level" "[I", Cond.fieldLink RX2 19 "WellRightsModel" "limit" "[I", Cond.fieldLink RX2 22 "WellRightsModel" "age" "[I", Cond.fieldLink RX2 25 "WellRightsModel" "right" "[I"]
def wsL_law0_r3 : List Cond := [Cond.fieldLink RX2 28 "WellRightsModel" "plans" "[I", Cond.arrayClass .boolean, Cond.fieldLink RX2 31 "WellRightsModel" "fails" "[Z", Cond.fieldLink RX2 35 "WellRightsModel" "power" "[I", Cond.fieldLink RX2 38 "WellRightsModel" "bank" "[I", Cond.fieldLink RX2 41 "WellRightsModel" "fines" "[I", Cond.fieldLink RX2 44 "WellRightsModel" "drew" "[I", Cond.fieldLink RX2 47 "WellRightsModel" "told" "[I", Cond.fieldLink RX2 50 "WellRightsModel" "lent" "[I", Cond.fieldLink RX2 53 "WellRightsModel" "recharge" "[I", Cond.fieldLink RX2 56 "WellRightsModel" "pond" "[I", Cond.fieldLink RX2 59 "WellRightsModel" "stopped" "[Z", Cond.fieldLink RX2 62 "WellRightsModel" "behind" "[I", Cond.methodLink RL 74 yL_addWell, Cond.static yL_addWell, Cond.initialized RL, Cond.codeWith yL_addWell cL_addWell 9 (some .int) [(0, 18, 21, 13), (0, 18, 25, 15), (0, 18, 29, 17)], Cond.classLink RL 13 "java/lang/IndexOutOfBoundsException", Cond.classLink RL 15 "java/lang/IllegalArgumentException", Cond.classLink RL 17 "java/lang/IllegalStateException", Cond.methodLink RL 7 yX1_addWell, Cond.instanceMethod yX1_addWell, Cond.selects RX1 yX1_addWell yX1_addWell, Cond.code yX1_addWell cX1_addWell 8 (some .int)]
def wsL_law0_r4 : List Cond := [Cond.classLink RX1 45 "java/lang/IllegalStateException", Cond.initialized "java/lang/IllegalStateException", Cond.classLink RX1 52 RX0, Cond.instantiable RX0 16, Cond.initialized RX0, Cond.methodLink RX1 33 yX1_requireLayer, Cond.static yX1_requireLayer, Cond.code yX1_requireLayer cX1_requireLayer 1 none, Cond.classLink RX1 90 "java/lang/IndexOutOfBoundsException", Cond.initialized "java/lang/IndexOutOfBoundsException", Cond.methodLink RX1 37 yX1_requireWithin, Cond.static yX1_requireWithin, Cond.code yX1_requireWithin cX1_requireWithin 3 none, Cond.classLink RX1 168 "java/lang/IllegalArgumentException", Cond.initialized "java/lang/IllegalArgumentException", Cond.methodLink RX1 41 yJx4a65c_size_8abf5, Cond.instanceMethod yJx4a65c_size_8abf5, Cond.selects RJx4a65c yJx4a65c_size_8abf5 yJx4a65c_size_8abf5, Cond.code yJx4a65c_size_8abf5 cJx4a65c_size_8abf5 1 (some .int), Cond.fieldLink RJx4a65c 48 "java/util/ArrayList" "size" "I", Cond.methodLink RX1 54 yX0_init, Cond.instanceMethod yX0_init, Cond.code yX0_init cX0_init 8 none, Cond.methodLink RX0 3 objectInit]
def wsL_law0_r5 : List Cond := [Cond.fieldLink RX0 9 "WellRights$Well" "number" "I", Cond.fieldLink RX0 15 "WellRights$Well" "layer" "I", Cond.fieldLink RX0 18 "WellRights$Well" "place" "I", Cond.fieldLink RX0 21 "WellRights$Well" "level" "I", Cond.fieldLink RX0 24 "WellRights$Well" "limit" "I", Cond.fieldLink RX0 27 "WellRights$Well" "age" "I", Cond.fieldLink RX0 30 "WellRights$Well" "right" "I", Cond.fieldLink RX0 37 "WellRights$Well" "text" "Ljava/lang/String;", Cond.fieldLink RX0 41 "WellRights$Well" "lentTo" "[I", Cond.fieldLink RX0 45 "WellRights$Well" "meterWorks" "Z", Cond.methodLink RX0 33 yX0_textOf, Cond.static yX0_textOf, Cond.code yX0_textOf cX0_textOf 4 (some (.object "java/lang/String")), Cond.classLink RX0 49 RJ4, Cond.instantiable RJ4 4, Cond.initialized RJ4, Cond.methodLink RX0 51 yJ4_init_da8c8, Cond.instanceMethod yJ4_init_da8c8, Cond.code yJ4_init_da8c8 cJ4_init_da8c8 1 none, Cond.methodLink RJ4 1 yJ5_init_d00df, Cond.instanceMethod yJ5_init_d00df, Cond.initialized RJ5, Cond.code yJ5_init_d00df cJ5_init_d00df 2 none, Cond.methodLink RJ5 3 objectInit]
def wsL_law0_r6 : List Cond := [Cond.fieldLink RJ5 18 "java/lang/String" "COMPACT_STRINGS" "Z", Cond.arrayClass .byte, Cond.fieldLink RJ5 15 "java/lang/AbstractStringBuilder" "value" "[B", Cond.fieldLink RJ5 22 "java/lang/AbstractStringBuilder" "coder" "B", Cond.methodLink RJ5 26 yJ2_newBytesFor_77867, Cond.static yJ2_newBytesFor_77867, Cond.initialized RJ2, Cond.code yJ2_newBytesFor_77867 cJ2_newBytesFor_77867 1 (some (.array .byte)), Cond.methodLink RJ2 11 yJ2_newBytesLength_0f7a4, Cond.static yJ2_newBytesLength_0f7a4, Cond.code yJ2_newBytesLength_0f7a4 cJ2_newBytesLength_0f7a4 1 (some .int), Cond.constant RJ2 20 (1073741823), Cond.methodLink RX0 53 yJ4_append_15ec4, Cond.instanceMethod yJ4_append_15ec4, Cond.selects RJ4 yJ4_append_15ec4 yJ4_append_15ec4, Cond.code yJ4_append_15ec4 cJ4_append_15ec4 2 (some (.object "java/lang/StringBuilder")), Cond.methodLink RJ4 29 yJ5_append_cf1ce, Cond.sameMethod "java/lang/AbstractStringBuilder" "java/lang/AbstractStringBuilder" "append" "(Ljava/lang/String;)Ljava/lang/AbstractStringBuilder;", Cond.superclass RJ4 RJ5, Cond.instanceMethod yJ5_append_cf1ce, Cond.code yJ5_append_cf1ce cJ5_append_cf1ce 3 (some (.object "java/lang/AbstractStringBuilder")), Cond.fieldLink RJ5 79 "java/lang/AbstractStringBuilder" "count" "I", Cond.methodLink RJ5 204 ⟨"java/lang/AbstractStringBuilder", "appendNull", "()Ljava/lang/AbstractStringBuilder;"⟩, Cond.sameMethod "java/lang/AbstractStringBuilder" "java/lang/AbstractStringBuilder" "appendNull" "()Ljava/lang/AbstractStringBuilder;"]
def wsL_law0_r7 : List Cond := [Cond.selects RJ4 ⟨"java/lang/AbstractStringBuilder", "appendNull", "()Ljava/lang/AbstractStringBuilder;"⟩ yJ5_appendNull_278bc, Cond.instanceMethod yJ5_appendNull_278bc, Cond.code yJ5_appendNull_278bc cJ5_appendNull_278bc 3 (some (.object "java/lang/AbstractStringBuilder")), Cond.methodLink RJ5 100 ⟨"java/lang/AbstractStringBuilder", "ensureCapacityInternal", "(I)V"⟩, Cond.sameMethod "java/lang/AbstractStringBuilder" "java/lang/AbstractStringBuilder" "ensureCapacityInternal" "(I)V", Cond.selects RJ4 ⟨"java/lang/AbstractStringBuilder", "ensureCapacityInternal", "(I)V"⟩ yJ5_ensureCapacityInternal_d00df, Cond.instanceMethod yJ5_ensureCapacityInternal_d00df, Cond.code yJ5_ensureCapacityInternal_d00df cJ5_ensureCapacityInternal_d00df 3 none, Cond.methodLink RJ5 104 ⟨"java/lang/AbstractStringBuilder", "newCapacity", "(I)I"⟩, Cond.sameMethod "java/lang/AbstractStringBuilder" "java/lang/AbstractStringBuilder" "newCapacity" "(I)I", Cond.selects RJ4 ⟨"java/lang/AbstractStringBuilder", "newCapacity", "(I)I"⟩ yJ5_newCapacity_0f7a4, Cond.instanceMethod yJ5_newCapacity_0f7a4, Cond.code yJ5_newCapacity_0f7a4 cJ5_newCapacity_0f7a4 6 (some .int), Cond.constant RJ5 39 (2147483647), Cond.methodLink RJ5 114 yJ8_newLength_cabcc, Cond.static yJ8_newLength_cabcc, Cond.initialized RJ8, Cond.code yJ8_newLength_cabcc cJ8_newLength_cabcc 4 (some .int), Cond.methodLink RJ8 194 Lib.Math.max.name, Cond.static Lib.Math.max.name, Cond.initialized "java/lang/Math", Cond.code Lib.Math.max.name Lib.Math.max.code 2 (some .int), Cond.constant RJ8 200 (2147483639), Cond.methodLink RJ8 201 yJ8_hugeLength_7cf53]
def wsL_law0_r8 : List Cond := [Cond.static yJ8_hugeLength_7cf53, Cond.code yJ8_hugeLength_7cf53 cJ8_hugeLength_7cf53 3 (some .int), Cond.methodLink RJ5 108 yJ7_copyOf_9075b, Cond.static yJ7_copyOf_9075b, Cond.initialized RJ7, Cond.code yJ7_copyOf_9075b cJ7_copyOf_9075b 3 (some (.array .byte)), Cond.methodLink RJ7 310 ⟨"[B", "clone", "()Ljava/lang/Object;"⟩, Cond.sameMethod "[B" "java/lang/Object" "clone" "()Ljava/lang/Object;", Cond.native ⟨"java/lang/Object", "clone", "()Ljava/lang/Object;"⟩, Cond.instanceMethod ⟨"java/lang/Object", "clone", "()Ljava/lang/Object;"⟩, Cond.selects "[B" ⟨"[B", "clone", "()Ljava/lang/Object;"⟩ ⟨"java/lang/Object", "clone", "()Ljava/lang/Object;"⟩, Cond.classLink RJ7 311 "[B", Cond.methodLink RJ7 304 Lib.Math.min.name, Cond.static Lib.Math.min.name, Cond.code Lib.Math.min.name Lib.Math.min.code 2 (some .int), Cond.methodLink RJ7 150 arraycopyName, Cond.native arraycopyName, Cond.static arraycopyName, Cond.initialized "java/lang/System", Cond.methodLink RJ5 83 ⟨"java/lang/AbstractStringBuilder", "isLatin1", "()Z"⟩, Cond.sameMethod "java/lang/AbstractStringBuilder" "java/lang/AbstractStringBuilder" "isLatin1" "()Z", Cond.selects RJ4 ⟨"java/lang/AbstractStringBuilder", "isLatin1", "()Z"⟩ yJ5_isLatin1_aae02, Cond.instanceMethod yJ5_isLatin1_aae02, Cond.code yJ5_isLatin1_aae02 cJ5_isLatin1_aae02 1 (some .boolean)]
def wsL_law0_r9 : List Cond := [Cond.methodLink RJ5 226 yJ2_putCharsAt_cd4e5, Cond.static yJ2_putCharsAt_cd4e5, Cond.code yJ2_putCharsAt_cd4e5 cJ2_putCharsAt_cd4e5 7 (some .int), Cond.fieldLink RJ2 44 "java/lang/StringUTF16" "$assertionsDisabled" "Z", Cond.methodLink RJ2 96 yJ2_checkBoundsBeginEnd_d044e, Cond.static yJ2_checkBoundsBeginEnd_d044e, Cond.code yJ2_checkBoundsBeginEnd_d044e cJ2_checkBoundsBeginEnd_d044e 3 none, Cond.methodLink RJ2 48 yJ2_length_9d52b, Cond.static yJ2_length_9d52b, Cond.code yJ2_length_9d52b cJ2_length_9d52b 1 (some .int), Cond.methodLink RJ2 241 yJ0_checkBoundsBeginEnd_23922, Cond.static yJ0_checkBoundsBeginEnd_23922, Cond.initialized RJ0, Cond.code yJ0_checkBoundsBeginEnd_23922 cJ0_checkBoundsBeginEnd_23922 3 none, Cond.fieldLink RJ0 1053 "jdk/internal/util/Preconditions" "SIOOBE_FORMATTER" "Ljava/util/function/BiFunction;", Cond.methodLink RJ0 1062 yJ3_checkFromToIndex_8c36e, Cond.static yJ3_checkFromToIndex_8c36e, Cond.initialized RJ3, Cond.code yJ3_checkFromToIndex_8c36e cJ3_checkFromToIndex_8c36e 4 (some .int), Cond.methodLink RJ2 111 yJ2_putChar_b72d1, Cond.static yJ2_putChar_b72d1, Cond.code yJ2_putChar_b72d1 cJ2_putChar_b72d1 3 none, Cond.fieldLink RJ2 59 "java/lang/StringUTF16" "HI_BYTE_SHIFT" "I", Cond.fieldLink RJ2 63 "java/lang/StringUTF16" "LO_BYTE_SHIFT" "I"]
def wsL_law0_r10 : List Cond := [Cond.methodLink RJ5 32 yJ0_length_8abf5, Cond.instanceMethod yJ0_length_8abf5, Cond.selects RJ0 yJ0_length_8abf5 yJ0_length_8abf5, Cond.code yJ0_length_8abf5 cJ0_length_8abf5 1 (some .int), Cond.fieldLink RJ0 9 "java/lang/String" "value" "[B", Cond.methodLink RJ0 335 yJ0_coder_7d493, Cond.instanceMethod yJ0_coder_7d493, Cond.selects RJ0 yJ0_coder_7d493 yJ0_coder_7d493, Cond.code yJ0_coder_7d493 cJ0_coder_7d493 1 (some .byte), Cond.fieldLink RJ0 38 "java/lang/String" "COMPACT_STRINGS" "Z", Cond.fieldLink RJ0 15 "java/lang/String" "coder" "B", Cond.methodLink RJ5 208 ⟨"java/lang/AbstractStringBuilder", "putStringAt", "(ILjava/lang/String;)V"⟩, Cond.sameMethod "java/lang/AbstractStringBuilder" "java/lang/AbstractStringBuilder" "putStringAt" "(ILjava/lang/String;)V", Cond.selects RJ4 ⟨"java/lang/AbstractStringBuilder", "putStringAt", "(ILjava/lang/String;)V"⟩ yJ5_putStringAt_47b60, Cond.instanceMethod yJ5_putStringAt_47b60, Cond.code yJ5_putStringAt_47b60 cJ5_putStringAt_47b60 3 none, Cond.methodLink RJ5 397 ⟨"java/lang/AbstractStringBuilder", "inflateIfNeededFor", "(Ljava/lang/String;)V"⟩, Cond.sameMethod "java/lang/AbstractStringBuilder" "java/lang/AbstractStringBuilder" "inflateIfNeededFor" "(Ljava/lang/String;)V", Cond.selects RJ4 ⟨"java/lang/AbstractStringBuilder", "inflateIfNeededFor", "(Ljava/lang/String;)V"⟩ yJ5_inflateIfNeededFor_a7421, Cond.instanceMethod yJ5_inflateIfNeededFor_a7421, Cond.code yJ5_inflateIfNeededFor_a7421 cJ5_inflateIfNeededFor_a7421 2 none, Cond.methodLink RJ5 40 yJ0_coder_7d493, Cond.methodLink RJ5 195 ⟨"java/lang/AbstractStringBuilder", "inflate", "()V"⟩, Cond.sameMethod "java/lang/AbstractStringBuilder" "java/lang/AbstractStringBuilder" "inflate" "()V"]
def wsL_law0_r11 : List Cond := [Cond.selects RJ4 ⟨"java/lang/AbstractStringBuilder", "inflate", "()V"⟩ yJ5_inflate_da8c8, Cond.instanceMethod yJ5_inflate_da8c8, Cond.code yJ5_inflate_da8c8 cJ5_inflate_da8c8 2 none, Cond.methodLink RJ5 125 yJ1_inflate_0e8fd, Cond.static yJ1_inflate_0e8fd, Cond.initialized RJ1, Cond.code yJ1_inflate_0e8fd cJ1_inflate_0e8fd 5 none, Cond.methodLink RJ1 240 yJ2_inflate_0e8fd, Cond.static yJ2_inflate_0e8fd, Cond.code yJ2_inflate_0e8fd cJ2_inflate_0e8fd 6 none, Cond.methodLink RJ2 173 yJ2_checkBoundsOffCount_d044e, Cond.static yJ2_checkBoundsOffCount_d044e, Cond.code yJ2_checkBoundsOffCount_d044e cJ2_checkBoundsOffCount_d044e 3 none, Cond.methodLink RJ2 419 yJ0_checkBoundsOffCount_cabcc, Cond.static yJ0_checkBoundsOffCount_cabcc, Cond.code yJ0_checkBoundsOffCount_cabcc cJ0_checkBoundsOffCount_cabcc 3 (some .int), Cond.methodLink RJ0 1065 yJ3_checkFromIndexSize_8c36e, Cond.static yJ3_checkFromIndexSize_8c36e, Cond.code yJ3_checkFromIndexSize_8c36e cJ3_checkFromIndexSize_8c36e 4 (some .int), Cond.methodLink RJ5 399 yJ0_getBytes_840e7, Cond.instanceMethod yJ0_getBytes_840e7, Cond.selects RJ0 yJ0_getBytes_840e7 yJ0_getBytes_840e7, Cond.code yJ0_getBytes_840e7 cJ0_getBytes_840e7 4 none, Cond.methodLink RJ0 212 arraycopyName]
def wsL_law0_r12 : List Cond := [Cond.methodLink RJ0 106 yJ1_inflate_0e8fd, Cond.methodLink RX0 57 yJ4_append_bf812, Cond.instanceMethod yJ4_append_bf812, Cond.selects RJ4 yJ4_append_bf812 yJ4_append_bf812, Cond.code yJ4_append_bf812 cJ4_append_bf812 2 (some (.object "java/lang/StringBuilder")), Cond.methodLink RJ4 53 yJ5_append_c97b9, Cond.sameMethod "java/lang/AbstractStringBuilder" "java/lang/AbstractStringBuilder" "append" "(I)Ljava/lang/AbstractStringBuilder;", Cond.instanceMethod yJ5_append_c97b9, Cond.code yJ5_append_c97b9 cJ5_append_c97b9 4 (some (.object "java/lang/AbstractStringBuilder")), Cond.methodLink RJ5 245 yJ6_stringSize_0f7a4, Cond.static yJ6_stringSize_0f7a4, Cond.initialized RJ6, Cond.code yJ6_stringSize_0f7a4 cJ6_stringSize_0f7a4 4 (some .int), Cond.methodLink RJ5 248 yJ6_getChars_ba4f3, Cond.static yJ6_getChars_ba4f3, Cond.code yJ6_getChars_ba4f3 cJ6_getChars_ba4f3 7 (some .int), Cond.fieldLink RJ6 83 "java/lang/Integer" "DigitOnes" "[B", Cond.fieldLink RJ6 87 "java/lang/Integer" "DigitTens" "[B", Cond.methodLink RJ5 251 yJ2_getChars_46870, Cond.static yJ2_getChars_46870, Cond.code yJ2_getChars_46870 cJ2_getChars_46870 5 (some .int), Cond.methodLink RJ2 393 yJ2_getChars_ba4f3, Cond.static yJ2_getChars_ba4f3, Cond.code yJ2_getChars_ba4f3 cJ2_getChars_ba4f3 7 (some .int)]
def wsL_law0_r13 : List Cond := [Cond.fieldLink RJ2 403 "java/lang/Integer" "DigitOnes" "[B", Cond.fieldLink RJ2 407 "java/lang/Integer" "DigitTens" "[B", Cond.methodLink RX0 60 yJ4_append_cf468, Cond.instanceMethod yJ4_append_cf468, Cond.selects RJ4 yJ4_append_cf468 yJ4_append_cf468, Cond.code yJ4_append_cf468 cJ4_append_cf468 2 (some (.object "java/lang/StringBuilder")), Cond.methodLink RJ4 50 yJ5_append_3fe6f, Cond.sameMethod "java/lang/AbstractStringBuilder" "java/lang/AbstractStringBuilder" "append" "(C)Ljava/lang/AbstractStringBuilder;", Cond.instanceMethod yJ5_append_3fe6f, Cond.code yJ5_append_3fe6f cJ5_append_3fe6f 2 (some (.object "java/lang/AbstractStringBuilder")), Cond.methodLink RJ5 191 yJ1_canEncode_fc78d, Cond.static yJ1_canEncode_fc78d, Cond.code yJ1_canEncode_fc78d cJ1_canEncode_fc78d 1 (some .boolean), Cond.methodLink RJ5 197 yJ2_putCharSB_b72d1, Cond.static yJ2_putCharSB_b72d1, Cond.code yJ2_putCharSB_b72d1 cJ2_putCharSB_b72d1 3 none, Cond.methodLink RJ2 67 yJ2_checkIndex_2214a, Cond.static yJ2_checkIndex_2214a, Cond.code yJ2_checkIndex_2214a cJ2_checkIndex_2214a 2 none, Cond.methodLink RJ2 414 yJ0_checkIndex_df160, Cond.static yJ0_checkIndex_df160, Cond.code yJ0_checkIndex_df160 cJ0_checkIndex_df160 2 none, Cond.methodLink RJ0 1059 yJ3_checkIndex_8e157, Cond.static yJ3_checkIndex_8e157]
def wsL_law0_r14 : List Cond := [Cond.code yJ3_checkIndex_8e157 cJ3_checkIndex_8e157 3 (some .int), Cond.methodLink RX0 63 yJ4_toString_0e30d, Cond.instanceMethod yJ4_toString_0e30d, Cond.selects RJ4 yJ4_toString_0e30d yJ4_toString_0e30d, Cond.code yJ4_toString_0e30d cJ4_toString_0e30d 1 (some (.object "java/lang/String")), Cond.classLink RJ4 18 RJ0, Cond.instantiable RJ0 4, Cond.methodLink RJ4 137 yJ0_init_81219, Cond.instanceMethod yJ0_init_81219, Cond.code yJ0_init_81219 cJ0_init_81219 2 none, Cond.methodLink RJ0 489 yJ0_init_db425, Cond.instanceMethod yJ0_init_db425, Cond.code yJ0_init_db425 cJ0_init_db425 5 none, Cond.methodLink RJ0 1 objectInit, Cond.fieldLink RJ0 1048 "java/lang/AbstractStringBuilder" "maybeLatin1" "Z", Cond.methodLink RJ0 552 ⟨"java/lang/AbstractStringBuilder", "getValue", "()[B"⟩, Cond.sameMethod "java/lang/AbstractStringBuilder" "java/lang/AbstractStringBuilder" "getValue" "()[B", Cond.selects RJ4 ⟨"java/lang/AbstractStringBuilder", "getValue", "()[B"⟩ yJ5_getValue_6d5f1, Cond.instanceMethod yJ5_getValue_6d5f1, Cond.code yJ5_getValue_6d5f1 cJ5_getValue_6d5f1 1 (some (.array .byte)), Cond.methodLink RJ0 549 ⟨"java/lang/AbstractStringBuilder", "length", "()I"⟩, Cond.sameMethod "java/lang/AbstractStringBuilder" "java/lang/AbstractStringBuilder" "length" "()I", Cond.instanceMethod ⟨"java/lang/AbstractStringBuilder", "length", "()I"⟩, Cond.selects RJ4 ⟨"java/lang/AbstractStringBuilder", "length", "()I"⟩ yJ4_length_8abf5]
def wsL_law0_r15 : List Cond := [Cond.instanceMethod yJ4_length_8abf5, Cond.code yJ4_length_8abf5 cJ4_length_8abf5 1 (some .int), Cond.methodLink RJ4 343 yJ5_length_8abf5, Cond.instanceMethod yJ5_length_8abf5, Cond.code yJ5_length_8abf5 cJ5_length_8abf5 1 (some .int), Cond.methodLink RJ0 1047 ⟨"java/lang/AbstractStringBuilder", "isLatin1", "()Z"⟩, Cond.methodLink RJ0 54 yJ7_copyOfRange_39247, Cond.static yJ7_copyOfRange_39247, Cond.code yJ7_copyOfRange_39247 cJ7_copyOfRange_39247 3 (some (.array .byte)), Cond.methodLink RJ7 339 yJ7_copyOfRangeByte_39247, Cond.static yJ7_copyOfRangeByte_39247, Cond.code yJ7_copyOfRangeByte_39247 cJ7_copyOfRangeByte_39247 5 (some (.array .byte)), Cond.methodLink RJ7 343 yJ7_checkLength_df160, Cond.static yJ7_checkLength_df160, Cond.code yJ7_checkLength_df160 cJ7_checkLength_df160 2 none, Cond.classLink RJ7 45 RJ4, Cond.methodLink RJ0 1051 yJ2_compress_39247, Cond.static yJ2_compress_39247, Cond.code yJ2_compress_39247 cJ2_compress_39247 6 (some (.array .byte)), Cond.methodLink RJ2 123 yJ2_compress_5af95, Cond.static yJ2_compress_5af95, Cond.code yJ2_compress_5af95 cJ2_compress_5af95 7 (some .int), Cond.methodLink RJ2 71 yJ2_getChar_3b067, Cond.static yJ2_getChar_3b067]
def wsL_law0_r16 : List Cond := [Cond.code yJ2_getChar_3b067 cJ2_getChar_3b067 2 (some .char), Cond.methodLink RJ2 126 yJ7_copyOfRange_39247, Cond.methodLink RJ0 47 yJ2_coderFromArrayLen_85cad, Cond.static yJ2_coderFromArrayLen_85cad, Cond.code yJ2_coderFromArrayLen_85cad cJ2_coderFromArrayLen_85cad 2 (some .byte), Cond.methodLink RX1 57 yJx4a65c_add_9ea2d, Cond.instanceMethod yJx4a65c_add_9ea2d, Cond.selects RJx4a65c yJx4a65c_add_9ea2d yJx4a65c_add_9ea2d, Cond.code yJx4a65c_add_9ea2d cJx4a65c_add_9ea2d 2 (some .boolean), Cond.fieldLink RJx4a65c 63 "java/util/ArrayList" "modCount" "I", Cond.sameField "java/util/ArrayList" "java/util/AbstractList" "modCount" "I", Cond.methodLink RJx4a65c 131 yJx4a65c_add_72be8, Cond.instanceMethod yJx4a65c_add_72be8, Cond.selects RJx4a65c yJx4a65c_add_72be8 yJx4a65c_add_72be8, Cond.code yJx4a65c_add_72be8 cJx4a65c_add_72be8 4 none, Cond.methodLink RJx4a65c 129 yJx4a65c_grow_d5877, Cond.instanceMethod yJx4a65c_grow_d5877, Cond.selects RJx4a65c yJx4a65c_grow_d5877 yJx4a65c_grow_d5877, Cond.code yJx4a65c_grow_d5877 cJx4a65c_grow_d5877 1 (some (.array (.object "java/lang/Object"))), Cond.methodLink RJx4a65c 69 yJx4a65c_grow_92f84, Cond.instanceMethod yJx4a65c_grow_92f84, Cond.selects RJx4a65c yJx4a65c_grow_92f84 yJx4a65c_grow_92f84, Cond.code yJx4a65c_grow_92f84 cJx4a65c_grow_92f84 4 (some (.array (.object "java/lang/Object"))), Cond.methodLink RJx4a65c 79 Lib.Math.max.name]
def wsL_law0_r17 : List Cond := [Cond.classLink RJx4a65c 7 "java/lang/Object", Cond.methodLink RJx4a65c 73 yJ8_newLength_cabcc, Cond.methodLink RJx4a65c 66 yJ7_copyOf_1904c, Cond.static yJ7_copyOf_1904c, Cond.code yJ7_copyOf_1904c cJ7_copyOf_1904c 2 (some (.array (.object "java/lang/Object"))), Cond.methodLink RJ7 86 ⟨"java/lang/Object", "getClass", "()Ljava/lang/Class;"⟩, Cond.selects "[Ljava/lang/Object;" ⟨"java/lang/Object", "getClass", "()Ljava/lang/Class;"⟩ ⟨"java/lang/Object", "getClass", "()Ljava/lang/Class;"⟩, Cond.instanceMethod ⟨"java/lang/Object", "getClass", "()Ljava/lang/Class;"⟩, Cond.native ⟨"java/lang/Object", "getClass", "()Ljava/lang/Class;"⟩, Cond.methodLink RJ7 300 yJ7_copyOf_6403c, Cond.static yJ7_copyOf_6403c, Cond.code yJ7_copyOf_6403c cJ7_copyOf_6403c 4 (some (.array (.object "java/lang/Object"))), Cond.classLink RJ7 110 "[Ljava/lang/Object;", Cond.classLink RJ7 2 "java/lang/Object", Cond.methodLink RL 79 yX2_addWell, Cond.instanceMethod yX2_addWell, Cond.selects RX2 yX2_addWell yX2_addWell, Cond.code yX2_addWell cX2_addWell 7 (some .int), Cond.fieldLink RX2 65 "WellRightsModel" "thrown" "I", Cond.fieldLink RX2 69 "WellRightsModel" "wells" "I", Cond.methodLink RX2 72 yX2_in, Cond.static yX2_in, Cond.code yX2_in cX2_in 3 (some .boolean), Cond.methodLink RX2 80 yX2_refuses]
def wsL_law0_r18 : List Cond := [Cond.instanceMethod yX2_refuses, Cond.selects RX2 yX2_refuses yX2_refuses, Cond.code yX2_refuses cX2_refuses 2 (some .int), Cond.methodLink RL 80 yX2_thrown, Cond.instanceMethod yX2_thrown, Cond.selects RX2 yX2_thrown yX2_thrown, Cond.code yX2_thrown cX2_thrown 1 (some .int), Cond.methodLink RL 83 yL_plan, Cond.static yL_plan, Cond.codeWith yL_plan cL_plan 5 (some .int) [(0, 10, 13, 13), (0, 10, 17, 15)], Cond.methodLink RL 19 yX1_plan, Cond.instanceMethod yX1_plan, Cond.selects RX1 yX1_plan yX1_plan, Cond.code yX1_plan cX1_plan 5 (some .int), Cond.fieldLink RX1 65 "WellRights$Well" "planned" "I", Cond.methodLink RX1 61 yX1_wellAt, Cond.instanceMethod yX1_wellAt, Cond.selects RX1 yX1_wellAt yX1_wellAt, Cond.code yX1_wellAt cX1_wellAt 2 (some (.object "WellRights$Well")), Cond.classLink RX1 52 "WellRights$Well", Cond.methodLink RX1 162 yJx4a65c_get_915e3, Cond.instanceMethod yJx4a65c_get_915e3, Cond.selects RJx4a65c yJx4a65c_get_915e3 yJx4a65c_get_915e3, Cond.code yJx4a65c_get_915e3 cJx4a65c_get_915e3 2 (some (.object "java/lang/Object"))]
def wsL_law0_r19 : List Cond := [Cond.methodLink RJx4a65c 118 yJ15_checkIndex_7cf53, Cond.static yJ15_checkIndex_7cf53, Cond.initialized RJ15, Cond.code yJ15_checkIndex_7cf53 cJ15_checkIndex_7cf53 2 (some .int), Cond.methodLink RJ15 105 yJ3_checkIndex_8e157, Cond.methodLink RJx4a65c 123 yJx4a65c_elementData_915e3, Cond.instanceMethod yJx4a65c_elementData_915e3, Cond.selects RJx4a65c yJx4a65c_elementData_915e3 yJx4a65c_elementData_915e3, Cond.code yJx4a65c_elementData_915e3 cJx4a65c_elementData_915e3 2 (some (.object "java/lang/Object")), Cond.methodLink RL 86 yX2_plan, Cond.instanceMethod yX2_plan, Cond.selects RX2 yX2_plan yX2_plan, Cond.code yX2_plan cX2_plan 4 (some .int), Cond.methodLink RX2 84 yX2_isAsked, Cond.instanceMethod yX2_isAsked, Cond.selects RX2 yX2_isAsked yX2_isAsked, Cond.code yX2_isAsked cX2_isAsked 2 (some .boolean), Cond.methodLink RX2 76 yX2_isWell, Cond.instanceMethod yX2_isWell, Cond.selects RX2 yX2_isWell yX2_isWell, Cond.code yX2_isWell cX2_isWell 2 (some .boolean), Cond.methodLink RL 87 yL_setRecharge, Cond.static yL_setRecharge, Cond.codeWith yL_setRecharge cL_setRecharge 5 (some .int) [(0, 10, 13, 13), (0, 10, 17, 15)]]
def wsL_law0_r20 : List Cond := [Cond.methodLink RL 23 yX1_setRecharge, Cond.instanceMethod yX1_setRecharge, Cond.selects RX1 yX1_setRecharge yX1_setRecharge, Cond.code yX1_setRecharge cX1_setRecharge 4 (some .int), Cond.methodLink RL 89 yX2_setRecharge, Cond.instanceMethod yX2_setRecharge, Cond.selects RX2 yX2_setRecharge yX2_setRecharge, Cond.code yX2_setRecharge cX2_setRecharge 4 (some .int), Cond.methodLink RL 90 yL_reach, Cond.static yL_reach, Cond.codeWith yL_reach cL_reach 5 (some .int) [(0, 10, 13, 13)], Cond.methodLink RL 26 yX1_reach, Cond.instanceMethod yX1_reach, Cond.selects RX1 yX1_reach yX1_reach, Cond.code yX1_reach cX1_reach 5 (some .int), Cond.fieldLink RX1 68 "WellRights$Well" "layer" "I", Cond.fieldLink RX1 71 "WellRights$Well" "place" "I", Cond.methodLink RX1 74 yX0_reachedFrom, Cond.instanceMethod yX0_reachedFrom, Cond.selects RX0 yX0_reachedFrom yX0_reachedFrom, Cond.code yX0_reachedFrom cX0_reachedFrom 5 (some .int), Cond.methodLink RX0 78 Lib.Math.abs.name, Cond.static Lib.Math.abs.name, Cond.code Lib.Math.abs.name Lib.Math.abs.code 1 (some .int)]
def wsL_law0_r21 : List Cond := [Cond.methodLink RX0 84 Lib.Math.max.name, Cond.methodLink RL 92 yX2_reach, Cond.instanceMethod yX2_reach, Cond.selects RX2 yX2_reach yX2_reach, Cond.code yX2_reach cX2_reach 3 (some .int), Cond.methodLink RX2 87 yX2_reaches, Cond.instanceMethod yX2_reaches, Cond.selects RX2 yX2_reaches yX2_reaches, Cond.code yX2_reaches cX2_reaches 7 (some .int), Cond.methodLink RL 93 yL_level, Cond.static yL_level, Cond.codeWith yL_level cL_level 4 (some .int) [(0, 9, 12, 13)], Cond.methodLink RL 29 yX1_level, Cond.instanceMethod yX1_level, Cond.selects RX1 yX1_level yX1_level, Cond.code yX1_level cX1_level 2 (some .int), Cond.fieldLink RX1 78 "WellRights$Well" "level" "I", Cond.methodLink RL 96 yX2_level, Cond.instanceMethod yX2_level, Cond.selects RX2 yX2_level yX2_level, Cond.code yX2_level cX2_level 2 (some .int), Cond.methodLink RL 97 yL_sign, Cond.static yL_sign, Cond.codeWith yL_sign cL_sign 5 (some .int) [(0, 10, 13, 13)]]
def wsL_law0_r22 : List Cond := [Cond.methodLink RL 33 yX1_sign, Cond.instanceMethod yX1_sign, Cond.selects RX1 yX1_sign yX1_sign, Cond.code yX1_sign cX1_sign 4 (some .char), Cond.fieldLink RX1 81 "WellRights$Well" "text" "Ljava/lang/String;", Cond.methodLink RX1 85 yJ0_length_8abf5, Cond.methodLink RX1 95 yJ0_charAt_5068e, Cond.instanceMethod yJ0_charAt_5068e, Cond.selects RJ0 yJ0_charAt_5068e yJ0_charAt_5068e, Cond.code yJ0_charAt_5068e cJ0_charAt_5068e 2 (some .char), Cond.methodLink RJ0 492 yJ0_isLatin1_aae02, Cond.instanceMethod yJ0_isLatin1_aae02, Cond.selects RJ0 yJ0_isLatin1_aae02 yJ0_isLatin1_aae02, Cond.code yJ0_isLatin1_aae02 cJ0_isLatin1_aae02 1 (some .boolean), Cond.methodLink RJ0 495 yJ1_charAt_3b067, Cond.static yJ1_charAt_3b067, Cond.code yJ1_charAt_3b067 cJ1_charAt_3b067 2 (some .char), Cond.methodLink RJ1 9 yJ0_checkIndex_df160, Cond.methodLink RJ0 498 yJ2_charAt_3b067, Cond.static yJ2_charAt_3b067, Cond.code yJ2_charAt_3b067 cJ2_charAt_3b067 2 (some .char), Cond.methodLink RL 99 yX2_sign, Cond.instanceMethod yX2_sign, Cond.selects RX2 yX2_sign yX2_sign]
def wsL_law0_r23 : List Cond := [Cond.code yX2_sign cX2_sign 4 (some .char), Cond.methodLink RL 100 yL_year, Cond.static yL_year, Cond.codeWith yL_year cL_year 3 (some .int) [(0, 8, 11, 17)], Cond.methodLink RL 37 yX1_year, Cond.instanceMethod yX1_year, Cond.selects RX1 yX1_year yX1_year, Cond.code yX1_year cX1_year 2 (some .int), Cond.methodLink RX1 101 yX1_shrinkBanks, Cond.instanceMethod yX1_shrinkBanks, Cond.selects RX1 yX1_shrinkBanks yX1_shrinkBanks, Cond.code yX1_shrinkBanks cX1_shrinkBanks 4 none, Cond.fieldLink RX1 138 "WellRights$Well" "bank" "I", Cond.methodLink RX1 104 yX1_whoIsStopped, Cond.instanceMethod yX1_whoIsStopped, Cond.selects RX1 yX1_whoIsStopped yX1_whoIsStopped, Cond.code yX1_whoIsStopped cX1_whoIsStopped 4 (some .int), Cond.methodLink RX1 175 yX1_nextToStop, Cond.instanceMethod yX1_nextToStop, Cond.selects RX1 yX1_nextToStop yX1_nextToStop, Cond.code yX1_nextToStop cX1_nextToStop 7 (some (.object "WellRights$Well")), Cond.fieldLink RX1 185 "WellRights$Well" "limit" "I", Cond.methodLink RX1 181 yX1_levelBehind, Cond.instanceMethod yX1_levelBehind]
def wsL_law0_r24 : List Cond := [Cond.selects RX1 yX1_levelBehind yX1_levelBehind, Cond.code yX1_levelBehind cX1_levelBehind 6 (some .int), Cond.methodLink RX1 199 yX1_hundredths, Cond.static yX1_hundredths, Cond.code yX1_hundredths cX1_hundredths 2 (some .int), Cond.methodLink RX1 196 yX0_drawUnder, Cond.instanceMethod yX0_drawUnder, Cond.selects RX0 yX0_drawUnder yX0_drawUnder, Cond.code yX0_drawUnder cX0_drawUnder 2 (some .int), Cond.fieldLink RX0 75 "WellRights$Well" "planned" "I", Cond.methodLink RX0 71 yX0_isIn, Cond.instanceMethod yX0_isIn, Cond.selects RX0 yX0_isIn yX0_isIn, Cond.code yX0_isIn cX0_isIn 2 (some .boolean), Cond.methodLink RX0 67 yX0_bit, Cond.instanceMethod yX0_bit, Cond.selects RX0 yX0_bit yX0_bit, Cond.code yX0_bit cX0_bit 1 (some .int), Cond.methodLink RX1 188 yX0_isOlderThan, Cond.instanceMethod yX0_isOlderThan, Cond.selects RX0 yX0_isOlderThan yX0_isOlderThan, Cond.code yX0_isOlderThan cX0_isOlderThan 2 (some .boolean), Cond.methodLink RX1 192 yX1_youngestDrawerOn, Cond.instanceMethod yX1_youngestDrawerOn]
def wsL_law0_r25 : List Cond := [Cond.selects RX1 yX1_youngestDrawerOn yX1_youngestDrawerOn, Cond.code yX1_youngestDrawerOn cX1_youngestDrawerOn 6 (some (.object "WellRights$Well")), Cond.methodLink RX1 178 yX0_bit, Cond.methodLink RX1 107 yX1_drawWater, Cond.instanceMethod yX1_drawWater, Cond.selects RX1 yX1_drawWater yX1_drawWater, Cond.code yX1_drawWater cX1_drawWater 4 none, Cond.fieldLink RX1 125 "WellRights$Well" "drew" "I", Cond.methodLink RX1 110 yX1_tellWater, Cond.instanceMethod yX1_tellWater, Cond.selects RX1 yX1_tellWater yX1_tellWater, Cond.code yX1_tellWater cX1_tellWater 3 none, Cond.fieldLink RX1 131 "WellRights$Well" "meterWorks" "Z", Cond.fieldLink RX1 128 "WellRights$Well" "told" "I", Cond.fieldLink RX1 135 "WellRights$Well" "power" "I", Cond.methodLink RX1 202 yX1_meanOfWorkingMeters, Cond.instanceMethod yX1_meanOfWorkingMeters, Cond.selects RX1 yX1_meanOfWorkingMeters yX1_meanOfWorkingMeters, Cond.code yX1_meanOfWorkingMeters cX1_meanOfWorkingMeters 6 (some .int), Cond.methodLink RX1 113 yX1_settleRights, Cond.instanceMethod yX1_settleRights, Cond.selects RX1 yX1_settleRights yX1_settleRights, Cond.code yX1_settleRights cX1_settleRights 4 none, Cond.fieldLink RX1 205 "WellRights$Well" "right" "I"]
def wsL_law0_r26 : List Cond := [Cond.methodLink RX1 208 yX1_chargeAbove, Cond.instanceMethod yX1_chargeAbove, Cond.selects RX1 yX1_chargeAbove yX1_chargeAbove, Cond.code yX1_chargeAbove cX1_chargeAbove 5 none, Cond.methodLink RX1 150 Lib.Math.min.name, Cond.fieldLink RX1 155 "WellRights$Well" "fines" "I", Cond.methodLink RX1 212 yX0_isIn, Cond.methodLink RX1 116 yX1_forgetPower, Cond.instanceMethod yX1_forgetPower, Cond.selects RX1 yX1_forgetPower yX1_forgetPower, Cond.code yX1_forgetPower cX1_forgetPower 2 none, Cond.methodLink RX1 119 yJ6_bitCount_0f7a4, Cond.static yJ6_bitCount_0f7a4, Cond.code yJ6_bitCount_0f7a4 cJ6_bitCount_0f7a4 1 (some .int), Cond.constant RJ6 265 (1431655765), Cond.constant RJ6 266 (858993459), Cond.constant RJ6 267 (252645135), Cond.methodLink RL 103 yX2_year, Cond.instanceMethod yX2_year, Cond.selects RX2 yX2_year yX2_year, Cond.code yX2_year cX2_year 3 (some .int), Cond.fieldLink RX2 107 "WellRightsModel" "years" "I", Cond.methodLink RX2 110 yX2_stops, Cond.instanceMethod yX2_stops]
def wsL_law0_r27 : List Cond := [Cond.selects RX2 yX2_stops yX2_stops, Cond.code yX2_stops cX2_stops 6 (some .int), Cond.methodLink RX2 98 yX2_levels, Cond.instanceMethod yX2_levels, Cond.selects RX2 yX2_levels yX2_levels, Cond.code yX2_levels cX2_levels 3 none, Cond.fieldLink RX2 91 "WellRightsModel" "ponds" "I", Cond.methodLink RX2 101 yX2_youngest, Cond.instanceMethod yX2_youngest, Cond.selects RX2 yX2_youngest yX2_youngest, Cond.code yX2_youngest cX2_youngest 5 (some .int), Cond.methodLink RX2 94 yX2_isYounger, Cond.instanceMethod yX2_isYounger, Cond.selects RX2 yX2_isYounger yX2_isYounger, Cond.code yX2_isYounger cX2_isYounger 3 (some .boolean), Cond.methodLink RX2 114 yX2_mean, Cond.instanceMethod yX2_mean, Cond.selects RX2 yX2_mean yX2_mean, Cond.code yX2_mean cX2_mean 5 (some .int), Cond.methodLink RX2 117 yX2_pays, Cond.instanceMethod yX2_pays, Cond.selects RX2 yX2_pays yX2_pays, Cond.code yX2_pays cX2_pays 4 none, Cond.fieldLink RX2 104 "WellRightsModel" "fund" "I"]
def wsL_law0_r28 : List Cond := [Cond.methodLink RL 104 yX1_years, Cond.instanceMethod yX1_years, Cond.selects RX1 yX1_years yX1_years, Cond.code yX1_years cX1_years 1 (some .int), Cond.methodLink RL 107 yX2_years, Cond.instanceMethod yX2_years, Cond.selects RX2 yX2_years yX2_years, Cond.code yX2_years cX2_years 1 (some .int), Cond.methodLink RL 108 yX1_wouldStop, Cond.instanceMethod yX1_wouldStop, Cond.selects RX1 yX1_wouldStop yX1_wouldStop, Cond.code yX1_wouldStop cX1_wouldStop 1 (some .int), Cond.methodLink RL 111 yX2_wouldStop, Cond.instanceMethod yX2_wouldStop, Cond.selects RX2 yX2_wouldStop yX2_wouldStop, Cond.code yX2_wouldStop cX2_wouldStop 4 (some .int), Cond.methodLink RL 112 yL_drew, Cond.static yL_drew, Cond.codeWith yL_drew cL_drew 4 (some .int) [(0, 9, 12, 13)], Cond.methodLink RL 41 yX1_drew, Cond.instanceMethod yX1_drew, Cond.selects RX1 yX1_drew yX1_drew, Cond.code yX1_drew cX1_drew 2 (some .int), Cond.methodLink RL 114 yX2_drew]
def wsL_law0_r29 : List Cond := [Cond.instanceMethod yX2_drew, Cond.selects RX2 yX2_drew yX2_drew, Cond.code yX2_drew cX2_drew 2 (some .int), Cond.methodLink RL 115 yL_told, Cond.static yL_told, Cond.codeWith yL_told cL_told 4 (some .int) [(0, 9, 12, 13)], Cond.methodLink RL 44 yX1_told, Cond.instanceMethod yX1_told, Cond.selects RX1 yX1_told yX1_told, Cond.code yX1_told cX1_told 2 (some .int), Cond.methodLink RL 117 yX2_told, Cond.instanceMethod yX2_told, Cond.selects RX2 yX2_told yX2_told, Cond.code yX2_told cX2_told 2 (some .int), Cond.methodLink RL 118 yL_toggleMeter, Cond.static yL_toggleMeter, Cond.codeWith yL_toggleMeter cL_toggleMeter 4 (some .int) [(0, 16, 19, 13)], Cond.methodLink RL 47 yX1_toggleMeter, Cond.instanceMethod yX1_toggleMeter, Cond.selects RX1 yX1_toggleMeter yX1_toggleMeter, Cond.code yX1_toggleMeter cX1_toggleMeter 3 (some .boolean), Cond.methodLink RL 120 yX2_toggleMeter, Cond.instanceMethod yX2_toggleMeter, Cond.selects RX2 yX2_toggleMeter yX2_toggleMeter]
def wsL_law0_r30 : List Cond := [Cond.code yX2_toggleMeter cX2_toggleMeter 2 (some .boolean), Cond.methodLink RL 121 yL_power, Cond.static yL_power, Cond.codeWith yL_power cL_power 5 (some .int) [(0, 10, 13, 13), (0, 10, 17, 15)], Cond.methodLink RL 51 yX1_power, Cond.instanceMethod yX1_power, Cond.selects RX1 yX1_power yX1_power, Cond.code yX1_power cX1_power 5 (some .int), Cond.methodLink RL 123 yX2_power, Cond.instanceMethod yX2_power, Cond.selects RX2 yX2_power yX2_power, Cond.code yX2_power cX2_power 4 (some .int), Cond.methodLink RL 124 yL_bank, Cond.static yL_bank, Cond.codeWith yL_bank cL_bank 4 (some .int) [(0, 9, 12, 13)], Cond.methodLink RL 54 yX1_bank, Cond.instanceMethod yX1_bank, Cond.selects RX1 yX1_bank yX1_bank, Cond.code yX1_bank cX1_bank 2 (some .int), Cond.methodLink RL 126 yX2_bank, Cond.instanceMethod yX2_bank, Cond.selects RX2 yX2_bank yX2_bank, Cond.code yX2_bank cX2_bank 2 (some .int), Cond.methodLink RL 127 yL_lend]
def wsL_law0_r31 : List Cond := [Cond.static yL_lend, Cond.codeWith yL_lend cL_lend 6 (some .int) [(0, 12, 15, 13), (0, 12, 19, 15), (0, 12, 23, 17)], Cond.methodLink RL 57 yX1_lend, Cond.instanceMethod yX1_lend, Cond.selects RX1 yX1_lend yX1_lend, Cond.code yX1_lend cX1_lend 6 (some .int), Cond.fieldLink RX1 147 "WellRights$Well" "lentTo" "[I", Cond.methodLink RX1 141 yX1_requireDifferent, Cond.static yX1_requireDifferent, Cond.code yX1_requireDifferent cX1_requireDifferent 2 none, Cond.methodLink RL 130 yX2_lend, Cond.instanceMethod yX2_lend, Cond.selects RX2 yX2_lend yX2_lend, Cond.code yX2_lend cX2_lend 4 (some .int), Cond.methodLink RL 131 yL_callBack, Cond.static yL_callBack, Cond.codeWith yL_callBack cL_callBack 5 (some .int) [(0, 10, 13, 13), (0, 10, 17, 15)], Cond.methodLink RL 61 yX1_callBack, Cond.instanceMethod yX1_callBack, Cond.selects RX1 yX1_callBack yX1_callBack, Cond.code yX1_callBack cX1_callBack 6 (some .int), Cond.methodLink RL 133 yX2_callBack, Cond.instanceMethod yX2_callBack, Cond.selects RX2 yX2_callBack yX2_callBack]
def wsL_law0_r32 : List Cond := [Cond.code yX2_callBack cX2_callBack 5 (some .int), Cond.methodLink RL 134 yL_fines, Cond.static yL_fines, Cond.codeWith yL_fines cL_fines 4 (some .int) [(0, 9, 12, 13)], Cond.methodLink RL 64 yX1_fines, Cond.instanceMethod yX1_fines, Cond.selects RX1 yX1_fines yX1_fines, Cond.code yX1_fines cX1_fines 2 (some .int), Cond.methodLink RL 136 yX2_fines, Cond.instanceMethod yX2_fines, Cond.selects RX2 yX2_fines yX2_fines, Cond.code yX2_fines cX2_fines 2 (some .int), Cond.methodLink RL 137 yX1_fund, Cond.instanceMethod yX1_fund, Cond.selects RX1 yX1_fund yX1_fund, Cond.code yX1_fund cX1_fund 1 (some .int), Cond.methodLink RL 140 yX2_fund, Cond.instanceMethod yX2_fund, Cond.selects RX2 yX2_fund yX2_fund, Cond.code yX2_fund cX2_fund 1 (some .int), Cond.methodLink RL 141 yL_build, Cond.static yL_build, Cond.codeWith yL_build cL_build 4 (some .int) [(0, 9, 12, 15), (0, 9, 15, 17)], Cond.methodLink RL 67 yX1_build]
def wsL_law0_r33 : List Cond := [Cond.instanceMethod yX1_build, Cond.selects RX1 yX1_build yX1_build, Cond.code yX1_build cX1_build 2 (some .int), Cond.methodLink RL 143 yX2_build, Cond.instanceMethod yX2_build, Cond.selects RX2 yX2_build yX2_build, Cond.code yX2_build cX2_build 2 (some .int)]
def wsL_law0 : List Cond := (wsL_law0_r1 ++ (wsL_law0_r2 ++ (wsL_law0_r3 ++ (wsL_law0_r4 ++ (wsL_law0_r5 ++ (wsL_law0_r6 ++ (wsL_law0_r7 ++ (wsL_law0_r8 ++ (wsL_law0_r9 ++ (wsL_law0_r10 ++ (wsL_law0_r11 ++ (wsL_law0_r12 ++ (wsL_law0_r13 ++ (wsL_law0_r14 ++ (wsL_law0_r15 ++ (wsL_law0_r16 ++ (wsL_law0_r17 ++ (wsL_law0_r18 ++ (wsL_law0_r19 ++ (wsL_law0_r20 ++ (wsL_law0_r21 ++ (wsL_law0_r22 ++ (wsL_law0_r23 ++ (wsL_law0_r24 ++ (wsL_law0_r25 ++ (wsL_law0_r26 ++ (wsL_law0_r27 ++ (wsL_law0_r28 ++ (wsL_law0_r29 ++ (wsL_law0_r30 ++ (wsL_law0_r31 ++ (wsL_law0_r32 ++ wsL_law0_r33)))))))))))))))))))))))))))))))) ++ wsX10 ++ wsX20 ++ wsJx4a65c0 ++ wsX00 ++ wsJ40 ++ wsJ00 ++ ([] : List Cond)
def wsL_law : List Cond := wsL_law0 ++ (vx_atS RX1 49 "java/lang/IllegalStateException" ["java/lang/RuntimeException", "java/lang/Exception"]).filter goodWord ++ (vx_atS RX1 94 "java/lang/IndexOutOfBoundsException" ["java/lang/RuntimeException", "java/lang/Exception"]).filter goodWord ++ (vx_atS RX1 172 "java/lang/IllegalArgumentException" ["java/lang/RuntimeException", "java/lang/Exception"]).filter goodWord
theorem inlX0 : ∀ w ∈ wsX00, w ∈ wsL_law := fun _ h => List.mem_append_left _ (List.mem_append_left _ (List.mem_append_left _ (List.mem_append_left _ (List.mem_append_left _ (List.mem_append_left _ (List.mem_append_right _ h))))))
theorem inlX1 : ∀ w ∈ wsX10, w ∈ wsL_law := fun _ h => List.mem_append_left _ (List.mem_append_left _ (List.mem_append_left _ (List.mem_append_left _ (List.mem_append_left _ (List.mem_append_left _ (List.mem_append_left _ (List.mem_append_left _ (List.mem_append_left _ (List.mem_append_right _ h)))))))))
theorem inlX2 : ∀ w ∈ wsX20, w ∈ wsL_law := fun _ h => List.mem_append_left _ (List.mem_append_left _ (List.mem_append_left _ (List.mem_append_left _ (List.mem_append_left _ (List.mem_append_left _ (List.mem_append_left _ (List.mem_append_left _ (List.mem_append_right _ h))))))))
theorem inlJ0 : ∀ w ∈ wsJ00, w ∈ wsL_law := fun _ h => List.mem_append_left _ (List.mem_append_left _ (List.mem_append_left _ (List.mem_append_left _ (List.mem_append_right _ h))))
theorem inlJ4 : ∀ w ∈ wsJ40, w ∈ wsL_law := fun _ h => List.mem_append_left _ (List.mem_append_left _ (List.mem_append_left _ (List.mem_append_left _ (List.mem_append_left _ (List.mem_append_right _ h)))))
theorem inlJx4a65c : ∀ w ∈ wsJx4a65c0, w ∈ wsL_law := fun _ h => List.mem_append_left _ (List.mem_append_left _ (List.mem_append_left _ (List.mem_append_left _ (List.mem_append_left _ (List.mem_append_left _ (List.mem_append_left _ (List.mem_append_right _ h)))))))
theorem dX0_init_0 : decode cX0_init 0 = .ok (.aload_n 0, 1) := by decide +kernel
theorem dX0_init_1 : decode cX0_init 1 = .ok (.invokespecial 3, 3) := by decide +kernel
theorem dX0_init_4 : decode cX0_init 4 = .ok (.aload_n 0, 1) := by decide +kernel
theorem dX0_init_5 : decode cX0_init 5 = .ok (.iload_n 1, 1) := by decide +kernel
theorem dX0_init_6 : decode cX0_init 6 = .ok (.putfield 9, 3) := by decide +kernel
theorem dX0_init_9 : decode cX0_init 9 = .ok (.aload_n 0, 1) := by decide +kernel
theorem dX0_init_10 : decode cX0_init 10 = .ok (.iload_n 2, 1) := by decide +kernel
theorem dX0_init_11 : decode cX0_init 11 = .ok (.putfield 15, 3) := by decide +kernel
theorem dX0_init_14 : decode cX0_init 14 = .ok (.aload_n 0, 1) := by decide +kernel
theorem dX0_init_15 : decode cX0_init 15 = .ok (.iload_n 3, 1) := by decide +kernel
theorem dX0_init_16 : decode cX0_init 16 = .ok (.putfield 18, 3) := by decide +kernel
theorem dX0_init_19 : decode cX0_init 19 = .ok (.aload_n 0, 1) := by decide +kernel
theorem dX0_init_20 : decode cX0_init 20 = .ok (.iload 4, 2) := by decide +kernel
theorem dX0_init_22 : decode cX0_init 22 = .ok (.putfield 21, 3) := by decide +kernel
theorem dX0_init_25 : decode cX0_init 25 = .ok (.aload_n 0, 1) := by decide +kernel
theorem dX0_init_26 : decode cX0_init 26 = .ok (.iload 5, 2) := by decide +kernel
theorem dX0_init_28 : decode cX0_init 28 = .ok (.putfield 24, 3) := by decide +kernel
theorem dX0_init_31 : decode cX0_init 31 = .ok (.aload_n 0, 1) := by decide +kernel
theorem dX0_init_32 : decode cX0_init 32 = .ok (.iload 6, 2) := by decide +kernel
theorem dX0_init_34 : decode cX0_init 34 = .ok (.putfield 27, 3) := by decide +kernel
theorem dX0_init_37 : decode cX0_init 37 = .ok (.aload_n 0, 1) := by decide +kernel
theorem dX0_init_38 : decode cX0_init 38 = .ok (.iload 7, 2) := by decide +kernel
theorem dX0_init_40 : decode cX0_init 40 = .ok (.putfield 30, 3) := by decide +kernel
theorem dX0_init_43 : decode cX0_init 43 = .ok (.aload_n 0, 1) := by decide +kernel
theorem dX0_init_44 : decode cX0_init 44 = .ok (.iload_n 2, 1) := by decide +kernel
theorem dX0_init_45 : decode cX0_init 45 = .ok (.iload_n 3, 1) := by decide +kernel
theorem dX0_init_46 : decode cX0_init 46 = .ok (.iload_n 1, 1) := by decide +kernel
theorem dX0_init_47 : decode cX0_init 47 = .ok (.invokestatic 33, 3) := by decide +kernel
theorem dX0_init_50 : decode cX0_init 50 = .ok (.putfield 37, 3) := by decide +kernel
theorem dX0_init_53 : decode cX0_init 53 = .ok (.aload_n 0, 1) := by decide +kernel
theorem dX0_init_54 : decode cX0_init 54 = .ok (.bipush 8, 2) := by decide +kernel
theorem dX0_init_56 : decode cX0_init 56 = .ok (.newarray .int, 2) := by decide +kernel
theorem dX0_init_58 : decode cX0_init 58 = .ok (.putfield 41, 3) := by decide +kernel
theorem dX0_init_61 : decode cX0_init 61 = .ok (.aload_n 0, 1) := by decide +kernel
theorem dX0_init_62 : decode cX0_init 62 = .ok (.iconst 1, 1) := by decide +kernel
theorem dX0_init_63 : decode cX0_init 63 = .ok (.putfield 45, 3) := by decide +kernel
theorem dX0_init_66 : decode cX0_init 66 = .ok (.return_, 1) := by decide +kernel
theorem dX0_textOf_0 : decode cX0_textOf 0 = .ok (.new 49, 3) := by decide +kernel
theorem dX0_textOf_3 : decode cX0_textOf 3 = .ok (.dup, 1) := by decide +kernel
theorem dX0_textOf_4 : decode cX0_textOf 4 = .ok (.invokespecial 51, 3) := by decide +kernel
theorem dX0_textOf_7 : decode cX0_textOf 7 = .ok (.astore_n 3, 1) := by decide +kernel
theorem dX0_textOf_8 : decode cX0_textOf 8 = .ok (.aload_n 3, 1) := by decide +kernel
theorem dX0_textOf_9 : decode cX0_textOf 9 = .ok (.ldc 52, 2) := by decide +kernel
theorem dX0_textOf_11 : decode cX0_textOf 11 = .ok (.invokevirtual 53, 3) := by decide +kernel
theorem dX0_textOf_14 : decode cX0_textOf 14 = .ok (.iload_n 0, 1) := by decide +kernel
theorem dX0_textOf_15 : decode cX0_textOf 15 = .ok (.invokevirtual 57, 3) := by decide +kernel
theorem dX0_textOf_18 : decode cX0_textOf 18 = .ok (.bipush 64, 2) := by decide +kernel
theorem dX0_textOf_20 : decode cX0_textOf 20 = .ok (.invokevirtual 60, 3) := by decide +kernel
theorem dX0_textOf_23 : decode cX0_textOf 23 = .ok (.iload_n 1, 1) := by decide +kernel
theorem dX0_textOf_24 : decode cX0_textOf 24 = .ok (.invokevirtual 57, 3) := by decide +kernel
theorem dX0_textOf_27 : decode cX0_textOf 27 = .ok (.bipush 58, 2) := by decide +kernel
theorem dX0_textOf_29 : decode cX0_textOf 29 = .ok (.invokevirtual 60, 3) := by decide +kernel
theorem dX0_textOf_32 : decode cX0_textOf 32 = .ok (.iload_n 2, 1) := by decide +kernel
theorem dX0_textOf_33 : decode cX0_textOf 33 = .ok (.invokevirtual 57, 3) := by decide +kernel
theorem dX0_textOf_36 : decode cX0_textOf 36 = .ok (.pop, 1) := by decide +kernel
theorem dX0_textOf_37 : decode cX0_textOf 37 = .ok (.aload_n 3, 1) := by decide +kernel
theorem dX0_textOf_38 : decode cX0_textOf 38 = .ok (.invokevirtual 63, 3) := by decide +kernel
theorem dX0_textOf_41 : decode cX0_textOf 41 = .ok (.areturn, 1) := by decide +kernel
theorem dX0_bit_0 : decode cX0_bit 0 = .ok (.iconst 1, 1) := by decide +kernel
theorem dX0_bit_1 : decode cX0_bit 1 = .ok (.aload_n 0, 1) := by decide +kernel
theorem dX0_bit_2 : decode cX0_bit 2 = .ok (.getfield 9, 3) := by decide +kernel
theorem dX0_bit_5 : decode cX0_bit 5 = .ok (.ishl, 1) := by decide +kernel
theorem dX0_bit_6 : decode cX0_bit 6 = .ok (.ireturn, 1) := by decide +kernel
theorem dX0_isIn_0 : decode cX0_isIn 0 = .ok (.iload_n 1, 1) := by decide +kernel
theorem dX0_isIn_1 : decode cX0_isIn 1 = .ok (.aload_n 0, 1) := by decide +kernel
theorem dX0_isIn_2 : decode cX0_isIn 2 = .ok (.invokevirtual 67, 3) := by decide +kernel
theorem dX0_isIn_5 : decode cX0_isIn 5 = .ok (.iand, 1) := by decide +kernel
theorem dX0_isIn_6 : decode cX0_isIn 6 = .ok (.ifCond .eq 7, 3) := by decide +kernel
theorem dX0_isIn_9 : decode cX0_isIn 9 = .ok (.iconst 1, 1) := by decide +kernel
theorem dX0_isIn_10 : decode cX0_isIn 10 = .ok (.goto 4, 3) := by decide +kernel
theorem dX0_isIn_13 : decode cX0_isIn 13 = .ok (.iconst 0, 1) := by decide +kernel
theorem dX0_isIn_14 : decode cX0_isIn 14 = .ok (.ireturn, 1) := by decide +kernel
theorem dX0_isOlderThan_0 : decode cX0_isOlderThan 0 = .ok (.aload_n 0, 1) := by decide +kernel
theorem dX0_isOlderThan_1 : decode cX0_isOlderThan 1 = .ok (.getfield 27, 3) := by decide +kernel
theorem dX0_isOlderThan_4 : decode cX0_isOlderThan 4 = .ok (.aload_n 1, 1) := by decide +kernel
theorem dX0_isOlderThan_5 : decode cX0_isOlderThan 5 = .ok (.getfield 27, 3) := by decide +kernel
theorem dX0_isOlderThan_8 : decode cX0_isOlderThan 8 = .ok (.if_icmp .lt 25, 3) := by decide +kernel
theorem dX0_isOlderThan_11 : decode cX0_isOlderThan 11 = .ok (.aload_n 0, 1) := by decide +kernel
theorem dX0_isOlderThan_12 : decode cX0_isOlderThan 12 = .ok (.getfield 27, 3) := by decide +kernel
theorem dX0_isOlderThan_15 : decode cX0_isOlderThan 15 = .ok (.aload_n 1, 1) := by decide +kernel
theorem dX0_isOlderThan_16 : decode cX0_isOlderThan 16 = .ok (.getfield 27, 3) := by decide +kernel
theorem dX0_isOlderThan_19 : decode cX0_isOlderThan 19 = .ok (.if_icmp .ne 18, 3) := by decide +kernel
theorem dX0_isOlderThan_22 : decode cX0_isOlderThan 22 = .ok (.aload_n 0, 1) := by decide +kernel
theorem dX0_isOlderThan_23 : decode cX0_isOlderThan 23 = .ok (.getfield 9, 3) := by decide +kernel
theorem dX0_isOlderThan_26 : decode cX0_isOlderThan 26 = .ok (.aload_n 1, 1) := by decide +kernel
theorem dX0_isOlderThan_27 : decode cX0_isOlderThan 27 = .ok (.getfield 9, 3) := by decide +kernel
theorem dX0_isOlderThan_30 : decode cX0_isOlderThan 30 = .ok (.if_icmp .ge 7, 3) := by decide +kernel
theorem dX0_isOlderThan_33 : decode cX0_isOlderThan 33 = .ok (.iconst 1, 1) := by decide +kernel
theorem dX0_isOlderThan_34 : decode cX0_isOlderThan 34 = .ok (.goto 4, 3) := by decide +kernel
theorem dX0_isOlderThan_37 : decode cX0_isOlderThan 37 = .ok (.iconst 0, 1) := by decide +kernel
theorem dX0_isOlderThan_38 : decode cX0_isOlderThan 38 = .ok (.ireturn, 1) := by decide +kernel
theorem dX0_drawUnder_0 : decode cX0_drawUnder 0 = .ok (.aload_n 0, 1) := by decide +kernel
theorem dX0_drawUnder_1 : decode cX0_drawUnder 1 = .ok (.iload_n 1, 1) := by decide +kernel
theorem dX0_drawUnder_2 : decode cX0_drawUnder 2 = .ok (.invokevirtual 71, 3) := by decide +kernel
theorem dX0_drawUnder_5 : decode cX0_drawUnder 5 = .ok (.ifCond .eq 7, 3) := by decide +kernel
theorem dX0_drawUnder_8 : decode cX0_drawUnder 8 = .ok (.iconst 0, 1) := by decide +kernel
theorem dX0_drawUnder_9 : decode cX0_drawUnder 9 = .ok (.goto 7, 3) := by decide +kernel
theorem dX0_drawUnder_12 : decode cX0_drawUnder 12 = .ok (.aload_n 0, 1) := by decide +kernel
theorem dX0_drawUnder_13 : decode cX0_drawUnder 13 = .ok (.getfield 75, 3) := by decide +kernel
theorem dX0_drawUnder_16 : decode cX0_drawUnder 16 = .ok (.ireturn, 1) := by decide +kernel
theorem dX0_reachedFrom_0 : decode cX0_reachedFrom 0 = .ok (.iconst 0, 1) := by decide +kernel
theorem dX0_reachedFrom_1 : decode cX0_reachedFrom 1 = .ok (.bipush 100, 2) := by decide +kernel
theorem dX0_reachedFrom_3 : decode cX0_reachedFrom 3 = .ok (.bipush 10, 2) := by decide +kernel
theorem dX0_reachedFrom_5 : decode cX0_reachedFrom 5 = .ok (.aload_n 0, 1) := by decide +kernel
theorem dX0_reachedFrom_6 : decode cX0_reachedFrom 6 = .ok (.getfield 18, 3) := by decide +kernel
theorem dX0_reachedFrom_9 : decode cX0_reachedFrom 9 = .ok (.iload_n 2, 1) := by decide +kernel
theorem dX0_reachedFrom_10 : decode cX0_reachedFrom 10 = .ok (.isub, 1) := by decide +kernel
theorem dX0_reachedFrom_11 : decode cX0_reachedFrom 11 = .ok (.invokestatic 78, 3) := by decide +kernel
theorem dX0_reachedFrom_14 : decode cX0_reachedFrom 14 = .ok (.imul, 1) := by decide +kernel
theorem dX0_reachedFrom_15 : decode cX0_reachedFrom 15 = .ok (.isub, 1) := by decide +kernel
theorem dX0_reachedFrom_16 : decode cX0_reachedFrom 16 = .ok (.invokestatic 84, 3) := by decide +kernel
theorem dX0_reachedFrom_19 : decode cX0_reachedFrom 19 = .ok (.istore_n 3, 1) := by decide +kernel
theorem dX0_reachedFrom_20 : decode cX0_reachedFrom 20 = .ok (.aload_n 0, 1) := by decide +kernel
theorem dX0_reachedFrom_21 : decode cX0_reachedFrom 21 = .ok (.getfield 15, 3) := by decide +kernel
theorem dX0_reachedFrom_24 : decode cX0_reachedFrom 24 = .ok (.iload_n 1, 1) := by decide +kernel
theorem dX0_reachedFrom_25 : decode cX0_reachedFrom 25 = .ok (.isub, 1) := by decide +kernel
theorem dX0_reachedFrom_26 : decode cX0_reachedFrom 26 = .ok (.invokestatic 78, 3) := by decide +kernel
theorem dX0_reachedFrom_29 : decode cX0_reachedFrom 29 = .ok (.istore 4, 2) := by decide +kernel
theorem dX0_reachedFrom_31 : decode cX0_reachedFrom 31 = .ok (.iload 4, 2) := by decide +kernel
theorem dX0_reachedFrom_33 : decode cX0_reachedFrom 33 = .ok (.ifCond .ne 5, 3) := by decide +kernel
theorem dX0_reachedFrom_36 : decode cX0_reachedFrom 36 = .ok (.iload_n 3, 1) := by decide +kernel
theorem dX0_reachedFrom_37 : decode cX0_reachedFrom 37 = .ok (.ireturn, 1) := by decide +kernel
theorem dX0_reachedFrom_38 : decode cX0_reachedFrom 38 = .ok (.iload 4, 2) := by decide +kernel
theorem dX0_reachedFrom_40 : decode cX0_reachedFrom 40 = .ok (.iconst 1, 1) := by decide +kernel
theorem dX0_reachedFrom_41 : decode cX0_reachedFrom 41 = .ok (.if_icmp .ne 9, 3) := by decide +kernel
theorem dX0_reachedFrom_44 : decode cX0_reachedFrom 44 = .ok (.iload_n 3, 1) := by decide +kernel
theorem dX0_reachedFrom_45 : decode cX0_reachedFrom 45 = .ok (.iconst 2, 1) := by decide +kernel
theorem dX0_reachedFrom_46 : decode cX0_reachedFrom 46 = .ok (.idiv, 1) := by decide +kernel
theorem dX0_reachedFrom_47 : decode cX0_reachedFrom 47 = .ok (.goto 4, 3) := by decide +kernel
theorem dX0_reachedFrom_50 : decode cX0_reachedFrom 50 = .ok (.iconst 0, 1) := by decide +kernel
theorem dX0_reachedFrom_51 : decode cX0_reachedFrom 51 = .ok (.ireturn, 1) := by decide +kernel
theorem dX1_init_0 : decode cX1_init 0 = .ok (.aload_n 0, 1) := by decide +kernel
theorem dX1_init_1 : decode cX1_init 1 = .ok (.invokespecial 1, 3) := by decide +kernel
theorem dX1_init_4 : decode cX1_init 4 = .ok (.aload_n 0, 1) := by decide +kernel
theorem dX1_init_5 : decode cX1_init 5 = .ok (.new 7, 3) := by decide +kernel
theorem dX1_init_8 : decode cX1_init 8 = .ok (.dup, 1) := by decide +kernel
theorem dX1_init_9 : decode cX1_init 9 = .ok (.invokespecial 9, 3) := by decide +kernel
theorem dX1_init_12 : decode cX1_init 12 = .ok (.putfield 10, 3) := by decide +kernel
theorem dX1_init_15 : decode cX1_init 15 = .ok (.aload_n 0, 1) := by decide +kernel
theorem dX1_init_16 : decode cX1_init 16 = .ok (.iconst 3, 1) := by decide +kernel
theorem dX1_init_17 : decode cX1_init 17 = .ok (.newarray .int, 2) := by decide +kernel
theorem dX1_init_19 : decode cX1_init 19 = .ok (.putfield 16, 3) := by decide +kernel
theorem dX1_init_22 : decode cX1_init 22 = .ok (.aload_n 0, 1) := by decide +kernel
theorem dX1_init_23 : decode cX1_init 23 = .ok (.iconst 5, 1) := by decide +kernel
theorem dX1_init_24 : decode cX1_init 24 = .ok (.newarray .int, 2) := by decide +kernel
theorem dX1_init_26 : decode cX1_init 26 = .ok (.putfield 20, 3) := by decide +kernel
theorem dX1_init_29 : decode cX1_init 29 = .ok (.aload_n 0, 1) := by decide +kernel
theorem dX1_init_30 : decode cX1_init 30 = .ok (.iconst 0, 1) := by decide +kernel
theorem dX1_init_31 : decode cX1_init 31 = .ok (.putfield 23, 3) := by decide +kernel
theorem dX1_init_34 : decode cX1_init 34 = .ok (.aload_n 0, 1) := by decide +kernel
theorem dX1_init_35 : decode cX1_init 35 = .ok (.iconst 0, 1) := by decide +kernel
theorem dX1_init_36 : decode cX1_init 36 = .ok (.putfield 27, 3) := by decide +kernel
theorem dX1_init_39 : decode cX1_init 39 = .ok (.aload_n 0, 1) := by decide +kernel
theorem dX1_init_40 : decode cX1_init 40 = .ok (.iconst 0, 1) := by decide +kernel
theorem dX1_init_41 : decode cX1_init 41 = .ok (.putfield 30, 3) := by decide +kernel
theorem dX1_init_44 : decode cX1_init 44 = .ok (.return_, 1) := by decide +kernel
theorem dX1_addWell_0 : decode cX1_addWell 0 = .ok (.iload_n 1, 1) := by decide +kernel
theorem dX1_addWell_1 : decode cX1_addWell 1 = .ok (.invokestatic 33, 3) := by decide +kernel
theorem dX1_addWell_4 : decode cX1_addWell 4 = .ok (.iload_n 2, 1) := by decide +kernel
theorem dX1_addWell_5 : decode cX1_addWell 5 = .ok (.iconst 0, 1) := by decide +kernel
theorem dX1_addWell_6 : decode cX1_addWell 6 = .ok (.bipush 99, 2) := by decide +kernel
theorem dX1_addWell_8 : decode cX1_addWell 8 = .ok (.invokestatic 37, 3) := by decide +kernel
theorem dX1_addWell_11 : decode cX1_addWell 11 = .ok (.iload_n 3, 1) := by decide +kernel
theorem dX1_addWell_12 : decode cX1_addWell 12 = .ok (.sipush (-10000), 3) := by decide +kernel
theorem dX1_addWell_15 : decode cX1_addWell 15 = .ok (.sipush 10000, 3) := by decide +kernel
theorem dX1_addWell_18 : decode cX1_addWell 18 = .ok (.invokestatic 37, 3) := by decide +kernel
theorem dX1_addWell_21 : decode cX1_addWell 21 = .ok (.iload 4, 2) := by decide +kernel
theorem dX1_addWell_23 : decode cX1_addWell 23 = .ok (.sipush (-10000), 3) := by decide +kernel
theorem dX1_addWell_26 : decode cX1_addWell 26 = .ok (.sipush 10000, 3) := by decide +kernel
theorem dX1_addWell_29 : decode cX1_addWell 29 = .ok (.invokestatic 37, 3) := by decide +kernel
theorem dX1_addWell_32 : decode cX1_addWell 32 = .ok (.iload 5, 2) := by decide +kernel
theorem dX1_addWell_34 : decode cX1_addWell 34 = .ok (.iconst 0, 1) := by decide +kernel
theorem dX1_addWell_35 : decode cX1_addWell 35 = .ok (.sipush 1000, 3) := by decide +kernel
theorem dX1_addWell_38 : decode cX1_addWell 38 = .ok (.invokestatic 37, 3) := by decide +kernel
theorem dX1_addWell_41 : decode cX1_addWell 41 = .ok (.iload 6, 2) := by decide +kernel
theorem dX1_addWell_43 : decode cX1_addWell 43 = .ok (.iconst 0, 1) := by decide +kernel
theorem dX1_addWell_44 : decode cX1_addWell 44 = .ok (.sipush 1000, 3) := by decide +kernel
theorem dX1_addWell_47 : decode cX1_addWell 47 = .ok (.invokestatic 37, 3) := by decide +kernel
theorem dX1_addWell_50 : decode cX1_addWell 50 = .ok (.aload_n 0, 1) := by decide +kernel
theorem dX1_addWell_51 : decode cX1_addWell 51 = .ok (.getfield 10, 3) := by decide +kernel
theorem dX1_addWell_54 : decode cX1_addWell 54 = .ok (.invokevirtual 41, 3) := by decide +kernel
theorem dX1_addWell_57 : decode cX1_addWell 57 = .ok (.istore 7, 2) := by decide +kernel
theorem dX1_addWell_59 : decode cX1_addWell 59 = .ok (.iload 7, 2) := by decide +kernel
theorem dX1_addWell_61 : decode cX1_addWell 61 = .ok (.bipush 8, 2) := by decide +kernel
theorem dX1_addWell_63 : decode cX1_addWell 63 = .ok (.if_icmp .lt 13, 3) := by decide +kernel
theorem dX1_addWell_66 : decode cX1_addWell 66 = .ok (.new 45, 3) := by decide +kernel
theorem dX1_addWell_69 : decode cX1_addWell 69 = .ok (.dup, 1) := by decide +kernel
theorem dX1_addWell_70 : decode cX1_addWell 70 = .ok (.ldc 47, 2) := by decide +kernel
theorem dX1_addWell_72 : decode cX1_addWell 72 = .ok (.invokespecial 49, 3) := by decide +kernel
theorem dX1_addWell_75 : decode cX1_addWell 75 = .ok (.athrow, 1) := by decide +kernel
theorem dX1_addWell_76 : decode cX1_addWell 76 = .ok (.aload_n 0, 1) := by decide +kernel
theorem dX1_addWell_77 : decode cX1_addWell 77 = .ok (.getfield 10, 3) := by decide +kernel
theorem dX1_addWell_80 : decode cX1_addWell 80 = .ok (.new 52, 3) := by decide +kernel
theorem dX1_addWell_83 : decode cX1_addWell 83 = .ok (.dup, 1) := by decide +kernel
theorem dX1_addWell_84 : decode cX1_addWell 84 = .ok (.iload 7, 2) := by decide +kernel
theorem dX1_addWell_86 : decode cX1_addWell 86 = .ok (.iload_n 1, 1) := by decide +kernel
theorem dX1_addWell_87 : decode cX1_addWell 87 = .ok (.iload_n 2, 1) := by decide +kernel
theorem dX1_addWell_88 : decode cX1_addWell 88 = .ok (.iload_n 3, 1) := by decide +kernel
theorem dX1_addWell_89 : decode cX1_addWell 89 = .ok (.iload 4, 2) := by decide +kernel
theorem dX1_addWell_91 : decode cX1_addWell 91 = .ok (.iload 5, 2) := by decide +kernel
theorem dX1_addWell_93 : decode cX1_addWell 93 = .ok (.iload 6, 2) := by decide +kernel
theorem dX1_addWell_95 : decode cX1_addWell 95 = .ok (.invokespecial 54, 3) := by decide +kernel
theorem dX1_addWell_98 : decode cX1_addWell 98 = .ok (.invokevirtual 57, 3) := by decide +kernel
theorem dX1_addWell_101 : decode cX1_addWell 101 = .ok (.pop, 1) := by decide +kernel
theorem dX1_addWell_102 : decode cX1_addWell 102 = .ok (.iload 7, 2) := by decide +kernel
theorem dX1_addWell_104 : decode cX1_addWell 104 = .ok (.ireturn, 1) := by decide +kernel
theorem dX1_plan_0 : decode cX1_plan 0 = .ok (.aload_n 0, 1) := by decide +kernel
theorem dX1_plan_1 : decode cX1_plan 1 = .ok (.iload_n 1, 1) := by decide +kernel
theorem dX1_plan_2 : decode cX1_plan 2 = .ok (.invokevirtual 61, 3) := by decide +kernel
theorem dX1_plan_5 : decode cX1_plan 5 = .ok (.astore_n 3, 1) := by decide +kernel
theorem dX1_plan_6 : decode cX1_plan 6 = .ok (.iload_n 2, 1) := by decide +kernel
theorem dX1_plan_7 : decode cX1_plan 7 = .ok (.iconst 0, 1) := by decide +kernel
theorem dX1_plan_8 : decode cX1_plan 8 = .ok (.sipush 2000, 3) := by decide +kernel
theorem dX1_plan_11 : decode cX1_plan 11 = .ok (.invokestatic 37, 3) := by decide +kernel
theorem dX1_plan_14 : decode cX1_plan 14 = .ok (.aload_n 3, 1) := by decide +kernel
theorem dX1_plan_15 : decode cX1_plan 15 = .ok (.getfield 65, 3) := by decide +kernel
theorem dX1_plan_18 : decode cX1_plan 18 = .ok (.istore 4, 2) := by decide +kernel
theorem dX1_plan_20 : decode cX1_plan 20 = .ok (.aload_n 3, 1) := by decide +kernel
theorem dX1_plan_21 : decode cX1_plan 21 = .ok (.iload_n 2, 1) := by decide +kernel
theorem dX1_plan_22 : decode cX1_plan 22 = .ok (.putfield 65, 3) := by decide +kernel
theorem dX1_plan_25 : decode cX1_plan 25 = .ok (.iload 4, 2) := by decide +kernel
theorem dX1_plan_27 : decode cX1_plan 27 = .ok (.ireturn, 1) := by decide +kernel
theorem dX1_setRecharge_0 : decode cX1_setRecharge 0 = .ok (.iload_n 1, 1) := by decide +kernel
theorem dX1_setRecharge_1 : decode cX1_setRecharge 1 = .ok (.invokestatic 33, 3) := by decide +kernel
theorem dX1_setRecharge_4 : decode cX1_setRecharge 4 = .ok (.iload_n 2, 1) := by decide +kernel
theorem dX1_setRecharge_5 : decode cX1_setRecharge 5 = .ok (.iconst 0, 1) := by decide +kernel
theorem dX1_setRecharge_6 : decode cX1_setRecharge 6 = .ok (.sipush 1000, 3) := by decide +kernel
theorem dX1_setRecharge_9 : decode cX1_setRecharge 9 = .ok (.invokestatic 37, 3) := by decide +kernel
theorem dX1_setRecharge_12 : decode cX1_setRecharge 12 = .ok (.aload_n 0, 1) := by decide +kernel
theorem dX1_setRecharge_13 : decode cX1_setRecharge 13 = .ok (.getfield 16, 3) := by decide +kernel
theorem dX1_setRecharge_16 : decode cX1_setRecharge 16 = .ok (.iload_n 1, 1) := by decide +kernel
theorem dX1_setRecharge_17 : decode cX1_setRecharge 17 = .ok (.iaload, 1) := by decide +kernel
theorem dX1_setRecharge_18 : decode cX1_setRecharge 18 = .ok (.istore_n 3, 1) := by decide +kernel
theorem dX1_setRecharge_19 : decode cX1_setRecharge 19 = .ok (.aload_n 0, 1) := by decide +kernel
theorem dX1_setRecharge_20 : decode cX1_setRecharge 20 = .ok (.getfield 16, 3) := by decide +kernel
theorem dX1_setRecharge_23 : decode cX1_setRecharge 23 = .ok (.iload_n 1, 1) := by decide +kernel
theorem dX1_setRecharge_24 : decode cX1_setRecharge 24 = .ok (.iload_n 2, 1) := by decide +kernel
theorem dX1_setRecharge_25 : decode cX1_setRecharge 25 = .ok (.iastore, 1) := by decide +kernel
theorem dX1_setRecharge_26 : decode cX1_setRecharge 26 = .ok (.iload_n 3, 1) := by decide +kernel
theorem dX1_setRecharge_27 : decode cX1_setRecharge 27 = .ok (.ireturn, 1) := by decide +kernel
theorem dX1_reach_0 : decode cX1_reach 0 = .ok (.aload_n 0, 1) := by decide +kernel
theorem dX1_reach_1 : decode cX1_reach 1 = .ok (.iload_n 1, 1) := by decide +kernel
theorem dX1_reach_2 : decode cX1_reach 2 = .ok (.invokevirtual 61, 3) := by decide +kernel
theorem dX1_reach_5 : decode cX1_reach 5 = .ok (.astore_n 3, 1) := by decide +kernel
theorem dX1_reach_6 : decode cX1_reach 6 = .ok (.aload_n 0, 1) := by decide +kernel
theorem dX1_reach_7 : decode cX1_reach 7 = .ok (.iload_n 2, 1) := by decide +kernel
theorem dX1_reach_8 : decode cX1_reach 8 = .ok (.invokevirtual 61, 3) := by decide +kernel
theorem dX1_reach_11 : decode cX1_reach 11 = .ok (.astore 4, 2) := by decide +kernel
theorem dX1_reach_13 : decode cX1_reach 13 = .ok (.aload 4, 2) := by decide +kernel
theorem dX1_reach_15 : decode cX1_reach 15 = .ok (.aload_n 3, 1) := by decide +kernel
theorem dX1_reach_16 : decode cX1_reach 16 = .ok (.getfield 68, 3) := by decide +kernel
theorem dX1_reach_19 : decode cX1_reach 19 = .ok (.aload_n 3, 1) := by decide +kernel
theorem dX1_reach_20 : decode cX1_reach 20 = .ok (.getfield 71, 3) := by decide +kernel
theorem dX1_reach_23 : decode cX1_reach 23 = .ok (.invokevirtual 74, 3) := by decide +kernel
theorem dX1_reach_26 : decode cX1_reach 26 = .ok (.ireturn, 1) := by decide +kernel
theorem dX1_level_0 : decode cX1_level 0 = .ok (.aload_n 0, 1) := by decide +kernel
theorem dX1_level_1 : decode cX1_level 1 = .ok (.iload_n 1, 1) := by decide +kernel
theorem dX1_level_2 : decode cX1_level 2 = .ok (.invokevirtual 61, 3) := by decide +kernel
theorem dX1_level_5 : decode cX1_level 5 = .ok (.getfield 78, 3) := by decide +kernel
theorem dX1_level_8 : decode cX1_level 8 = .ok (.ireturn, 1) := by decide +kernel
theorem dX1_sign_0 : decode cX1_sign 0 = .ok (.aload_n 0, 1) := by decide +kernel
theorem dX1_sign_1 : decode cX1_sign 1 = .ok (.iload_n 1, 1) := by decide +kernel
theorem dX1_sign_2 : decode cX1_sign 2 = .ok (.invokevirtual 61, 3) := by decide +kernel
theorem dX1_sign_5 : decode cX1_sign 5 = .ok (.getfield 81, 3) := by decide +kernel
theorem dX1_sign_8 : decode cX1_sign 8 = .ok (.astore_n 3, 1) := by decide +kernel
theorem dX1_sign_9 : decode cX1_sign 9 = .ok (.iload_n 2, 1) := by decide +kernel
theorem dX1_sign_10 : decode cX1_sign 10 = .ok (.ifCond .lt 11, 3) := by decide +kernel
theorem dX1_sign_13 : decode cX1_sign 13 = .ok (.iload_n 2, 1) := by decide +kernel
theorem dX1_sign_14 : decode cX1_sign 14 = .ok (.aload_n 3, 1) := by decide +kernel
theorem dX1_sign_15 : decode cX1_sign 15 = .ok (.invokevirtual 85, 3) := by decide +kernel
theorem dX1_sign_18 : decode cX1_sign 18 = .ok (.if_icmp .lt 13, 3) := by decide +kernel
theorem dX1_sign_21 : decode cX1_sign 21 = .ok (.new 90, 3) := by decide +kernel
theorem dX1_sign_24 : decode cX1_sign 24 = .ok (.dup, 1) := by decide +kernel
theorem dX1_sign_25 : decode cX1_sign 25 = .ok (.ldc 92, 2) := by decide +kernel
theorem dX1_sign_27 : decode cX1_sign 27 = .ok (.invokespecial 94, 3) := by decide +kernel
theorem dX1_sign_30 : decode cX1_sign 30 = .ok (.athrow, 1) := by decide +kernel
theorem dX1_sign_31 : decode cX1_sign 31 = .ok (.aload_n 3, 1) := by decide +kernel
theorem dX1_sign_32 : decode cX1_sign 32 = .ok (.iload_n 2, 1) := by decide +kernel
theorem dX1_sign_33 : decode cX1_sign 33 = .ok (.invokevirtual 95, 3) := by decide +kernel
theorem dX1_sign_36 : decode cX1_sign 36 = .ok (.ireturn, 1) := by decide +kernel
theorem dX1_year_0 : decode cX1_year 0 = .ok (.aload_n 0, 1) := by decide +kernel
theorem dX1_year_1 : decode cX1_year 1 = .ok (.getfield 30, 3) := by decide +kernel
theorem dX1_year_4 : decode cX1_year 4 = .ok (.bipush 60, 2) := by decide +kernel
theorem dX1_year_6 : decode cX1_year 6 = .ok (.if_icmp .lt 13, 3) := by decide +kernel
theorem dX1_year_9 : decode cX1_year 9 = .ok (.new 45, 3) := by decide +kernel
theorem dX1_year_12 : decode cX1_year 12 = .ok (.dup, 1) := by decide +kernel
theorem dX1_year_13 : decode cX1_year 13 = .ok (.ldc 99, 2) := by decide +kernel
theorem dX1_year_15 : decode cX1_year 15 = .ok (.invokespecial 49, 3) := by decide +kernel
theorem dX1_year_18 : decode cX1_year 18 = .ok (.athrow, 1) := by decide +kernel
theorem dX1_year_19 : decode cX1_year 19 = .ok (.aload_n 0, 1) := by decide +kernel
theorem dX1_year_20 : decode cX1_year 20 = .ok (.invokevirtual 101, 3) := by decide +kernel
theorem dX1_year_23 : decode cX1_year 23 = .ok (.aload_n 0, 1) := by decide +kernel
theorem dX1_year_24 : decode cX1_year 24 = .ok (.invokevirtual 104, 3) := by decide +kernel
theorem dX1_year_27 : decode cX1_year 27 = .ok (.istore_n 1, 1) := by decide +kernel
theorem dX1_year_28 : decode cX1_year 28 = .ok (.aload_n 0, 1) := by decide +kernel
theorem dX1_year_29 : decode cX1_year 29 = .ok (.iload_n 1, 1) := by decide +kernel
theorem dX1_year_30 : decode cX1_year 30 = .ok (.invokevirtual 107, 3) := by decide +kernel
theorem dX1_year_33 : decode cX1_year 33 = .ok (.aload_n 0, 1) := by decide +kernel
theorem dX1_year_34 : decode cX1_year 34 = .ok (.invokevirtual 110, 3) := by decide +kernel
theorem dX1_year_37 : decode cX1_year 37 = .ok (.aload_n 0, 1) := by decide +kernel
theorem dX1_year_38 : decode cX1_year 38 = .ok (.iload_n 1, 1) := by decide +kernel
theorem dX1_year_39 : decode cX1_year 39 = .ok (.invokevirtual 113, 3) := by decide +kernel
theorem dX1_year_42 : decode cX1_year 42 = .ok (.aload_n 0, 1) := by decide +kernel
theorem dX1_year_43 : decode cX1_year 43 = .ok (.invokevirtual 116, 3) := by decide +kernel
theorem dX1_year_46 : decode cX1_year 46 = .ok (.aload_n 0, 1) := by decide +kernel
theorem dX1_year_47 : decode cX1_year 47 = .ok (.dup, 1) := by decide +kernel
theorem dX1_year_48 : decode cX1_year 48 = .ok (.getfield 30, 3) := by decide +kernel
theorem dX1_year_51 : decode cX1_year 51 = .ok (.iconst 1, 1) := by decide +kernel
theorem dX1_year_52 : decode cX1_year 52 = .ok (.iadd, 1) := by decide +kernel
theorem dX1_year_53 : decode cX1_year 53 = .ok (.putfield 30, 3) := by decide +kernel
theorem dX1_year_56 : decode cX1_year 56 = .ok (.iload_n 1, 1) := by decide +kernel
theorem dX1_year_57 : decode cX1_year 57 = .ok (.invokestatic 119, 3) := by decide +kernel
theorem dX1_year_60 : decode cX1_year 60 = .ok (.ireturn, 1) := by decide +kernel
theorem dX1_years_0 : decode cX1_years 0 = .ok (.aload_n 0, 1) := by decide +kernel
theorem dX1_years_1 : decode cX1_years 1 = .ok (.getfield 30, 3) := by decide +kernel
theorem dX1_years_4 : decode cX1_years 4 = .ok (.ireturn, 1) := by decide +kernel
theorem dX1_wouldStop_0 : decode cX1_wouldStop 0 = .ok (.aload_n 0, 1) := by decide +kernel
theorem dX1_wouldStop_1 : decode cX1_wouldStop 1 = .ok (.invokevirtual 104, 3) := by decide +kernel
theorem dX1_wouldStop_4 : decode cX1_wouldStop 4 = .ok (.ireturn, 1) := by decide +kernel
theorem dX1_drew_0 : decode cX1_drew 0 = .ok (.aload_n 0, 1) := by decide +kernel
theorem dX1_drew_1 : decode cX1_drew 1 = .ok (.iload_n 1, 1) := by decide +kernel
theorem dX1_drew_2 : decode cX1_drew 2 = .ok (.invokevirtual 61, 3) := by decide +kernel
theorem dX1_drew_5 : decode cX1_drew 5 = .ok (.getfield 125, 3) := by decide +kernel
theorem dX1_drew_8 : decode cX1_drew 8 = .ok (.ireturn, 1) := by decide +kernel
theorem dX1_told_0 : decode cX1_told 0 = .ok (.aload_n 0, 1) := by decide +kernel
theorem dX1_told_1 : decode cX1_told 1 = .ok (.iload_n 1, 1) := by decide +kernel
theorem dX1_told_2 : decode cX1_told 2 = .ok (.invokevirtual 61, 3) := by decide +kernel
theorem dX1_told_5 : decode cX1_told 5 = .ok (.getfield 128, 3) := by decide +kernel
theorem dX1_told_8 : decode cX1_told 8 = .ok (.ireturn, 1) := by decide +kernel
theorem dX1_toggleMeter_0 : decode cX1_toggleMeter 0 = .ok (.aload_n 0, 1) := by decide +kernel
theorem dX1_toggleMeter_1 : decode cX1_toggleMeter 1 = .ok (.iload_n 1, 1) := by decide +kernel
theorem dX1_toggleMeter_2 : decode cX1_toggleMeter 2 = .ok (.invokevirtual 61, 3) := by decide +kernel
theorem dX1_toggleMeter_5 : decode cX1_toggleMeter 5 = .ok (.astore_n 2, 1) := by decide +kernel
theorem dX1_toggleMeter_6 : decode cX1_toggleMeter 6 = .ok (.aload_n 2, 1) := by decide +kernel
theorem dX1_toggleMeter_7 : decode cX1_toggleMeter 7 = .ok (.aload_n 2, 1) := by decide +kernel
theorem dX1_toggleMeter_8 : decode cX1_toggleMeter 8 = .ok (.getfield 131, 3) := by decide +kernel
theorem dX1_toggleMeter_11 : decode cX1_toggleMeter 11 = .ok (.ifCond .ne 7, 3) := by decide +kernel
theorem dX1_toggleMeter_14 : decode cX1_toggleMeter 14 = .ok (.iconst 1, 1) := by decide +kernel
theorem dX1_toggleMeter_15 : decode cX1_toggleMeter 15 = .ok (.goto 4, 3) := by decide +kernel
theorem dX1_toggleMeter_18 : decode cX1_toggleMeter 18 = .ok (.iconst 0, 1) := by decide +kernel
theorem dX1_toggleMeter_19 : decode cX1_toggleMeter 19 = .ok (.putfield 131, 3) := by decide +kernel
theorem dX1_toggleMeter_22 : decode cX1_toggleMeter 22 = .ok (.aload_n 2, 1) := by decide +kernel
theorem dX1_toggleMeter_23 : decode cX1_toggleMeter 23 = .ok (.getfield 131, 3) := by decide +kernel
theorem dX1_toggleMeter_26 : decode cX1_toggleMeter 26 = .ok (.ireturn, 1) := by decide +kernel
theorem dX1_power_0 : decode cX1_power 0 = .ok (.aload_n 0, 1) := by decide +kernel
theorem dX1_power_1 : decode cX1_power 1 = .ok (.iload_n 1, 1) := by decide +kernel
theorem dX1_power_2 : decode cX1_power 2 = .ok (.invokevirtual 61, 3) := by decide +kernel
theorem dX1_power_5 : decode cX1_power 5 = .ok (.astore_n 3, 1) := by decide +kernel
theorem dX1_power_6 : decode cX1_power 6 = .ok (.iload_n 2, 1) := by decide +kernel
theorem dX1_power_7 : decode cX1_power 7 = .ok (.iconst 0, 1) := by decide +kernel
theorem dX1_power_8 : decode cX1_power 8 = .ok (.sipush 1000, 3) := by decide +kernel
theorem dX1_power_11 : decode cX1_power 11 = .ok (.invokestatic 37, 3) := by decide +kernel
theorem dX1_power_14 : decode cX1_power 14 = .ok (.aload_n 3, 1) := by decide +kernel
theorem dX1_power_15 : decode cX1_power 15 = .ok (.getfield 135, 3) := by decide +kernel
theorem dX1_power_18 : decode cX1_power 18 = .ok (.istore 4, 2) := by decide +kernel
theorem dX1_power_20 : decode cX1_power 20 = .ok (.aload_n 3, 1) := by decide +kernel
theorem dX1_power_21 : decode cX1_power 21 = .ok (.iload_n 2, 1) := by decide +kernel
theorem dX1_power_22 : decode cX1_power 22 = .ok (.putfield 135, 3) := by decide +kernel
theorem dX1_power_25 : decode cX1_power 25 = .ok (.iload 4, 2) := by decide +kernel
theorem dX1_power_27 : decode cX1_power 27 = .ok (.ireturn, 1) := by decide +kernel
theorem dX1_bank_0 : decode cX1_bank 0 = .ok (.aload_n 0, 1) := by decide +kernel
theorem dX1_bank_1 : decode cX1_bank 1 = .ok (.iload_n 1, 1) := by decide +kernel
theorem dX1_bank_2 : decode cX1_bank 2 = .ok (.invokevirtual 61, 3) := by decide +kernel
theorem dX1_bank_5 : decode cX1_bank 5 = .ok (.getfield 138, 3) := by decide +kernel
theorem dX1_bank_8 : decode cX1_bank 8 = .ok (.ireturn, 1) := by decide +kernel
theorem dX1_lend_0 : decode cX1_lend 0 = .ok (.aload_n 0, 1) := by decide +kernel
theorem dX1_lend_1 : decode cX1_lend 1 = .ok (.iload_n 1, 1) := by decide +kernel
theorem dX1_lend_2 : decode cX1_lend 2 = .ok (.invokevirtual 61, 3) := by decide +kernel
theorem dX1_lend_5 : decode cX1_lend 5 = .ok (.astore 4, 2) := by decide +kernel
theorem dX1_lend_7 : decode cX1_lend 7 = .ok (.aload_n 0, 1) := by decide +kernel
theorem dX1_lend_8 : decode cX1_lend 8 = .ok (.iload_n 2, 1) := by decide +kernel
theorem dX1_lend_9 : decode cX1_lend 9 = .ok (.invokevirtual 61, 3) := by decide +kernel
theorem dX1_lend_12 : decode cX1_lend 12 = .ok (.astore 5, 2) := by decide +kernel
theorem dX1_lend_14 : decode cX1_lend 14 = .ok (.iload_n 1, 1) := by decide +kernel
theorem dX1_lend_15 : decode cX1_lend 15 = .ok (.iload_n 2, 1) := by decide +kernel
theorem dX1_lend_16 : decode cX1_lend 16 = .ok (.invokestatic 141, 3) := by decide +kernel
theorem dX1_lend_19 : decode cX1_lend 19 = .ok (.iload_n 3, 1) := by decide +kernel
theorem dX1_lend_20 : decode cX1_lend 20 = .ok (.iconst 1, 1) := by decide +kernel
theorem dX1_lend_21 : decode cX1_lend 21 = .ok (.sipush 10000, 3) := by decide +kernel
theorem dX1_lend_24 : decode cX1_lend 24 = .ok (.invokestatic 37, 3) := by decide +kernel
theorem dX1_lend_27 : decode cX1_lend 27 = .ok (.aload 4, 2) := by decide +kernel
theorem dX1_lend_29 : decode cX1_lend 29 = .ok (.getfield 138, 3) := by decide +kernel
theorem dX1_lend_32 : decode cX1_lend 32 = .ok (.iload_n 3, 1) := by decide +kernel
theorem dX1_lend_33 : decode cX1_lend 33 = .ok (.if_icmp .ge 13, 3) := by decide +kernel
theorem dX1_lend_36 : decode cX1_lend 36 = .ok (.new 45, 3) := by decide +kernel
theorem dX1_lend_39 : decode cX1_lend 39 = .ok (.dup, 1) := by decide +kernel
theorem dX1_lend_40 : decode cX1_lend 40 = .ok (.ldc 145, 2) := by decide +kernel
theorem dX1_lend_42 : decode cX1_lend 42 = .ok (.invokespecial 49, 3) := by decide +kernel
theorem dX1_lend_45 : decode cX1_lend 45 = .ok (.athrow, 1) := by decide +kernel
theorem dX1_lend_46 : decode cX1_lend 46 = .ok (.aload 4, 2) := by decide +kernel
theorem dX1_lend_48 : decode cX1_lend 48 = .ok (.dup, 1) := by decide +kernel
theorem dX1_lend_49 : decode cX1_lend 49 = .ok (.getfield 138, 3) := by decide +kernel
theorem dX1_lend_52 : decode cX1_lend 52 = .ok (.iload_n 3, 1) := by decide +kernel
theorem dX1_lend_53 : decode cX1_lend 53 = .ok (.isub, 1) := by decide +kernel
theorem dX1_lend_54 : decode cX1_lend 54 = .ok (.putfield 138, 3) := by decide +kernel
theorem dX1_lend_57 : decode cX1_lend 57 = .ok (.aload 5, 2) := by decide +kernel
theorem dX1_lend_59 : decode cX1_lend 59 = .ok (.dup, 1) := by decide +kernel
theorem dX1_lend_60 : decode cX1_lend 60 = .ok (.getfield 138, 3) := by decide +kernel
theorem dX1_lend_63 : decode cX1_lend 63 = .ok (.iload_n 3, 1) := by decide +kernel
theorem dX1_lend_64 : decode cX1_lend 64 = .ok (.iadd, 1) := by decide +kernel
theorem dX1_lend_65 : decode cX1_lend 65 = .ok (.putfield 138, 3) := by decide +kernel
theorem dX1_lend_68 : decode cX1_lend 68 = .ok (.aload 4, 2) := by decide +kernel
theorem dX1_lend_70 : decode cX1_lend 70 = .ok (.getfield 147, 3) := by decide +kernel
theorem dX1_lend_73 : decode cX1_lend 73 = .ok (.iload_n 2, 1) := by decide +kernel
theorem dX1_lend_74 : decode cX1_lend 74 = .ok (.dup2, 1) := by decide +kernel
theorem dX1_lend_75 : decode cX1_lend 75 = .ok (.iaload, 1) := by decide +kernel
theorem dX1_lend_76 : decode cX1_lend 76 = .ok (.iload_n 3, 1) := by decide +kernel
theorem dX1_lend_77 : decode cX1_lend 77 = .ok (.iadd, 1) := by decide +kernel
theorem dX1_lend_78 : decode cX1_lend 78 = .ok (.iastore, 1) := by decide +kernel
theorem dX1_lend_79 : decode cX1_lend 79 = .ok (.aload 4, 2) := by decide +kernel
theorem dX1_lend_81 : decode cX1_lend 81 = .ok (.getfield 147, 3) := by decide +kernel
theorem dX1_lend_84 : decode cX1_lend 84 = .ok (.iload_n 2, 1) := by decide +kernel
theorem dX1_lend_85 : decode cX1_lend 85 = .ok (.iaload, 1) := by decide +kernel
theorem dX1_lend_86 : decode cX1_lend 86 = .ok (.ireturn, 1) := by decide +kernel
theorem dX1_callBack_0 : decode cX1_callBack 0 = .ok (.aload_n 0, 1) := by decide +kernel
theorem dX1_callBack_1 : decode cX1_callBack 1 = .ok (.iload_n 1, 1) := by decide +kernel
theorem dX1_callBack_2 : decode cX1_callBack 2 = .ok (.invokevirtual 61, 3) := by decide +kernel
theorem dX1_callBack_5 : decode cX1_callBack 5 = .ok (.astore_n 3, 1) := by decide +kernel
theorem dX1_callBack_6 : decode cX1_callBack 6 = .ok (.aload_n 0, 1) := by decide +kernel
theorem dX1_callBack_7 : decode cX1_callBack 7 = .ok (.iload_n 2, 1) := by decide +kernel
theorem dX1_callBack_8 : decode cX1_callBack 8 = .ok (.invokevirtual 61, 3) := by decide +kernel
theorem dX1_callBack_11 : decode cX1_callBack 11 = .ok (.astore 4, 2) := by decide +kernel
theorem dX1_callBack_13 : decode cX1_callBack 13 = .ok (.iload_n 1, 1) := by decide +kernel
theorem dX1_callBack_14 : decode cX1_callBack 14 = .ok (.iload_n 2, 1) := by decide +kernel
theorem dX1_callBack_15 : decode cX1_callBack 15 = .ok (.invokestatic 141, 3) := by decide +kernel
theorem dX1_callBack_18 : decode cX1_callBack 18 = .ok (.aload_n 3, 1) := by decide +kernel
theorem dX1_callBack_19 : decode cX1_callBack 19 = .ok (.getfield 147, 3) := by decide +kernel
theorem dX1_callBack_22 : decode cX1_callBack 22 = .ok (.iload_n 2, 1) := by decide +kernel
theorem dX1_callBack_23 : decode cX1_callBack 23 = .ok (.iaload, 1) := by decide +kernel
theorem dX1_callBack_24 : decode cX1_callBack 24 = .ok (.aload 4, 2) := by decide +kernel
theorem dX1_callBack_26 : decode cX1_callBack 26 = .ok (.getfield 138, 3) := by decide +kernel
theorem dX1_callBack_29 : decode cX1_callBack 29 = .ok (.invokestatic 150, 3) := by decide +kernel
theorem dX1_callBack_32 : decode cX1_callBack 32 = .ok (.istore 5, 2) := by decide +kernel
theorem dX1_callBack_34 : decode cX1_callBack 34 = .ok (.aload_n 3, 1) := by decide +kernel
theorem dX1_callBack_35 : decode cX1_callBack 35 = .ok (.getfield 147, 3) := by decide +kernel
theorem dX1_callBack_38 : decode cX1_callBack 38 = .ok (.iload_n 2, 1) := by decide +kernel
theorem dX1_callBack_39 : decode cX1_callBack 39 = .ok (.dup2, 1) := by decide +kernel
theorem dX1_callBack_40 : decode cX1_callBack 40 = .ok (.iaload, 1) := by decide +kernel
theorem dX1_callBack_41 : decode cX1_callBack 41 = .ok (.iload 5, 2) := by decide +kernel
theorem dX1_callBack_43 : decode cX1_callBack 43 = .ok (.isub, 1) := by decide +kernel
theorem dX1_callBack_44 : decode cX1_callBack 44 = .ok (.iastore, 1) := by decide +kernel
theorem dX1_callBack_45 : decode cX1_callBack 45 = .ok (.aload 4, 2) := by decide +kernel
theorem dX1_callBack_47 : decode cX1_callBack 47 = .ok (.dup, 1) := by decide +kernel
theorem dX1_callBack_48 : decode cX1_callBack 48 = .ok (.getfield 138, 3) := by decide +kernel
theorem dX1_callBack_51 : decode cX1_callBack 51 = .ok (.iload 5, 2) := by decide +kernel
theorem dX1_callBack_53 : decode cX1_callBack 53 = .ok (.isub, 1) := by decide +kernel
theorem dX1_callBack_54 : decode cX1_callBack 54 = .ok (.putfield 138, 3) := by decide +kernel
theorem dX1_callBack_57 : decode cX1_callBack 57 = .ok (.aload_n 3, 1) := by decide +kernel
theorem dX1_callBack_58 : decode cX1_callBack 58 = .ok (.dup, 1) := by decide +kernel
theorem dX1_callBack_59 : decode cX1_callBack 59 = .ok (.getfield 138, 3) := by decide +kernel
theorem dX1_callBack_62 : decode cX1_callBack 62 = .ok (.iload 5, 2) := by decide +kernel
theorem dX1_callBack_64 : decode cX1_callBack 64 = .ok (.iadd, 1) := by decide +kernel
theorem dX1_callBack_65 : decode cX1_callBack 65 = .ok (.putfield 138, 3) := by decide +kernel
theorem dX1_callBack_68 : decode cX1_callBack 68 = .ok (.iload 5, 2) := by decide +kernel
theorem dX1_callBack_70 : decode cX1_callBack 70 = .ok (.ireturn, 1) := by decide +kernel
theorem dX1_fines_0 : decode cX1_fines 0 = .ok (.aload_n 0, 1) := by decide +kernel
theorem dX1_fines_1 : decode cX1_fines 1 = .ok (.iload_n 1, 1) := by decide +kernel
theorem dX1_fines_2 : decode cX1_fines 2 = .ok (.invokevirtual 61, 3) := by decide +kernel
theorem dX1_fines_5 : decode cX1_fines 5 = .ok (.getfield 155, 3) := by decide +kernel
theorem dX1_fines_8 : decode cX1_fines 8 = .ok (.ireturn, 1) := by decide +kernel
theorem dX1_fund_0 : decode cX1_fund 0 = .ok (.aload_n 0, 1) := by decide +kernel
theorem dX1_fund_1 : decode cX1_fund 1 = .ok (.getfield 27, 3) := by decide +kernel
theorem dX1_fund_4 : decode cX1_fund 4 = .ok (.ireturn, 1) := by decide +kernel
theorem dX1_build_0 : decode cX1_build 0 = .ok (.iload_n 1, 1) := by decide +kernel
theorem dX1_build_1 : decode cX1_build 1 = .ok (.iconst 0, 1) := by decide +kernel
theorem dX1_build_2 : decode cX1_build 2 = .ok (.bipush 99, 2) := by decide +kernel
theorem dX1_build_4 : decode cX1_build 4 = .ok (.invokestatic 37, 3) := by decide +kernel
theorem dX1_build_7 : decode cX1_build 7 = .ok (.aload_n 0, 1) := by decide +kernel
theorem dX1_build_8 : decode cX1_build 8 = .ok (.getfield 27, 3) := by decide +kernel
theorem dX1_build_11 : decode cX1_build 11 = .ok (.bipush 100, 2) := by decide +kernel
theorem dX1_build_13 : decode cX1_build 13 = .ok (.if_icmp .lt 11, 3) := by decide +kernel
theorem dX1_build_16 : decode cX1_build 16 = .ok (.aload_n 0, 1) := by decide +kernel
theorem dX1_build_17 : decode cX1_build 17 = .ok (.getfield 23, 3) := by decide +kernel
theorem dX1_build_20 : decode cX1_build 20 = .ok (.iconst 5, 1) := by decide +kernel
theorem dX1_build_21 : decode cX1_build 21 = .ok (.if_icmp .lt 13, 3) := by decide +kernel
theorem dX1_build_24 : decode cX1_build 24 = .ok (.new 45, 3) := by decide +kernel
theorem dX1_build_27 : decode cX1_build 27 = .ok (.dup, 1) := by decide +kernel
theorem dX1_build_28 : decode cX1_build 28 = .ok (.ldc 158, 2) := by decide +kernel
theorem dX1_build_30 : decode cX1_build 30 = .ok (.invokespecial 49, 3) := by decide +kernel
theorem dX1_build_33 : decode cX1_build 33 = .ok (.athrow, 1) := by decide +kernel
theorem dX1_build_34 : decode cX1_build 34 = .ok (.aload_n 0, 1) := by decide +kernel
theorem dX1_build_35 : decode cX1_build 35 = .ok (.dup, 1) := by decide +kernel
theorem dX1_build_36 : decode cX1_build 36 = .ok (.getfield 27, 3) := by decide +kernel
theorem dX1_build_39 : decode cX1_build 39 = .ok (.bipush 100, 2) := by decide +kernel
theorem dX1_build_41 : decode cX1_build 41 = .ok (.isub, 1) := by decide +kernel
theorem dX1_build_42 : decode cX1_build 42 = .ok (.putfield 27, 3) := by decide +kernel
theorem dX1_build_45 : decode cX1_build 45 = .ok (.aload_n 0, 1) := by decide +kernel
theorem dX1_build_46 : decode cX1_build 46 = .ok (.getfield 20, 3) := by decide +kernel
theorem dX1_build_49 : decode cX1_build 49 = .ok (.aload_n 0, 1) := by decide +kernel
theorem dX1_build_50 : decode cX1_build 50 = .ok (.getfield 23, 3) := by decide +kernel
theorem dX1_build_53 : decode cX1_build 53 = .ok (.iload_n 1, 1) := by decide +kernel
theorem dX1_build_54 : decode cX1_build 54 = .ok (.iastore, 1) := by decide +kernel
theorem dX1_build_55 : decode cX1_build 55 = .ok (.aload_n 0, 1) := by decide +kernel
theorem dX1_build_56 : decode cX1_build 56 = .ok (.dup, 1) := by decide +kernel
theorem dX1_build_57 : decode cX1_build 57 = .ok (.getfield 23, 3) := by decide +kernel
theorem dX1_build_60 : decode cX1_build 60 = .ok (.iconst 1, 1) := by decide +kernel
theorem dX1_build_61 : decode cX1_build 61 = .ok (.iadd, 1) := by decide +kernel
theorem dX1_build_62 : decode cX1_build 62 = .ok (.putfield 23, 3) := by decide +kernel
theorem dX1_build_65 : decode cX1_build 65 = .ok (.aload_n 0, 1) := by decide +kernel
theorem dX1_build_66 : decode cX1_build 66 = .ok (.getfield 23, 3) := by decide +kernel
theorem dX1_build_69 : decode cX1_build 69 = .ok (.ireturn, 1) := by decide +kernel
theorem dX1_wellAt_0 : decode cX1_wellAt 0 = .ok (.iload_n 1, 1) := by decide +kernel
theorem dX1_wellAt_1 : decode cX1_wellAt 1 = .ok (.ifCond .lt 14, 3) := by decide +kernel
theorem dX1_wellAt_4 : decode cX1_wellAt 4 = .ok (.iload_n 1, 1) := by decide +kernel
theorem dX1_wellAt_5 : decode cX1_wellAt 5 = .ok (.aload_n 0, 1) := by decide +kernel
theorem dX1_wellAt_6 : decode cX1_wellAt 6 = .ok (.getfield 10, 3) := by decide +kernel
theorem dX1_wellAt_9 : decode cX1_wellAt 9 = .ok (.invokevirtual 41, 3) := by decide +kernel
theorem dX1_wellAt_12 : decode cX1_wellAt 12 = .ok (.if_icmp .lt 13, 3) := by decide +kernel
theorem dX1_wellAt_15 : decode cX1_wellAt 15 = .ok (.new 90, 3) := by decide +kernel
theorem dX1_wellAt_18 : decode cX1_wellAt 18 = .ok (.dup, 1) := by decide +kernel
theorem dX1_wellAt_19 : decode cX1_wellAt 19 = .ok (.ldc 160, 2) := by decide +kernel
theorem dX1_wellAt_21 : decode cX1_wellAt 21 = .ok (.invokespecial 94, 3) := by decide +kernel
theorem dX1_wellAt_24 : decode cX1_wellAt 24 = .ok (.athrow, 1) := by decide +kernel
theorem dX1_wellAt_25 : decode cX1_wellAt 25 = .ok (.aload_n 0, 1) := by decide +kernel
theorem dX1_wellAt_26 : decode cX1_wellAt 26 = .ok (.getfield 10, 3) := by decide +kernel
theorem dX1_wellAt_29 : decode cX1_wellAt 29 = .ok (.iload_n 1, 1) := by decide +kernel
theorem dX1_wellAt_30 : decode cX1_wellAt 30 = .ok (.invokevirtual 162, 3) := by decide +kernel
theorem dX1_wellAt_33 : decode cX1_wellAt 33 = .ok (.checkcast 52, 3) := by decide +kernel
theorem dX1_wellAt_36 : decode cX1_wellAt 36 = .ok (.areturn, 1) := by decide +kernel
theorem dX1_requireLayer_0 : decode cX1_requireLayer 0 = .ok (.iload_n 0, 1) := by decide +kernel
theorem dX1_requireLayer_1 : decode cX1_requireLayer 1 = .ok (.ifCond .lt 8, 3) := by decide +kernel
theorem dX1_requireLayer_4 : decode cX1_requireLayer 4 = .ok (.iload_n 0, 1) := by decide +kernel
theorem dX1_requireLayer_5 : decode cX1_requireLayer 5 = .ok (.iconst 3, 1) := by decide +kernel
theorem dX1_requireLayer_6 : decode cX1_requireLayer 6 = .ok (.if_icmp .lt 13, 3) := by decide +kernel
theorem dX1_requireLayer_9 : decode cX1_requireLayer 9 = .ok (.new 90, 3) := by decide +kernel
theorem dX1_requireLayer_12 : decode cX1_requireLayer 12 = .ok (.dup, 1) := by decide +kernel
theorem dX1_requireLayer_13 : decode cX1_requireLayer 13 = .ok (.ldc 166, 2) := by decide +kernel
theorem dX1_requireLayer_15 : decode cX1_requireLayer 15 = .ok (.invokespecial 94, 3) := by decide +kernel
theorem dX1_requireLayer_18 : decode cX1_requireLayer 18 = .ok (.athrow, 1) := by decide +kernel
theorem dX1_requireLayer_19 : decode cX1_requireLayer 19 = .ok (.return_, 1) := by decide +kernel
theorem dX1_requireWithin_0 : decode cX1_requireWithin 0 = .ok (.iload_n 0, 1) := by decide +kernel
theorem dX1_requireWithin_1 : decode cX1_requireWithin 1 = .ok (.iload_n 1, 1) := by decide +kernel
theorem dX1_requireWithin_2 : decode cX1_requireWithin 2 = .ok (.if_icmp .lt 8, 3) := by decide +kernel
theorem dX1_requireWithin_5 : decode cX1_requireWithin 5 = .ok (.iload_n 0, 1) := by decide +kernel
theorem dX1_requireWithin_6 : decode cX1_requireWithin 6 = .ok (.iload_n 2, 1) := by decide +kernel
theorem dX1_requireWithin_7 : decode cX1_requireWithin 7 = .ok (.if_icmp .le 13, 3) := by decide +kernel
theorem dX1_requireWithin_10 : decode cX1_requireWithin 10 = .ok (.new 168, 3) := by decide +kernel
theorem dX1_requireWithin_13 : decode cX1_requireWithin 13 = .ok (.dup, 1) := by decide +kernel
theorem dX1_requireWithin_14 : decode cX1_requireWithin 14 = .ok (.ldc 170, 2) := by decide +kernel
theorem dX1_requireWithin_16 : decode cX1_requireWithin 16 = .ok (.invokespecial 172, 3) := by decide +kernel
theorem dX1_requireWithin_19 : decode cX1_requireWithin 19 = .ok (.athrow, 1) := by decide +kernel
theorem dX1_requireWithin_20 : decode cX1_requireWithin 20 = .ok (.return_, 1) := by decide +kernel
theorem dX1_requireDifferent_0 : decode cX1_requireDifferent 0 = .ok (.iload_n 0, 1) := by decide +kernel
theorem dX1_requireDifferent_1 : decode cX1_requireDifferent 1 = .ok (.iload_n 1, 1) := by decide +kernel
theorem dX1_requireDifferent_2 : decode cX1_requireDifferent 2 = .ok (.if_icmp .ne 13, 3) := by decide +kernel
theorem dX1_requireDifferent_5 : decode cX1_requireDifferent 5 = .ok (.new 168, 3) := by decide +kernel
theorem dX1_requireDifferent_8 : decode cX1_requireDifferent 8 = .ok (.dup, 1) := by decide +kernel
theorem dX1_requireDifferent_9 : decode cX1_requireDifferent 9 = .ok (.ldc 173, 2) := by decide +kernel
theorem dX1_requireDifferent_11 : decode cX1_requireDifferent 11 = .ok (.invokespecial 172, 3) := by decide +kernel
theorem dX1_requireDifferent_14 : decode cX1_requireDifferent 14 = .ok (.athrow, 1) := by decide +kernel
theorem dX1_requireDifferent_15 : decode cX1_requireDifferent 15 = .ok (.return_, 1) := by decide +kernel
theorem dX1_whoIsStopped_0 : decode cX1_whoIsStopped 0 = .ok (.iconst 0, 1) := by decide +kernel
theorem dX1_whoIsStopped_1 : decode cX1_whoIsStopped 1 = .ok (.istore_n 1, 1) := by decide +kernel
theorem dX1_whoIsStopped_2 : decode cX1_whoIsStopped 2 = .ok (.iconst 0, 1) := by decide +kernel
theorem dX1_whoIsStopped_3 : decode cX1_whoIsStopped 3 = .ok (.istore_n 2, 1) := by decide +kernel
theorem dX1_whoIsStopped_4 : decode cX1_whoIsStopped 4 = .ok (.iload_n 2, 1) := by decide +kernel
theorem dX1_whoIsStopped_5 : decode cX1_whoIsStopped 5 = .ok (.bipush 8, 2) := by decide +kernel
theorem dX1_whoIsStopped_7 : decode cX1_whoIsStopped 7 = .ok (.if_icmp .ge 29, 3) := by decide +kernel
theorem dX1_whoIsStopped_10 : decode cX1_whoIsStopped 10 = .ok (.aload_n 0, 1) := by decide +kernel
theorem dX1_whoIsStopped_11 : decode cX1_whoIsStopped 11 = .ok (.iload_n 1, 1) := by decide +kernel
theorem dX1_whoIsStopped_12 : decode cX1_whoIsStopped 12 = .ok (.invokevirtual 175, 3) := by decide +kernel
theorem dX1_whoIsStopped_15 : decode cX1_whoIsStopped 15 = .ok (.astore_n 3, 1) := by decide +kernel
theorem dX1_whoIsStopped_16 : decode cX1_whoIsStopped 16 = .ok (.aload_n 3, 1) := by decide +kernel
theorem dX1_whoIsStopped_17 : decode cX1_whoIsStopped 17 = .ok (.ifnonnull 6, 3) := by decide +kernel
theorem dX1_whoIsStopped_20 : decode cX1_whoIsStopped 20 = .ok (.goto 16, 3) := by decide +kernel
theorem dX1_whoIsStopped_23 : decode cX1_whoIsStopped 23 = .ok (.iload_n 1, 1) := by decide +kernel
theorem dX1_whoIsStopped_24 : decode cX1_whoIsStopped 24 = .ok (.aload_n 3, 1) := by decide +kernel
theorem dX1_whoIsStopped_25 : decode cX1_whoIsStopped 25 = .ok (.invokevirtual 178, 3) := by decide +kernel
theorem dX1_whoIsStopped_28 : decode cX1_whoIsStopped 28 = .ok (.ior, 1) := by decide +kernel
theorem dX1_whoIsStopped_29 : decode cX1_whoIsStopped 29 = .ok (.istore_n 1, 1) := by decide +kernel
theorem dX1_whoIsStopped_30 : decode cX1_whoIsStopped 30 = .ok (.iinc 2 1, 3) := by decide +kernel
theorem dX1_whoIsStopped_33 : decode cX1_whoIsStopped 33 = .ok (.goto (-29), 3) := by decide +kernel
theorem dX1_whoIsStopped_36 : decode cX1_whoIsStopped 36 = .ok (.iload_n 1, 1) := by decide +kernel
theorem dX1_whoIsStopped_37 : decode cX1_whoIsStopped 37 = .ok (.ireturn, 1) := by decide +kernel
theorem dX1_nextToStop_0 : decode cX1_nextToStop 0 = .ok (.aconst_null, 1) := by decide +kernel
theorem dX1_nextToStop_1 : decode cX1_nextToStop 1 = .ok (.astore_n 2, 1) := by decide +kernel
theorem dX1_nextToStop_2 : decode cX1_nextToStop 2 = .ok (.aconst_null, 1) := by decide +kernel
theorem dX1_nextToStop_3 : decode cX1_nextToStop 3 = .ok (.astore_n 3, 1) := by decide +kernel
theorem dX1_nextToStop_4 : decode cX1_nextToStop 4 = .ok (.iconst 0, 1) := by decide +kernel
theorem dX1_nextToStop_5 : decode cX1_nextToStop 5 = .ok (.istore 4, 2) := by decide +kernel
theorem dX1_nextToStop_7 : decode cX1_nextToStop 7 = .ok (.iload 4, 2) := by decide +kernel
theorem dX1_nextToStop_9 : decode cX1_nextToStop 9 = .ok (.aload_n 0, 1) := by decide +kernel
theorem dX1_nextToStop_10 : decode cX1_nextToStop 10 = .ok (.getfield 10, 3) := by decide +kernel
theorem dX1_nextToStop_13 : decode cX1_nextToStop 13 = .ok (.invokevirtual 41, 3) := by decide +kernel
theorem dX1_nextToStop_16 : decode cX1_nextToStop 16 = .ok (.if_icmp .ge 71, 3) := by decide +kernel
theorem dX1_nextToStop_19 : decode cX1_nextToStop 19 = .ok (.aload_n 0, 1) := by decide +kernel
theorem dX1_nextToStop_20 : decode cX1_nextToStop 20 = .ok (.getfield 10, 3) := by decide +kernel
theorem dX1_nextToStop_23 : decode cX1_nextToStop 23 = .ok (.iload 4, 2) := by decide +kernel
theorem dX1_nextToStop_25 : decode cX1_nextToStop 25 = .ok (.invokevirtual 162, 3) := by decide +kernel
theorem dX1_nextToStop_28 : decode cX1_nextToStop 28 = .ok (.checkcast 52, 3) := by decide +kernel
theorem dX1_nextToStop_31 : decode cX1_nextToStop 31 = .ok (.astore 5, 2) := by decide +kernel
theorem dX1_nextToStop_33 : decode cX1_nextToStop 33 = .ok (.aload_n 0, 1) := by decide +kernel
theorem dX1_nextToStop_34 : decode cX1_nextToStop 34 = .ok (.aload 5, 2) := by decide +kernel
theorem dX1_nextToStop_36 : decode cX1_nextToStop 36 = .ok (.iload_n 1, 1) := by decide +kernel
theorem dX1_nextToStop_37 : decode cX1_nextToStop 37 = .ok (.invokevirtual 181, 3) := by decide +kernel
theorem dX1_nextToStop_40 : decode cX1_nextToStop 40 = .ok (.aload 5, 2) := by decide +kernel
theorem dX1_nextToStop_42 : decode cX1_nextToStop 42 = .ok (.getfield 185, 3) := by decide +kernel
theorem dX1_nextToStop_45 : decode cX1_nextToStop 45 = .ok (.if_icmp .ge 36, 3) := by decide +kernel
theorem dX1_nextToStop_48 : decode cX1_nextToStop 48 = .ok (.aload_n 2, 1) := by decide +kernel
theorem dX1_nextToStop_49 : decode cX1_nextToStop 49 = .ok (.ifnull 12, 3) := by decide +kernel
theorem dX1_nextToStop_52 : decode cX1_nextToStop 52 = .ok (.aload 5, 2) := by decide +kernel
theorem dX1_nextToStop_54 : decode cX1_nextToStop 54 = .ok (.aload_n 2, 1) := by decide +kernel
theorem dX1_nextToStop_55 : decode cX1_nextToStop 55 = .ok (.invokevirtual 188, 3) := by decide +kernel
theorem dX1_nextToStop_58 : decode cX1_nextToStop 58 = .ok (.ifCond .eq 23, 3) := by decide +kernel
theorem dX1_nextToStop_61 : decode cX1_nextToStop 61 = .ok (.aload_n 0, 1) := by decide +kernel
theorem dX1_nextToStop_62 : decode cX1_nextToStop 62 = .ok (.aload 5, 2) := by decide +kernel
theorem dX1_nextToStop_64 : decode cX1_nextToStop 64 = .ok (.iload_n 1, 1) := by decide +kernel
theorem dX1_nextToStop_65 : decode cX1_nextToStop 65 = .ok (.invokevirtual 192, 3) := by decide +kernel
theorem dX1_nextToStop_68 : decode cX1_nextToStop 68 = .ok (.astore 6, 2) := by decide +kernel
theorem dX1_nextToStop_70 : decode cX1_nextToStop 70 = .ok (.aload 6, 2) := by decide +kernel
theorem dX1_nextToStop_72 : decode cX1_nextToStop 72 = .ok (.ifnull 9, 3) := by decide +kernel
theorem dX1_nextToStop_75 : decode cX1_nextToStop 75 = .ok (.aload 5, 2) := by decide +kernel
theorem dX1_nextToStop_77 : decode cX1_nextToStop 77 = .ok (.astore_n 2, 1) := by decide +kernel
theorem dX1_nextToStop_78 : decode cX1_nextToStop 78 = .ok (.aload 6, 2) := by decide +kernel
theorem dX1_nextToStop_80 : decode cX1_nextToStop 80 = .ok (.astore_n 3, 1) := by decide +kernel
theorem dX1_nextToStop_81 : decode cX1_nextToStop 81 = .ok (.iinc 4 1, 3) := by decide +kernel
theorem dX1_nextToStop_84 : decode cX1_nextToStop 84 = .ok (.goto (-77), 3) := by decide +kernel
theorem dX1_nextToStop_87 : decode cX1_nextToStop 87 = .ok (.aload_n 3, 1) := by decide +kernel
theorem dX1_nextToStop_88 : decode cX1_nextToStop 88 = .ok (.areturn, 1) := by decide +kernel
theorem dX1_youngestDrawerOn_0 : decode cX1_youngestDrawerOn 0 = .ok (.aconst_null, 1) := by decide +kernel
theorem dX1_youngestDrawerOn_1 : decode cX1_youngestDrawerOn 1 = .ok (.astore_n 3, 1) := by decide +kernel
theorem dX1_youngestDrawerOn_2 : decode cX1_youngestDrawerOn 2 = .ok (.iconst 0, 1) := by decide +kernel
theorem dX1_youngestDrawerOn_3 : decode cX1_youngestDrawerOn 3 = .ok (.istore 4, 2) := by decide +kernel
theorem dX1_youngestDrawerOn_5 : decode cX1_youngestDrawerOn 5 = .ok (.iload 4, 2) := by decide +kernel
theorem dX1_youngestDrawerOn_7 : decode cX1_youngestDrawerOn 7 = .ok (.aload_n 0, 1) := by decide +kernel
theorem dX1_youngestDrawerOn_8 : decode cX1_youngestDrawerOn 8 = .ok (.getfield 10, 3) := by decide +kernel
theorem dX1_youngestDrawerOn_11 : decode cX1_youngestDrawerOn 11 = .ok (.invokevirtual 41, 3) := by decide +kernel
theorem dX1_youngestDrawerOn_14 : decode cX1_youngestDrawerOn 14 = .ok (.if_icmp .ge 74, 3) := by decide +kernel
theorem dX1_youngestDrawerOn_17 : decode cX1_youngestDrawerOn 17 = .ok (.aload_n 0, 1) := by decide +kernel
theorem dX1_youngestDrawerOn_18 : decode cX1_youngestDrawerOn 18 = .ok (.getfield 10, 3) := by decide +kernel
theorem dX1_youngestDrawerOn_21 : decode cX1_youngestDrawerOn 21 = .ok (.iload 4, 2) := by decide +kernel
theorem dX1_youngestDrawerOn_23 : decode cX1_youngestDrawerOn 23 = .ok (.invokevirtual 162, 3) := by decide +kernel
theorem dX1_youngestDrawerOn_26 : decode cX1_youngestDrawerOn 26 = .ok (.checkcast 52, 3) := by decide +kernel
theorem dX1_youngestDrawerOn_29 : decode cX1_youngestDrawerOn 29 = .ok (.astore 5, 2) := by decide +kernel
theorem dX1_youngestDrawerOn_31 : decode cX1_youngestDrawerOn 31 = .ok (.aload_n 1, 1) := by decide +kernel
theorem dX1_youngestDrawerOn_32 : decode cX1_youngestDrawerOn 32 = .ok (.aload 5, 2) := by decide +kernel
theorem dX1_youngestDrawerOn_34 : decode cX1_youngestDrawerOn 34 = .ok (.invokevirtual 188, 3) := by decide +kernel
theorem dX1_youngestDrawerOn_37 : decode cX1_youngestDrawerOn 37 = .ok (.ifCond .eq 45, 3) := by decide +kernel
theorem dX1_youngestDrawerOn_40 : decode cX1_youngestDrawerOn 40 = .ok (.aload 5, 2) := by decide +kernel
theorem dX1_youngestDrawerOn_42 : decode cX1_youngestDrawerOn 42 = .ok (.iload_n 2, 1) := by decide +kernel
theorem dX1_youngestDrawerOn_43 : decode cX1_youngestDrawerOn 43 = .ok (.invokevirtual 196, 3) := by decide +kernel
theorem dX1_youngestDrawerOn_46 : decode cX1_youngestDrawerOn 46 = .ok (.ifCond .le 36, 3) := by decide +kernel
theorem dX1_youngestDrawerOn_49 : decode cX1_youngestDrawerOn 49 = .ok (.aload_n 1, 1) := by decide +kernel
theorem dX1_youngestDrawerOn_50 : decode cX1_youngestDrawerOn 50 = .ok (.aload 5, 2) := by decide +kernel
theorem dX1_youngestDrawerOn_52 : decode cX1_youngestDrawerOn 52 = .ok (.getfield 68, 3) := by decide +kernel
theorem dX1_youngestDrawerOn_55 : decode cX1_youngestDrawerOn 55 = .ok (.aload 5, 2) := by decide +kernel
theorem dX1_youngestDrawerOn_57 : decode cX1_youngestDrawerOn 57 = .ok (.getfield 71, 3) := by decide +kernel
theorem dX1_youngestDrawerOn_60 : decode cX1_youngestDrawerOn 60 = .ok (.invokevirtual 74, 3) := by decide +kernel
theorem dX1_youngestDrawerOn_63 : decode cX1_youngestDrawerOn 63 = .ok (.ifCond .le 19, 3) := by decide +kernel
theorem dX1_youngestDrawerOn_66 : decode cX1_youngestDrawerOn 66 = .ok (.aload_n 3, 1) := by decide +kernel
theorem dX1_youngestDrawerOn_67 : decode cX1_youngestDrawerOn 67 = .ok (.ifnull 12, 3) := by decide +kernel
theorem dX1_youngestDrawerOn_70 : decode cX1_youngestDrawerOn 70 = .ok (.aload_n 3, 1) := by decide +kernel
theorem dX1_youngestDrawerOn_71 : decode cX1_youngestDrawerOn 71 = .ok (.aload 5, 2) := by decide +kernel
theorem dX1_youngestDrawerOn_73 : decode cX1_youngestDrawerOn 73 = .ok (.invokevirtual 188, 3) := by decide +kernel
theorem dX1_youngestDrawerOn_76 : decode cX1_youngestDrawerOn 76 = .ok (.ifCond .eq 6, 3) := by decide +kernel
theorem dX1_youngestDrawerOn_79 : decode cX1_youngestDrawerOn 79 = .ok (.aload 5, 2) := by decide +kernel
theorem dX1_youngestDrawerOn_81 : decode cX1_youngestDrawerOn 81 = .ok (.astore_n 3, 1) := by decide +kernel
theorem dX1_youngestDrawerOn_82 : decode cX1_youngestDrawerOn 82 = .ok (.iinc 4 1, 3) := by decide +kernel
theorem dX1_youngestDrawerOn_85 : decode cX1_youngestDrawerOn 85 = .ok (.goto (-80), 3) := by decide +kernel
theorem dX1_youngestDrawerOn_88 : decode cX1_youngestDrawerOn 88 = .ok (.aload_n 3, 1) := by decide +kernel
theorem dX1_youngestDrawerOn_89 : decode cX1_youngestDrawerOn 89 = .ok (.areturn, 1) := by decide +kernel
theorem dX1_levelBehind_0 : decode cX1_levelBehind 0 = .ok (.aload_n 1, 1) := by decide +kernel
theorem dX1_levelBehind_1 : decode cX1_levelBehind 1 = .ok (.getfield 78, 3) := by decide +kernel
theorem dX1_levelBehind_4 : decode cX1_levelBehind 4 = .ok (.aload_n 0, 1) := by decide +kernel
theorem dX1_levelBehind_5 : decode cX1_levelBehind 5 = .ok (.getfield 16, 3) := by decide +kernel
theorem dX1_levelBehind_8 : decode cX1_levelBehind 8 = .ok (.aload_n 1, 1) := by decide +kernel
theorem dX1_levelBehind_9 : decode cX1_levelBehind 9 = .ok (.getfield 68, 3) := by decide +kernel
theorem dX1_levelBehind_12 : decode cX1_levelBehind 12 = .ok (.iaload, 1) := by decide +kernel
theorem dX1_levelBehind_13 : decode cX1_levelBehind 13 = .ok (.iadd, 1) := by decide +kernel
theorem dX1_levelBehind_14 : decode cX1_levelBehind 14 = .ok (.istore_n 3, 1) := by decide +kernel
theorem dX1_levelBehind_15 : decode cX1_levelBehind 15 = .ok (.iconst 0, 1) := by decide +kernel
theorem dX1_levelBehind_16 : decode cX1_levelBehind 16 = .ok (.istore 4, 2) := by decide +kernel
theorem dX1_levelBehind_18 : decode cX1_levelBehind 18 = .ok (.iload 4, 2) := by decide +kernel
theorem dX1_levelBehind_20 : decode cX1_levelBehind 20 = .ok (.aload_n 0, 1) := by decide +kernel
theorem dX1_levelBehind_21 : decode cX1_levelBehind 21 = .ok (.getfield 23, 3) := by decide +kernel
theorem dX1_levelBehind_24 : decode cX1_levelBehind 24 = .ok (.if_icmp .ge 29, 3) := by decide +kernel
theorem dX1_levelBehind_27 : decode cX1_levelBehind 27 = .ok (.iload_n 3, 1) := by decide +kernel
theorem dX1_levelBehind_28 : decode cX1_levelBehind 28 = .ok (.bipush 20, 2) := by decide +kernel
theorem dX1_levelBehind_30 : decode cX1_levelBehind 30 = .ok (.aload_n 1, 1) := by decide +kernel
theorem dX1_levelBehind_31 : decode cX1_levelBehind 31 = .ok (.iconst 0, 1) := by decide +kernel
theorem dX1_levelBehind_32 : decode cX1_levelBehind 32 = .ok (.aload_n 0, 1) := by decide +kernel
theorem dX1_levelBehind_33 : decode cX1_levelBehind 33 = .ok (.getfield 20, 3) := by decide +kernel
theorem dX1_levelBehind_36 : decode cX1_levelBehind 36 = .ok (.iload 4, 2) := by decide +kernel
theorem dX1_levelBehind_38 : decode cX1_levelBehind 38 = .ok (.iaload, 1) := by decide +kernel
theorem dX1_levelBehind_39 : decode cX1_levelBehind 39 = .ok (.invokevirtual 74, 3) := by decide +kernel
theorem dX1_levelBehind_42 : decode cX1_levelBehind 42 = .ok (.invokestatic 199, 3) := by decide +kernel
theorem dX1_levelBehind_45 : decode cX1_levelBehind 45 = .ok (.iadd, 1) := by decide +kernel
theorem dX1_levelBehind_46 : decode cX1_levelBehind 46 = .ok (.istore_n 3, 1) := by decide +kernel
theorem dX1_levelBehind_47 : decode cX1_levelBehind 47 = .ok (.iinc 4 1, 3) := by decide +kernel
theorem dX1_levelBehind_50 : decode cX1_levelBehind 50 = .ok (.goto (-32), 3) := by decide +kernel
theorem dX1_levelBehind_53 : decode cX1_levelBehind 53 = .ok (.iconst 0, 1) := by decide +kernel
theorem dX1_levelBehind_54 : decode cX1_levelBehind 54 = .ok (.istore 4, 2) := by decide +kernel
theorem dX1_levelBehind_56 : decode cX1_levelBehind 56 = .ok (.iload 4, 2) := by decide +kernel
theorem dX1_levelBehind_58 : decode cX1_levelBehind 58 = .ok (.aload_n 0, 1) := by decide +kernel
theorem dX1_levelBehind_59 : decode cX1_levelBehind 59 = .ok (.getfield 10, 3) := by decide +kernel
theorem dX1_levelBehind_62 : decode cX1_levelBehind 62 = .ok (.invokevirtual 41, 3) := by decide +kernel
theorem dX1_levelBehind_65 : decode cX1_levelBehind 65 = .ok (.if_icmp .ge 49, 3) := by decide +kernel
theorem dX1_levelBehind_68 : decode cX1_levelBehind 68 = .ok (.aload_n 0, 1) := by decide +kernel
theorem dX1_levelBehind_69 : decode cX1_levelBehind 69 = .ok (.getfield 10, 3) := by decide +kernel
theorem dX1_levelBehind_72 : decode cX1_levelBehind 72 = .ok (.iload 4, 2) := by decide +kernel
theorem dX1_levelBehind_74 : decode cX1_levelBehind 74 = .ok (.invokevirtual 162, 3) := by decide +kernel
theorem dX1_levelBehind_77 : decode cX1_levelBehind 77 = .ok (.checkcast 52, 3) := by decide +kernel
theorem dX1_levelBehind_80 : decode cX1_levelBehind 80 = .ok (.astore 5, 2) := by decide +kernel
theorem dX1_levelBehind_82 : decode cX1_levelBehind 82 = .ok (.iload_n 3, 1) := by decide +kernel
theorem dX1_levelBehind_83 : decode cX1_levelBehind 83 = .ok (.aload 5, 2) := by decide +kernel
theorem dX1_levelBehind_85 : decode cX1_levelBehind 85 = .ok (.iload_n 2, 1) := by decide +kernel
theorem dX1_levelBehind_86 : decode cX1_levelBehind 86 = .ok (.invokevirtual 196, 3) := by decide +kernel
theorem dX1_levelBehind_89 : decode cX1_levelBehind 89 = .ok (.aload_n 1, 1) := by decide +kernel
theorem dX1_levelBehind_90 : decode cX1_levelBehind 90 = .ok (.aload 5, 2) := by decide +kernel
theorem dX1_levelBehind_92 : decode cX1_levelBehind 92 = .ok (.getfield 68, 3) := by decide +kernel
theorem dX1_levelBehind_95 : decode cX1_levelBehind 95 = .ok (.aload 5, 2) := by decide +kernel
theorem dX1_levelBehind_97 : decode cX1_levelBehind 97 = .ok (.getfield 71, 3) := by decide +kernel
theorem dX1_levelBehind_100 : decode cX1_levelBehind 100 = .ok (.invokevirtual 74, 3) := by decide +kernel
theorem dX1_levelBehind_103 : decode cX1_levelBehind 103 = .ok (.invokestatic 199, 3) := by decide +kernel
theorem dX1_levelBehind_106 : decode cX1_levelBehind 106 = .ok (.isub, 1) := by decide +kernel
theorem dX1_levelBehind_107 : decode cX1_levelBehind 107 = .ok (.istore_n 3, 1) := by decide +kernel
theorem dX1_levelBehind_108 : decode cX1_levelBehind 108 = .ok (.iinc 4 1, 3) := by decide +kernel
theorem dX1_levelBehind_111 : decode cX1_levelBehind 111 = .ok (.goto (-55), 3) := by decide +kernel
theorem dX1_levelBehind_114 : decode cX1_levelBehind 114 = .ok (.iload_n 3, 1) := by decide +kernel
theorem dX1_levelBehind_115 : decode cX1_levelBehind 115 = .ok (.ireturn, 1) := by decide +kernel
theorem dX1_hundredths_0 : decode cX1_hundredths 0 = .ok (.iload_n 0, 1) := by decide +kernel
theorem dX1_hundredths_1 : decode cX1_hundredths 1 = .ok (.iload_n 1, 1) := by decide +kernel
theorem dX1_hundredths_2 : decode cX1_hundredths 2 = .ok (.imul, 1) := by decide +kernel
theorem dX1_hundredths_3 : decode cX1_hundredths 3 = .ok (.bipush 100, 2) := by decide +kernel
theorem dX1_hundredths_5 : decode cX1_hundredths 5 = .ok (.idiv, 1) := by decide +kernel
theorem dX1_hundredths_6 : decode cX1_hundredths 6 = .ok (.ireturn, 1) := by decide +kernel
theorem dX1_shrinkBanks_0 : decode cX1_shrinkBanks 0 = .ok (.iconst 0, 1) := by decide +kernel
theorem dX1_shrinkBanks_1 : decode cX1_shrinkBanks 1 = .ok (.istore_n 1, 1) := by decide +kernel
theorem dX1_shrinkBanks_2 : decode cX1_shrinkBanks 2 = .ok (.iload_n 1, 1) := by decide +kernel
theorem dX1_shrinkBanks_3 : decode cX1_shrinkBanks 3 = .ok (.aload_n 0, 1) := by decide +kernel
theorem dX1_shrinkBanks_4 : decode cX1_shrinkBanks 4 = .ok (.getfield 10, 3) := by decide +kernel
theorem dX1_shrinkBanks_7 : decode cX1_shrinkBanks 7 = .ok (.invokevirtual 41, 3) := by decide +kernel
theorem dX1_shrinkBanks_10 : decode cX1_shrinkBanks 10 = .ok (.if_icmp .ge 42, 3) := by decide +kernel
theorem dX1_shrinkBanks_13 : decode cX1_shrinkBanks 13 = .ok (.aload_n 0, 1) := by decide +kernel
theorem dX1_shrinkBanks_14 : decode cX1_shrinkBanks 14 = .ok (.getfield 10, 3) := by decide +kernel
theorem dX1_shrinkBanks_17 : decode cX1_shrinkBanks 17 = .ok (.iload_n 1, 1) := by decide +kernel
theorem dX1_shrinkBanks_18 : decode cX1_shrinkBanks 18 = .ok (.invokevirtual 162, 3) := by decide +kernel
theorem dX1_shrinkBanks_21 : decode cX1_shrinkBanks 21 = .ok (.checkcast 52, 3) := by decide +kernel
theorem dX1_shrinkBanks_24 : decode cX1_shrinkBanks 24 = .ok (.astore_n 2, 1) := by decide +kernel
theorem dX1_shrinkBanks_25 : decode cX1_shrinkBanks 25 = .ok (.aload_n 2, 1) := by decide +kernel
theorem dX1_shrinkBanks_26 : decode cX1_shrinkBanks 26 = .ok (.getfield 138, 3) := by decide +kernel
theorem dX1_shrinkBanks_29 : decode cX1_shrinkBanks 29 = .ok (.bipush 9, 2) := by decide +kernel
theorem dX1_shrinkBanks_31 : decode cX1_shrinkBanks 31 = .ok (.iadd, 1) := by decide +kernel
theorem dX1_shrinkBanks_32 : decode cX1_shrinkBanks 32 = .ok (.bipush 10, 2) := by decide +kernel
theorem dX1_shrinkBanks_34 : decode cX1_shrinkBanks 34 = .ok (.idiv, 1) := by decide +kernel
theorem dX1_shrinkBanks_35 : decode cX1_shrinkBanks 35 = .ok (.istore_n 3, 1) := by decide +kernel
theorem dX1_shrinkBanks_36 : decode cX1_shrinkBanks 36 = .ok (.aload_n 2, 1) := by decide +kernel
theorem dX1_shrinkBanks_37 : decode cX1_shrinkBanks 37 = .ok (.dup, 1) := by decide +kernel
theorem dX1_shrinkBanks_38 : decode cX1_shrinkBanks 38 = .ok (.getfield 138, 3) := by decide +kernel
theorem dX1_shrinkBanks_41 : decode cX1_shrinkBanks 41 = .ok (.iload_n 3, 1) := by decide +kernel
theorem dX1_shrinkBanks_42 : decode cX1_shrinkBanks 42 = .ok (.isub, 1) := by decide +kernel
theorem dX1_shrinkBanks_43 : decode cX1_shrinkBanks 43 = .ok (.putfield 138, 3) := by decide +kernel
theorem dX1_shrinkBanks_46 : decode cX1_shrinkBanks 46 = .ok (.iinc 1 1, 3) := by decide +kernel
theorem dX1_shrinkBanks_49 : decode cX1_shrinkBanks 49 = .ok (.goto (-47), 3) := by decide +kernel
theorem dX1_shrinkBanks_52 : decode cX1_shrinkBanks 52 = .ok (.return_, 1) := by decide +kernel
theorem dX1_drawWater_0 : decode cX1_drawWater 0 = .ok (.iconst 0, 1) := by decide +kernel
theorem dX1_drawWater_1 : decode cX1_drawWater 1 = .ok (.istore_n 2, 1) := by decide +kernel
theorem dX1_drawWater_2 : decode cX1_drawWater 2 = .ok (.iload_n 2, 1) := by decide +kernel
theorem dX1_drawWater_3 : decode cX1_drawWater 3 = .ok (.aload_n 0, 1) := by decide +kernel
theorem dX1_drawWater_4 : decode cX1_drawWater 4 = .ok (.getfield 10, 3) := by decide +kernel
theorem dX1_drawWater_7 : decode cX1_drawWater 7 = .ok (.invokevirtual 41, 3) := by decide +kernel
theorem dX1_drawWater_10 : decode cX1_drawWater 10 = .ok (.if_icmp .ge 40, 3) := by decide +kernel
theorem dX1_drawWater_13 : decode cX1_drawWater 13 = .ok (.aload_n 0, 1) := by decide +kernel
theorem dX1_drawWater_14 : decode cX1_drawWater 14 = .ok (.getfield 10, 3) := by decide +kernel
theorem dX1_drawWater_17 : decode cX1_drawWater 17 = .ok (.iload_n 2, 1) := by decide +kernel
theorem dX1_drawWater_18 : decode cX1_drawWater 18 = .ok (.invokevirtual 162, 3) := by decide +kernel
theorem dX1_drawWater_21 : decode cX1_drawWater 21 = .ok (.checkcast 52, 3) := by decide +kernel
theorem dX1_drawWater_24 : decode cX1_drawWater 24 = .ok (.astore_n 3, 1) := by decide +kernel
theorem dX1_drawWater_25 : decode cX1_drawWater 25 = .ok (.aload_n 3, 1) := by decide +kernel
theorem dX1_drawWater_26 : decode cX1_drawWater 26 = .ok (.aload_n 0, 1) := by decide +kernel
theorem dX1_drawWater_27 : decode cX1_drawWater 27 = .ok (.aload_n 3, 1) := by decide +kernel
theorem dX1_drawWater_28 : decode cX1_drawWater 28 = .ok (.iload_n 1, 1) := by decide +kernel
theorem dX1_drawWater_29 : decode cX1_drawWater 29 = .ok (.invokevirtual 181, 3) := by decide +kernel
theorem dX1_drawWater_32 : decode cX1_drawWater 32 = .ok (.putfield 78, 3) := by decide +kernel
theorem dX1_drawWater_35 : decode cX1_drawWater 35 = .ok (.aload_n 3, 1) := by decide +kernel
theorem dX1_drawWater_36 : decode cX1_drawWater 36 = .ok (.aload_n 3, 1) := by decide +kernel
theorem dX1_drawWater_37 : decode cX1_drawWater 37 = .ok (.iload_n 1, 1) := by decide +kernel
theorem dX1_drawWater_38 : decode cX1_drawWater 38 = .ok (.invokevirtual 196, 3) := by decide +kernel
theorem dX1_drawWater_41 : decode cX1_drawWater 41 = .ok (.putfield 125, 3) := by decide +kernel
theorem dX1_drawWater_44 : decode cX1_drawWater 44 = .ok (.iinc 2 1, 3) := by decide +kernel
theorem dX1_drawWater_47 : decode cX1_drawWater 47 = .ok (.goto (-45), 3) := by decide +kernel
theorem dX1_drawWater_50 : decode cX1_drawWater 50 = .ok (.return_, 1) := by decide +kernel
theorem dX1_tellWater_0 : decode cX1_tellWater 0 = .ok (.iconst 0, 1) := by decide +kernel
theorem dX1_tellWater_1 : decode cX1_tellWater 1 = .ok (.istore_n 1, 1) := by decide +kernel
theorem dX1_tellWater_2 : decode cX1_tellWater 2 = .ok (.iload_n 1, 1) := by decide +kernel
theorem dX1_tellWater_3 : decode cX1_tellWater 3 = .ok (.aload_n 0, 1) := by decide +kernel
theorem dX1_tellWater_4 : decode cX1_tellWater 4 = .ok (.getfield 10, 3) := by decide +kernel
theorem dX1_tellWater_7 : decode cX1_tellWater 7 = .ok (.invokevirtual 41, 3) := by decide +kernel
theorem dX1_tellWater_10 : decode cX1_tellWater 10 = .ok (.if_icmp .ge 71, 3) := by decide +kernel
theorem dX1_tellWater_13 : decode cX1_tellWater 13 = .ok (.aload_n 0, 1) := by decide +kernel
theorem dX1_tellWater_14 : decode cX1_tellWater 14 = .ok (.getfield 10, 3) := by decide +kernel
theorem dX1_tellWater_17 : decode cX1_tellWater 17 = .ok (.iload_n 1, 1) := by decide +kernel
theorem dX1_tellWater_18 : decode cX1_tellWater 18 = .ok (.invokevirtual 162, 3) := by decide +kernel
theorem dX1_tellWater_21 : decode cX1_tellWater 21 = .ok (.checkcast 52, 3) := by decide +kernel
theorem dX1_tellWater_24 : decode cX1_tellWater 24 = .ok (.astore_n 2, 1) := by decide +kernel
theorem dX1_tellWater_25 : decode cX1_tellWater 25 = .ok (.aload_n 2, 1) := by decide +kernel
theorem dX1_tellWater_26 : decode cX1_tellWater 26 = .ok (.getfield 131, 3) := by decide +kernel
theorem dX1_tellWater_29 : decode cX1_tellWater 29 = .ok (.ifCond .eq 14, 3) := by decide +kernel
theorem dX1_tellWater_32 : decode cX1_tellWater 32 = .ok (.aload_n 2, 1) := by decide +kernel
theorem dX1_tellWater_33 : decode cX1_tellWater 33 = .ok (.aload_n 2, 1) := by decide +kernel
theorem dX1_tellWater_34 : decode cX1_tellWater 34 = .ok (.getfield 125, 3) := by decide +kernel
theorem dX1_tellWater_37 : decode cX1_tellWater 37 = .ok (.putfield 128, 3) := by decide +kernel
theorem dX1_tellWater_40 : decode cX1_tellWater 40 = .ok (.goto 35, 3) := by decide +kernel
theorem dX1_tellWater_43 : decode cX1_tellWater 43 = .ok (.aload_n 2, 1) := by decide +kernel
theorem dX1_tellWater_44 : decode cX1_tellWater 44 = .ok (.getfield 135, 3) := by decide +kernel
theorem dX1_tellWater_47 : decode cX1_tellWater 47 = .ok (.ifCond .le 16, 3) := by decide +kernel
theorem dX1_tellWater_50 : decode cX1_tellWater 50 = .ok (.aload_n 2, 1) := by decide +kernel
theorem dX1_tellWater_51 : decode cX1_tellWater 51 = .ok (.iconst 3, 1) := by decide +kernel
theorem dX1_tellWater_52 : decode cX1_tellWater 52 = .ok (.aload_n 2, 1) := by decide +kernel
theorem dX1_tellWater_53 : decode cX1_tellWater 53 = .ok (.getfield 135, 3) := by decide +kernel
theorem dX1_tellWater_56 : decode cX1_tellWater 56 = .ok (.imul, 1) := by decide +kernel
theorem dX1_tellWater_57 : decode cX1_tellWater 57 = .ok (.putfield 128, 3) := by decide +kernel
theorem dX1_tellWater_60 : decode cX1_tellWater 60 = .ok (.goto 15, 3) := by decide +kernel
theorem dX1_tellWater_63 : decode cX1_tellWater 63 = .ok (.aload_n 2, 1) := by decide +kernel
theorem dX1_tellWater_64 : decode cX1_tellWater 64 = .ok (.aload_n 0, 1) := by decide +kernel
theorem dX1_tellWater_65 : decode cX1_tellWater 65 = .ok (.aload_n 2, 1) := by decide +kernel
theorem dX1_tellWater_66 : decode cX1_tellWater 66 = .ok (.getfield 68, 3) := by decide +kernel
theorem dX1_tellWater_69 : decode cX1_tellWater 69 = .ok (.invokevirtual 202, 3) := by decide +kernel
theorem dX1_tellWater_72 : decode cX1_tellWater 72 = .ok (.putfield 128, 3) := by decide +kernel
theorem dX1_tellWater_75 : decode cX1_tellWater 75 = .ok (.iinc 1 1, 3) := by decide +kernel
theorem dX1_tellWater_78 : decode cX1_tellWater 78 = .ok (.goto (-76), 3) := by decide +kernel
theorem dX1_tellWater_81 : decode cX1_tellWater 81 = .ok (.return_, 1) := by decide +kernel
theorem dX1_meanOfWorkingMeters_0 : decode cX1_meanOfWorkingMeters 0 = .ok (.iconst 0, 1) := by decide +kernel
theorem dX1_meanOfWorkingMeters_1 : decode cX1_meanOfWorkingMeters 1 = .ok (.istore_n 2, 1) := by decide +kernel
theorem dX1_meanOfWorkingMeters_2 : decode cX1_meanOfWorkingMeters 2 = .ok (.iconst 0, 1) := by decide +kernel
theorem dX1_meanOfWorkingMeters_3 : decode cX1_meanOfWorkingMeters 3 = .ok (.istore_n 3, 1) := by decide +kernel
theorem dX1_meanOfWorkingMeters_4 : decode cX1_meanOfWorkingMeters 4 = .ok (.iconst 0, 1) := by decide +kernel
theorem dX1_meanOfWorkingMeters_5 : decode cX1_meanOfWorkingMeters 5 = .ok (.istore 4, 2) := by decide +kernel
theorem dX1_meanOfWorkingMeters_7 : decode cX1_meanOfWorkingMeters 7 = .ok (.iload 4, 2) := by decide +kernel
theorem dX1_meanOfWorkingMeters_9 : decode cX1_meanOfWorkingMeters 9 = .ok (.aload_n 0, 1) := by decide +kernel
theorem dX1_meanOfWorkingMeters_10 : decode cX1_meanOfWorkingMeters 10 = .ok (.getfield 10, 3) := by decide +kernel
theorem dX1_meanOfWorkingMeters_13 : decode cX1_meanOfWorkingMeters 13 = .ok (.invokevirtual 41, 3) := by decide +kernel
theorem dX1_meanOfWorkingMeters_16 : decode cX1_meanOfWorkingMeters 16 = .ok (.if_icmp .ge 51, 3) := by decide +kernel
theorem dX1_meanOfWorkingMeters_19 : decode cX1_meanOfWorkingMeters 19 = .ok (.aload_n 0, 1) := by decide +kernel
theorem dX1_meanOfWorkingMeters_20 : decode cX1_meanOfWorkingMeters 20 = .ok (.getfield 10, 3) := by decide +kernel
theorem dX1_meanOfWorkingMeters_23 : decode cX1_meanOfWorkingMeters 23 = .ok (.iload 4, 2) := by decide +kernel
theorem dX1_meanOfWorkingMeters_25 : decode cX1_meanOfWorkingMeters 25 = .ok (.invokevirtual 162, 3) := by decide +kernel
theorem dX1_meanOfWorkingMeters_28 : decode cX1_meanOfWorkingMeters 28 = .ok (.checkcast 52, 3) := by decide +kernel
theorem dX1_meanOfWorkingMeters_31 : decode cX1_meanOfWorkingMeters 31 = .ok (.astore 5, 2) := by decide +kernel
theorem dX1_meanOfWorkingMeters_33 : decode cX1_meanOfWorkingMeters 33 = .ok (.aload 5, 2) := by decide +kernel
theorem dX1_meanOfWorkingMeters_35 : decode cX1_meanOfWorkingMeters 35 = .ok (.getfield 68, 3) := by decide +kernel
theorem dX1_meanOfWorkingMeters_38 : decode cX1_meanOfWorkingMeters 38 = .ok (.iload_n 1, 1) := by decide +kernel
theorem dX1_meanOfWorkingMeters_39 : decode cX1_meanOfWorkingMeters 39 = .ok (.if_icmp .ne 22, 3) := by decide +kernel
theorem dX1_meanOfWorkingMeters_42 : decode cX1_meanOfWorkingMeters 42 = .ok (.aload 5, 2) := by decide +kernel
theorem dX1_meanOfWorkingMeters_44 : decode cX1_meanOfWorkingMeters 44 = .ok (.getfield 131, 3) := by decide +kernel
theorem dX1_meanOfWorkingMeters_47 : decode cX1_meanOfWorkingMeters 47 = .ok (.ifCond .eq 14, 3) := by decide +kernel
theorem dX1_meanOfWorkingMeters_50 : decode cX1_meanOfWorkingMeters 50 = .ok (.iload_n 2, 1) := by decide +kernel
theorem dX1_meanOfWorkingMeters_51 : decode cX1_meanOfWorkingMeters 51 = .ok (.aload 5, 2) := by decide +kernel
theorem dX1_meanOfWorkingMeters_53 : decode cX1_meanOfWorkingMeters 53 = .ok (.getfield 125, 3) := by decide +kernel
theorem dX1_meanOfWorkingMeters_56 : decode cX1_meanOfWorkingMeters 56 = .ok (.iadd, 1) := by decide +kernel
theorem dX1_meanOfWorkingMeters_57 : decode cX1_meanOfWorkingMeters 57 = .ok (.istore_n 2, 1) := by decide +kernel
theorem dX1_meanOfWorkingMeters_58 : decode cX1_meanOfWorkingMeters 58 = .ok (.iinc 3 1, 3) := by decide +kernel
theorem dX1_meanOfWorkingMeters_61 : decode cX1_meanOfWorkingMeters 61 = .ok (.iinc 4 1, 3) := by decide +kernel
theorem dX1_meanOfWorkingMeters_64 : decode cX1_meanOfWorkingMeters 64 = .ok (.goto (-57), 3) := by decide +kernel
theorem dX1_meanOfWorkingMeters_67 : decode cX1_meanOfWorkingMeters 67 = .ok (.iload_n 3, 1) := by decide +kernel
theorem dX1_meanOfWorkingMeters_68 : decode cX1_meanOfWorkingMeters 68 = .ok (.ifCond .le 9, 3) := by decide +kernel
theorem dX1_meanOfWorkingMeters_71 : decode cX1_meanOfWorkingMeters 71 = .ok (.iload_n 2, 1) := by decide +kernel
theorem dX1_meanOfWorkingMeters_72 : decode cX1_meanOfWorkingMeters 72 = .ok (.iload_n 3, 1) := by decide +kernel
theorem dX1_meanOfWorkingMeters_73 : decode cX1_meanOfWorkingMeters 73 = .ok (.idiv, 1) := by decide +kernel
theorem dX1_meanOfWorkingMeters_74 : decode cX1_meanOfWorkingMeters 74 = .ok (.goto 4, 3) := by decide +kernel
theorem dX1_meanOfWorkingMeters_77 : decode cX1_meanOfWorkingMeters 77 = .ok (.iconst 0, 1) := by decide +kernel
theorem dX1_meanOfWorkingMeters_78 : decode cX1_meanOfWorkingMeters 78 = .ok (.ireturn, 1) := by decide +kernel
theorem dX1_settleRights_0 : decode cX1_settleRights 0 = .ok (.iconst 0, 1) := by decide +kernel
theorem dX1_settleRights_1 : decode cX1_settleRights 1 = .ok (.istore_n 2, 1) := by decide +kernel
theorem dX1_settleRights_2 : decode cX1_settleRights 2 = .ok (.iload_n 2, 1) := by decide +kernel
theorem dX1_settleRights_3 : decode cX1_settleRights 3 = .ok (.aload_n 0, 1) := by decide +kernel
theorem dX1_settleRights_4 : decode cX1_settleRights 4 = .ok (.getfield 10, 3) := by decide +kernel
theorem dX1_settleRights_7 : decode cX1_settleRights 7 = .ok (.invokevirtual 41, 3) := by decide +kernel
theorem dX1_settleRights_10 : decode cX1_settleRights 10 = .ok (.if_icmp .ge 75, 3) := by decide +kernel
theorem dX1_settleRights_13 : decode cX1_settleRights 13 = .ok (.aload_n 0, 1) := by decide +kernel
theorem dX1_settleRights_14 : decode cX1_settleRights 14 = .ok (.getfield 10, 3) := by decide +kernel
theorem dX1_settleRights_17 : decode cX1_settleRights 17 = .ok (.iload_n 2, 1) := by decide +kernel
theorem dX1_settleRights_18 : decode cX1_settleRights 18 = .ok (.invokevirtual 162, 3) := by decide +kernel
theorem dX1_settleRights_21 : decode cX1_settleRights 21 = .ok (.checkcast 52, 3) := by decide +kernel
theorem dX1_settleRights_24 : decode cX1_settleRights 24 = .ok (.astore_n 3, 1) := by decide +kernel
theorem dX1_settleRights_25 : decode cX1_settleRights 25 = .ok (.aload_n 3, 1) := by decide +kernel
theorem dX1_settleRights_26 : decode cX1_settleRights 26 = .ok (.getfield 128, 3) := by decide +kernel
theorem dX1_settleRights_29 : decode cX1_settleRights 29 = .ok (.aload_n 3, 1) := by decide +kernel
theorem dX1_settleRights_30 : decode cX1_settleRights 30 = .ok (.getfield 205, 3) := by decide +kernel
theorem dX1_settleRights_33 : decode cX1_settleRights 33 = .ok (.if_icmp .le 20, 3) := by decide +kernel
theorem dX1_settleRights_36 : decode cX1_settleRights 36 = .ok (.aload_n 0, 1) := by decide +kernel
theorem dX1_settleRights_37 : decode cX1_settleRights 37 = .ok (.aload_n 3, 1) := by decide +kernel
theorem dX1_settleRights_38 : decode cX1_settleRights 38 = .ok (.aload_n 3, 1) := by decide +kernel
theorem dX1_settleRights_39 : decode cX1_settleRights 39 = .ok (.getfield 128, 3) := by decide +kernel
theorem dX1_settleRights_42 : decode cX1_settleRights 42 = .ok (.aload_n 3, 1) := by decide +kernel
theorem dX1_settleRights_43 : decode cX1_settleRights 43 = .ok (.getfield 205, 3) := by decide +kernel
theorem dX1_settleRights_46 : decode cX1_settleRights 46 = .ok (.isub, 1) := by decide +kernel
theorem dX1_settleRights_47 : decode cX1_settleRights 47 = .ok (.invokevirtual 208, 3) := by decide +kernel
theorem dX1_settleRights_50 : decode cX1_settleRights 50 = .ok (.goto 29, 3) := by decide +kernel
theorem dX1_settleRights_53 : decode cX1_settleRights 53 = .ok (.aload_n 3, 1) := by decide +kernel
theorem dX1_settleRights_54 : decode cX1_settleRights 54 = .ok (.iload_n 1, 1) := by decide +kernel
theorem dX1_settleRights_55 : decode cX1_settleRights 55 = .ok (.invokevirtual 212, 3) := by decide +kernel
theorem dX1_settleRights_58 : decode cX1_settleRights 58 = .ok (.ifCond .ne 21, 3) := by decide +kernel
theorem dX1_settleRights_61 : decode cX1_settleRights 61 = .ok (.aload_n 3, 1) := by decide +kernel
theorem dX1_settleRights_62 : decode cX1_settleRights 62 = .ok (.dup, 1) := by decide +kernel
theorem dX1_settleRights_63 : decode cX1_settleRights 63 = .ok (.getfield 138, 3) := by decide +kernel
theorem dX1_settleRights_66 : decode cX1_settleRights 66 = .ok (.aload_n 3, 1) := by decide +kernel
theorem dX1_settleRights_67 : decode cX1_settleRights 67 = .ok (.getfield 205, 3) := by decide +kernel
theorem dX1_settleRights_70 : decode cX1_settleRights 70 = .ok (.aload_n 3, 1) := by decide +kernel
theorem dX1_settleRights_71 : decode cX1_settleRights 71 = .ok (.getfield 128, 3) := by decide +kernel
theorem dX1_settleRights_74 : decode cX1_settleRights 74 = .ok (.isub, 1) := by decide +kernel
theorem dX1_settleRights_75 : decode cX1_settleRights 75 = .ok (.iadd, 1) := by decide +kernel
theorem dX1_settleRights_76 : decode cX1_settleRights 76 = .ok (.putfield 138, 3) := by decide +kernel
theorem dX1_settleRights_79 : decode cX1_settleRights 79 = .ok (.iinc 2 1, 3) := by decide +kernel
theorem dX1_settleRights_82 : decode cX1_settleRights 82 = .ok (.goto (-80), 3) := by decide +kernel
theorem dX1_settleRights_85 : decode cX1_settleRights 85 = .ok (.return_, 1) := by decide +kernel
theorem dX1_chargeAbove_0 : decode cX1_chargeAbove 0 = .ok (.iload_n 2, 1) := by decide +kernel
theorem dX1_chargeAbove_1 : decode cX1_chargeAbove 1 = .ok (.aload_n 1, 1) := by decide +kernel
theorem dX1_chargeAbove_2 : decode cX1_chargeAbove 2 = .ok (.getfield 138, 3) := by decide +kernel
theorem dX1_chargeAbove_5 : decode cX1_chargeAbove 5 = .ok (.invokestatic 150, 3) := by decide +kernel
theorem dX1_chargeAbove_8 : decode cX1_chargeAbove 8 = .ok (.istore_n 3, 1) := by decide +kernel
theorem dX1_chargeAbove_9 : decode cX1_chargeAbove 9 = .ok (.iconst 2, 1) := by decide +kernel
theorem dX1_chargeAbove_10 : decode cX1_chargeAbove 10 = .ok (.iload_n 2, 1) := by decide +kernel
theorem dX1_chargeAbove_11 : decode cX1_chargeAbove 11 = .ok (.iload_n 3, 1) := by decide +kernel
theorem dX1_chargeAbove_12 : decode cX1_chargeAbove 12 = .ok (.isub, 1) := by decide +kernel
theorem dX1_chargeAbove_13 : decode cX1_chargeAbove 13 = .ok (.imul, 1) := by decide +kernel
theorem dX1_chargeAbove_14 : decode cX1_chargeAbove 14 = .ok (.istore 4, 2) := by decide +kernel
theorem dX1_chargeAbove_16 : decode cX1_chargeAbove 16 = .ok (.aload_n 1, 1) := by decide +kernel
theorem dX1_chargeAbove_17 : decode cX1_chargeAbove 17 = .ok (.dup, 1) := by decide +kernel
theorem dX1_chargeAbove_18 : decode cX1_chargeAbove 18 = .ok (.getfield 138, 3) := by decide +kernel
theorem dX1_chargeAbove_21 : decode cX1_chargeAbove 21 = .ok (.iload_n 3, 1) := by decide +kernel
theorem dX1_chargeAbove_22 : decode cX1_chargeAbove 22 = .ok (.isub, 1) := by decide +kernel
theorem dX1_chargeAbove_23 : decode cX1_chargeAbove 23 = .ok (.putfield 138, 3) := by decide +kernel
theorem dX1_chargeAbove_26 : decode cX1_chargeAbove 26 = .ok (.aload_n 1, 1) := by decide +kernel
theorem dX1_chargeAbove_27 : decode cX1_chargeAbove 27 = .ok (.dup, 1) := by decide +kernel
theorem dX1_chargeAbove_28 : decode cX1_chargeAbove 28 = .ok (.getfield 155, 3) := by decide +kernel
theorem dX1_chargeAbove_31 : decode cX1_chargeAbove 31 = .ok (.iload 4, 2) := by decide +kernel
theorem dX1_chargeAbove_33 : decode cX1_chargeAbove 33 = .ok (.iadd, 1) := by decide +kernel
theorem dX1_chargeAbove_34 : decode cX1_chargeAbove 34 = .ok (.putfield 155, 3) := by decide +kernel
theorem dX1_chargeAbove_37 : decode cX1_chargeAbove 37 = .ok (.aload_n 0, 1) := by decide +kernel
theorem dX1_chargeAbove_38 : decode cX1_chargeAbove 38 = .ok (.dup, 1) := by decide +kernel
theorem dX1_chargeAbove_39 : decode cX1_chargeAbove 39 = .ok (.getfield 27, 3) := by decide +kernel
theorem dX1_chargeAbove_42 : decode cX1_chargeAbove 42 = .ok (.iload 4, 2) := by decide +kernel
theorem dX1_chargeAbove_44 : decode cX1_chargeAbove 44 = .ok (.iadd, 1) := by decide +kernel
theorem dX1_chargeAbove_45 : decode cX1_chargeAbove 45 = .ok (.putfield 27, 3) := by decide +kernel
theorem dX1_chargeAbove_48 : decode cX1_chargeAbove 48 = .ok (.return_, 1) := by decide +kernel
theorem dX1_forgetPower_0 : decode cX1_forgetPower 0 = .ok (.iconst 0, 1) := by decide +kernel
theorem dX1_forgetPower_1 : decode cX1_forgetPower 1 = .ok (.istore_n 1, 1) := by decide +kernel
theorem dX1_forgetPower_2 : decode cX1_forgetPower 2 = .ok (.iload_n 1, 1) := by decide +kernel
theorem dX1_forgetPower_3 : decode cX1_forgetPower 3 = .ok (.aload_n 0, 1) := by decide +kernel
theorem dX1_forgetPower_4 : decode cX1_forgetPower 4 = .ok (.getfield 10, 3) := by decide +kernel
theorem dX1_forgetPower_7 : decode cX1_forgetPower 7 = .ok (.invokevirtual 41, 3) := by decide +kernel
theorem dX1_forgetPower_10 : decode cX1_forgetPower 10 = .ok (.if_icmp .ge 24, 3) := by decide +kernel
theorem dX1_forgetPower_13 : decode cX1_forgetPower 13 = .ok (.aload_n 0, 1) := by decide +kernel
theorem dX1_forgetPower_14 : decode cX1_forgetPower 14 = .ok (.getfield 10, 3) := by decide +kernel
theorem dX1_forgetPower_17 : decode cX1_forgetPower 17 = .ok (.iload_n 1, 1) := by decide +kernel
theorem dX1_forgetPower_18 : decode cX1_forgetPower 18 = .ok (.invokevirtual 162, 3) := by decide +kernel
theorem dX1_forgetPower_21 : decode cX1_forgetPower 21 = .ok (.checkcast 52, 3) := by decide +kernel
theorem dX1_forgetPower_24 : decode cX1_forgetPower 24 = .ok (.iconst 0, 1) := by decide +kernel
theorem dX1_forgetPower_25 : decode cX1_forgetPower 25 = .ok (.putfield 135, 3) := by decide +kernel
theorem dX1_forgetPower_28 : decode cX1_forgetPower 28 = .ok (.iinc 1 1, 3) := by decide +kernel
theorem dX1_forgetPower_31 : decode cX1_forgetPower 31 = .ok (.goto (-29), 3) := by decide +kernel
theorem dX1_forgetPower_34 : decode cX1_forgetPower 34 = .ok (.return_, 1) := by decide +kernel
theorem dX2_init_0 : decode cX2_init 0 = .ok (.aload_n 0, 1) := by decide +kernel
theorem dX2_init_1 : decode cX2_init 1 = .ok (.invokespecial 1, 3) := by decide +kernel
theorem dX2_init_4 : decode cX2_init 4 = .ok (.aload_n 0, 1) := by decide +kernel
theorem dX2_init_5 : decode cX2_init 5 = .ok (.bipush 8, 2) := by decide +kernel
theorem dX2_init_7 : decode cX2_init 7 = .ok (.newarray .int, 2) := by decide +kernel
theorem dX2_init_9 : decode cX2_init 9 = .ok (.putfield 7, 3) := by decide +kernel
theorem dX2_init_12 : decode cX2_init 12 = .ok (.aload_n 0, 1) := by decide +kernel
theorem dX2_init_13 : decode cX2_init 13 = .ok (.bipush 8, 2) := by decide +kernel
theorem dX2_init_15 : decode cX2_init 15 = .ok (.newarray .int, 2) := by decide +kernel
theorem dX2_init_17 : decode cX2_init 17 = .ok (.putfield 13, 3) := by decide +kernel
theorem dX2_init_20 : decode cX2_init 20 = .ok (.aload_n 0, 1) := by decide +kernel
theorem dX2_init_21 : decode cX2_init 21 = .ok (.bipush 8, 2) := by decide +kernel
theorem dX2_init_23 : decode cX2_init 23 = .ok (.newarray .int, 2) := by decide +kernel
theorem dX2_init_25 : decode cX2_init 25 = .ok (.putfield 16, 3) := by decide +kernel
theorem dX2_init_28 : decode cX2_init 28 = .ok (.aload_n 0, 1) := by decide +kernel
theorem dX2_init_29 : decode cX2_init 29 = .ok (.bipush 8, 2) := by decide +kernel
theorem dX2_init_31 : decode cX2_init 31 = .ok (.newarray .int, 2) := by decide +kernel
theorem dX2_init_33 : decode cX2_init 33 = .ok (.putfield 19, 3) := by decide +kernel
theorem dX2_init_36 : decode cX2_init 36 = .ok (.aload_n 0, 1) := by decide +kernel
theorem dX2_init_37 : decode cX2_init 37 = .ok (.bipush 8, 2) := by decide +kernel
theorem dX2_init_39 : decode cX2_init 39 = .ok (.newarray .int, 2) := by decide +kernel
theorem dX2_init_41 : decode cX2_init 41 = .ok (.putfield 22, 3) := by decide +kernel
theorem dX2_init_44 : decode cX2_init 44 = .ok (.aload_n 0, 1) := by decide +kernel
theorem dX2_init_45 : decode cX2_init 45 = .ok (.bipush 8, 2) := by decide +kernel
theorem dX2_init_47 : decode cX2_init 47 = .ok (.newarray .int, 2) := by decide +kernel
theorem dX2_init_49 : decode cX2_init 49 = .ok (.putfield 25, 3) := by decide +kernel
theorem dX2_init_52 : decode cX2_init 52 = .ok (.aload_n 0, 1) := by decide +kernel
theorem dX2_init_53 : decode cX2_init 53 = .ok (.bipush 8, 2) := by decide +kernel
theorem dX2_init_55 : decode cX2_init 55 = .ok (.newarray .int, 2) := by decide +kernel
theorem dX2_init_57 : decode cX2_init 57 = .ok (.putfield 28, 3) := by decide +kernel
theorem dX2_init_60 : decode cX2_init 60 = .ok (.aload_n 0, 1) := by decide +kernel
theorem dX2_init_61 : decode cX2_init 61 = .ok (.bipush 8, 2) := by decide +kernel
theorem dX2_init_63 : decode cX2_init 63 = .ok (.newarray .boolean, 2) := by decide +kernel
theorem dX2_init_65 : decode cX2_init 65 = .ok (.putfield 31, 3) := by decide +kernel
theorem dX2_init_68 : decode cX2_init 68 = .ok (.aload_n 0, 1) := by decide +kernel
theorem dX2_init_69 : decode cX2_init 69 = .ok (.bipush 8, 2) := by decide +kernel
theorem dX2_init_71 : decode cX2_init 71 = .ok (.newarray .int, 2) := by decide +kernel
theorem dX2_init_73 : decode cX2_init 73 = .ok (.putfield 35, 3) := by decide +kernel
theorem dX2_init_76 : decode cX2_init 76 = .ok (.aload_n 0, 1) := by decide +kernel
theorem dX2_init_77 : decode cX2_init 77 = .ok (.bipush 8, 2) := by decide +kernel
theorem dX2_init_79 : decode cX2_init 79 = .ok (.newarray .int, 2) := by decide +kernel
theorem dX2_init_81 : decode cX2_init 81 = .ok (.putfield 38, 3) := by decide +kernel
theorem dX2_init_84 : decode cX2_init 84 = .ok (.aload_n 0, 1) := by decide +kernel
theorem dX2_init_85 : decode cX2_init 85 = .ok (.bipush 8, 2) := by decide +kernel
theorem dX2_init_87 : decode cX2_init 87 = .ok (.newarray .int, 2) := by decide +kernel
theorem dX2_init_89 : decode cX2_init 89 = .ok (.putfield 41, 3) := by decide +kernel
theorem dX2_init_92 : decode cX2_init 92 = .ok (.aload_n 0, 1) := by decide +kernel
theorem dX2_init_93 : decode cX2_init 93 = .ok (.bipush 8, 2) := by decide +kernel
theorem dX2_init_95 : decode cX2_init 95 = .ok (.newarray .int, 2) := by decide +kernel
theorem dX2_init_97 : decode cX2_init 97 = .ok (.putfield 44, 3) := by decide +kernel
theorem dX2_init_100 : decode cX2_init 100 = .ok (.aload_n 0, 1) := by decide +kernel
theorem dX2_init_101 : decode cX2_init 101 = .ok (.bipush 8, 2) := by decide +kernel
theorem dX2_init_103 : decode cX2_init 103 = .ok (.newarray .int, 2) := by decide +kernel
theorem dX2_init_105 : decode cX2_init 105 = .ok (.putfield 47, 3) := by decide +kernel
theorem dX2_init_108 : decode cX2_init 108 = .ok (.aload_n 0, 1) := by decide +kernel
theorem dX2_init_109 : decode cX2_init 109 = .ok (.bipush 64, 2) := by decide +kernel
theorem dX2_init_111 : decode cX2_init 111 = .ok (.newarray .int, 2) := by decide +kernel
theorem dX2_init_113 : decode cX2_init 113 = .ok (.putfield 50, 3) := by decide +kernel
theorem dX2_init_116 : decode cX2_init 116 = .ok (.aload_n 0, 1) := by decide +kernel
theorem dX2_init_117 : decode cX2_init 117 = .ok (.iconst 3, 1) := by decide +kernel
theorem dX2_init_118 : decode cX2_init 118 = .ok (.newarray .int, 2) := by decide +kernel
theorem dX2_init_120 : decode cX2_init 120 = .ok (.putfield 53, 3) := by decide +kernel
theorem dX2_init_123 : decode cX2_init 123 = .ok (.aload_n 0, 1) := by decide +kernel
theorem dX2_init_124 : decode cX2_init 124 = .ok (.iconst 5, 1) := by decide +kernel
theorem dX2_init_125 : decode cX2_init 125 = .ok (.newarray .int, 2) := by decide +kernel
theorem dX2_init_127 : decode cX2_init 127 = .ok (.putfield 56, 3) := by decide +kernel
theorem dX2_init_130 : decode cX2_init 130 = .ok (.aload_n 0, 1) := by decide +kernel
theorem dX2_init_131 : decode cX2_init 131 = .ok (.bipush 8, 2) := by decide +kernel
theorem dX2_init_133 : decode cX2_init 133 = .ok (.newarray .boolean, 2) := by decide +kernel
theorem dX2_init_135 : decode cX2_init 135 = .ok (.putfield 59, 3) := by decide +kernel
theorem dX2_init_138 : decode cX2_init 138 = .ok (.aload_n 0, 1) := by decide +kernel
theorem dX2_init_139 : decode cX2_init 139 = .ok (.bipush 8, 2) := by decide +kernel
theorem dX2_init_141 : decode cX2_init 141 = .ok (.newarray .int, 2) := by decide +kernel
theorem dX2_init_143 : decode cX2_init 143 = .ok (.putfield 62, 3) := by decide +kernel
theorem dX2_init_146 : decode cX2_init 146 = .ok (.return_, 1) := by decide +kernel
theorem dX2_thrown_0 : decode cX2_thrown 0 = .ok (.aload_n 0, 1) := by decide +kernel
theorem dX2_thrown_1 : decode cX2_thrown 1 = .ok (.getfield 65, 3) := by decide +kernel
theorem dX2_thrown_4 : decode cX2_thrown 4 = .ok (.ireturn, 1) := by decide +kernel
theorem dX2_refuses_0 : decode cX2_refuses 0 = .ok (.aload_n 0, 1) := by decide +kernel
theorem dX2_refuses_1 : decode cX2_refuses 1 = .ok (.iload_n 1, 1) := by decide +kernel
theorem dX2_refuses_2 : decode cX2_refuses 2 = .ok (.putfield 65, 3) := by decide +kernel
theorem dX2_refuses_5 : decode cX2_refuses 5 = .ok (.iconst 0, 1) := by decide +kernel
theorem dX2_refuses_6 : decode cX2_refuses 6 = .ok (.ireturn, 1) := by decide +kernel
theorem dX2_in_0 : decode cX2_in 0 = .ok (.iload_n 0, 1) := by decide +kernel
theorem dX2_in_1 : decode cX2_in 1 = .ok (.iload_n 1, 1) := by decide +kernel
theorem dX2_in_2 : decode cX2_in 2 = .ok (.if_icmp .lt 12, 3) := by decide +kernel
theorem dX2_in_5 : decode cX2_in 5 = .ok (.iload_n 0, 1) := by decide +kernel
theorem dX2_in_6 : decode cX2_in 6 = .ok (.iload_n 2, 1) := by decide +kernel
theorem dX2_in_7 : decode cX2_in 7 = .ok (.if_icmp .gt 7, 3) := by decide +kernel
theorem dX2_in_10 : decode cX2_in 10 = .ok (.iconst 1, 1) := by decide +kernel
theorem dX2_in_11 : decode cX2_in 11 = .ok (.goto 4, 3) := by decide +kernel
theorem dX2_in_14 : decode cX2_in 14 = .ok (.iconst 0, 1) := by decide +kernel
theorem dX2_in_15 : decode cX2_in 15 = .ok (.ireturn, 1) := by decide +kernel
theorem dX2_isWell_0 : decode cX2_isWell 0 = .ok (.iload_n 1, 1) := by decide +kernel
theorem dX2_isWell_1 : decode cX2_isWell 1 = .ok (.iconst 0, 1) := by decide +kernel
theorem dX2_isWell_2 : decode cX2_isWell 2 = .ok (.aload_n 0, 1) := by decide +kernel
theorem dX2_isWell_3 : decode cX2_isWell 3 = .ok (.getfield 69, 3) := by decide +kernel
theorem dX2_isWell_6 : decode cX2_isWell 6 = .ok (.iconst 1, 1) := by decide +kernel
theorem dX2_isWell_7 : decode cX2_isWell 7 = .ok (.isub, 1) := by decide +kernel
theorem dX2_isWell_8 : decode cX2_isWell 8 = .ok (.invokestatic 72, 3) := by decide +kernel
theorem dX2_isWell_11 : decode cX2_isWell 11 = .ok (.ireturn, 1) := by decide +kernel
theorem dX2_isAsked_0 : decode cX2_isAsked 0 = .ok (.aload_n 0, 1) := by decide +kernel
theorem dX2_isAsked_1 : decode cX2_isAsked 1 = .ok (.aload_n 0, 1) := by decide +kernel
theorem dX2_isAsked_2 : decode cX2_isAsked 2 = .ok (.iload_n 1, 1) := by decide +kernel
theorem dX2_isAsked_3 : decode cX2_isAsked 3 = .ok (.invokevirtual 76, 3) := by decide +kernel
theorem dX2_isAsked_6 : decode cX2_isAsked 6 = .ok (.ifCond .eq 7, 3) := by decide +kernel
theorem dX2_isAsked_9 : decode cX2_isAsked 9 = .ok (.iconst 0, 1) := by decide +kernel
theorem dX2_isAsked_10 : decode cX2_isAsked 10 = .ok (.goto 4, 3) := by decide +kernel
theorem dX2_isAsked_13 : decode cX2_isAsked 13 = .ok (.iconst 1, 1) := by decide +kernel
theorem dX2_isAsked_14 : decode cX2_isAsked 14 = .ok (.putfield 65, 3) := by decide +kernel
theorem dX2_isAsked_17 : decode cX2_isAsked 17 = .ok (.aload_n 0, 1) := by decide +kernel
theorem dX2_isAsked_18 : decode cX2_isAsked 18 = .ok (.getfield 65, 3) := by decide +kernel
theorem dX2_isAsked_21 : decode cX2_isAsked 21 = .ok (.ifCond .ne 7, 3) := by decide +kernel
theorem dX2_isAsked_24 : decode cX2_isAsked 24 = .ok (.iconst 1, 1) := by decide +kernel
theorem dX2_isAsked_25 : decode cX2_isAsked 25 = .ok (.goto 4, 3) := by decide +kernel
theorem dX2_isAsked_28 : decode cX2_isAsked 28 = .ok (.iconst 0, 1) := by decide +kernel
theorem dX2_isAsked_29 : decode cX2_isAsked 29 = .ok (.ireturn, 1) := by decide +kernel
theorem dX2_addWell_0 : decode cX2_addWell 0 = .ok (.aload_n 0, 1) := by decide +kernel
theorem dX2_addWell_1 : decode cX2_addWell 1 = .ok (.iconst 0, 1) := by decide +kernel
theorem dX2_addWell_2 : decode cX2_addWell 2 = .ok (.putfield 65, 3) := by decide +kernel
theorem dX2_addWell_5 : decode cX2_addWell 5 = .ok (.iload_n 1, 1) := by decide +kernel
theorem dX2_addWell_6 : decode cX2_addWell 6 = .ok (.iconst 0, 1) := by decide +kernel
theorem dX2_addWell_7 : decode cX2_addWell 7 = .ok (.iconst 2, 1) := by decide +kernel
theorem dX2_addWell_8 : decode cX2_addWell 8 = .ok (.invokestatic 72, 3) := by decide +kernel
theorem dX2_addWell_11 : decode cX2_addWell 11 = .ok (.ifCond .ne 9, 3) := by decide +kernel
theorem dX2_addWell_14 : decode cX2_addWell 14 = .ok (.aload_n 0, 1) := by decide +kernel
theorem dX2_addWell_15 : decode cX2_addWell 15 = .ok (.iconst 1, 1) := by decide +kernel
theorem dX2_addWell_16 : decode cX2_addWell 16 = .ok (.invokevirtual 80, 3) := by decide +kernel
theorem dX2_addWell_19 : decode cX2_addWell 19 = .ok (.ireturn, 1) := by decide +kernel
theorem dX2_addWell_20 : decode cX2_addWell 20 = .ok (.iload_n 2, 1) := by decide +kernel
theorem dX2_addWell_21 : decode cX2_addWell 21 = .ok (.iconst 0, 1) := by decide +kernel
theorem dX2_addWell_22 : decode cX2_addWell 22 = .ok (.bipush 99, 2) := by decide +kernel
theorem dX2_addWell_24 : decode cX2_addWell 24 = .ok (.invokestatic 72, 3) := by decide +kernel
theorem dX2_addWell_27 : decode cX2_addWell 27 = .ok (.ifCond .eq 54, 3) := by decide +kernel
theorem dX2_addWell_30 : decode cX2_addWell 30 = .ok (.iload_n 3, 1) := by decide +kernel
theorem dX2_addWell_31 : decode cX2_addWell 31 = .ok (.sipush (-10000), 3) := by decide +kernel
theorem dX2_addWell_34 : decode cX2_addWell 34 = .ok (.sipush 10000, 3) := by decide +kernel
theorem dX2_addWell_37 : decode cX2_addWell 37 = .ok (.invokestatic 72, 3) := by decide +kernel
theorem dX2_addWell_40 : decode cX2_addWell 40 = .ok (.ifCond .eq 41, 3) := by decide +kernel
theorem dX2_addWell_43 : decode cX2_addWell 43 = .ok (.iload 4, 2) := by decide +kernel
theorem dX2_addWell_45 : decode cX2_addWell 45 = .ok (.sipush (-10000), 3) := by decide +kernel
theorem dX2_addWell_48 : decode cX2_addWell 48 = .ok (.sipush 10000, 3) := by decide +kernel
theorem dX2_addWell_51 : decode cX2_addWell 51 = .ok (.invokestatic 72, 3) := by decide +kernel
theorem dX2_addWell_54 : decode cX2_addWell 54 = .ok (.ifCond .eq 27, 3) := by decide +kernel
theorem dX2_addWell_57 : decode cX2_addWell 57 = .ok (.iload 5, 2) := by decide +kernel
theorem dX2_addWell_59 : decode cX2_addWell 59 = .ok (.iconst 0, 1) := by decide +kernel
theorem dX2_addWell_60 : decode cX2_addWell 60 = .ok (.sipush 1000, 3) := by decide +kernel
theorem dX2_addWell_63 : decode cX2_addWell 63 = .ok (.invokestatic 72, 3) := by decide +kernel
theorem dX2_addWell_66 : decode cX2_addWell 66 = .ok (.ifCond .eq 15, 3) := by decide +kernel
theorem dX2_addWell_69 : decode cX2_addWell 69 = .ok (.iload 6, 2) := by decide +kernel
theorem dX2_addWell_71 : decode cX2_addWell 71 = .ok (.iconst 0, 1) := by decide +kernel
theorem dX2_addWell_72 : decode cX2_addWell 72 = .ok (.sipush 1000, 3) := by decide +kernel
theorem dX2_addWell_75 : decode cX2_addWell 75 = .ok (.invokestatic 72, 3) := by decide +kernel
theorem dX2_addWell_78 : decode cX2_addWell 78 = .ok (.ifCond .ne 9, 3) := by decide +kernel
theorem dX2_addWell_81 : decode cX2_addWell 81 = .ok (.aload_n 0, 1) := by decide +kernel
theorem dX2_addWell_82 : decode cX2_addWell 82 = .ok (.iconst 2, 1) := by decide +kernel
theorem dX2_addWell_83 : decode cX2_addWell 83 = .ok (.invokevirtual 80, 3) := by decide +kernel
theorem dX2_addWell_86 : decode cX2_addWell 86 = .ok (.ireturn, 1) := by decide +kernel
theorem dX2_addWell_87 : decode cX2_addWell 87 = .ok (.aload_n 0, 1) := by decide +kernel
theorem dX2_addWell_88 : decode cX2_addWell 88 = .ok (.getfield 69, 3) := by decide +kernel
theorem dX2_addWell_91 : decode cX2_addWell 91 = .ok (.bipush 8, 2) := by decide +kernel
theorem dX2_addWell_93 : decode cX2_addWell 93 = .ok (.if_icmp .ne 9, 3) := by decide +kernel
theorem dX2_addWell_96 : decode cX2_addWell 96 = .ok (.aload_n 0, 1) := by decide +kernel
theorem dX2_addWell_97 : decode cX2_addWell 97 = .ok (.iconst 3, 1) := by decide +kernel
theorem dX2_addWell_98 : decode cX2_addWell 98 = .ok (.invokevirtual 80, 3) := by decide +kernel
theorem dX2_addWell_101 : decode cX2_addWell 101 = .ok (.ireturn, 1) := by decide +kernel
theorem dX2_addWell_102 : decode cX2_addWell 102 = .ok (.aload_n 0, 1) := by decide +kernel
theorem dX2_addWell_103 : decode cX2_addWell 103 = .ok (.getfield 7, 3) := by decide +kernel
theorem dX2_addWell_106 : decode cX2_addWell 106 = .ok (.aload_n 0, 1) := by decide +kernel
theorem dX2_addWell_107 : decode cX2_addWell 107 = .ok (.getfield 69, 3) := by decide +kernel
theorem dX2_addWell_110 : decode cX2_addWell 110 = .ok (.iload_n 1, 1) := by decide +kernel
theorem dX2_addWell_111 : decode cX2_addWell 111 = .ok (.iastore, 1) := by decide +kernel
theorem dX2_addWell_112 : decode cX2_addWell 112 = .ok (.aload_n 0, 1) := by decide +kernel
theorem dX2_addWell_113 : decode cX2_addWell 113 = .ok (.getfield 13, 3) := by decide +kernel
theorem dX2_addWell_116 : decode cX2_addWell 116 = .ok (.aload_n 0, 1) := by decide +kernel
theorem dX2_addWell_117 : decode cX2_addWell 117 = .ok (.getfield 69, 3) := by decide +kernel
theorem dX2_addWell_120 : decode cX2_addWell 120 = .ok (.iload_n 2, 1) := by decide +kernel
theorem dX2_addWell_121 : decode cX2_addWell 121 = .ok (.iastore, 1) := by decide +kernel
theorem dX2_addWell_122 : decode cX2_addWell 122 = .ok (.aload_n 0, 1) := by decide +kernel
theorem dX2_addWell_123 : decode cX2_addWell 123 = .ok (.getfield 16, 3) := by decide +kernel
theorem dX2_addWell_126 : decode cX2_addWell 126 = .ok (.aload_n 0, 1) := by decide +kernel
theorem dX2_addWell_127 : decode cX2_addWell 127 = .ok (.getfield 69, 3) := by decide +kernel
theorem dX2_addWell_130 : decode cX2_addWell 130 = .ok (.iload_n 3, 1) := by decide +kernel
theorem dX2_addWell_131 : decode cX2_addWell 131 = .ok (.iastore, 1) := by decide +kernel
theorem dX2_addWell_132 : decode cX2_addWell 132 = .ok (.aload_n 0, 1) := by decide +kernel
theorem dX2_addWell_133 : decode cX2_addWell 133 = .ok (.getfield 19, 3) := by decide +kernel
theorem dX2_addWell_136 : decode cX2_addWell 136 = .ok (.aload_n 0, 1) := by decide +kernel
theorem dX2_addWell_137 : decode cX2_addWell 137 = .ok (.getfield 69, 3) := by decide +kernel
theorem dX2_addWell_140 : decode cX2_addWell 140 = .ok (.iload 4, 2) := by decide +kernel
theorem dX2_addWell_142 : decode cX2_addWell 142 = .ok (.iastore, 1) := by decide +kernel
theorem dX2_addWell_143 : decode cX2_addWell 143 = .ok (.aload_n 0, 1) := by decide +kernel
theorem dX2_addWell_144 : decode cX2_addWell 144 = .ok (.getfield 22, 3) := by decide +kernel
theorem dX2_addWell_147 : decode cX2_addWell 147 = .ok (.aload_n 0, 1) := by decide +kernel
theorem dX2_addWell_148 : decode cX2_addWell 148 = .ok (.getfield 69, 3) := by decide +kernel
theorem dX2_addWell_151 : decode cX2_addWell 151 = .ok (.iload 5, 2) := by decide +kernel
theorem dX2_addWell_153 : decode cX2_addWell 153 = .ok (.iastore, 1) := by decide +kernel
theorem dX2_addWell_154 : decode cX2_addWell 154 = .ok (.aload_n 0, 1) := by decide +kernel
theorem dX2_addWell_155 : decode cX2_addWell 155 = .ok (.getfield 25, 3) := by decide +kernel
theorem dX2_addWell_158 : decode cX2_addWell 158 = .ok (.aload_n 0, 1) := by decide +kernel
theorem dX2_addWell_159 : decode cX2_addWell 159 = .ok (.getfield 69, 3) := by decide +kernel
theorem dX2_addWell_162 : decode cX2_addWell 162 = .ok (.iload 6, 2) := by decide +kernel
theorem dX2_addWell_164 : decode cX2_addWell 164 = .ok (.iastore, 1) := by decide +kernel
theorem dX2_addWell_165 : decode cX2_addWell 165 = .ok (.aload_n 0, 1) := by decide +kernel
theorem dX2_addWell_166 : decode cX2_addWell 166 = .ok (.dup, 1) := by decide +kernel
theorem dX2_addWell_167 : decode cX2_addWell 167 = .ok (.getfield 69, 3) := by decide +kernel
theorem dX2_addWell_170 : decode cX2_addWell 170 = .ok (.iconst 1, 1) := by decide +kernel
theorem dX2_addWell_171 : decode cX2_addWell 171 = .ok (.iadd, 1) := by decide +kernel
theorem dX2_addWell_172 : decode cX2_addWell 172 = .ok (.putfield 69, 3) := by decide +kernel
theorem dX2_addWell_175 : decode cX2_addWell 175 = .ok (.aload_n 0, 1) := by decide +kernel
theorem dX2_addWell_176 : decode cX2_addWell 176 = .ok (.getfield 69, 3) := by decide +kernel
theorem dX2_addWell_179 : decode cX2_addWell 179 = .ok (.iconst 1, 1) := by decide +kernel
theorem dX2_addWell_180 : decode cX2_addWell 180 = .ok (.isub, 1) := by decide +kernel
theorem dX2_addWell_181 : decode cX2_addWell 181 = .ok (.ireturn, 1) := by decide +kernel
theorem dX2_plan_0 : decode cX2_plan 0 = .ok (.aload_n 0, 1) := by decide +kernel
theorem dX2_plan_1 : decode cX2_plan 1 = .ok (.iload_n 1, 1) := by decide +kernel
theorem dX2_plan_2 : decode cX2_plan 2 = .ok (.invokevirtual 84, 3) := by decide +kernel
theorem dX2_plan_5 : decode cX2_plan 5 = .ok (.ifCond .ne 5, 3) := by decide +kernel
theorem dX2_plan_8 : decode cX2_plan 8 = .ok (.iconst 0, 1) := by decide +kernel
theorem dX2_plan_9 : decode cX2_plan 9 = .ok (.ireturn, 1) := by decide +kernel
theorem dX2_plan_10 : decode cX2_plan 10 = .ok (.iload_n 2, 1) := by decide +kernel
theorem dX2_plan_11 : decode cX2_plan 11 = .ok (.iconst 0, 1) := by decide +kernel
theorem dX2_plan_12 : decode cX2_plan 12 = .ok (.sipush 2000, 3) := by decide +kernel
theorem dX2_plan_15 : decode cX2_plan 15 = .ok (.invokestatic 72, 3) := by decide +kernel
theorem dX2_plan_18 : decode cX2_plan 18 = .ok (.ifCond .ne 9, 3) := by decide +kernel
theorem dX2_plan_21 : decode cX2_plan 21 = .ok (.aload_n 0, 1) := by decide +kernel
theorem dX2_plan_22 : decode cX2_plan 22 = .ok (.iconst 2, 1) := by decide +kernel
theorem dX2_plan_23 : decode cX2_plan 23 = .ok (.invokevirtual 80, 3) := by decide +kernel
theorem dX2_plan_26 : decode cX2_plan 26 = .ok (.ireturn, 1) := by decide +kernel
theorem dX2_plan_27 : decode cX2_plan 27 = .ok (.aload_n 0, 1) := by decide +kernel
theorem dX2_plan_28 : decode cX2_plan 28 = .ok (.getfield 28, 3) := by decide +kernel
theorem dX2_plan_31 : decode cX2_plan 31 = .ok (.iload_n 1, 1) := by decide +kernel
theorem dX2_plan_32 : decode cX2_plan 32 = .ok (.iaload, 1) := by decide +kernel
theorem dX2_plan_33 : decode cX2_plan 33 = .ok (.istore_n 3, 1) := by decide +kernel
theorem dX2_plan_34 : decode cX2_plan 34 = .ok (.aload_n 0, 1) := by decide +kernel
theorem dX2_plan_35 : decode cX2_plan 35 = .ok (.getfield 28, 3) := by decide +kernel
theorem dX2_plan_38 : decode cX2_plan 38 = .ok (.iload_n 1, 1) := by decide +kernel
theorem dX2_plan_39 : decode cX2_plan 39 = .ok (.iload_n 2, 1) := by decide +kernel
theorem dX2_plan_40 : decode cX2_plan 40 = .ok (.iastore, 1) := by decide +kernel
theorem dX2_plan_41 : decode cX2_plan 41 = .ok (.iload_n 3, 1) := by decide +kernel
theorem dX2_plan_42 : decode cX2_plan 42 = .ok (.ireturn, 1) := by decide +kernel
theorem dX2_setRecharge_0 : decode cX2_setRecharge 0 = .ok (.aload_n 0, 1) := by decide +kernel
theorem dX2_setRecharge_1 : decode cX2_setRecharge 1 = .ok (.iconst 0, 1) := by decide +kernel
theorem dX2_setRecharge_2 : decode cX2_setRecharge 2 = .ok (.putfield 65, 3) := by decide +kernel
theorem dX2_setRecharge_5 : decode cX2_setRecharge 5 = .ok (.iload_n 1, 1) := by decide +kernel
theorem dX2_setRecharge_6 : decode cX2_setRecharge 6 = .ok (.iconst 0, 1) := by decide +kernel
theorem dX2_setRecharge_7 : decode cX2_setRecharge 7 = .ok (.iconst 2, 1) := by decide +kernel
theorem dX2_setRecharge_8 : decode cX2_setRecharge 8 = .ok (.invokestatic 72, 3) := by decide +kernel
theorem dX2_setRecharge_11 : decode cX2_setRecharge 11 = .ok (.ifCond .ne 9, 3) := by decide +kernel
theorem dX2_setRecharge_14 : decode cX2_setRecharge 14 = .ok (.aload_n 0, 1) := by decide +kernel
theorem dX2_setRecharge_15 : decode cX2_setRecharge 15 = .ok (.iconst 1, 1) := by decide +kernel
theorem dX2_setRecharge_16 : decode cX2_setRecharge 16 = .ok (.invokevirtual 80, 3) := by decide +kernel
theorem dX2_setRecharge_19 : decode cX2_setRecharge 19 = .ok (.ireturn, 1) := by decide +kernel
theorem dX2_setRecharge_20 : decode cX2_setRecharge 20 = .ok (.iload_n 2, 1) := by decide +kernel
theorem dX2_setRecharge_21 : decode cX2_setRecharge 21 = .ok (.iconst 0, 1) := by decide +kernel
theorem dX2_setRecharge_22 : decode cX2_setRecharge 22 = .ok (.sipush 1000, 3) := by decide +kernel
theorem dX2_setRecharge_25 : decode cX2_setRecharge 25 = .ok (.invokestatic 72, 3) := by decide +kernel
theorem dX2_setRecharge_28 : decode cX2_setRecharge 28 = .ok (.ifCond .ne 9, 3) := by decide +kernel
theorem dX2_setRecharge_31 : decode cX2_setRecharge 31 = .ok (.aload_n 0, 1) := by decide +kernel
theorem dX2_setRecharge_32 : decode cX2_setRecharge 32 = .ok (.iconst 2, 1) := by decide +kernel
theorem dX2_setRecharge_33 : decode cX2_setRecharge 33 = .ok (.invokevirtual 80, 3) := by decide +kernel
theorem dX2_setRecharge_36 : decode cX2_setRecharge 36 = .ok (.ireturn, 1) := by decide +kernel
theorem dX2_setRecharge_37 : decode cX2_setRecharge 37 = .ok (.aload_n 0, 1) := by decide +kernel
theorem dX2_setRecharge_38 : decode cX2_setRecharge 38 = .ok (.getfield 53, 3) := by decide +kernel
theorem dX2_setRecharge_41 : decode cX2_setRecharge 41 = .ok (.iload_n 1, 1) := by decide +kernel
theorem dX2_setRecharge_42 : decode cX2_setRecharge 42 = .ok (.iaload, 1) := by decide +kernel
theorem dX2_setRecharge_43 : decode cX2_setRecharge 43 = .ok (.istore_n 3, 1) := by decide +kernel
theorem dX2_setRecharge_44 : decode cX2_setRecharge 44 = .ok (.aload_n 0, 1) := by decide +kernel
theorem dX2_setRecharge_45 : decode cX2_setRecharge 45 = .ok (.getfield 53, 3) := by decide +kernel
theorem dX2_setRecharge_48 : decode cX2_setRecharge 48 = .ok (.iload_n 1, 1) := by decide +kernel
theorem dX2_setRecharge_49 : decode cX2_setRecharge 49 = .ok (.iload_n 2, 1) := by decide +kernel
theorem dX2_setRecharge_50 : decode cX2_setRecharge 50 = .ok (.iastore, 1) := by decide +kernel
theorem dX2_setRecharge_51 : decode cX2_setRecharge 51 = .ok (.iload_n 3, 1) := by decide +kernel
theorem dX2_setRecharge_52 : decode cX2_setRecharge 52 = .ok (.ireturn, 1) := by decide +kernel
theorem dX2_reaches_0 : decode cX2_reaches 0 = .ok (.iload_n 2, 1) := by decide +kernel
theorem dX2_reaches_1 : decode cX2_reaches 1 = .ok (.aload_n 0, 1) := by decide +kernel
theorem dX2_reaches_2 : decode cX2_reaches 2 = .ok (.getfield 13, 3) := by decide +kernel
theorem dX2_reaches_5 : decode cX2_reaches 5 = .ok (.iload_n 3, 1) := by decide +kernel
theorem dX2_reaches_6 : decode cX2_reaches 6 = .ok (.iaload, 1) := by decide +kernel
theorem dX2_reaches_7 : decode cX2_reaches 7 = .ok (.if_icmp .le 14, 3) := by decide +kernel
theorem dX2_reaches_10 : decode cX2_reaches 10 = .ok (.iload_n 2, 1) := by decide +kernel
theorem dX2_reaches_11 : decode cX2_reaches 11 = .ok (.aload_n 0, 1) := by decide +kernel
theorem dX2_reaches_12 : decode cX2_reaches 12 = .ok (.getfield 13, 3) := by decide +kernel
theorem dX2_reaches_15 : decode cX2_reaches 15 = .ok (.iload_n 3, 1) := by decide +kernel
theorem dX2_reaches_16 : decode cX2_reaches 16 = .ok (.iaload, 1) := by decide +kernel
theorem dX2_reaches_17 : decode cX2_reaches 17 = .ok (.isub, 1) := by decide +kernel
theorem dX2_reaches_18 : decode cX2_reaches 18 = .ok (.goto 11, 3) := by decide +kernel
theorem dX2_reaches_21 : decode cX2_reaches 21 = .ok (.aload_n 0, 1) := by decide +kernel
theorem dX2_reaches_22 : decode cX2_reaches 22 = .ok (.getfield 13, 3) := by decide +kernel
theorem dX2_reaches_25 : decode cX2_reaches 25 = .ok (.iload_n 3, 1) := by decide +kernel
theorem dX2_reaches_26 : decode cX2_reaches 26 = .ok (.iaload, 1) := by decide +kernel
theorem dX2_reaches_27 : decode cX2_reaches 27 = .ok (.iload_n 2, 1) := by decide +kernel
theorem dX2_reaches_28 : decode cX2_reaches 28 = .ok (.isub, 1) := by decide +kernel
theorem dX2_reaches_29 : decode cX2_reaches 29 = .ok (.istore 4, 2) := by decide +kernel
theorem dX2_reaches_31 : decode cX2_reaches 31 = .ok (.iload_n 1, 1) := by decide +kernel
theorem dX2_reaches_32 : decode cX2_reaches 32 = .ok (.aload_n 0, 1) := by decide +kernel
theorem dX2_reaches_33 : decode cX2_reaches 33 = .ok (.getfield 7, 3) := by decide +kernel
theorem dX2_reaches_36 : decode cX2_reaches 36 = .ok (.iload_n 3, 1) := by decide +kernel
theorem dX2_reaches_37 : decode cX2_reaches 37 = .ok (.iaload, 1) := by decide +kernel
theorem dX2_reaches_38 : decode cX2_reaches 38 = .ok (.if_icmp .le 14, 3) := by decide +kernel
theorem dX2_reaches_41 : decode cX2_reaches 41 = .ok (.iload_n 1, 1) := by decide +kernel
theorem dX2_reaches_42 : decode cX2_reaches 42 = .ok (.aload_n 0, 1) := by decide +kernel
theorem dX2_reaches_43 : decode cX2_reaches 43 = .ok (.getfield 7, 3) := by decide +kernel
theorem dX2_reaches_46 : decode cX2_reaches 46 = .ok (.iload_n 3, 1) := by decide +kernel
theorem dX2_reaches_47 : decode cX2_reaches 47 = .ok (.iaload, 1) := by decide +kernel
theorem dX2_reaches_48 : decode cX2_reaches 48 = .ok (.isub, 1) := by decide +kernel
theorem dX2_reaches_49 : decode cX2_reaches 49 = .ok (.goto 11, 3) := by decide +kernel
theorem dX2_reaches_52 : decode cX2_reaches 52 = .ok (.aload_n 0, 1) := by decide +kernel
theorem dX2_reaches_53 : decode cX2_reaches 53 = .ok (.getfield 7, 3) := by decide +kernel
theorem dX2_reaches_56 : decode cX2_reaches 56 = .ok (.iload_n 3, 1) := by decide +kernel
theorem dX2_reaches_57 : decode cX2_reaches 57 = .ok (.iaload, 1) := by decide +kernel
theorem dX2_reaches_58 : decode cX2_reaches 58 = .ok (.iload_n 1, 1) := by decide +kernel
theorem dX2_reaches_59 : decode cX2_reaches 59 = .ok (.isub, 1) := by decide +kernel
theorem dX2_reaches_60 : decode cX2_reaches 60 = .ok (.istore 5, 2) := by decide +kernel
theorem dX2_reaches_62 : decode cX2_reaches 62 = .ok (.iload 4, 2) := by decide +kernel
theorem dX2_reaches_64 : decode cX2_reaches 64 = .ok (.bipush 10, 2) := by decide +kernel
theorem dX2_reaches_66 : decode cX2_reaches 66 = .ok (.if_icmp .le 7, 3) := by decide +kernel
theorem dX2_reaches_69 : decode cX2_reaches 69 = .ok (.iconst 0, 1) := by decide +kernel
theorem dX2_reaches_70 : decode cX2_reaches 70 = .ok (.goto 11, 3) := by decide +kernel
theorem dX2_reaches_73 : decode cX2_reaches 73 = .ok (.bipush 100, 2) := by decide +kernel
theorem dX2_reaches_75 : decode cX2_reaches 75 = .ok (.bipush 10, 2) := by decide +kernel
theorem dX2_reaches_77 : decode cX2_reaches 77 = .ok (.iload 4, 2) := by decide +kernel
theorem dX2_reaches_79 : decode cX2_reaches 79 = .ok (.imul, 1) := by decide +kernel
theorem dX2_reaches_80 : decode cX2_reaches 80 = .ok (.isub, 1) := by decide +kernel
theorem dX2_reaches_81 : decode cX2_reaches 81 = .ok (.istore 6, 2) := by decide +kernel
theorem dX2_reaches_83 : decode cX2_reaches 83 = .ok (.iload 5, 2) := by decide +kernel
theorem dX2_reaches_85 : decode cX2_reaches 85 = .ok (.ifCond .ne 8, 3) := by decide +kernel
theorem dX2_reaches_88 : decode cX2_reaches 88 = .ok (.iload 6, 2) := by decide +kernel
theorem dX2_reaches_90 : decode cX2_reaches 90 = .ok (.goto 17, 3) := by decide +kernel
theorem dX2_reaches_93 : decode cX2_reaches 93 = .ok (.iload 5, 2) := by decide +kernel
theorem dX2_reaches_95 : decode cX2_reaches 95 = .ok (.iconst 1, 1) := by decide +kernel
theorem dX2_reaches_96 : decode cX2_reaches 96 = .ok (.if_icmp .ne 10, 3) := by decide +kernel
theorem dX2_reaches_99 : decode cX2_reaches 99 = .ok (.iload 6, 2) := by decide +kernel
theorem dX2_reaches_101 : decode cX2_reaches 101 = .ok (.iconst 2, 1) := by decide +kernel
theorem dX2_reaches_102 : decode cX2_reaches 102 = .ok (.idiv, 1) := by decide +kernel
theorem dX2_reaches_103 : decode cX2_reaches 103 = .ok (.goto 4, 3) := by decide +kernel
theorem dX2_reaches_106 : decode cX2_reaches 106 = .ok (.iconst 0, 1) := by decide +kernel
theorem dX2_reaches_107 : decode cX2_reaches 107 = .ok (.ireturn, 1) := by decide +kernel
theorem dX2_reach_0 : decode cX2_reach 0 = .ok (.aload_n 0, 1) := by decide +kernel
theorem dX2_reach_1 : decode cX2_reach 1 = .ok (.iconst 0, 1) := by decide +kernel
theorem dX2_reach_2 : decode cX2_reach 2 = .ok (.putfield 65, 3) := by decide +kernel
theorem dX2_reach_5 : decode cX2_reach 5 = .ok (.aload_n 0, 1) := by decide +kernel
theorem dX2_reach_6 : decode cX2_reach 6 = .ok (.iload_n 1, 1) := by decide +kernel
theorem dX2_reach_7 : decode cX2_reach 7 = .ok (.invokevirtual 76, 3) := by decide +kernel
theorem dX2_reach_10 : decode cX2_reach 10 = .ok (.ifCond .eq 31, 3) := by decide +kernel
theorem dX2_reach_13 : decode cX2_reach 13 = .ok (.aload_n 0, 1) := by decide +kernel
theorem dX2_reach_14 : decode cX2_reach 14 = .ok (.iload_n 2, 1) := by decide +kernel
theorem dX2_reach_15 : decode cX2_reach 15 = .ok (.invokevirtual 76, 3) := by decide +kernel
theorem dX2_reach_18 : decode cX2_reach 18 = .ok (.ifCond .eq 23, 3) := by decide +kernel
theorem dX2_reach_21 : decode cX2_reach 21 = .ok (.aload_n 0, 1) := by decide +kernel
theorem dX2_reach_22 : decode cX2_reach 22 = .ok (.aload_n 0, 1) := by decide +kernel
theorem dX2_reach_23 : decode cX2_reach 23 = .ok (.getfield 7, 3) := by decide +kernel
theorem dX2_reach_26 : decode cX2_reach 26 = .ok (.iload_n 1, 1) := by decide +kernel
theorem dX2_reach_27 : decode cX2_reach 27 = .ok (.iaload, 1) := by decide +kernel
theorem dX2_reach_28 : decode cX2_reach 28 = .ok (.aload_n 0, 1) := by decide +kernel
theorem dX2_reach_29 : decode cX2_reach 29 = .ok (.getfield 13, 3) := by decide +kernel
theorem dX2_reach_32 : decode cX2_reach 32 = .ok (.iload_n 1, 1) := by decide +kernel
theorem dX2_reach_33 : decode cX2_reach 33 = .ok (.iaload, 1) := by decide +kernel
theorem dX2_reach_34 : decode cX2_reach 34 = .ok (.iload_n 2, 1) := by decide +kernel
theorem dX2_reach_35 : decode cX2_reach 35 = .ok (.invokevirtual 87, 3) := by decide +kernel
theorem dX2_reach_38 : decode cX2_reach 38 = .ok (.goto 8, 3) := by decide +kernel
theorem dX2_reach_41 : decode cX2_reach 41 = .ok (.aload_n 0, 1) := by decide +kernel
theorem dX2_reach_42 : decode cX2_reach 42 = .ok (.iconst 1, 1) := by decide +kernel
theorem dX2_reach_43 : decode cX2_reach 43 = .ok (.invokevirtual 80, 3) := by decide +kernel
theorem dX2_reach_46 : decode cX2_reach 46 = .ok (.ireturn, 1) := by decide +kernel
theorem dX2_level_0 : decode cX2_level 0 = .ok (.aload_n 0, 1) := by decide +kernel
theorem dX2_level_1 : decode cX2_level 1 = .ok (.iload_n 1, 1) := by decide +kernel
theorem dX2_level_2 : decode cX2_level 2 = .ok (.invokevirtual 84, 3) := by decide +kernel
theorem dX2_level_5 : decode cX2_level 5 = .ok (.ifCond .eq 12, 3) := by decide +kernel
theorem dX2_level_8 : decode cX2_level 8 = .ok (.aload_n 0, 1) := by decide +kernel
theorem dX2_level_9 : decode cX2_level 9 = .ok (.getfield 16, 3) := by decide +kernel
theorem dX2_level_12 : decode cX2_level 12 = .ok (.iload_n 1, 1) := by decide +kernel
theorem dX2_level_13 : decode cX2_level 13 = .ok (.iaload, 1) := by decide +kernel
theorem dX2_level_14 : decode cX2_level 14 = .ok (.goto 4, 3) := by decide +kernel
theorem dX2_level_17 : decode cX2_level 17 = .ok (.iconst 0, 1) := by decide +kernel
theorem dX2_level_18 : decode cX2_level 18 = .ok (.ireturn, 1) := by decide +kernel
theorem dX2_sign_0 : decode cX2_sign 0 = .ok (.aload_n 0, 1) := by decide +kernel
theorem dX2_sign_1 : decode cX2_sign 1 = .ok (.aload_n 0, 1) := by decide +kernel
theorem dX2_sign_2 : decode cX2_sign 2 = .ok (.iload_n 1, 1) := by decide +kernel
theorem dX2_sign_3 : decode cX2_sign 3 = .ok (.invokevirtual 76, 3) := by decide +kernel
theorem dX2_sign_6 : decode cX2_sign 6 = .ok (.ifCond .eq 7, 3) := by decide +kernel
theorem dX2_sign_9 : decode cX2_sign 9 = .ok (.iconst 0, 1) := by decide +kernel
theorem dX2_sign_10 : decode cX2_sign 10 = .ok (.goto 4, 3) := by decide +kernel
theorem dX2_sign_13 : decode cX2_sign 13 = .ok (.iconst 1, 1) := by decide +kernel
theorem dX2_sign_14 : decode cX2_sign 14 = .ok (.putfield 65, 3) := by decide +kernel
theorem dX2_sign_17 : decode cX2_sign 17 = .ok (.aload_n 0, 1) := by decide +kernel
theorem dX2_sign_18 : decode cX2_sign 18 = .ok (.getfield 65, 3) := by decide +kernel
theorem dX2_sign_21 : decode cX2_sign 21 = .ok (.ifCond .le 7, 3) := by decide +kernel
theorem dX2_sign_24 : decode cX2_sign 24 = .ok (.iconst 0, 1) := by decide +kernel
theorem dX2_sign_25 : decode cX2_sign 25 = .ok (.goto 19, 3) := by decide +kernel
theorem dX2_sign_28 : decode cX2_sign 28 = .ok (.aload_n 0, 1) := by decide +kernel
theorem dX2_sign_29 : decode cX2_sign 29 = .ok (.getfield 13, 3) := by decide +kernel
theorem dX2_sign_32 : decode cX2_sign 32 = .ok (.iload_n 1, 1) := by decide +kernel
theorem dX2_sign_33 : decode cX2_sign 33 = .ok (.iaload, 1) := by decide +kernel
theorem dX2_sign_34 : decode cX2_sign 34 = .ok (.bipush 10, 2) := by decide +kernel
theorem dX2_sign_36 : decode cX2_sign 36 = .ok (.if_icmp .ge 7, 3) := by decide +kernel
theorem dX2_sign_39 : decode cX2_sign 39 = .ok (.iconst 1, 1) := by decide +kernel
theorem dX2_sign_40 : decode cX2_sign 40 = .ok (.goto 4, 3) := by decide +kernel
theorem dX2_sign_43 : decode cX2_sign 43 = .ok (.iconst 2, 1) := by decide +kernel
theorem dX2_sign_44 : decode cX2_sign 44 = .ok (.istore_n 3, 1) := by decide +kernel
theorem dX2_sign_45 : decode cX2_sign 45 = .ok (.aload_n 0, 1) := by decide +kernel
theorem dX2_sign_46 : decode cX2_sign 46 = .ok (.getfield 65, 3) := by decide +kernel
theorem dX2_sign_49 : decode cX2_sign 49 = .ok (.ifCond .gt 15, 3) := by decide +kernel
theorem dX2_sign_52 : decode cX2_sign 52 = .ok (.iload_n 2, 1) := by decide +kernel
theorem dX2_sign_53 : decode cX2_sign 53 = .ok (.iconst 0, 1) := by decide +kernel
theorem dX2_sign_54 : decode cX2_sign 54 = .ok (.bipush 8, 2) := by decide +kernel
theorem dX2_sign_56 : decode cX2_sign 56 = .ok (.iload_n 3, 1) := by decide +kernel
theorem dX2_sign_57 : decode cX2_sign 57 = .ok (.iadd, 1) := by decide +kernel
theorem dX2_sign_58 : decode cX2_sign 58 = .ok (.invokestatic 72, 3) := by decide +kernel
theorem dX2_sign_61 : decode cX2_sign 61 = .ok (.ifCond .ne 10, 3) := by decide +kernel
theorem dX2_sign_64 : decode cX2_sign 64 = .ok (.aload_n 0, 1) := by decide +kernel
theorem dX2_sign_65 : decode cX2_sign 65 = .ok (.iconst 1, 1) := by decide +kernel
theorem dX2_sign_66 : decode cX2_sign 66 = .ok (.invokevirtual 80, 3) := by decide +kernel
theorem dX2_sign_69 : decode cX2_sign 69 = .ok (.i2c, 1) := by decide +kernel
theorem dX2_sign_70 : decode cX2_sign 70 = .ok (.ireturn, 1) := by decide +kernel
theorem dX2_sign_71 : decode cX2_sign 71 = .ok (.iload_n 2, 1) := by decide +kernel
theorem dX2_sign_72 : decode cX2_sign 72 = .ok (.iconst 5, 1) := by decide +kernel
theorem dX2_sign_73 : decode cX2_sign 73 = .ok (.if_icmp .ge 45, 3) := by decide +kernel
theorem dX2_sign_76 : decode cX2_sign 76 = .ok (.iload_n 2, 1) := by decide +kernel
theorem dX2_sign_77 : decode cX2_sign 77 = .ok (.ifCond .ne 8, 3) := by decide +kernel
theorem dX2_sign_80 : decode cX2_sign 80 = .ok (.bipush 108, 2) := by decide +kernel
theorem dX2_sign_82 : decode cX2_sign 82 = .ok (.goto 35, 3) := by decide +kernel
theorem dX2_sign_85 : decode cX2_sign 85 = .ok (.iload_n 2, 1) := by decide +kernel
theorem dX2_sign_86 : decode cX2_sign 86 = .ok (.iconst 1, 1) := by decide +kernel
theorem dX2_sign_87 : decode cX2_sign 87 = .ok (.if_icmp .ne 8, 3) := by decide +kernel
theorem dX2_sign_90 : decode cX2_sign 90 = .ok (.bipush 97, 2) := by decide +kernel
theorem dX2_sign_92 : decode cX2_sign 92 = .ok (.goto 25, 3) := by decide +kernel
theorem dX2_sign_95 : decode cX2_sign 95 = .ok (.iload_n 2, 1) := by decide +kernel
theorem dX2_sign_96 : decode cX2_sign 96 = .ok (.iconst 2, 1) := by decide +kernel
theorem dX2_sign_97 : decode cX2_sign 97 = .ok (.if_icmp .ne 8, 3) := by decide +kernel
theorem dX2_sign_100 : decode cX2_sign 100 = .ok (.bipush 121, 2) := by decide +kernel
theorem dX2_sign_102 : decode cX2_sign 102 = .ok (.goto 15, 3) := by decide +kernel
theorem dX2_sign_105 : decode cX2_sign 105 = .ok (.iload_n 2, 1) := by decide +kernel
theorem dX2_sign_106 : decode cX2_sign 106 = .ok (.iconst 3, 1) := by decide +kernel
theorem dX2_sign_107 : decode cX2_sign 107 = .ok (.if_icmp .ne 8, 3) := by decide +kernel
theorem dX2_sign_110 : decode cX2_sign 110 = .ok (.bipush 101, 2) := by decide +kernel
theorem dX2_sign_112 : decode cX2_sign 112 = .ok (.goto 5, 3) := by decide +kernel
theorem dX2_sign_115 : decode cX2_sign 115 = .ok (.bipush 114, 2) := by decide +kernel
theorem dX2_sign_117 : decode cX2_sign 117 = .ok (.ireturn, 1) := by decide +kernel
theorem dX2_sign_118 : decode cX2_sign 118 = .ok (.iload_n 2, 1) := by decide +kernel
theorem dX2_sign_119 : decode cX2_sign 119 = .ok (.bipush 7, 2) := by decide +kernel
theorem dX2_sign_121 : decode cX2_sign 121 = .ok (.if_icmp .ge 24, 3) := by decide +kernel
theorem dX2_sign_124 : decode cX2_sign 124 = .ok (.iload_n 2, 1) := by decide +kernel
theorem dX2_sign_125 : decode cX2_sign 125 = .ok (.iconst 5, 1) := by decide +kernel
theorem dX2_sign_126 : decode cX2_sign 126 = .ok (.if_icmp .ne 16, 3) := by decide +kernel
theorem dX2_sign_129 : decode cX2_sign 129 = .ok (.bipush 48, 2) := by decide +kernel
theorem dX2_sign_131 : decode cX2_sign 131 = .ok (.aload_n 0, 1) := by decide +kernel
theorem dX2_sign_132 : decode cX2_sign 132 = .ok (.getfield 7, 3) := by decide +kernel
theorem dX2_sign_135 : decode cX2_sign 135 = .ok (.iload_n 1, 1) := by decide +kernel
theorem dX2_sign_136 : decode cX2_sign 136 = .ok (.iaload, 1) := by decide +kernel
theorem dX2_sign_137 : decode cX2_sign 137 = .ok (.iadd, 1) := by decide +kernel
theorem dX2_sign_138 : decode cX2_sign 138 = .ok (.i2c, 1) := by decide +kernel
theorem dX2_sign_139 : decode cX2_sign 139 = .ok (.goto 5, 3) := by decide +kernel
theorem dX2_sign_142 : decode cX2_sign 142 = .ok (.bipush 64, 2) := by decide +kernel
theorem dX2_sign_144 : decode cX2_sign 144 = .ok (.ireturn, 1) := by decide +kernel
theorem dX2_sign_145 : decode cX2_sign 145 = .ok (.iload_n 2, 1) := by decide +kernel
theorem dX2_sign_146 : decode cX2_sign 146 = .ok (.bipush 7, 2) := by decide +kernel
theorem dX2_sign_148 : decode cX2_sign 148 = .ok (.iload_n 3, 1) := by decide +kernel
theorem dX2_sign_149 : decode cX2_sign 149 = .ok (.iadd, 1) := by decide +kernel
theorem dX2_sign_150 : decode cX2_sign 150 = .ok (.if_icmp .ge 37, 3) := by decide +kernel
theorem dX2_sign_153 : decode cX2_sign 153 = .ok (.bipush 48, 2) := by decide +kernel
theorem dX2_sign_155 : decode cX2_sign 155 = .ok (.iload_n 2, 1) := by decide +kernel
theorem dX2_sign_156 : decode cX2_sign 156 = .ok (.bipush 6, 2) := by decide +kernel
theorem dX2_sign_158 : decode cX2_sign 158 = .ok (.iload_n 3, 1) := by decide +kernel
theorem dX2_sign_159 : decode cX2_sign 159 = .ok (.iadd, 1) := by decide +kernel
theorem dX2_sign_160 : decode cX2_sign 160 = .ok (.if_icmp .ne 15, 3) := by decide +kernel
theorem dX2_sign_163 : decode cX2_sign 163 = .ok (.aload_n 0, 1) := by decide +kernel
theorem dX2_sign_164 : decode cX2_sign 164 = .ok (.getfield 13, 3) := by decide +kernel
theorem dX2_sign_167 : decode cX2_sign 167 = .ok (.iload_n 1, 1) := by decide +kernel
theorem dX2_sign_168 : decode cX2_sign 168 = .ok (.iaload, 1) := by decide +kernel
theorem dX2_sign_169 : decode cX2_sign 169 = .ok (.bipush 10, 2) := by decide +kernel
theorem dX2_sign_171 : decode cX2_sign 171 = .ok (.irem, 1) := by decide +kernel
theorem dX2_sign_172 : decode cX2_sign 172 = .ok (.goto 12, 3) := by decide +kernel
theorem dX2_sign_175 : decode cX2_sign 175 = .ok (.aload_n 0, 1) := by decide +kernel
theorem dX2_sign_176 : decode cX2_sign 176 = .ok (.getfield 13, 3) := by decide +kernel
theorem dX2_sign_179 : decode cX2_sign 179 = .ok (.iload_n 1, 1) := by decide +kernel
theorem dX2_sign_180 : decode cX2_sign 180 = .ok (.iaload, 1) := by decide +kernel
theorem dX2_sign_181 : decode cX2_sign 181 = .ok (.bipush 10, 2) := by decide +kernel
theorem dX2_sign_183 : decode cX2_sign 183 = .ok (.idiv, 1) := by decide +kernel
theorem dX2_sign_184 : decode cX2_sign 184 = .ok (.iadd, 1) := by decide +kernel
theorem dX2_sign_185 : decode cX2_sign 185 = .ok (.i2c, 1) := by decide +kernel
theorem dX2_sign_186 : decode cX2_sign 186 = .ok (.ireturn, 1) := by decide +kernel
theorem dX2_sign_187 : decode cX2_sign 187 = .ok (.iload_n 2, 1) := by decide +kernel
theorem dX2_sign_188 : decode cX2_sign 188 = .ok (.bipush 7, 2) := by decide +kernel
theorem dX2_sign_190 : decode cX2_sign 190 = .ok (.iload_n 3, 1) := by decide +kernel
theorem dX2_sign_191 : decode cX2_sign 191 = .ok (.iadd, 1) := by decide +kernel
theorem dX2_sign_192 : decode cX2_sign 192 = .ok (.if_icmp .ne 8, 3) := by decide +kernel
theorem dX2_sign_195 : decode cX2_sign 195 = .ok (.bipush 58, 2) := by decide +kernel
theorem dX2_sign_197 : decode cX2_sign 197 = .ok (.goto 8, 3) := by decide +kernel
theorem dX2_sign_200 : decode cX2_sign 200 = .ok (.bipush 48, 2) := by decide +kernel
theorem dX2_sign_202 : decode cX2_sign 202 = .ok (.iload_n 1, 1) := by decide +kernel
theorem dX2_sign_203 : decode cX2_sign 203 = .ok (.iadd, 1) := by decide +kernel
theorem dX2_sign_204 : decode cX2_sign 204 = .ok (.i2c, 1) := by decide +kernel
theorem dX2_sign_205 : decode cX2_sign 205 = .ok (.ireturn, 1) := by decide +kernel
theorem dX2_levels_0 : decode cX2_levels 0 = .ok (.iconst 0, 1) := by decide +kernel
theorem dX2_levels_1 : decode cX2_levels 1 = .ok (.istore_n 1, 1) := by decide +kernel
theorem dX2_levels_2 : decode cX2_levels 2 = .ok (.iload_n 1, 1) := by decide +kernel
theorem dX2_levels_3 : decode cX2_levels 3 = .ok (.aload_n 0, 1) := by decide +kernel
theorem dX2_levels_4 : decode cX2_levels 4 = .ok (.getfield 69, 3) := by decide +kernel
theorem dX2_levels_7 : decode cX2_levels 7 = .ok (.if_icmp .ge 141, 3) := by decide +kernel
theorem dX2_levels_10 : decode cX2_levels 10 = .ok (.aload_n 0, 1) := by decide +kernel
theorem dX2_levels_11 : decode cX2_levels 11 = .ok (.getfield 62, 3) := by decide +kernel
theorem dX2_levels_14 : decode cX2_levels 14 = .ok (.iload_n 1, 1) := by decide +kernel
theorem dX2_levels_15 : decode cX2_levels 15 = .ok (.aload_n 0, 1) := by decide +kernel
theorem dX2_levels_16 : decode cX2_levels 16 = .ok (.getfield 16, 3) := by decide +kernel
theorem dX2_levels_19 : decode cX2_levels 19 = .ok (.iload_n 1, 1) := by decide +kernel
theorem dX2_levels_20 : decode cX2_levels 20 = .ok (.iaload, 1) := by decide +kernel
theorem dX2_levels_21 : decode cX2_levels 21 = .ok (.aload_n 0, 1) := by decide +kernel
theorem dX2_levels_22 : decode cX2_levels 22 = .ok (.getfield 53, 3) := by decide +kernel
theorem dX2_levels_25 : decode cX2_levels 25 = .ok (.aload_n 0, 1) := by decide +kernel
theorem dX2_levels_26 : decode cX2_levels 26 = .ok (.getfield 7, 3) := by decide +kernel
theorem dX2_levels_29 : decode cX2_levels 29 = .ok (.iload_n 1, 1) := by decide +kernel
theorem dX2_levels_30 : decode cX2_levels 30 = .ok (.iaload, 1) := by decide +kernel
theorem dX2_levels_31 : decode cX2_levels 31 = .ok (.iaload, 1) := by decide +kernel
theorem dX2_levels_32 : decode cX2_levels 32 = .ok (.iadd, 1) := by decide +kernel
theorem dX2_levels_33 : decode cX2_levels 33 = .ok (.iastore, 1) := by decide +kernel
theorem dX2_levels_34 : decode cX2_levels 34 = .ok (.iconst 0, 1) := by decide +kernel
theorem dX2_levels_35 : decode cX2_levels 35 = .ok (.istore_n 2, 1) := by decide +kernel
theorem dX2_levels_36 : decode cX2_levels 36 = .ok (.iload_n 2, 1) := by decide +kernel
theorem dX2_levels_37 : decode cX2_levels 37 = .ok (.aload_n 0, 1) := by decide +kernel
theorem dX2_levels_38 : decode cX2_levels 38 = .ok (.getfield 91, 3) := by decide +kernel
theorem dX2_levels_41 : decode cX2_levels 41 = .ok (.if_icmp .ge 36, 3) := by decide +kernel
theorem dX2_levels_44 : decode cX2_levels 44 = .ok (.aload_n 0, 1) := by decide +kernel
theorem dX2_levels_45 : decode cX2_levels 45 = .ok (.getfield 62, 3) := by decide +kernel
theorem dX2_levels_48 : decode cX2_levels 48 = .ok (.iload_n 1, 1) := by decide +kernel
theorem dX2_levels_49 : decode cX2_levels 49 = .ok (.dup2, 1) := by decide +kernel
theorem dX2_levels_50 : decode cX2_levels 50 = .ok (.iaload, 1) := by decide +kernel
theorem dX2_levels_51 : decode cX2_levels 51 = .ok (.bipush 20, 2) := by decide +kernel
theorem dX2_levels_53 : decode cX2_levels 53 = .ok (.aload_n 0, 1) := by decide +kernel
theorem dX2_levels_54 : decode cX2_levels 54 = .ok (.iconst 0, 1) := by decide +kernel
theorem dX2_levels_55 : decode cX2_levels 55 = .ok (.aload_n 0, 1) := by decide +kernel
theorem dX2_levels_56 : decode cX2_levels 56 = .ok (.getfield 56, 3) := by decide +kernel
theorem dX2_levels_59 : decode cX2_levels 59 = .ok (.iload_n 2, 1) := by decide +kernel
theorem dX2_levels_60 : decode cX2_levels 60 = .ok (.iaload, 1) := by decide +kernel
theorem dX2_levels_61 : decode cX2_levels 61 = .ok (.iload_n 1, 1) := by decide +kernel
theorem dX2_levels_62 : decode cX2_levels 62 = .ok (.invokevirtual 87, 3) := by decide +kernel
theorem dX2_levels_65 : decode cX2_levels 65 = .ok (.imul, 1) := by decide +kernel
theorem dX2_levels_66 : decode cX2_levels 66 = .ok (.bipush 100, 2) := by decide +kernel
theorem dX2_levels_68 : decode cX2_levels 68 = .ok (.idiv, 1) := by decide +kernel
theorem dX2_levels_69 : decode cX2_levels 69 = .ok (.iadd, 1) := by decide +kernel
theorem dX2_levels_70 : decode cX2_levels 70 = .ok (.iastore, 1) := by decide +kernel
theorem dX2_levels_71 : decode cX2_levels 71 = .ok (.iinc 2 1, 3) := by decide +kernel
theorem dX2_levels_74 : decode cX2_levels 74 = .ok (.goto (-38), 3) := by decide +kernel
theorem dX2_levels_77 : decode cX2_levels 77 = .ok (.iconst 0, 1) := by decide +kernel
theorem dX2_levels_78 : decode cX2_levels 78 = .ok (.istore_n 2, 1) := by decide +kernel
theorem dX2_levels_79 : decode cX2_levels 79 = .ok (.iload_n 2, 1) := by decide +kernel
theorem dX2_levels_80 : decode cX2_levels 80 = .ok (.aload_n 0, 1) := by decide +kernel
theorem dX2_levels_81 : decode cX2_levels 81 = .ok (.getfield 69, 3) := by decide +kernel
theorem dX2_levels_84 : decode cX2_levels 84 = .ok (.if_icmp .ge 58, 3) := by decide +kernel
theorem dX2_levels_87 : decode cX2_levels 87 = .ok (.aload_n 0, 1) := by decide +kernel
theorem dX2_levels_88 : decode cX2_levels 88 = .ok (.getfield 62, 3) := by decide +kernel
theorem dX2_levels_91 : decode cX2_levels 91 = .ok (.iload_n 1, 1) := by decide +kernel
theorem dX2_levels_92 : decode cX2_levels 92 = .ok (.dup2, 1) := by decide +kernel
theorem dX2_levels_93 : decode cX2_levels 93 = .ok (.iaload, 1) := by decide +kernel
theorem dX2_levels_94 : decode cX2_levels 94 = .ok (.aload_n 0, 1) := by decide +kernel
theorem dX2_levels_95 : decode cX2_levels 95 = .ok (.getfield 59, 3) := by decide +kernel
theorem dX2_levels_98 : decode cX2_levels 98 = .ok (.iload_n 2, 1) := by decide +kernel
theorem dX2_levels_99 : decode cX2_levels 99 = .ok (.baload, 1) := by decide +kernel
theorem dX2_levels_100 : decode cX2_levels 100 = .ok (.ifCond .eq 7, 3) := by decide +kernel
theorem dX2_levels_103 : decode cX2_levels 103 = .ok (.iconst 0, 1) := by decide +kernel
theorem dX2_levels_104 : decode cX2_levels 104 = .ok (.goto 30, 3) := by decide +kernel
theorem dX2_levels_107 : decode cX2_levels 107 = .ok (.aload_n 0, 1) := by decide +kernel
theorem dX2_levels_108 : decode cX2_levels 108 = .ok (.getfield 28, 3) := by decide +kernel
theorem dX2_levels_111 : decode cX2_levels 111 = .ok (.iload_n 2, 1) := by decide +kernel
theorem dX2_levels_112 : decode cX2_levels 112 = .ok (.iaload, 1) := by decide +kernel
theorem dX2_levels_113 : decode cX2_levels 113 = .ok (.aload_n 0, 1) := by decide +kernel
theorem dX2_levels_114 : decode cX2_levels 114 = .ok (.aload_n 0, 1) := by decide +kernel
theorem dX2_levels_115 : decode cX2_levels 115 = .ok (.getfield 7, 3) := by decide +kernel
theorem dX2_levels_118 : decode cX2_levels 118 = .ok (.iload_n 2, 1) := by decide +kernel
theorem dX2_levels_119 : decode cX2_levels 119 = .ok (.iaload, 1) := by decide +kernel
theorem dX2_levels_120 : decode cX2_levels 120 = .ok (.aload_n 0, 1) := by decide +kernel
theorem dX2_levels_121 : decode cX2_levels 121 = .ok (.getfield 13, 3) := by decide +kernel
theorem dX2_levels_124 : decode cX2_levels 124 = .ok (.iload_n 2, 1) := by decide +kernel
theorem dX2_levels_125 : decode cX2_levels 125 = .ok (.iaload, 1) := by decide +kernel
theorem dX2_levels_126 : decode cX2_levels 126 = .ok (.iload_n 1, 1) := by decide +kernel
theorem dX2_levels_127 : decode cX2_levels 127 = .ok (.invokevirtual 87, 3) := by decide +kernel
theorem dX2_levels_130 : decode cX2_levels 130 = .ok (.imul, 1) := by decide +kernel
theorem dX2_levels_131 : decode cX2_levels 131 = .ok (.bipush 100, 2) := by decide +kernel
theorem dX2_levels_133 : decode cX2_levels 133 = .ok (.idiv, 1) := by decide +kernel
theorem dX2_levels_134 : decode cX2_levels 134 = .ok (.isub, 1) := by decide +kernel
theorem dX2_levels_135 : decode cX2_levels 135 = .ok (.iastore, 1) := by decide +kernel
theorem dX2_levels_136 : decode cX2_levels 136 = .ok (.iinc 2 1, 3) := by decide +kernel
theorem dX2_levels_139 : decode cX2_levels 139 = .ok (.goto (-60), 3) := by decide +kernel
theorem dX2_levels_142 : decode cX2_levels 142 = .ok (.iinc 1 1, 3) := by decide +kernel
theorem dX2_levels_145 : decode cX2_levels 145 = .ok (.goto (-143), 3) := by decide +kernel
theorem dX2_levels_148 : decode cX2_levels 148 = .ok (.return_, 1) := by decide +kernel
theorem dX2_isYounger_0 : decode cX2_isYounger 0 = .ok (.aload_n 0, 1) := by decide +kernel
theorem dX2_isYounger_1 : decode cX2_isYounger 1 = .ok (.getfield 22, 3) := by decide +kernel
theorem dX2_isYounger_4 : decode cX2_isYounger 4 = .ok (.iload_n 1, 1) := by decide +kernel
theorem dX2_isYounger_5 : decode cX2_isYounger 5 = .ok (.iaload, 1) := by decide +kernel
theorem dX2_isYounger_6 : decode cX2_isYounger 6 = .ok (.aload_n 0, 1) := by decide +kernel
theorem dX2_isYounger_7 : decode cX2_isYounger 7 = .ok (.getfield 22, 3) := by decide +kernel
theorem dX2_isYounger_10 : decode cX2_isYounger 10 = .ok (.iload_n 2, 1) := by decide +kernel
theorem dX2_isYounger_11 : decode cX2_isYounger 11 = .ok (.iaload, 1) := by decide +kernel
theorem dX2_isYounger_12 : decode cX2_isYounger 12 = .ok (.if_icmp .gt 23, 3) := by decide +kernel
theorem dX2_isYounger_15 : decode cX2_isYounger 15 = .ok (.aload_n 0, 1) := by decide +kernel
theorem dX2_isYounger_16 : decode cX2_isYounger 16 = .ok (.getfield 22, 3) := by decide +kernel
theorem dX2_isYounger_19 : decode cX2_isYounger 19 = .ok (.iload_n 1, 1) := by decide +kernel
theorem dX2_isYounger_20 : decode cX2_isYounger 20 = .ok (.iaload, 1) := by decide +kernel
theorem dX2_isYounger_21 : decode cX2_isYounger 21 = .ok (.aload_n 0, 1) := by decide +kernel
theorem dX2_isYounger_22 : decode cX2_isYounger 22 = .ok (.getfield 22, 3) := by decide +kernel
theorem dX2_isYounger_25 : decode cX2_isYounger 25 = .ok (.iload_n 2, 1) := by decide +kernel
theorem dX2_isYounger_26 : decode cX2_isYounger 26 = .ok (.iaload, 1) := by decide +kernel
theorem dX2_isYounger_27 : decode cX2_isYounger 27 = .ok (.if_icmp .ne 12, 3) := by decide +kernel
theorem dX2_isYounger_30 : decode cX2_isYounger 30 = .ok (.iload_n 1, 1) := by decide +kernel
theorem dX2_isYounger_31 : decode cX2_isYounger 31 = .ok (.iload_n 2, 1) := by decide +kernel
theorem dX2_isYounger_32 : decode cX2_isYounger 32 = .ok (.if_icmp .le 7, 3) := by decide +kernel
theorem dX2_isYounger_35 : decode cX2_isYounger 35 = .ok (.iconst 1, 1) := by decide +kernel
theorem dX2_isYounger_36 : decode cX2_isYounger 36 = .ok (.goto 4, 3) := by decide +kernel
theorem dX2_isYounger_39 : decode cX2_isYounger 39 = .ok (.iconst 0, 1) := by decide +kernel
theorem dX2_isYounger_40 : decode cX2_isYounger 40 = .ok (.ireturn, 1) := by decide +kernel
theorem dX2_youngest_0 : decode cX2_youngest 0 = .ok (.iconst (-1), 1) := by decide +kernel
theorem dX2_youngest_1 : decode cX2_youngest 1 = .ok (.istore_n 2, 1) := by decide +kernel
theorem dX2_youngest_2 : decode cX2_youngest 2 = .ok (.iconst 0, 1) := by decide +kernel
theorem dX2_youngest_3 : decode cX2_youngest 3 = .ok (.istore_n 3, 1) := by decide +kernel
theorem dX2_youngest_4 : decode cX2_youngest 4 = .ok (.iload_n 3, 1) := by decide +kernel
theorem dX2_youngest_5 : decode cX2_youngest 5 = .ok (.aload_n 0, 1) := by decide +kernel
theorem dX2_youngest_6 : decode cX2_youngest 6 = .ok (.getfield 69, 3) := by decide +kernel
theorem dX2_youngest_9 : decode cX2_youngest 9 = .ok (.if_icmp .ge 88, 3) := by decide +kernel
theorem dX2_youngest_12 : decode cX2_youngest 12 = .ok (.aload_n 0, 1) := by decide +kernel
theorem dX2_youngest_13 : decode cX2_youngest 13 = .ok (.iload_n 3, 1) := by decide +kernel
theorem dX2_youngest_14 : decode cX2_youngest 14 = .ok (.iload_n 1, 1) := by decide +kernel
theorem dX2_youngest_15 : decode cX2_youngest 15 = .ok (.invokevirtual 94, 3) := by decide +kernel
theorem dX2_youngest_18 : decode cX2_youngest 18 = .ok (.ifCond .eq 45, 3) := by decide +kernel
theorem dX2_youngest_21 : decode cX2_youngest 21 = .ok (.aload_n 0, 1) := by decide +kernel
theorem dX2_youngest_22 : decode cX2_youngest 22 = .ok (.getfield 59, 3) := by decide +kernel
theorem dX2_youngest_25 : decode cX2_youngest 25 = .ok (.iload_n 3, 1) := by decide +kernel
theorem dX2_youngest_26 : decode cX2_youngest 26 = .ok (.baload, 1) := by decide +kernel
theorem dX2_youngest_27 : decode cX2_youngest 27 = .ok (.ifCond .ne 36, 3) := by decide +kernel
theorem dX2_youngest_30 : decode cX2_youngest 30 = .ok (.aload_n 0, 1) := by decide +kernel
theorem dX2_youngest_31 : decode cX2_youngest 31 = .ok (.getfield 28, 3) := by decide +kernel
theorem dX2_youngest_34 : decode cX2_youngest 34 = .ok (.iload_n 3, 1) := by decide +kernel
theorem dX2_youngest_35 : decode cX2_youngest 35 = .ok (.iaload, 1) := by decide +kernel
theorem dX2_youngest_36 : decode cX2_youngest 36 = .ok (.ifCond .le 27, 3) := by decide +kernel
theorem dX2_youngest_39 : decode cX2_youngest 39 = .ok (.aload_n 0, 1) := by decide +kernel
theorem dX2_youngest_40 : decode cX2_youngest 40 = .ok (.aload_n 0, 1) := by decide +kernel
theorem dX2_youngest_41 : decode cX2_youngest 41 = .ok (.getfield 7, 3) := by decide +kernel
theorem dX2_youngest_44 : decode cX2_youngest 44 = .ok (.iload_n 3, 1) := by decide +kernel
theorem dX2_youngest_45 : decode cX2_youngest 45 = .ok (.iaload, 1) := by decide +kernel
theorem dX2_youngest_46 : decode cX2_youngest 46 = .ok (.aload_n 0, 1) := by decide +kernel
theorem dX2_youngest_47 : decode cX2_youngest 47 = .ok (.getfield 13, 3) := by decide +kernel
theorem dX2_youngest_50 : decode cX2_youngest 50 = .ok (.iload_n 3, 1) := by decide +kernel
theorem dX2_youngest_51 : decode cX2_youngest 51 = .ok (.iaload, 1) := by decide +kernel
theorem dX2_youngest_52 : decode cX2_youngest 52 = .ok (.iload_n 1, 1) := by decide +kernel
theorem dX2_youngest_53 : decode cX2_youngest 53 = .ok (.invokevirtual 87, 3) := by decide +kernel
theorem dX2_youngest_56 : decode cX2_youngest 56 = .ok (.ifCond .le 7, 3) := by decide +kernel
theorem dX2_youngest_59 : decode cX2_youngest 59 = .ok (.iconst 1, 1) := by decide +kernel
theorem dX2_youngest_60 : decode cX2_youngest 60 = .ok (.goto 4, 3) := by decide +kernel
theorem dX2_youngest_63 : decode cX2_youngest 63 = .ok (.iconst 0, 1) := by decide +kernel
theorem dX2_youngest_64 : decode cX2_youngest 64 = .ok (.istore 4, 2) := by decide +kernel
theorem dX2_youngest_66 : decode cX2_youngest 66 = .ok (.iload 4, 2) := by decide +kernel
theorem dX2_youngest_68 : decode cX2_youngest 68 = .ok (.ifCond .eq 21, 3) := by decide +kernel
theorem dX2_youngest_71 : decode cX2_youngest 71 = .ok (.iload_n 2, 1) := by decide +kernel
theorem dX2_youngest_72 : decode cX2_youngest 72 = .ok (.iconst (-1), 1) := by decide +kernel
theorem dX2_youngest_73 : decode cX2_youngest 73 = .ok (.if_icmp .eq 12, 3) := by decide +kernel
theorem dX2_youngest_76 : decode cX2_youngest 76 = .ok (.aload_n 0, 1) := by decide +kernel
theorem dX2_youngest_77 : decode cX2_youngest 77 = .ok (.iload_n 3, 1) := by decide +kernel
theorem dX2_youngest_78 : decode cX2_youngest 78 = .ok (.iload_n 2, 1) := by decide +kernel
theorem dX2_youngest_79 : decode cX2_youngest 79 = .ok (.invokevirtual 94, 3) := by decide +kernel
theorem dX2_youngest_82 : decode cX2_youngest 82 = .ok (.ifCond .eq 7, 3) := by decide +kernel
theorem dX2_youngest_85 : decode cX2_youngest 85 = .ok (.iload_n 3, 1) := by decide +kernel
theorem dX2_youngest_86 : decode cX2_youngest 86 = .ok (.goto 4, 3) := by decide +kernel
theorem dX2_youngest_89 : decode cX2_youngest 89 = .ok (.iload_n 2, 1) := by decide +kernel
theorem dX2_youngest_90 : decode cX2_youngest 90 = .ok (.istore_n 2, 1) := by decide +kernel
theorem dX2_youngest_91 : decode cX2_youngest 91 = .ok (.iinc 3 1, 3) := by decide +kernel
theorem dX2_youngest_94 : decode cX2_youngest 94 = .ok (.goto (-90), 3) := by decide +kernel
theorem dX2_youngest_97 : decode cX2_youngest 97 = .ok (.iload_n 2, 1) := by decide +kernel
theorem dX2_youngest_98 : decode cX2_youngest 98 = .ok (.ireturn, 1) := by decide +kernel
theorem dX2_stops_0 : decode cX2_stops 0 = .ok (.iconst 0, 1) := by decide +kernel
theorem dX2_stops_1 : decode cX2_stops 1 = .ok (.istore_n 1, 1) := by decide +kernel
theorem dX2_stops_2 : decode cX2_stops 2 = .ok (.iload_n 1, 1) := by decide +kernel
theorem dX2_stops_3 : decode cX2_stops 3 = .ok (.bipush 8, 2) := by decide +kernel
theorem dX2_stops_5 : decode cX2_stops 5 = .ok (.if_icmp .ge 16, 3) := by decide +kernel
theorem dX2_stops_8 : decode cX2_stops 8 = .ok (.aload_n 0, 1) := by decide +kernel
theorem dX2_stops_9 : decode cX2_stops 9 = .ok (.getfield 59, 3) := by decide +kernel
theorem dX2_stops_12 : decode cX2_stops 12 = .ok (.iload_n 1, 1) := by decide +kernel
theorem dX2_stops_13 : decode cX2_stops 13 = .ok (.iconst 0, 1) := by decide +kernel
theorem dX2_stops_14 : decode cX2_stops 14 = .ok (.bastore, 1) := by decide +kernel
theorem dX2_stops_15 : decode cX2_stops 15 = .ok (.iinc 1 1, 3) := by decide +kernel
theorem dX2_stops_18 : decode cX2_stops 18 = .ok (.goto (-16), 3) := by decide +kernel
theorem dX2_stops_21 : decode cX2_stops 21 = .ok (.iconst 0, 1) := by decide +kernel
theorem dX2_stops_22 : decode cX2_stops 22 = .ok (.istore_n 1, 1) := by decide +kernel
theorem dX2_stops_23 : decode cX2_stops 23 = .ok (.iconst 1, 1) := by decide +kernel
theorem dX2_stops_24 : decode cX2_stops 24 = .ok (.istore_n 2, 1) := by decide +kernel
theorem dX2_stops_25 : decode cX2_stops 25 = .ok (.iload_n 2, 1) := by decide +kernel
theorem dX2_stops_26 : decode cX2_stops 26 = .ok (.ifCond .eq 120, 3) := by decide +kernel
theorem dX2_stops_29 : decode cX2_stops 29 = .ok (.aload_n 0, 1) := by decide +kernel
theorem dX2_stops_30 : decode cX2_stops 30 = .ok (.invokevirtual 98, 3) := by decide +kernel
theorem dX2_stops_33 : decode cX2_stops 33 = .ok (.iconst (-1), 1) := by decide +kernel
theorem dX2_stops_34 : decode cX2_stops 34 = .ok (.istore_n 3, 1) := by decide +kernel
theorem dX2_stops_35 : decode cX2_stops 35 = .ok (.iconst 0, 1) := by decide +kernel
theorem dX2_stops_36 : decode cX2_stops 36 = .ok (.istore 4, 2) := by decide +kernel
theorem dX2_stops_38 : decode cX2_stops 38 = .ok (.iload 4, 2) := by decide +kernel
theorem dX2_stops_40 : decode cX2_stops 40 = .ok (.aload_n 0, 1) := by decide +kernel
theorem dX2_stops_41 : decode cX2_stops 41 = .ok (.getfield 69, 3) := by decide +kernel
theorem dX2_stops_44 : decode cX2_stops 44 = .ok (.if_icmp .ge 70, 3) := by decide +kernel
theorem dX2_stops_47 : decode cX2_stops 47 = .ok (.aload_n 0, 1) := by decide +kernel
theorem dX2_stops_48 : decode cX2_stops 48 = .ok (.getfield 62, 3) := by decide +kernel
theorem dX2_stops_51 : decode cX2_stops 51 = .ok (.iload 4, 2) := by decide +kernel
theorem dX2_stops_53 : decode cX2_stops 53 = .ok (.iaload, 1) := by decide +kernel
theorem dX2_stops_54 : decode cX2_stops 54 = .ok (.aload_n 0, 1) := by decide +kernel
theorem dX2_stops_55 : decode cX2_stops 55 = .ok (.getfield 19, 3) := by decide +kernel
theorem dX2_stops_58 : decode cX2_stops 58 = .ok (.iload 4, 2) := by decide +kernel
theorem dX2_stops_60 : decode cX2_stops 60 = .ok (.iaload, 1) := by decide +kernel
theorem dX2_stops_61 : decode cX2_stops 61 = .ok (.if_icmp .ge 17, 3) := by decide +kernel
theorem dX2_stops_64 : decode cX2_stops 64 = .ok (.aload_n 0, 1) := by decide +kernel
theorem dX2_stops_65 : decode cX2_stops 65 = .ok (.iload 4, 2) := by decide +kernel
theorem dX2_stops_67 : decode cX2_stops 67 = .ok (.invokevirtual 101, 3) := by decide +kernel
theorem dX2_stops_70 : decode cX2_stops 70 = .ok (.iconst (-1), 1) := by decide +kernel
theorem dX2_stops_71 : decode cX2_stops 71 = .ok (.if_icmp .eq 7, 3) := by decide +kernel
theorem dX2_stops_74 : decode cX2_stops 74 = .ok (.iconst 1, 1) := by decide +kernel
theorem dX2_stops_75 : decode cX2_stops 75 = .ok (.goto 4, 3) := by decide +kernel
theorem dX2_stops_78 : decode cX2_stops 78 = .ok (.iconst 0, 1) := by decide +kernel
theorem dX2_stops_79 : decode cX2_stops 79 = .ok (.istore 5, 2) := by decide +kernel
theorem dX2_stops_81 : decode cX2_stops 81 = .ok (.iload 5, 2) := by decide +kernel
theorem dX2_stops_83 : decode cX2_stops 83 = .ok (.ifCond .eq 23, 3) := by decide +kernel
theorem dX2_stops_86 : decode cX2_stops 86 = .ok (.iload_n 3, 1) := by decide +kernel
theorem dX2_stops_87 : decode cX2_stops 87 = .ok (.iconst (-1), 1) := by decide +kernel
theorem dX2_stops_88 : decode cX2_stops 88 = .ok (.if_icmp .eq 13, 3) := by decide +kernel
theorem dX2_stops_91 : decode cX2_stops 91 = .ok (.aload_n 0, 1) := by decide +kernel
theorem dX2_stops_92 : decode cX2_stops 92 = .ok (.iload_n 3, 1) := by decide +kernel
theorem dX2_stops_93 : decode cX2_stops 93 = .ok (.iload 4, 2) := by decide +kernel
theorem dX2_stops_95 : decode cX2_stops 95 = .ok (.invokevirtual 94, 3) := by decide +kernel
theorem dX2_stops_98 : decode cX2_stops 98 = .ok (.ifCond .eq 8, 3) := by decide +kernel
theorem dX2_stops_101 : decode cX2_stops 101 = .ok (.iload 4, 2) := by decide +kernel
theorem dX2_stops_103 : decode cX2_stops 103 = .ok (.goto 4, 3) := by decide +kernel
theorem dX2_stops_106 : decode cX2_stops 106 = .ok (.iload_n 3, 1) := by decide +kernel
theorem dX2_stops_107 : decode cX2_stops 107 = .ok (.istore_n 3, 1) := by decide +kernel
theorem dX2_stops_108 : decode cX2_stops 108 = .ok (.iinc 4 1, 3) := by decide +kernel
theorem dX2_stops_111 : decode cX2_stops 111 = .ok (.goto (-73), 3) := by decide +kernel
theorem dX2_stops_114 : decode cX2_stops 114 = .ok (.iload_n 3, 1) := by decide +kernel
theorem dX2_stops_115 : decode cX2_stops 115 = .ok (.iconst (-1), 1) := by decide +kernel
theorem dX2_stops_116 : decode cX2_stops 116 = .ok (.if_icmp .eq 7, 3) := by decide +kernel
theorem dX2_stops_119 : decode cX2_stops 119 = .ok (.iconst 1, 1) := by decide +kernel
theorem dX2_stops_120 : decode cX2_stops 120 = .ok (.goto 4, 3) := by decide +kernel
theorem dX2_stops_123 : decode cX2_stops 123 = .ok (.iconst 0, 1) := by decide +kernel
theorem dX2_stops_124 : decode cX2_stops 124 = .ok (.istore_n 2, 1) := by decide +kernel
theorem dX2_stops_125 : decode cX2_stops 125 = .ok (.iload_n 2, 1) := by decide +kernel
theorem dX2_stops_126 : decode cX2_stops 126 = .ok (.ifCond .eq 17, 3) := by decide +kernel
theorem dX2_stops_129 : decode cX2_stops 129 = .ok (.aload_n 0, 1) := by decide +kernel
theorem dX2_stops_130 : decode cX2_stops 130 = .ok (.getfield 59, 3) := by decide +kernel
theorem dX2_stops_133 : decode cX2_stops 133 = .ok (.aload_n 0, 1) := by decide +kernel
theorem dX2_stops_134 : decode cX2_stops 134 = .ok (.iload_n 3, 1) := by decide +kernel
theorem dX2_stops_135 : decode cX2_stops 135 = .ok (.invokevirtual 101, 3) := by decide +kernel
theorem dX2_stops_138 : decode cX2_stops 138 = .ok (.iconst 1, 1) := by decide +kernel
theorem dX2_stops_139 : decode cX2_stops 139 = .ok (.bastore, 1) := by decide +kernel
theorem dX2_stops_140 : decode cX2_stops 140 = .ok (.iinc 1 1, 3) := by decide +kernel
theorem dX2_stops_143 : decode cX2_stops 143 = .ok (.goto (-118), 3) := by decide +kernel
theorem dX2_stops_146 : decode cX2_stops 146 = .ok (.iload_n 1, 1) := by decide +kernel
theorem dX2_stops_147 : decode cX2_stops 147 = .ok (.ireturn, 1) := by decide +kernel
theorem dX2_mean_0 : decode cX2_mean 0 = .ok (.iconst 0, 1) := by decide +kernel
theorem dX2_mean_1 : decode cX2_mean 1 = .ok (.istore_n 2, 1) := by decide +kernel
theorem dX2_mean_2 : decode cX2_mean 2 = .ok (.iconst 0, 1) := by decide +kernel
theorem dX2_mean_3 : decode cX2_mean 3 = .ok (.istore_n 3, 1) := by decide +kernel
theorem dX2_mean_4 : decode cX2_mean 4 = .ok (.iconst 0, 1) := by decide +kernel
theorem dX2_mean_5 : decode cX2_mean 5 = .ok (.istore 4, 2) := by decide +kernel
theorem dX2_mean_7 : decode cX2_mean 7 = .ok (.iload 4, 2) := by decide +kernel
theorem dX2_mean_9 : decode cX2_mean 9 = .ok (.aload_n 0, 1) := by decide +kernel
theorem dX2_mean_10 : decode cX2_mean 10 = .ok (.getfield 69, 3) := by decide +kernel
theorem dX2_mean_13 : decode cX2_mean 13 = .ok (.if_icmp .ge 73, 3) := by decide +kernel
theorem dX2_mean_16 : decode cX2_mean 16 = .ok (.iload_n 2, 1) := by decide +kernel
theorem dX2_mean_17 : decode cX2_mean 17 = .ok (.aload_n 0, 1) := by decide +kernel
theorem dX2_mean_18 : decode cX2_mean 18 = .ok (.getfield 7, 3) := by decide +kernel
theorem dX2_mean_21 : decode cX2_mean 21 = .ok (.iload 4, 2) := by decide +kernel
theorem dX2_mean_23 : decode cX2_mean 23 = .ok (.iaload, 1) := by decide +kernel
theorem dX2_mean_24 : decode cX2_mean 24 = .ok (.iload_n 1, 1) := by decide +kernel
theorem dX2_mean_25 : decode cX2_mean 25 = .ok (.if_icmp .ne 23, 3) := by decide +kernel
theorem dX2_mean_28 : decode cX2_mean 28 = .ok (.aload_n 0, 1) := by decide +kernel
theorem dX2_mean_29 : decode cX2_mean 29 = .ok (.getfield 31, 3) := by decide +kernel
theorem dX2_mean_32 : decode cX2_mean 32 = .ok (.iload 4, 2) := by decide +kernel
theorem dX2_mean_34 : decode cX2_mean 34 = .ok (.baload, 1) := by decide +kernel
theorem dX2_mean_35 : decode cX2_mean 35 = .ok (.ifCond .ne 13, 3) := by decide +kernel
theorem dX2_mean_38 : decode cX2_mean 38 = .ok (.aload_n 0, 1) := by decide +kernel
theorem dX2_mean_39 : decode cX2_mean 39 = .ok (.getfield 44, 3) := by decide +kernel
theorem dX2_mean_42 : decode cX2_mean 42 = .ok (.iload 4, 2) := by decide +kernel
theorem dX2_mean_44 : decode cX2_mean 44 = .ok (.iaload, 1) := by decide +kernel
theorem dX2_mean_45 : decode cX2_mean 45 = .ok (.goto 4, 3) := by decide +kernel
theorem dX2_mean_48 : decode cX2_mean 48 = .ok (.iconst 0, 1) := by decide +kernel
theorem dX2_mean_49 : decode cX2_mean 49 = .ok (.iadd, 1) := by decide +kernel
theorem dX2_mean_50 : decode cX2_mean 50 = .ok (.istore_n 2, 1) := by decide +kernel
theorem dX2_mean_51 : decode cX2_mean 51 = .ok (.iload_n 3, 1) := by decide +kernel
theorem dX2_mean_52 : decode cX2_mean 52 = .ok (.aload_n 0, 1) := by decide +kernel
theorem dX2_mean_53 : decode cX2_mean 53 = .ok (.getfield 7, 3) := by decide +kernel
theorem dX2_mean_56 : decode cX2_mean 56 = .ok (.iload 4, 2) := by decide +kernel
theorem dX2_mean_58 : decode cX2_mean 58 = .ok (.iaload, 1) := by decide +kernel
theorem dX2_mean_59 : decode cX2_mean 59 = .ok (.iload_n 1, 1) := by decide +kernel
theorem dX2_mean_60 : decode cX2_mean 60 = .ok (.if_icmp .ne 17, 3) := by decide +kernel
theorem dX2_mean_63 : decode cX2_mean 63 = .ok (.aload_n 0, 1) := by decide +kernel
theorem dX2_mean_64 : decode cX2_mean 64 = .ok (.getfield 31, 3) := by decide +kernel
theorem dX2_mean_67 : decode cX2_mean 67 = .ok (.iload 4, 2) := by decide +kernel
theorem dX2_mean_69 : decode cX2_mean 69 = .ok (.baload, 1) := by decide +kernel
theorem dX2_mean_70 : decode cX2_mean 70 = .ok (.ifCond .ne 7, 3) := by decide +kernel
theorem dX2_mean_73 : decode cX2_mean 73 = .ok (.iconst 1, 1) := by decide +kernel
theorem dX2_mean_74 : decode cX2_mean 74 = .ok (.goto 4, 3) := by decide +kernel
theorem dX2_mean_77 : decode cX2_mean 77 = .ok (.iconst 0, 1) := by decide +kernel
theorem dX2_mean_78 : decode cX2_mean 78 = .ok (.iadd, 1) := by decide +kernel
theorem dX2_mean_79 : decode cX2_mean 79 = .ok (.istore_n 3, 1) := by decide +kernel
theorem dX2_mean_80 : decode cX2_mean 80 = .ok (.iinc 4 1, 3) := by decide +kernel
theorem dX2_mean_83 : decode cX2_mean 83 = .ok (.goto (-76), 3) := by decide +kernel
theorem dX2_mean_86 : decode cX2_mean 86 = .ok (.iload_n 3, 1) := by decide +kernel
theorem dX2_mean_87 : decode cX2_mean 87 = .ok (.ifCond .ne 7, 3) := by decide +kernel
theorem dX2_mean_90 : decode cX2_mean 90 = .ok (.iconst 0, 1) := by decide +kernel
theorem dX2_mean_91 : decode cX2_mean 91 = .ok (.goto 6, 3) := by decide +kernel
theorem dX2_mean_94 : decode cX2_mean 94 = .ok (.iload_n 2, 1) := by decide +kernel
theorem dX2_mean_95 : decode cX2_mean 95 = .ok (.iload_n 3, 1) := by decide +kernel
theorem dX2_mean_96 : decode cX2_mean 96 = .ok (.idiv, 1) := by decide +kernel
theorem dX2_mean_97 : decode cX2_mean 97 = .ok (.ireturn, 1) := by decide +kernel
theorem dX2_pays_0 : decode cX2_pays 0 = .ok (.aload_n 0, 1) := by decide +kernel
theorem dX2_pays_1 : decode cX2_pays 1 = .ok (.getfield 47, 3) := by decide +kernel
theorem dX2_pays_4 : decode cX2_pays 4 = .ok (.iload_n 1, 1) := by decide +kernel
theorem dX2_pays_5 : decode cX2_pays 5 = .ok (.iaload, 1) := by decide +kernel
theorem dX2_pays_6 : decode cX2_pays 6 = .ok (.aload_n 0, 1) := by decide +kernel
theorem dX2_pays_7 : decode cX2_pays 7 = .ok (.getfield 25, 3) := by decide +kernel
theorem dX2_pays_10 : decode cX2_pays 10 = .ok (.iload_n 1, 1) := by decide +kernel
theorem dX2_pays_11 : decode cX2_pays 11 = .ok (.iaload, 1) := by decide +kernel
theorem dX2_pays_12 : decode cX2_pays 12 = .ok (.isub, 1) := by decide +kernel
theorem dX2_pays_13 : decode cX2_pays 13 = .ok (.istore_n 2, 1) := by decide +kernel
theorem dX2_pays_14 : decode cX2_pays 14 = .ok (.iload_n 2, 1) := by decide +kernel
theorem dX2_pays_15 : decode cX2_pays 15 = .ok (.ifCond .le 65, 3) := by decide +kernel
theorem dX2_pays_18 : decode cX2_pays 18 = .ok (.iload_n 2, 1) := by decide +kernel
theorem dX2_pays_19 : decode cX2_pays 19 = .ok (.aload_n 0, 1) := by decide +kernel
theorem dX2_pays_20 : decode cX2_pays 20 = .ok (.getfield 38, 3) := by decide +kernel
theorem dX2_pays_23 : decode cX2_pays 23 = .ok (.iload_n 1, 1) := by decide +kernel
theorem dX2_pays_24 : decode cX2_pays 24 = .ok (.iaload, 1) := by decide +kernel
theorem dX2_pays_25 : decode cX2_pays 25 = .ok (.if_icmp .ge 7, 3) := by decide +kernel
theorem dX2_pays_28 : decode cX2_pays 28 = .ok (.iload_n 2, 1) := by decide +kernel
theorem dX2_pays_29 : decode cX2_pays 29 = .ok (.goto 9, 3) := by decide +kernel
theorem dX2_pays_32 : decode cX2_pays 32 = .ok (.aload_n 0, 1) := by decide +kernel
theorem dX2_pays_33 : decode cX2_pays 33 = .ok (.getfield 38, 3) := by decide +kernel
theorem dX2_pays_36 : decode cX2_pays 36 = .ok (.iload_n 1, 1) := by decide +kernel
theorem dX2_pays_37 : decode cX2_pays 37 = .ok (.iaload, 1) := by decide +kernel
theorem dX2_pays_38 : decode cX2_pays 38 = .ok (.istore_n 3, 1) := by decide +kernel
theorem dX2_pays_39 : decode cX2_pays 39 = .ok (.aload_n 0, 1) := by decide +kernel
theorem dX2_pays_40 : decode cX2_pays 40 = .ok (.getfield 38, 3) := by decide +kernel
theorem dX2_pays_43 : decode cX2_pays 43 = .ok (.iload_n 1, 1) := by decide +kernel
theorem dX2_pays_44 : decode cX2_pays 44 = .ok (.dup2, 1) := by decide +kernel
theorem dX2_pays_45 : decode cX2_pays 45 = .ok (.iaload, 1) := by decide +kernel
theorem dX2_pays_46 : decode cX2_pays 46 = .ok (.iload_n 3, 1) := by decide +kernel
theorem dX2_pays_47 : decode cX2_pays 47 = .ok (.isub, 1) := by decide +kernel
theorem dX2_pays_48 : decode cX2_pays 48 = .ok (.iastore, 1) := by decide +kernel
theorem dX2_pays_49 : decode cX2_pays 49 = .ok (.aload_n 0, 1) := by decide +kernel
theorem dX2_pays_50 : decode cX2_pays 50 = .ok (.getfield 41, 3) := by decide +kernel
theorem dX2_pays_53 : decode cX2_pays 53 = .ok (.iload_n 1, 1) := by decide +kernel
theorem dX2_pays_54 : decode cX2_pays 54 = .ok (.dup2, 1) := by decide +kernel
theorem dX2_pays_55 : decode cX2_pays 55 = .ok (.iaload, 1) := by decide +kernel
theorem dX2_pays_56 : decode cX2_pays 56 = .ok (.iconst 2, 1) := by decide +kernel
theorem dX2_pays_57 : decode cX2_pays 57 = .ok (.iload_n 2, 1) := by decide +kernel
theorem dX2_pays_58 : decode cX2_pays 58 = .ok (.iload_n 3, 1) := by decide +kernel
theorem dX2_pays_59 : decode cX2_pays 59 = .ok (.isub, 1) := by decide +kernel
theorem dX2_pays_60 : decode cX2_pays 60 = .ok (.imul, 1) := by decide +kernel
theorem dX2_pays_61 : decode cX2_pays 61 = .ok (.iadd, 1) := by decide +kernel
theorem dX2_pays_62 : decode cX2_pays 62 = .ok (.iastore, 1) := by decide +kernel
theorem dX2_pays_63 : decode cX2_pays 63 = .ok (.aload_n 0, 1) := by decide +kernel
theorem dX2_pays_64 : decode cX2_pays 64 = .ok (.dup, 1) := by decide +kernel
theorem dX2_pays_65 : decode cX2_pays 65 = .ok (.getfield 104, 3) := by decide +kernel
theorem dX2_pays_68 : decode cX2_pays 68 = .ok (.iconst 2, 1) := by decide +kernel
theorem dX2_pays_69 : decode cX2_pays 69 = .ok (.iload_n 2, 1) := by decide +kernel
theorem dX2_pays_70 : decode cX2_pays 70 = .ok (.iload_n 3, 1) := by decide +kernel
theorem dX2_pays_71 : decode cX2_pays 71 = .ok (.isub, 1) := by decide +kernel
theorem dX2_pays_72 : decode cX2_pays 72 = .ok (.imul, 1) := by decide +kernel
theorem dX2_pays_73 : decode cX2_pays 73 = .ok (.iadd, 1) := by decide +kernel
theorem dX2_pays_74 : decode cX2_pays 74 = .ok (.putfield 104, 3) := by decide +kernel
theorem dX2_pays_77 : decode cX2_pays 77 = .ok (.goto 27, 3) := by decide +kernel
theorem dX2_pays_80 : decode cX2_pays 80 = .ok (.aload_n 0, 1) := by decide +kernel
theorem dX2_pays_81 : decode cX2_pays 81 = .ok (.getfield 38, 3) := by decide +kernel
theorem dX2_pays_84 : decode cX2_pays 84 = .ok (.iload_n 1, 1) := by decide +kernel
theorem dX2_pays_85 : decode cX2_pays 85 = .ok (.dup2, 1) := by decide +kernel
theorem dX2_pays_86 : decode cX2_pays 86 = .ok (.iaload, 1) := by decide +kernel
theorem dX2_pays_87 : decode cX2_pays 87 = .ok (.aload_n 0, 1) := by decide +kernel
theorem dX2_pays_88 : decode cX2_pays 88 = .ok (.getfield 59, 3) := by decide +kernel
theorem dX2_pays_91 : decode cX2_pays 91 = .ok (.iload_n 1, 1) := by decide +kernel
theorem dX2_pays_92 : decode cX2_pays 92 = .ok (.baload, 1) := by decide +kernel
theorem dX2_pays_93 : decode cX2_pays 93 = .ok (.ifCond .eq 7, 3) := by decide +kernel
theorem dX2_pays_96 : decode cX2_pays 96 = .ok (.iconst 0, 1) := by decide +kernel
theorem dX2_pays_97 : decode cX2_pays 97 = .ok (.goto 5, 3) := by decide +kernel
theorem dX2_pays_100 : decode cX2_pays 100 = .ok (.iload_n 2, 1) := by decide +kernel
theorem dX2_pays_101 : decode cX2_pays 101 = .ok (.ineg, 1) := by decide +kernel
theorem dX2_pays_102 : decode cX2_pays 102 = .ok (.iadd, 1) := by decide +kernel
theorem dX2_pays_103 : decode cX2_pays 103 = .ok (.iastore, 1) := by decide +kernel
theorem dX2_pays_104 : decode cX2_pays 104 = .ok (.return_, 1) := by decide +kernel
theorem dX2_year_0 : decode cX2_year 0 = .ok (.aload_n 0, 1) := by decide +kernel
theorem dX2_year_1 : decode cX2_year 1 = .ok (.iconst 0, 1) := by decide +kernel
theorem dX2_year_2 : decode cX2_year 2 = .ok (.putfield 65, 3) := by decide +kernel
theorem dX2_year_5 : decode cX2_year 5 = .ok (.aload_n 0, 1) := by decide +kernel
theorem dX2_year_6 : decode cX2_year 6 = .ok (.getfield 107, 3) := by decide +kernel
theorem dX2_year_9 : decode cX2_year 9 = .ok (.bipush 60, 2) := by decide +kernel
theorem dX2_year_11 : decode cX2_year 11 = .ok (.if_icmp .ne 9, 3) := by decide +kernel
theorem dX2_year_14 : decode cX2_year 14 = .ok (.aload_n 0, 1) := by decide +kernel
theorem dX2_year_15 : decode cX2_year 15 = .ok (.iconst 1, 1) := by decide +kernel
theorem dX2_year_16 : decode cX2_year 16 = .ok (.invokevirtual 80, 3) := by decide +kernel
theorem dX2_year_19 : decode cX2_year 19 = .ok (.ireturn, 1) := by decide +kernel
theorem dX2_year_20 : decode cX2_year 20 = .ok (.aload_n 0, 1) := by decide +kernel
theorem dX2_year_21 : decode cX2_year 21 = .ok (.invokevirtual 110, 3) := by decide +kernel
theorem dX2_year_24 : decode cX2_year 24 = .ok (.istore_n 1, 1) := by decide +kernel
theorem dX2_year_25 : decode cX2_year 25 = .ok (.iconst 0, 1) := by decide +kernel
theorem dX2_year_26 : decode cX2_year 26 = .ok (.istore_n 2, 1) := by decide +kernel
theorem dX2_year_27 : decode cX2_year 27 = .ok (.iload_n 2, 1) := by decide +kernel
theorem dX2_year_28 : decode cX2_year 28 = .ok (.aload_n 0, 1) := by decide +kernel
theorem dX2_year_29 : decode cX2_year 29 = .ok (.getfield 69, 3) := by decide +kernel
theorem dX2_year_32 : decode cX2_year 32 = .ok (.if_icmp .ge 67, 3) := by decide +kernel
theorem dX2_year_35 : decode cX2_year 35 = .ok (.aload_n 0, 1) := by decide +kernel
theorem dX2_year_36 : decode cX2_year 36 = .ok (.getfield 38, 3) := by decide +kernel
theorem dX2_year_39 : decode cX2_year 39 = .ok (.iload_n 2, 1) := by decide +kernel
theorem dX2_year_40 : decode cX2_year 40 = .ok (.dup2, 1) := by decide +kernel
theorem dX2_year_41 : decode cX2_year 41 = .ok (.iaload, 1) := by decide +kernel
theorem dX2_year_42 : decode cX2_year 42 = .ok (.aload_n 0, 1) := by decide +kernel
theorem dX2_year_43 : decode cX2_year 43 = .ok (.getfield 38, 3) := by decide +kernel
theorem dX2_year_46 : decode cX2_year 46 = .ok (.iload_n 2, 1) := by decide +kernel
theorem dX2_year_47 : decode cX2_year 47 = .ok (.iaload, 1) := by decide +kernel
theorem dX2_year_48 : decode cX2_year 48 = .ok (.bipush 9, 2) := by decide +kernel
theorem dX2_year_50 : decode cX2_year 50 = .ok (.iadd, 1) := by decide +kernel
theorem dX2_year_51 : decode cX2_year 51 = .ok (.bipush 10, 2) := by decide +kernel
theorem dX2_year_53 : decode cX2_year 53 = .ok (.idiv, 1) := by decide +kernel
theorem dX2_year_54 : decode cX2_year 54 = .ok (.isub, 1) := by decide +kernel
theorem dX2_year_55 : decode cX2_year 55 = .ok (.iastore, 1) := by decide +kernel
theorem dX2_year_56 : decode cX2_year 56 = .ok (.aload_n 0, 1) := by decide +kernel
theorem dX2_year_57 : decode cX2_year 57 = .ok (.getfield 16, 3) := by decide +kernel
theorem dX2_year_60 : decode cX2_year 60 = .ok (.iload_n 2, 1) := by decide +kernel
theorem dX2_year_61 : decode cX2_year 61 = .ok (.aload_n 0, 1) := by decide +kernel
theorem dX2_year_62 : decode cX2_year 62 = .ok (.getfield 62, 3) := by decide +kernel
theorem dX2_year_65 : decode cX2_year 65 = .ok (.iload_n 2, 1) := by decide +kernel
theorem dX2_year_66 : decode cX2_year 66 = .ok (.iaload, 1) := by decide +kernel
theorem dX2_year_67 : decode cX2_year 67 = .ok (.iastore, 1) := by decide +kernel
theorem dX2_year_68 : decode cX2_year 68 = .ok (.aload_n 0, 1) := by decide +kernel
theorem dX2_year_69 : decode cX2_year 69 = .ok (.getfield 44, 3) := by decide +kernel
theorem dX2_year_72 : decode cX2_year 72 = .ok (.iload_n 2, 1) := by decide +kernel
theorem dX2_year_73 : decode cX2_year 73 = .ok (.aload_n 0, 1) := by decide +kernel
theorem dX2_year_74 : decode cX2_year 74 = .ok (.getfield 59, 3) := by decide +kernel
theorem dX2_year_77 : decode cX2_year 77 = .ok (.iload_n 2, 1) := by decide +kernel
theorem dX2_year_78 : decode cX2_year 78 = .ok (.baload, 1) := by decide +kernel
theorem dX2_year_79 : decode cX2_year 79 = .ok (.ifCond .eq 7, 3) := by decide +kernel
theorem dX2_year_82 : decode cX2_year 82 = .ok (.iconst 0, 1) := by decide +kernel
theorem dX2_year_83 : decode cX2_year 83 = .ok (.goto 9, 3) := by decide +kernel
theorem dX2_year_86 : decode cX2_year 86 = .ok (.aload_n 0, 1) := by decide +kernel
theorem dX2_year_87 : decode cX2_year 87 = .ok (.getfield 28, 3) := by decide +kernel
theorem dX2_year_90 : decode cX2_year 90 = .ok (.iload_n 2, 1) := by decide +kernel
theorem dX2_year_91 : decode cX2_year 91 = .ok (.iaload, 1) := by decide +kernel
theorem dX2_year_92 : decode cX2_year 92 = .ok (.iastore, 1) := by decide +kernel
theorem dX2_year_93 : decode cX2_year 93 = .ok (.iinc 2 1, 3) := by decide +kernel
theorem dX2_year_96 : decode cX2_year 96 = .ok (.goto (-69), 3) := by decide +kernel
theorem dX2_year_99 : decode cX2_year 99 = .ok (.iconst 0, 1) := by decide +kernel
theorem dX2_year_100 : decode cX2_year 100 = .ok (.istore_n 2, 1) := by decide +kernel
theorem dX2_year_101 : decode cX2_year 101 = .ok (.iload_n 2, 1) := by decide +kernel
theorem dX2_year_102 : decode cX2_year 102 = .ok (.aload_n 0, 1) := by decide +kernel
theorem dX2_year_103 : decode cX2_year 103 = .ok (.getfield 69, 3) := by decide +kernel
theorem dX2_year_106 : decode cX2_year 106 = .ok (.if_icmp .ge 75, 3) := by decide +kernel
theorem dX2_year_109 : decode cX2_year 109 = .ok (.aload_n 0, 1) := by decide +kernel
theorem dX2_year_110 : decode cX2_year 110 = .ok (.getfield 47, 3) := by decide +kernel
theorem dX2_year_113 : decode cX2_year 113 = .ok (.iload_n 2, 1) := by decide +kernel
theorem dX2_year_114 : decode cX2_year 114 = .ok (.aload_n 0, 1) := by decide +kernel
theorem dX2_year_115 : decode cX2_year 115 = .ok (.getfield 31, 3) := by decide +kernel
theorem dX2_year_118 : decode cX2_year 118 = .ok (.iload_n 2, 1) := by decide +kernel
theorem dX2_year_119 : decode cX2_year 119 = .ok (.baload, 1) := by decide +kernel
theorem dX2_year_120 : decode cX2_year 120 = .ok (.ifCond .ne 12, 3) := by decide +kernel
theorem dX2_year_123 : decode cX2_year 123 = .ok (.aload_n 0, 1) := by decide +kernel
theorem dX2_year_124 : decode cX2_year 124 = .ok (.getfield 44, 3) := by decide +kernel
theorem dX2_year_127 : decode cX2_year 127 = .ok (.iload_n 2, 1) := by decide +kernel
theorem dX2_year_128 : decode cX2_year 128 = .ok (.iaload, 1) := by decide +kernel
theorem dX2_year_129 : decode cX2_year 129 = .ok (.goto 33, 3) := by decide +kernel
theorem dX2_year_132 : decode cX2_year 132 = .ok (.aload_n 0, 1) := by decide +kernel
theorem dX2_year_133 : decode cX2_year 133 = .ok (.getfield 35, 3) := by decide +kernel
theorem dX2_year_136 : decode cX2_year 136 = .ok (.iload_n 2, 1) := by decide +kernel
theorem dX2_year_137 : decode cX2_year 137 = .ok (.iaload, 1) := by decide +kernel
theorem dX2_year_138 : decode cX2_year 138 = .ok (.ifCond .le 14, 3) := by decide +kernel
theorem dX2_year_141 : decode cX2_year 141 = .ok (.iconst 3, 1) := by decide +kernel
theorem dX2_year_142 : decode cX2_year 142 = .ok (.aload_n 0, 1) := by decide +kernel
theorem dX2_year_143 : decode cX2_year 143 = .ok (.getfield 35, 3) := by decide +kernel
theorem dX2_year_146 : decode cX2_year 146 = .ok (.iload_n 2, 1) := by decide +kernel
theorem dX2_year_147 : decode cX2_year 147 = .ok (.iaload, 1) := by decide +kernel
theorem dX2_year_148 : decode cX2_year 148 = .ok (.imul, 1) := by decide +kernel
theorem dX2_year_149 : decode cX2_year 149 = .ok (.goto 13, 3) := by decide +kernel
theorem dX2_year_152 : decode cX2_year 152 = .ok (.aload_n 0, 1) := by decide +kernel
theorem dX2_year_153 : decode cX2_year 153 = .ok (.aload_n 0, 1) := by decide +kernel
theorem dX2_year_154 : decode cX2_year 154 = .ok (.getfield 7, 3) := by decide +kernel
theorem dX2_year_157 : decode cX2_year 157 = .ok (.iload_n 2, 1) := by decide +kernel
theorem dX2_year_158 : decode cX2_year 158 = .ok (.iaload, 1) := by decide +kernel
theorem dX2_year_159 : decode cX2_year 159 = .ok (.invokevirtual 114, 3) := by decide +kernel
theorem dX2_year_162 : decode cX2_year 162 = .ok (.iastore, 1) := by decide +kernel
theorem dX2_year_163 : decode cX2_year 163 = .ok (.aload_n 0, 1) := by decide +kernel
theorem dX2_year_164 : decode cX2_year 164 = .ok (.getfield 35, 3) := by decide +kernel
theorem dX2_year_167 : decode cX2_year 167 = .ok (.iload_n 2, 1) := by decide +kernel
theorem dX2_year_168 : decode cX2_year 168 = .ok (.iconst 0, 1) := by decide +kernel
theorem dX2_year_169 : decode cX2_year 169 = .ok (.iastore, 1) := by decide +kernel
theorem dX2_year_170 : decode cX2_year 170 = .ok (.aload_n 0, 1) := by decide +kernel
theorem dX2_year_171 : decode cX2_year 171 = .ok (.iload_n 2, 1) := by decide +kernel
theorem dX2_year_172 : decode cX2_year 172 = .ok (.invokevirtual 117, 3) := by decide +kernel
theorem dX2_year_175 : decode cX2_year 175 = .ok (.iinc 2 1, 3) := by decide +kernel
theorem dX2_year_178 : decode cX2_year 178 = .ok (.goto (-77), 3) := by decide +kernel
theorem dX2_year_181 : decode cX2_year 181 = .ok (.aload_n 0, 1) := by decide +kernel
theorem dX2_year_182 : decode cX2_year 182 = .ok (.dup, 1) := by decide +kernel
theorem dX2_year_183 : decode cX2_year 183 = .ok (.getfield 107, 3) := by decide +kernel
theorem dX2_year_186 : decode cX2_year 186 = .ok (.iconst 1, 1) := by decide +kernel
theorem dX2_year_187 : decode cX2_year 187 = .ok (.iadd, 1) := by decide +kernel
theorem dX2_year_188 : decode cX2_year 188 = .ok (.putfield 107, 3) := by decide +kernel
theorem dX2_year_191 : decode cX2_year 191 = .ok (.iload_n 1, 1) := by decide +kernel
theorem dX2_year_192 : decode cX2_year 192 = .ok (.ireturn, 1) := by decide +kernel
theorem dX2_years_0 : decode cX2_years 0 = .ok (.aload_n 0, 1) := by decide +kernel
theorem dX2_years_1 : decode cX2_years 1 = .ok (.iconst 0, 1) := by decide +kernel
theorem dX2_years_2 : decode cX2_years 2 = .ok (.putfield 65, 3) := by decide +kernel
theorem dX2_years_5 : decode cX2_years 5 = .ok (.aload_n 0, 1) := by decide +kernel
theorem dX2_years_6 : decode cX2_years 6 = .ok (.getfield 107, 3) := by decide +kernel
theorem dX2_years_9 : decode cX2_years 9 = .ok (.ireturn, 1) := by decide +kernel
theorem dX2_wouldStop_0 : decode cX2_wouldStop 0 = .ok (.aload_n 0, 1) := by decide +kernel
theorem dX2_wouldStop_1 : decode cX2_wouldStop 1 = .ok (.iconst 0, 1) := by decide +kernel
theorem dX2_wouldStop_2 : decode cX2_wouldStop 2 = .ok (.putfield 65, 3) := by decide +kernel
theorem dX2_wouldStop_5 : decode cX2_wouldStop 5 = .ok (.aload_n 0, 1) := by decide +kernel
theorem dX2_wouldStop_6 : decode cX2_wouldStop 6 = .ok (.invokevirtual 110, 3) := by decide +kernel
theorem dX2_wouldStop_9 : decode cX2_wouldStop 9 = .ok (.istore_n 1, 1) := by decide +kernel
theorem dX2_wouldStop_10 : decode cX2_wouldStop 10 = .ok (.iconst 0, 1) := by decide +kernel
theorem dX2_wouldStop_11 : decode cX2_wouldStop 11 = .ok (.istore_n 2, 1) := by decide +kernel
theorem dX2_wouldStop_12 : decode cX2_wouldStop 12 = .ok (.iconst 0, 1) := by decide +kernel
theorem dX2_wouldStop_13 : decode cX2_wouldStop 13 = .ok (.istore_n 3, 1) := by decide +kernel
theorem dX2_wouldStop_14 : decode cX2_wouldStop 14 = .ok (.iload_n 3, 1) := by decide +kernel
theorem dX2_wouldStop_15 : decode cX2_wouldStop 15 = .ok (.aload_n 0, 1) := by decide +kernel
theorem dX2_wouldStop_16 : decode cX2_wouldStop 16 = .ok (.getfield 69, 3) := by decide +kernel
theorem dX2_wouldStop_19 : decode cX2_wouldStop 19 = .ok (.if_icmp .ge 28, 3) := by decide +kernel
theorem dX2_wouldStop_22 : decode cX2_wouldStop 22 = .ok (.iload_n 2, 1) := by decide +kernel
theorem dX2_wouldStop_23 : decode cX2_wouldStop 23 = .ok (.aload_n 0, 1) := by decide +kernel
theorem dX2_wouldStop_24 : decode cX2_wouldStop 24 = .ok (.getfield 59, 3) := by decide +kernel
theorem dX2_wouldStop_27 : decode cX2_wouldStop 27 = .ok (.iload_n 3, 1) := by decide +kernel
theorem dX2_wouldStop_28 : decode cX2_wouldStop 28 = .ok (.baload, 1) := by decide +kernel
theorem dX2_wouldStop_29 : decode cX2_wouldStop 29 = .ok (.ifCond .eq 9, 3) := by decide +kernel
theorem dX2_wouldStop_32 : decode cX2_wouldStop 32 = .ok (.iconst 1, 1) := by decide +kernel
theorem dX2_wouldStop_33 : decode cX2_wouldStop 33 = .ok (.iload_n 3, 1) := by decide +kernel
theorem dX2_wouldStop_34 : decode cX2_wouldStop 34 = .ok (.ishl, 1) := by decide +kernel
theorem dX2_wouldStop_35 : decode cX2_wouldStop 35 = .ok (.goto 4, 3) := by decide +kernel
theorem dX2_wouldStop_38 : decode cX2_wouldStop 38 = .ok (.iconst 0, 1) := by decide +kernel
theorem dX2_wouldStop_39 : decode cX2_wouldStop 39 = .ok (.ior, 1) := by decide +kernel
theorem dX2_wouldStop_40 : decode cX2_wouldStop 40 = .ok (.istore_n 2, 1) := by decide +kernel
theorem dX2_wouldStop_41 : decode cX2_wouldStop 41 = .ok (.iinc 3 1, 3) := by decide +kernel
theorem dX2_wouldStop_44 : decode cX2_wouldStop 44 = .ok (.goto (-30), 3) := by decide +kernel
theorem dX2_wouldStop_47 : decode cX2_wouldStop 47 = .ok (.iload_n 2, 1) := by decide +kernel
theorem dX2_wouldStop_48 : decode cX2_wouldStop 48 = .ok (.ireturn, 1) := by decide +kernel
theorem dX2_drew_0 : decode cX2_drew 0 = .ok (.aload_n 0, 1) := by decide +kernel
theorem dX2_drew_1 : decode cX2_drew 1 = .ok (.iload_n 1, 1) := by decide +kernel
theorem dX2_drew_2 : decode cX2_drew 2 = .ok (.invokevirtual 84, 3) := by decide +kernel
theorem dX2_drew_5 : decode cX2_drew 5 = .ok (.ifCond .eq 12, 3) := by decide +kernel
theorem dX2_drew_8 : decode cX2_drew 8 = .ok (.aload_n 0, 1) := by decide +kernel
theorem dX2_drew_9 : decode cX2_drew 9 = .ok (.getfield 44, 3) := by decide +kernel
theorem dX2_drew_12 : decode cX2_drew 12 = .ok (.iload_n 1, 1) := by decide +kernel
theorem dX2_drew_13 : decode cX2_drew 13 = .ok (.iaload, 1) := by decide +kernel
theorem dX2_drew_14 : decode cX2_drew 14 = .ok (.goto 4, 3) := by decide +kernel
theorem dX2_drew_17 : decode cX2_drew 17 = .ok (.iconst 0, 1) := by decide +kernel
theorem dX2_drew_18 : decode cX2_drew 18 = .ok (.ireturn, 1) := by decide +kernel
theorem dX2_told_0 : decode cX2_told 0 = .ok (.aload_n 0, 1) := by decide +kernel
theorem dX2_told_1 : decode cX2_told 1 = .ok (.iload_n 1, 1) := by decide +kernel
theorem dX2_told_2 : decode cX2_told 2 = .ok (.invokevirtual 84, 3) := by decide +kernel
theorem dX2_told_5 : decode cX2_told 5 = .ok (.ifCond .eq 12, 3) := by decide +kernel
theorem dX2_told_8 : decode cX2_told 8 = .ok (.aload_n 0, 1) := by decide +kernel
theorem dX2_told_9 : decode cX2_told 9 = .ok (.getfield 47, 3) := by decide +kernel
theorem dX2_told_12 : decode cX2_told 12 = .ok (.iload_n 1, 1) := by decide +kernel
theorem dX2_told_13 : decode cX2_told 13 = .ok (.iaload, 1) := by decide +kernel
theorem dX2_told_14 : decode cX2_told 14 = .ok (.goto 4, 3) := by decide +kernel
theorem dX2_told_17 : decode cX2_told 17 = .ok (.iconst 0, 1) := by decide +kernel
theorem dX2_told_18 : decode cX2_told 18 = .ok (.ireturn, 1) := by decide +kernel
theorem dX2_toggleMeter_0 : decode cX2_toggleMeter 0 = .ok (.aload_n 0, 1) := by decide +kernel
theorem dX2_toggleMeter_1 : decode cX2_toggleMeter 1 = .ok (.iload_n 1, 1) := by decide +kernel
theorem dX2_toggleMeter_2 : decode cX2_toggleMeter 2 = .ok (.invokevirtual 84, 3) := by decide +kernel
theorem dX2_toggleMeter_5 : decode cX2_toggleMeter 5 = .ok (.ifCond .ne 5, 3) := by decide +kernel
theorem dX2_toggleMeter_8 : decode cX2_toggleMeter 8 = .ok (.iconst 0, 1) := by decide +kernel
theorem dX2_toggleMeter_9 : decode cX2_toggleMeter 9 = .ok (.ireturn, 1) := by decide +kernel
theorem dX2_toggleMeter_10 : decode cX2_toggleMeter 10 = .ok (.aload_n 0, 1) := by decide +kernel
theorem dX2_toggleMeter_11 : decode cX2_toggleMeter 11 = .ok (.getfield 31, 3) := by decide +kernel
theorem dX2_toggleMeter_14 : decode cX2_toggleMeter 14 = .ok (.iload_n 1, 1) := by decide +kernel
theorem dX2_toggleMeter_15 : decode cX2_toggleMeter 15 = .ok (.aload_n 0, 1) := by decide +kernel
theorem dX2_toggleMeter_16 : decode cX2_toggleMeter 16 = .ok (.getfield 31, 3) := by decide +kernel
theorem dX2_toggleMeter_19 : decode cX2_toggleMeter 19 = .ok (.iload_n 1, 1) := by decide +kernel
theorem dX2_toggleMeter_20 : decode cX2_toggleMeter 20 = .ok (.baload, 1) := by decide +kernel
theorem dX2_toggleMeter_21 : decode cX2_toggleMeter 21 = .ok (.ifCond .ne 7, 3) := by decide +kernel
theorem dX2_toggleMeter_24 : decode cX2_toggleMeter 24 = .ok (.iconst 1, 1) := by decide +kernel
theorem dX2_toggleMeter_25 : decode cX2_toggleMeter 25 = .ok (.goto 4, 3) := by decide +kernel
theorem dX2_toggleMeter_28 : decode cX2_toggleMeter 28 = .ok (.iconst 0, 1) := by decide +kernel
theorem dX2_toggleMeter_29 : decode cX2_toggleMeter 29 = .ok (.bastore, 1) := by decide +kernel
theorem dX2_toggleMeter_30 : decode cX2_toggleMeter 30 = .ok (.aload_n 0, 1) := by decide +kernel
theorem dX2_toggleMeter_31 : decode cX2_toggleMeter 31 = .ok (.getfield 31, 3) := by decide +kernel
theorem dX2_toggleMeter_34 : decode cX2_toggleMeter 34 = .ok (.iload_n 1, 1) := by decide +kernel
theorem dX2_toggleMeter_35 : decode cX2_toggleMeter 35 = .ok (.baload, 1) := by decide +kernel
theorem dX2_toggleMeter_36 : decode cX2_toggleMeter 36 = .ok (.ifCond .ne 7, 3) := by decide +kernel
theorem dX2_toggleMeter_39 : decode cX2_toggleMeter 39 = .ok (.iconst 1, 1) := by decide +kernel
theorem dX2_toggleMeter_40 : decode cX2_toggleMeter 40 = .ok (.goto 4, 3) := by decide +kernel
theorem dX2_toggleMeter_43 : decode cX2_toggleMeter 43 = .ok (.iconst 0, 1) := by decide +kernel
theorem dX2_toggleMeter_44 : decode cX2_toggleMeter 44 = .ok (.ireturn, 1) := by decide +kernel
theorem dX2_power_0 : decode cX2_power 0 = .ok (.aload_n 0, 1) := by decide +kernel
theorem dX2_power_1 : decode cX2_power 1 = .ok (.iload_n 1, 1) := by decide +kernel
theorem dX2_power_2 : decode cX2_power 2 = .ok (.invokevirtual 84, 3) := by decide +kernel
theorem dX2_power_5 : decode cX2_power 5 = .ok (.ifCond .ne 5, 3) := by decide +kernel
theorem dX2_power_8 : decode cX2_power 8 = .ok (.iconst 0, 1) := by decide +kernel
theorem dX2_power_9 : decode cX2_power 9 = .ok (.ireturn, 1) := by decide +kernel
theorem dX2_power_10 : decode cX2_power 10 = .ok (.iload_n 2, 1) := by decide +kernel
theorem dX2_power_11 : decode cX2_power 11 = .ok (.iconst 0, 1) := by decide +kernel
theorem dX2_power_12 : decode cX2_power 12 = .ok (.sipush 1000, 3) := by decide +kernel
theorem dX2_power_15 : decode cX2_power 15 = .ok (.invokestatic 72, 3) := by decide +kernel
theorem dX2_power_18 : decode cX2_power 18 = .ok (.ifCond .ne 9, 3) := by decide +kernel
theorem dX2_power_21 : decode cX2_power 21 = .ok (.aload_n 0, 1) := by decide +kernel
theorem dX2_power_22 : decode cX2_power 22 = .ok (.iconst 2, 1) := by decide +kernel
theorem dX2_power_23 : decode cX2_power 23 = .ok (.invokevirtual 80, 3) := by decide +kernel
theorem dX2_power_26 : decode cX2_power 26 = .ok (.ireturn, 1) := by decide +kernel
theorem dX2_power_27 : decode cX2_power 27 = .ok (.aload_n 0, 1) := by decide +kernel
theorem dX2_power_28 : decode cX2_power 28 = .ok (.getfield 35, 3) := by decide +kernel
theorem dX2_power_31 : decode cX2_power 31 = .ok (.iload_n 1, 1) := by decide +kernel
theorem dX2_power_32 : decode cX2_power 32 = .ok (.iaload, 1) := by decide +kernel
theorem dX2_power_33 : decode cX2_power 33 = .ok (.istore_n 3, 1) := by decide +kernel
theorem dX2_power_34 : decode cX2_power 34 = .ok (.aload_n 0, 1) := by decide +kernel
theorem dX2_power_35 : decode cX2_power 35 = .ok (.getfield 35, 3) := by decide +kernel
theorem dX2_power_38 : decode cX2_power 38 = .ok (.iload_n 1, 1) := by decide +kernel
theorem dX2_power_39 : decode cX2_power 39 = .ok (.iload_n 2, 1) := by decide +kernel
theorem dX2_power_40 : decode cX2_power 40 = .ok (.iastore, 1) := by decide +kernel
theorem dX2_power_41 : decode cX2_power 41 = .ok (.iload_n 3, 1) := by decide +kernel
theorem dX2_power_42 : decode cX2_power 42 = .ok (.ireturn, 1) := by decide +kernel
theorem dX2_bank_0 : decode cX2_bank 0 = .ok (.aload_n 0, 1) := by decide +kernel
theorem dX2_bank_1 : decode cX2_bank 1 = .ok (.iload_n 1, 1) := by decide +kernel
theorem dX2_bank_2 : decode cX2_bank 2 = .ok (.invokevirtual 84, 3) := by decide +kernel
theorem dX2_bank_5 : decode cX2_bank 5 = .ok (.ifCond .eq 12, 3) := by decide +kernel
theorem dX2_bank_8 : decode cX2_bank 8 = .ok (.aload_n 0, 1) := by decide +kernel
theorem dX2_bank_9 : decode cX2_bank 9 = .ok (.getfield 38, 3) := by decide +kernel
theorem dX2_bank_12 : decode cX2_bank 12 = .ok (.iload_n 1, 1) := by decide +kernel
theorem dX2_bank_13 : decode cX2_bank 13 = .ok (.iaload, 1) := by decide +kernel
theorem dX2_bank_14 : decode cX2_bank 14 = .ok (.goto 4, 3) := by decide +kernel
theorem dX2_bank_17 : decode cX2_bank 17 = .ok (.iconst 0, 1) := by decide +kernel
theorem dX2_bank_18 : decode cX2_bank 18 = .ok (.ireturn, 1) := by decide +kernel
theorem dX2_lend_0 : decode cX2_lend 0 = .ok (.aload_n 0, 1) := by decide +kernel
theorem dX2_lend_1 : decode cX2_lend 1 = .ok (.iconst 0, 1) := by decide +kernel
theorem dX2_lend_2 : decode cX2_lend 2 = .ok (.putfield 65, 3) := by decide +kernel
theorem dX2_lend_5 : decode cX2_lend 5 = .ok (.aload_n 0, 1) := by decide +kernel
theorem dX2_lend_6 : decode cX2_lend 6 = .ok (.iload_n 1, 1) := by decide +kernel
theorem dX2_lend_7 : decode cX2_lend 7 = .ok (.invokevirtual 76, 3) := by decide +kernel
theorem dX2_lend_10 : decode cX2_lend 10 = .ok (.ifCond .eq 11, 3) := by decide +kernel
theorem dX2_lend_13 : decode cX2_lend 13 = .ok (.aload_n 0, 1) := by decide +kernel
theorem dX2_lend_14 : decode cX2_lend 14 = .ok (.iload_n 2, 1) := by decide +kernel
theorem dX2_lend_15 : decode cX2_lend 15 = .ok (.invokevirtual 76, 3) := by decide +kernel
theorem dX2_lend_18 : decode cX2_lend 18 = .ok (.ifCond .ne 9, 3) := by decide +kernel
theorem dX2_lend_21 : decode cX2_lend 21 = .ok (.aload_n 0, 1) := by decide +kernel
theorem dX2_lend_22 : decode cX2_lend 22 = .ok (.iconst 1, 1) := by decide +kernel
theorem dX2_lend_23 : decode cX2_lend 23 = .ok (.invokevirtual 80, 3) := by decide +kernel
theorem dX2_lend_26 : decode cX2_lend 26 = .ok (.ireturn, 1) := by decide +kernel
theorem dX2_lend_27 : decode cX2_lend 27 = .ok (.iload_n 1, 1) := by decide +kernel
theorem dX2_lend_28 : decode cX2_lend 28 = .ok (.iload_n 2, 1) := by decide +kernel
theorem dX2_lend_29 : decode cX2_lend 29 = .ok (.if_icmp .eq 14, 3) := by decide +kernel
theorem dX2_lend_32 : decode cX2_lend 32 = .ok (.iload_n 3, 1) := by decide +kernel
theorem dX2_lend_33 : decode cX2_lend 33 = .ok (.iconst 1, 1) := by decide +kernel
theorem dX2_lend_34 : decode cX2_lend 34 = .ok (.sipush 10000, 3) := by decide +kernel
theorem dX2_lend_37 : decode cX2_lend 37 = .ok (.invokestatic 72, 3) := by decide +kernel
theorem dX2_lend_40 : decode cX2_lend 40 = .ok (.ifCond .ne 9, 3) := by decide +kernel
theorem dX2_lend_43 : decode cX2_lend 43 = .ok (.aload_n 0, 1) := by decide +kernel
theorem dX2_lend_44 : decode cX2_lend 44 = .ok (.iconst 2, 1) := by decide +kernel
theorem dX2_lend_45 : decode cX2_lend 45 = .ok (.invokevirtual 80, 3) := by decide +kernel
theorem dX2_lend_48 : decode cX2_lend 48 = .ok (.ireturn, 1) := by decide +kernel
theorem dX2_lend_49 : decode cX2_lend 49 = .ok (.aload_n 0, 1) := by decide +kernel
theorem dX2_lend_50 : decode cX2_lend 50 = .ok (.getfield 38, 3) := by decide +kernel
theorem dX2_lend_53 : decode cX2_lend 53 = .ok (.iload_n 1, 1) := by decide +kernel
theorem dX2_lend_54 : decode cX2_lend 54 = .ok (.iaload, 1) := by decide +kernel
theorem dX2_lend_55 : decode cX2_lend 55 = .ok (.iload_n 3, 1) := by decide +kernel
theorem dX2_lend_56 : decode cX2_lend 56 = .ok (.if_icmp .ge 9, 3) := by decide +kernel
theorem dX2_lend_59 : decode cX2_lend 59 = .ok (.aload_n 0, 1) := by decide +kernel
theorem dX2_lend_60 : decode cX2_lend 60 = .ok (.iconst 3, 1) := by decide +kernel
theorem dX2_lend_61 : decode cX2_lend 61 = .ok (.invokevirtual 80, 3) := by decide +kernel
theorem dX2_lend_64 : decode cX2_lend 64 = .ok (.ireturn, 1) := by decide +kernel
theorem dX2_lend_65 : decode cX2_lend 65 = .ok (.aload_n 0, 1) := by decide +kernel
theorem dX2_lend_66 : decode cX2_lend 66 = .ok (.getfield 38, 3) := by decide +kernel
theorem dX2_lend_69 : decode cX2_lend 69 = .ok (.iload_n 1, 1) := by decide +kernel
theorem dX2_lend_70 : decode cX2_lend 70 = .ok (.dup2, 1) := by decide +kernel
theorem dX2_lend_71 : decode cX2_lend 71 = .ok (.iaload, 1) := by decide +kernel
theorem dX2_lend_72 : decode cX2_lend 72 = .ok (.iload_n 3, 1) := by decide +kernel
theorem dX2_lend_73 : decode cX2_lend 73 = .ok (.isub, 1) := by decide +kernel
theorem dX2_lend_74 : decode cX2_lend 74 = .ok (.iastore, 1) := by decide +kernel
theorem dX2_lend_75 : decode cX2_lend 75 = .ok (.aload_n 0, 1) := by decide +kernel
theorem dX2_lend_76 : decode cX2_lend 76 = .ok (.getfield 38, 3) := by decide +kernel
theorem dX2_lend_79 : decode cX2_lend 79 = .ok (.iload_n 2, 1) := by decide +kernel
theorem dX2_lend_80 : decode cX2_lend 80 = .ok (.dup2, 1) := by decide +kernel
theorem dX2_lend_81 : decode cX2_lend 81 = .ok (.iaload, 1) := by decide +kernel
theorem dX2_lend_82 : decode cX2_lend 82 = .ok (.iload_n 3, 1) := by decide +kernel
theorem dX2_lend_83 : decode cX2_lend 83 = .ok (.iadd, 1) := by decide +kernel
theorem dX2_lend_84 : decode cX2_lend 84 = .ok (.iastore, 1) := by decide +kernel
theorem dX2_lend_85 : decode cX2_lend 85 = .ok (.aload_n 0, 1) := by decide +kernel
theorem dX2_lend_86 : decode cX2_lend 86 = .ok (.getfield 50, 3) := by decide +kernel
theorem dX2_lend_89 : decode cX2_lend 89 = .ok (.bipush 8, 2) := by decide +kernel
theorem dX2_lend_91 : decode cX2_lend 91 = .ok (.iload_n 1, 1) := by decide +kernel
theorem dX2_lend_92 : decode cX2_lend 92 = .ok (.imul, 1) := by decide +kernel
theorem dX2_lend_93 : decode cX2_lend 93 = .ok (.iload_n 2, 1) := by decide +kernel
theorem dX2_lend_94 : decode cX2_lend 94 = .ok (.iadd, 1) := by decide +kernel
theorem dX2_lend_95 : decode cX2_lend 95 = .ok (.dup2, 1) := by decide +kernel
theorem dX2_lend_96 : decode cX2_lend 96 = .ok (.iaload, 1) := by decide +kernel
theorem dX2_lend_97 : decode cX2_lend 97 = .ok (.iload_n 3, 1) := by decide +kernel
theorem dX2_lend_98 : decode cX2_lend 98 = .ok (.iadd, 1) := by decide +kernel
theorem dX2_lend_99 : decode cX2_lend 99 = .ok (.iastore, 1) := by decide +kernel
theorem dX2_lend_100 : decode cX2_lend 100 = .ok (.aload_n 0, 1) := by decide +kernel
theorem dX2_lend_101 : decode cX2_lend 101 = .ok (.getfield 50, 3) := by decide +kernel
theorem dX2_lend_104 : decode cX2_lend 104 = .ok (.bipush 8, 2) := by decide +kernel
theorem dX2_lend_106 : decode cX2_lend 106 = .ok (.iload_n 1, 1) := by decide +kernel
theorem dX2_lend_107 : decode cX2_lend 107 = .ok (.imul, 1) := by decide +kernel
theorem dX2_lend_108 : decode cX2_lend 108 = .ok (.iload_n 2, 1) := by decide +kernel
theorem dX2_lend_109 : decode cX2_lend 109 = .ok (.iadd, 1) := by decide +kernel
theorem dX2_lend_110 : decode cX2_lend 110 = .ok (.iaload, 1) := by decide +kernel
theorem dX2_lend_111 : decode cX2_lend 111 = .ok (.ireturn, 1) := by decide +kernel
theorem dX2_callBack_0 : decode cX2_callBack 0 = .ok (.aload_n 0, 1) := by decide +kernel
theorem dX2_callBack_1 : decode cX2_callBack 1 = .ok (.iconst 0, 1) := by decide +kernel
theorem dX2_callBack_2 : decode cX2_callBack 2 = .ok (.putfield 65, 3) := by decide +kernel
theorem dX2_callBack_5 : decode cX2_callBack 5 = .ok (.aload_n 0, 1) := by decide +kernel
theorem dX2_callBack_6 : decode cX2_callBack 6 = .ok (.iload_n 1, 1) := by decide +kernel
theorem dX2_callBack_7 : decode cX2_callBack 7 = .ok (.invokevirtual 76, 3) := by decide +kernel
theorem dX2_callBack_10 : decode cX2_callBack 10 = .ok (.ifCond .eq 11, 3) := by decide +kernel
theorem dX2_callBack_13 : decode cX2_callBack 13 = .ok (.aload_n 0, 1) := by decide +kernel
theorem dX2_callBack_14 : decode cX2_callBack 14 = .ok (.iload_n 2, 1) := by decide +kernel
theorem dX2_callBack_15 : decode cX2_callBack 15 = .ok (.invokevirtual 76, 3) := by decide +kernel
theorem dX2_callBack_18 : decode cX2_callBack 18 = .ok (.ifCond .ne 9, 3) := by decide +kernel
theorem dX2_callBack_21 : decode cX2_callBack 21 = .ok (.aload_n 0, 1) := by decide +kernel
theorem dX2_callBack_22 : decode cX2_callBack 22 = .ok (.iconst 1, 1) := by decide +kernel
theorem dX2_callBack_23 : decode cX2_callBack 23 = .ok (.invokevirtual 80, 3) := by decide +kernel
theorem dX2_callBack_26 : decode cX2_callBack 26 = .ok (.ireturn, 1) := by decide +kernel
theorem dX2_callBack_27 : decode cX2_callBack 27 = .ok (.iload_n 1, 1) := by decide +kernel
theorem dX2_callBack_28 : decode cX2_callBack 28 = .ok (.iload_n 2, 1) := by decide +kernel
theorem dX2_callBack_29 : decode cX2_callBack 29 = .ok (.if_icmp .ne 9, 3) := by decide +kernel
theorem dX2_callBack_32 : decode cX2_callBack 32 = .ok (.aload_n 0, 1) := by decide +kernel
theorem dX2_callBack_33 : decode cX2_callBack 33 = .ok (.iconst 2, 1) := by decide +kernel
theorem dX2_callBack_34 : decode cX2_callBack 34 = .ok (.invokevirtual 80, 3) := by decide +kernel
theorem dX2_callBack_37 : decode cX2_callBack 37 = .ok (.ireturn, 1) := by decide +kernel
theorem dX2_callBack_38 : decode cX2_callBack 38 = .ok (.aload_n 0, 1) := by decide +kernel
theorem dX2_callBack_39 : decode cX2_callBack 39 = .ok (.getfield 50, 3) := by decide +kernel
theorem dX2_callBack_42 : decode cX2_callBack 42 = .ok (.bipush 8, 2) := by decide +kernel
theorem dX2_callBack_44 : decode cX2_callBack 44 = .ok (.iload_n 1, 1) := by decide +kernel
theorem dX2_callBack_45 : decode cX2_callBack 45 = .ok (.imul, 1) := by decide +kernel
theorem dX2_callBack_46 : decode cX2_callBack 46 = .ok (.iload_n 2, 1) := by decide +kernel
theorem dX2_callBack_47 : decode cX2_callBack 47 = .ok (.iadd, 1) := by decide +kernel
theorem dX2_callBack_48 : decode cX2_callBack 48 = .ok (.iaload, 1) := by decide +kernel
theorem dX2_callBack_49 : decode cX2_callBack 49 = .ok (.istore_n 3, 1) := by decide +kernel
theorem dX2_callBack_50 : decode cX2_callBack 50 = .ok (.iload_n 3, 1) := by decide +kernel
theorem dX2_callBack_51 : decode cX2_callBack 51 = .ok (.aload_n 0, 1) := by decide +kernel
theorem dX2_callBack_52 : decode cX2_callBack 52 = .ok (.getfield 38, 3) := by decide +kernel
theorem dX2_callBack_55 : decode cX2_callBack 55 = .ok (.iload_n 2, 1) := by decide +kernel
theorem dX2_callBack_56 : decode cX2_callBack 56 = .ok (.iaload, 1) := by decide +kernel
theorem dX2_callBack_57 : decode cX2_callBack 57 = .ok (.if_icmp .ge 7, 3) := by decide +kernel
theorem dX2_callBack_60 : decode cX2_callBack 60 = .ok (.iload_n 3, 1) := by decide +kernel
theorem dX2_callBack_61 : decode cX2_callBack 61 = .ok (.goto 9, 3) := by decide +kernel
theorem dX2_callBack_64 : decode cX2_callBack 64 = .ok (.aload_n 0, 1) := by decide +kernel
theorem dX2_callBack_65 : decode cX2_callBack 65 = .ok (.getfield 38, 3) := by decide +kernel
theorem dX2_callBack_68 : decode cX2_callBack 68 = .ok (.iload_n 2, 1) := by decide +kernel
theorem dX2_callBack_69 : decode cX2_callBack 69 = .ok (.iaload, 1) := by decide +kernel
theorem dX2_callBack_70 : decode cX2_callBack 70 = .ok (.istore 4, 2) := by decide +kernel
theorem dX2_callBack_72 : decode cX2_callBack 72 = .ok (.aload_n 0, 1) := by decide +kernel
theorem dX2_callBack_73 : decode cX2_callBack 73 = .ok (.getfield 38, 3) := by decide +kernel
theorem dX2_callBack_76 : decode cX2_callBack 76 = .ok (.iload_n 2, 1) := by decide +kernel
theorem dX2_callBack_77 : decode cX2_callBack 77 = .ok (.dup2, 1) := by decide +kernel
theorem dX2_callBack_78 : decode cX2_callBack 78 = .ok (.iaload, 1) := by decide +kernel
theorem dX2_callBack_79 : decode cX2_callBack 79 = .ok (.iload 4, 2) := by decide +kernel
theorem dX2_callBack_81 : decode cX2_callBack 81 = .ok (.isub, 1) := by decide +kernel
theorem dX2_callBack_82 : decode cX2_callBack 82 = .ok (.iastore, 1) := by decide +kernel
theorem dX2_callBack_83 : decode cX2_callBack 83 = .ok (.aload_n 0, 1) := by decide +kernel
theorem dX2_callBack_84 : decode cX2_callBack 84 = .ok (.getfield 38, 3) := by decide +kernel
theorem dX2_callBack_87 : decode cX2_callBack 87 = .ok (.iload_n 1, 1) := by decide +kernel
theorem dX2_callBack_88 : decode cX2_callBack 88 = .ok (.dup2, 1) := by decide +kernel
theorem dX2_callBack_89 : decode cX2_callBack 89 = .ok (.iaload, 1) := by decide +kernel
theorem dX2_callBack_90 : decode cX2_callBack 90 = .ok (.iload 4, 2) := by decide +kernel
theorem dX2_callBack_92 : decode cX2_callBack 92 = .ok (.iadd, 1) := by decide +kernel
theorem dX2_callBack_93 : decode cX2_callBack 93 = .ok (.iastore, 1) := by decide +kernel
theorem dX2_callBack_94 : decode cX2_callBack 94 = .ok (.aload_n 0, 1) := by decide +kernel
theorem dX2_callBack_95 : decode cX2_callBack 95 = .ok (.getfield 50, 3) := by decide +kernel
theorem dX2_callBack_98 : decode cX2_callBack 98 = .ok (.bipush 8, 2) := by decide +kernel
theorem dX2_callBack_100 : decode cX2_callBack 100 = .ok (.iload_n 1, 1) := by decide +kernel
theorem dX2_callBack_101 : decode cX2_callBack 101 = .ok (.imul, 1) := by decide +kernel
theorem dX2_callBack_102 : decode cX2_callBack 102 = .ok (.iload_n 2, 1) := by decide +kernel
theorem dX2_callBack_103 : decode cX2_callBack 103 = .ok (.iadd, 1) := by decide +kernel
theorem dX2_callBack_104 : decode cX2_callBack 104 = .ok (.dup2, 1) := by decide +kernel
theorem dX2_callBack_105 : decode cX2_callBack 105 = .ok (.iaload, 1) := by decide +kernel
theorem dX2_callBack_106 : decode cX2_callBack 106 = .ok (.iload 4, 2) := by decide +kernel
theorem dX2_callBack_108 : decode cX2_callBack 108 = .ok (.isub, 1) := by decide +kernel
theorem dX2_callBack_109 : decode cX2_callBack 109 = .ok (.iastore, 1) := by decide +kernel
theorem dX2_callBack_110 : decode cX2_callBack 110 = .ok (.iload 4, 2) := by decide +kernel
theorem dX2_callBack_112 : decode cX2_callBack 112 = .ok (.ireturn, 1) := by decide +kernel
theorem dX2_fines_0 : decode cX2_fines 0 = .ok (.aload_n 0, 1) := by decide +kernel
theorem dX2_fines_1 : decode cX2_fines 1 = .ok (.iload_n 1, 1) := by decide +kernel
theorem dX2_fines_2 : decode cX2_fines 2 = .ok (.invokevirtual 84, 3) := by decide +kernel
theorem dX2_fines_5 : decode cX2_fines 5 = .ok (.ifCond .eq 12, 3) := by decide +kernel
theorem dX2_fines_8 : decode cX2_fines 8 = .ok (.aload_n 0, 1) := by decide +kernel
theorem dX2_fines_9 : decode cX2_fines 9 = .ok (.getfield 41, 3) := by decide +kernel
theorem dX2_fines_12 : decode cX2_fines 12 = .ok (.iload_n 1, 1) := by decide +kernel
theorem dX2_fines_13 : decode cX2_fines 13 = .ok (.iaload, 1) := by decide +kernel
theorem dX2_fines_14 : decode cX2_fines 14 = .ok (.goto 4, 3) := by decide +kernel
theorem dX2_fines_17 : decode cX2_fines 17 = .ok (.iconst 0, 1) := by decide +kernel
theorem dX2_fines_18 : decode cX2_fines 18 = .ok (.ireturn, 1) := by decide +kernel
theorem dX2_fund_0 : decode cX2_fund 0 = .ok (.aload_n 0, 1) := by decide +kernel
theorem dX2_fund_1 : decode cX2_fund 1 = .ok (.iconst 0, 1) := by decide +kernel
theorem dX2_fund_2 : decode cX2_fund 2 = .ok (.putfield 65, 3) := by decide +kernel
theorem dX2_fund_5 : decode cX2_fund 5 = .ok (.aload_n 0, 1) := by decide +kernel
theorem dX2_fund_6 : decode cX2_fund 6 = .ok (.getfield 104, 3) := by decide +kernel
theorem dX2_fund_9 : decode cX2_fund 9 = .ok (.ireturn, 1) := by decide +kernel
theorem dX2_build_0 : decode cX2_build 0 = .ok (.aload_n 0, 1) := by decide +kernel
theorem dX2_build_1 : decode cX2_build 1 = .ok (.iconst 0, 1) := by decide +kernel
theorem dX2_build_2 : decode cX2_build 2 = .ok (.putfield 65, 3) := by decide +kernel
theorem dX2_build_5 : decode cX2_build 5 = .ok (.iload_n 1, 1) := by decide +kernel
theorem dX2_build_6 : decode cX2_build 6 = .ok (.iconst 0, 1) := by decide +kernel
theorem dX2_build_7 : decode cX2_build 7 = .ok (.bipush 99, 2) := by decide +kernel
theorem dX2_build_9 : decode cX2_build 9 = .ok (.invokestatic 72, 3) := by decide +kernel
theorem dX2_build_12 : decode cX2_build 12 = .ok (.ifCond .ne 9, 3) := by decide +kernel
theorem dX2_build_15 : decode cX2_build 15 = .ok (.aload_n 0, 1) := by decide +kernel
theorem dX2_build_16 : decode cX2_build 16 = .ok (.iconst 1, 1) := by decide +kernel
theorem dX2_build_17 : decode cX2_build 17 = .ok (.invokevirtual 80, 3) := by decide +kernel
theorem dX2_build_20 : decode cX2_build 20 = .ok (.ireturn, 1) := by decide +kernel
theorem dX2_build_21 : decode cX2_build 21 = .ok (.aload_n 0, 1) := by decide +kernel
theorem dX2_build_22 : decode cX2_build 22 = .ok (.getfield 104, 3) := by decide +kernel
theorem dX2_build_25 : decode cX2_build 25 = .ok (.bipush 100, 2) := by decide +kernel
theorem dX2_build_27 : decode cX2_build 27 = .ok (.if_icmp .lt 11, 3) := by decide +kernel
theorem dX2_build_30 : decode cX2_build 30 = .ok (.aload_n 0, 1) := by decide +kernel
theorem dX2_build_31 : decode cX2_build 31 = .ok (.getfield 91, 3) := by decide +kernel
theorem dX2_build_34 : decode cX2_build 34 = .ok (.iconst 5, 1) := by decide +kernel
theorem dX2_build_35 : decode cX2_build 35 = .ok (.if_icmp .ne 9, 3) := by decide +kernel
theorem dX2_build_38 : decode cX2_build 38 = .ok (.aload_n 0, 1) := by decide +kernel
theorem dX2_build_39 : decode cX2_build 39 = .ok (.iconst 2, 1) := by decide +kernel
theorem dX2_build_40 : decode cX2_build 40 = .ok (.invokevirtual 80, 3) := by decide +kernel
theorem dX2_build_43 : decode cX2_build 43 = .ok (.ireturn, 1) := by decide +kernel
theorem dX2_build_44 : decode cX2_build 44 = .ok (.aload_n 0, 1) := by decide +kernel
theorem dX2_build_45 : decode cX2_build 45 = .ok (.getfield 56, 3) := by decide +kernel
theorem dX2_build_48 : decode cX2_build 48 = .ok (.aload_n 0, 1) := by decide +kernel
theorem dX2_build_49 : decode cX2_build 49 = .ok (.getfield 91, 3) := by decide +kernel
theorem dX2_build_52 : decode cX2_build 52 = .ok (.iload_n 1, 1) := by decide +kernel
theorem dX2_build_53 : decode cX2_build 53 = .ok (.iastore, 1) := by decide +kernel
theorem dX2_build_54 : decode cX2_build 54 = .ok (.aload_n 0, 1) := by decide +kernel
theorem dX2_build_55 : decode cX2_build 55 = .ok (.dup, 1) := by decide +kernel
theorem dX2_build_56 : decode cX2_build 56 = .ok (.getfield 91, 3) := by decide +kernel
theorem dX2_build_59 : decode cX2_build 59 = .ok (.iconst 1, 1) := by decide +kernel
theorem dX2_build_60 : decode cX2_build 60 = .ok (.iadd, 1) := by decide +kernel
theorem dX2_build_61 : decode cX2_build 61 = .ok (.putfield 91, 3) := by decide +kernel
theorem dX2_build_64 : decode cX2_build 64 = .ok (.aload_n 0, 1) := by decide +kernel
theorem dX2_build_65 : decode cX2_build 65 = .ok (.dup, 1) := by decide +kernel
theorem dX2_build_66 : decode cX2_build 66 = .ok (.getfield 104, 3) := by decide +kernel
theorem dX2_build_69 : decode cX2_build 69 = .ok (.bipush 100, 2) := by decide +kernel
theorem dX2_build_71 : decode cX2_build 71 = .ok (.isub, 1) := by decide +kernel
theorem dX2_build_72 : decode cX2_build 72 = .ok (.putfield 104, 3) := by decide +kernel
theorem dX2_build_75 : decode cX2_build 75 = .ok (.aload_n 0, 1) := by decide +kernel
theorem dX2_build_76 : decode cX2_build 76 = .ok (.getfield 91, 3) := by decide +kernel
theorem dX2_build_79 : decode cX2_build 79 = .ok (.ireturn, 1) := by decide +kernel
theorem dJ5_init_d00df_0 : decode cJ5_init_d00df 0 = .ok (.aload_n 0, 1) := by decide +kernel
theorem dJ5_init_d00df_1 : decode cJ5_init_d00df 1 = .ok (.invokespecial 3, 3) := by decide +kernel
theorem dJ5_init_d00df_4 : decode cJ5_init_d00df 4 = .ok (.getstatic 18, 3) := by decide +kernel
theorem dJ5_init_d00df_7 : decode cJ5_init_d00df 7 = .ok (.ifCond .eq 18, 3) := by decide +kernel
theorem dJ5_init_d00df_10 : decode cJ5_init_d00df 10 = .ok (.aload_n 0, 1) := by decide +kernel
theorem dJ5_init_d00df_11 : decode cJ5_init_d00df 11 = .ok (.iload_n 1, 1) := by decide +kernel
theorem dJ5_init_d00df_12 : decode cJ5_init_d00df 12 = .ok (.newarray .byte, 2) := by decide +kernel
theorem dJ5_init_d00df_14 : decode cJ5_init_d00df 14 = .ok (.putfield 15, 3) := by decide +kernel
theorem dJ5_init_d00df_17 : decode cJ5_init_d00df 17 = .ok (.aload_n 0, 1) := by decide +kernel
theorem dJ5_init_d00df_18 : decode cJ5_init_d00df 18 = .ok (.iconst 0, 1) := by decide +kernel
theorem dJ5_init_d00df_19 : decode cJ5_init_d00df 19 = .ok (.putfield 22, 3) := by decide +kernel
theorem dJ5_init_d00df_22 : decode cJ5_init_d00df 22 = .ok (.goto 16, 3) := by decide +kernel
theorem dJ5_init_d00df_25 : decode cJ5_init_d00df 25 = .ok (.aload_n 0, 1) := by decide +kernel
theorem dJ5_init_d00df_26 : decode cJ5_init_d00df 26 = .ok (.iload_n 1, 1) := by decide +kernel
theorem dJ5_init_d00df_27 : decode cJ5_init_d00df 27 = .ok (.invokestatic 26, 3) := by decide +kernel
theorem dJ5_init_d00df_30 : decode cJ5_init_d00df 30 = .ok (.putfield 15, 3) := by decide +kernel
theorem dJ5_init_d00df_33 : decode cJ5_init_d00df 33 = .ok (.aload_n 0, 1) := by decide +kernel
theorem dJ5_init_d00df_34 : decode cJ5_init_d00df 34 = .ok (.iconst 1, 1) := by decide +kernel
theorem dJ5_init_d00df_35 : decode cJ5_init_d00df 35 = .ok (.putfield 22, 3) := by decide +kernel
theorem dJ5_init_d00df_38 : decode cJ5_init_d00df 38 = .ok (.return_, 1) := by decide +kernel
theorem dJ5_length_8abf5_0 : decode cJ5_length_8abf5 0 = .ok (.aload_n 0, 1) := by decide +kernel
theorem dJ5_length_8abf5_1 : decode cJ5_length_8abf5 1 = .ok (.getfield 79, 3) := by decide +kernel
theorem dJ5_length_8abf5_4 : decode cJ5_length_8abf5 4 = .ok (.ireturn, 1) := by decide +kernel
theorem dJ5_ensureCapacityInternal_d00df_0 : decode cJ5_ensureCapacityInternal_d00df 0 = .ok (.aload_n 0, 1) := by decide +kernel
theorem dJ5_ensureCapacityInternal_d00df_1 : decode cJ5_ensureCapacityInternal_d00df 1 = .ok (.getfield 15, 3) := by decide +kernel
theorem dJ5_ensureCapacityInternal_d00df_4 : decode cJ5_ensureCapacityInternal_d00df 4 = .ok (.arraylength, 1) := by decide +kernel
theorem dJ5_ensureCapacityInternal_d00df_5 : decode cJ5_ensureCapacityInternal_d00df 5 = .ok (.aload_n 0, 1) := by decide +kernel
theorem dJ5_ensureCapacityInternal_d00df_6 : decode cJ5_ensureCapacityInternal_d00df 6 = .ok (.getfield 22, 3) := by decide +kernel
theorem dJ5_ensureCapacityInternal_d00df_9 : decode cJ5_ensureCapacityInternal_d00df 9 = .ok (.ishr, 1) := by decide +kernel
theorem dJ5_ensureCapacityInternal_d00df_10 : decode cJ5_ensureCapacityInternal_d00df 10 = .ok (.istore_n 2, 1) := by decide +kernel
theorem dJ5_ensureCapacityInternal_d00df_11 : decode cJ5_ensureCapacityInternal_d00df 11 = .ok (.iload_n 1, 1) := by decide +kernel
theorem dJ5_ensureCapacityInternal_d00df_12 : decode cJ5_ensureCapacityInternal_d00df 12 = .ok (.iload_n 2, 1) := by decide +kernel
theorem dJ5_ensureCapacityInternal_d00df_13 : decode cJ5_ensureCapacityInternal_d00df 13 = .ok (.isub, 1) := by decide +kernel
theorem dJ5_ensureCapacityInternal_d00df_14 : decode cJ5_ensureCapacityInternal_d00df 14 = .ok (.ifCond .le 24, 3) := by decide +kernel
theorem dJ5_ensureCapacityInternal_d00df_17 : decode cJ5_ensureCapacityInternal_d00df 17 = .ok (.aload_n 0, 1) := by decide +kernel
theorem dJ5_ensureCapacityInternal_d00df_18 : decode cJ5_ensureCapacityInternal_d00df 18 = .ok (.aload_n 0, 1) := by decide +kernel
theorem dJ5_ensureCapacityInternal_d00df_19 : decode cJ5_ensureCapacityInternal_d00df 19 = .ok (.getfield 15, 3) := by decide +kernel
theorem dJ5_ensureCapacityInternal_d00df_22 : decode cJ5_ensureCapacityInternal_d00df 22 = .ok (.aload_n 0, 1) := by decide +kernel
theorem dJ5_ensureCapacityInternal_d00df_23 : decode cJ5_ensureCapacityInternal_d00df 23 = .ok (.iload_n 1, 1) := by decide +kernel
theorem dJ5_ensureCapacityInternal_d00df_24 : decode cJ5_ensureCapacityInternal_d00df 24 = .ok (.invokevirtual 104, 3) := by decide +kernel
theorem dJ5_ensureCapacityInternal_d00df_27 : decode cJ5_ensureCapacityInternal_d00df 27 = .ok (.aload_n 0, 1) := by decide +kernel
theorem dJ5_ensureCapacityInternal_d00df_28 : decode cJ5_ensureCapacityInternal_d00df 28 = .ok (.getfield 22, 3) := by decide +kernel
theorem dJ5_ensureCapacityInternal_d00df_31 : decode cJ5_ensureCapacityInternal_d00df 31 = .ok (.ishl, 1) := by decide +kernel
theorem dJ5_ensureCapacityInternal_d00df_32 : decode cJ5_ensureCapacityInternal_d00df 32 = .ok (.invokestatic 108, 3) := by decide +kernel
theorem dJ5_ensureCapacityInternal_d00df_35 : decode cJ5_ensureCapacityInternal_d00df 35 = .ok (.putfield 15, 3) := by decide +kernel
theorem dJ5_ensureCapacityInternal_d00df_38 : decode cJ5_ensureCapacityInternal_d00df 38 = .ok (.return_, 1) := by decide +kernel
theorem dJ5_newCapacity_0f7a4_0 : decode cJ5_newCapacity_0f7a4 0 = .ok (.aload_n 0, 1) := by decide +kernel
theorem dJ5_newCapacity_0f7a4_1 : decode cJ5_newCapacity_0f7a4 1 = .ok (.getfield 15, 3) := by decide +kernel
theorem dJ5_newCapacity_0f7a4_4 : decode cJ5_newCapacity_0f7a4 4 = .ok (.arraylength, 1) := by decide +kernel
theorem dJ5_newCapacity_0f7a4_5 : decode cJ5_newCapacity_0f7a4 5 = .ok (.istore_n 2, 1) := by decide +kernel
theorem dJ5_newCapacity_0f7a4_6 : decode cJ5_newCapacity_0f7a4 6 = .ok (.iload_n 1, 1) := by decide +kernel
theorem dJ5_newCapacity_0f7a4_7 : decode cJ5_newCapacity_0f7a4 7 = .ok (.aload_n 0, 1) := by decide +kernel
theorem dJ5_newCapacity_0f7a4_8 : decode cJ5_newCapacity_0f7a4 8 = .ok (.getfield 22, 3) := by decide +kernel
theorem dJ5_newCapacity_0f7a4_11 : decode cJ5_newCapacity_0f7a4 11 = .ok (.ishl, 1) := by decide +kernel
theorem dJ5_newCapacity_0f7a4_12 : decode cJ5_newCapacity_0f7a4 12 = .ok (.istore_n 3, 1) := by decide +kernel
theorem dJ5_newCapacity_0f7a4_13 : decode cJ5_newCapacity_0f7a4 13 = .ok (.iload_n 3, 1) := by decide +kernel
theorem dJ5_newCapacity_0f7a4_14 : decode cJ5_newCapacity_0f7a4 14 = .ok (.iload_n 2, 1) := by decide +kernel
theorem dJ5_newCapacity_0f7a4_15 : decode cJ5_newCapacity_0f7a4 15 = .ok (.isub, 1) := by decide +kernel
theorem dJ5_newCapacity_0f7a4_16 : decode cJ5_newCapacity_0f7a4 16 = .ok (.istore 4, 2) := by decide +kernel
theorem dJ5_newCapacity_0f7a4_18 : decode cJ5_newCapacity_0f7a4 18 = .ok (.iload_n 2, 1) := by decide +kernel
theorem dJ5_newCapacity_0f7a4_19 : decode cJ5_newCapacity_0f7a4 19 = .ok (.iload 4, 2) := by decide +kernel
theorem dJ5_newCapacity_0f7a4_21 : decode cJ5_newCapacity_0f7a4 21 = .ok (.iload_n 2, 1) := by decide +kernel
theorem dJ5_newCapacity_0f7a4_22 : decode cJ5_newCapacity_0f7a4 22 = .ok (.iconst 2, 1) := by decide +kernel
theorem dJ5_newCapacity_0f7a4_23 : decode cJ5_newCapacity_0f7a4 23 = .ok (.aload_n 0, 1) := by decide +kernel
theorem dJ5_newCapacity_0f7a4_24 : decode cJ5_newCapacity_0f7a4 24 = .ok (.getfield 22, 3) := by decide +kernel
theorem dJ5_newCapacity_0f7a4_27 : decode cJ5_newCapacity_0f7a4 27 = .ok (.ishl, 1) := by decide +kernel
theorem dJ5_newCapacity_0f7a4_28 : decode cJ5_newCapacity_0f7a4 28 = .ok (.iadd, 1) := by decide +kernel
theorem dJ5_newCapacity_0f7a4_29 : decode cJ5_newCapacity_0f7a4 29 = .ok (.invokestatic 114, 3) := by decide +kernel
theorem dJ5_newCapacity_0f7a4_32 : decode cJ5_newCapacity_0f7a4 32 = .ok (.istore 5, 2) := by decide +kernel
theorem dJ5_newCapacity_0f7a4_34 : decode cJ5_newCapacity_0f7a4 34 = .ok (.iload 5, 2) := by decide +kernel
theorem dJ5_newCapacity_0f7a4_36 : decode cJ5_newCapacity_0f7a4 36 = .ok (.ldc 39, 2) := by decide +kernel
theorem dJ5_newCapacity_0f7a4_38 : decode cJ5_newCapacity_0f7a4 38 = .ok (.if_icmp .ne 13, 3) := by decide +kernel
theorem dJ5_newCapacity_0f7a4_41 : decode cJ5_newCapacity_0f7a4 41 = .ok (.new 120, 3) := by decide +kernel
theorem dJ5_newCapacity_0f7a4_44 : decode cJ5_newCapacity_0f7a4 44 = .ok (.dup, 1) := by decide +kernel
theorem dJ5_newCapacity_0f7a4_45 : decode cJ5_newCapacity_0f7a4 45 = .ok (.ldc 122, 2) := by decide +kernel
theorem dJ5_newCapacity_0f7a4_47 : decode cJ5_newCapacity_0f7a4 47 = .ok (.invokespecial 124, 3) := by decide +kernel
theorem dJ5_newCapacity_0f7a4_50 : decode cJ5_newCapacity_0f7a4 50 = .ok (.athrow, 1) := by decide +kernel
theorem dJ5_newCapacity_0f7a4_51 : decode cJ5_newCapacity_0f7a4 51 = .ok (.iload 5, 2) := by decide +kernel
theorem dJ5_newCapacity_0f7a4_53 : decode cJ5_newCapacity_0f7a4 53 = .ok (.aload_n 0, 1) := by decide +kernel
theorem dJ5_newCapacity_0f7a4_54 : decode cJ5_newCapacity_0f7a4 54 = .ok (.getfield 22, 3) := by decide +kernel
theorem dJ5_newCapacity_0f7a4_57 : decode cJ5_newCapacity_0f7a4 57 = .ok (.ishr, 1) := by decide +kernel
theorem dJ5_newCapacity_0f7a4_58 : decode cJ5_newCapacity_0f7a4 58 = .ok (.ireturn, 1) := by decide +kernel
theorem dJ5_inflate_da8c8_0 : decode cJ5_inflate_da8c8 0 = .ok (.aload_n 0, 1) := by decide +kernel
theorem dJ5_inflate_da8c8_1 : decode cJ5_inflate_da8c8 1 = .ok (.invokevirtual 83, 3) := by decide +kernel
theorem dJ5_inflate_da8c8_4 : decode cJ5_inflate_da8c8 4 = .ok (.ifCond .ne 4, 3) := by decide +kernel
theorem dJ5_inflate_da8c8_7 : decode cJ5_inflate_da8c8 7 = .ok (.return_, 1) := by decide +kernel
theorem dJ5_inflate_da8c8_8 : decode cJ5_inflate_da8c8 8 = .ok (.aload_n 0, 1) := by decide +kernel
theorem dJ5_inflate_da8c8_9 : decode cJ5_inflate_da8c8 9 = .ok (.getfield 15, 3) := by decide +kernel
theorem dJ5_inflate_da8c8_12 : decode cJ5_inflate_da8c8 12 = .ok (.arraylength, 1) := by decide +kernel
theorem dJ5_inflate_da8c8_13 : decode cJ5_inflate_da8c8 13 = .ok (.invokestatic 26, 3) := by decide +kernel
theorem dJ5_inflate_da8c8_16 : decode cJ5_inflate_da8c8 16 = .ok (.astore_n 1, 1) := by decide +kernel
theorem dJ5_inflate_da8c8_17 : decode cJ5_inflate_da8c8 17 = .ok (.aload_n 0, 1) := by decide +kernel
theorem dJ5_inflate_da8c8_18 : decode cJ5_inflate_da8c8 18 = .ok (.getfield 15, 3) := by decide +kernel
theorem dJ5_inflate_da8c8_21 : decode cJ5_inflate_da8c8 21 = .ok (.iconst 0, 1) := by decide +kernel
theorem dJ5_inflate_da8c8_22 : decode cJ5_inflate_da8c8 22 = .ok (.aload_n 1, 1) := by decide +kernel
theorem dJ5_inflate_da8c8_23 : decode cJ5_inflate_da8c8 23 = .ok (.iconst 0, 1) := by decide +kernel
theorem dJ5_inflate_da8c8_24 : decode cJ5_inflate_da8c8 24 = .ok (.aload_n 0, 1) := by decide +kernel
theorem dJ5_inflate_da8c8_25 : decode cJ5_inflate_da8c8 25 = .ok (.getfield 79, 3) := by decide +kernel
theorem dJ5_inflate_da8c8_28 : decode cJ5_inflate_da8c8 28 = .ok (.invokestatic 125, 3) := by decide +kernel
theorem dJ5_inflate_da8c8_31 : decode cJ5_inflate_da8c8 31 = .ok (.aload_n 0, 1) := by decide +kernel
theorem dJ5_inflate_da8c8_32 : decode cJ5_inflate_da8c8 32 = .ok (.aload_n 1, 1) := by decide +kernel
theorem dJ5_inflate_da8c8_33 : decode cJ5_inflate_da8c8 33 = .ok (.putfield 15, 3) := by decide +kernel
theorem dJ5_inflate_da8c8_36 : decode cJ5_inflate_da8c8 36 = .ok (.aload_n 0, 1) := by decide +kernel
theorem dJ5_inflate_da8c8_37 : decode cJ5_inflate_da8c8 37 = .ok (.iconst 1, 1) := by decide +kernel
theorem dJ5_inflate_da8c8_38 : decode cJ5_inflate_da8c8 38 = .ok (.putfield 22, 3) := by decide +kernel
theorem dJ5_inflate_da8c8_41 : decode cJ5_inflate_da8c8 41 = .ok (.return_, 1) := by decide +kernel
theorem dJ5_append_cf1ce_0 : decode cJ5_append_cf1ce 0 = .ok (.aload_n 1, 1) := by decide +kernel
theorem dJ5_append_cf1ce_1 : decode cJ5_append_cf1ce 1 = .ok (.ifnonnull 8, 3) := by decide +kernel
theorem dJ5_append_cf1ce_4 : decode cJ5_append_cf1ce 4 = .ok (.aload_n 0, 1) := by decide +kernel
theorem dJ5_append_cf1ce_5 : decode cJ5_append_cf1ce 5 = .ok (.invokevirtual 204, 3) := by decide +kernel
theorem dJ5_append_cf1ce_8 : decode cJ5_append_cf1ce 8 = .ok (.areturn, 1) := by decide +kernel
theorem dJ5_append_cf1ce_9 : decode cJ5_append_cf1ce 9 = .ok (.aload_n 1, 1) := by decide +kernel
theorem dJ5_append_cf1ce_10 : decode cJ5_append_cf1ce 10 = .ok (.invokevirtual 32, 3) := by decide +kernel
theorem dJ5_append_cf1ce_13 : decode cJ5_append_cf1ce 13 = .ok (.istore_n 2, 1) := by decide +kernel
theorem dJ5_append_cf1ce_14 : decode cJ5_append_cf1ce 14 = .ok (.aload_n 0, 1) := by decide +kernel
theorem dJ5_append_cf1ce_15 : decode cJ5_append_cf1ce 15 = .ok (.aload_n 0, 1) := by decide +kernel
theorem dJ5_append_cf1ce_16 : decode cJ5_append_cf1ce 16 = .ok (.getfield 79, 3) := by decide +kernel
theorem dJ5_append_cf1ce_19 : decode cJ5_append_cf1ce 19 = .ok (.iload_n 2, 1) := by decide +kernel
theorem dJ5_append_cf1ce_20 : decode cJ5_append_cf1ce 20 = .ok (.iadd, 1) := by decide +kernel
theorem dJ5_append_cf1ce_21 : decode cJ5_append_cf1ce 21 = .ok (.invokevirtual 100, 3) := by decide +kernel
theorem dJ5_append_cf1ce_24 : decode cJ5_append_cf1ce 24 = .ok (.aload_n 0, 1) := by decide +kernel
theorem dJ5_append_cf1ce_25 : decode cJ5_append_cf1ce 25 = .ok (.aload_n 0, 1) := by decide +kernel
theorem dJ5_append_cf1ce_26 : decode cJ5_append_cf1ce 26 = .ok (.getfield 79, 3) := by decide +kernel
theorem dJ5_append_cf1ce_29 : decode cJ5_append_cf1ce 29 = .ok (.aload_n 1, 1) := by decide +kernel
theorem dJ5_append_cf1ce_30 : decode cJ5_append_cf1ce 30 = .ok (.invokevirtual 208, 3) := by decide +kernel
theorem dJ5_append_cf1ce_33 : decode cJ5_append_cf1ce 33 = .ok (.aload_n 0, 1) := by decide +kernel
theorem dJ5_append_cf1ce_34 : decode cJ5_append_cf1ce 34 = .ok (.dup, 1) := by decide +kernel
theorem dJ5_append_cf1ce_35 : decode cJ5_append_cf1ce 35 = .ok (.getfield 79, 3) := by decide +kernel
theorem dJ5_append_cf1ce_38 : decode cJ5_append_cf1ce 38 = .ok (.iload_n 2, 1) := by decide +kernel
theorem dJ5_append_cf1ce_39 : decode cJ5_append_cf1ce 39 = .ok (.iadd, 1) := by decide +kernel
theorem dJ5_append_cf1ce_40 : decode cJ5_append_cf1ce 40 = .ok (.putfield 79, 3) := by decide +kernel
theorem dJ5_append_cf1ce_43 : decode cJ5_append_cf1ce 43 = .ok (.aload_n 0, 1) := by decide +kernel
theorem dJ5_append_cf1ce_44 : decode cJ5_append_cf1ce 44 = .ok (.areturn, 1) := by decide +kernel
theorem dJ5_appendNull_278bc_0 : decode cJ5_appendNull_278bc 0 = .ok (.aload_n 0, 1) := by decide +kernel
theorem dJ5_appendNull_278bc_1 : decode cJ5_appendNull_278bc 1 = .ok (.aload_n 0, 1) := by decide +kernel
theorem dJ5_appendNull_278bc_2 : decode cJ5_appendNull_278bc 2 = .ok (.getfield 79, 3) := by decide +kernel
theorem dJ5_appendNull_278bc_5 : decode cJ5_appendNull_278bc 5 = .ok (.iconst 4, 1) := by decide +kernel
theorem dJ5_appendNull_278bc_6 : decode cJ5_appendNull_278bc 6 = .ok (.iadd, 1) := by decide +kernel
theorem dJ5_appendNull_278bc_7 : decode cJ5_appendNull_278bc 7 = .ok (.invokevirtual 100, 3) := by decide +kernel
theorem dJ5_appendNull_278bc_10 : decode cJ5_appendNull_278bc 10 = .ok (.aload_n 0, 1) := by decide +kernel
theorem dJ5_appendNull_278bc_11 : decode cJ5_appendNull_278bc 11 = .ok (.getfield 79, 3) := by decide +kernel
theorem dJ5_appendNull_278bc_14 : decode cJ5_appendNull_278bc 14 = .ok (.istore_n 1, 1) := by decide +kernel
theorem dJ5_appendNull_278bc_15 : decode cJ5_appendNull_278bc 15 = .ok (.aload_n 0, 1) := by decide +kernel
theorem dJ5_appendNull_278bc_16 : decode cJ5_appendNull_278bc 16 = .ok (.getfield 15, 3) := by decide +kernel
theorem dJ5_appendNull_278bc_19 : decode cJ5_appendNull_278bc 19 = .ok (.astore_n 2, 1) := by decide +kernel
theorem dJ5_appendNull_278bc_20 : decode cJ5_appendNull_278bc 20 = .ok (.aload_n 0, 1) := by decide +kernel
theorem dJ5_appendNull_278bc_21 : decode cJ5_appendNull_278bc 21 = .ok (.invokevirtual 83, 3) := by decide +kernel
theorem dJ5_appendNull_278bc_24 : decode cJ5_appendNull_278bc 24 = .ok (.ifCond .eq 38, 3) := by decide +kernel
theorem dJ5_appendNull_278bc_27 : decode cJ5_appendNull_278bc 27 = .ok (.aload_n 2, 1) := by decide +kernel
theorem dJ5_appendNull_278bc_28 : decode cJ5_appendNull_278bc 28 = .ok (.iload_n 1, 1) := by decide +kernel
theorem dJ5_appendNull_278bc_29 : decode cJ5_appendNull_278bc 29 = .ok (.iinc 1 1, 3) := by decide +kernel
theorem dJ5_appendNull_278bc_32 : decode cJ5_appendNull_278bc 32 = .ok (.bipush 110, 2) := by decide +kernel
theorem dJ5_appendNull_278bc_34 : decode cJ5_appendNull_278bc 34 = .ok (.bastore, 1) := by decide +kernel
theorem dJ5_appendNull_278bc_35 : decode cJ5_appendNull_278bc 35 = .ok (.aload_n 2, 1) := by decide +kernel
theorem dJ5_appendNull_278bc_36 : decode cJ5_appendNull_278bc 36 = .ok (.iload_n 1, 1) := by decide +kernel
theorem dJ5_appendNull_278bc_37 : decode cJ5_appendNull_278bc 37 = .ok (.iinc 1 1, 3) := by decide +kernel
theorem dJ5_appendNull_278bc_40 : decode cJ5_appendNull_278bc 40 = .ok (.bipush 117, 2) := by decide +kernel
theorem dJ5_appendNull_278bc_42 : decode cJ5_appendNull_278bc 42 = .ok (.bastore, 1) := by decide +kernel
theorem dJ5_appendNull_278bc_43 : decode cJ5_appendNull_278bc 43 = .ok (.aload_n 2, 1) := by decide +kernel
theorem dJ5_appendNull_278bc_44 : decode cJ5_appendNull_278bc 44 = .ok (.iload_n 1, 1) := by decide +kernel
theorem dJ5_appendNull_278bc_45 : decode cJ5_appendNull_278bc 45 = .ok (.iinc 1 1, 3) := by decide +kernel
theorem dJ5_appendNull_278bc_48 : decode cJ5_appendNull_278bc 48 = .ok (.bipush 108, 2) := by decide +kernel
theorem dJ5_appendNull_278bc_50 : decode cJ5_appendNull_278bc 50 = .ok (.bastore, 1) := by decide +kernel
theorem dJ5_appendNull_278bc_51 : decode cJ5_appendNull_278bc 51 = .ok (.aload_n 2, 1) := by decide +kernel
theorem dJ5_appendNull_278bc_52 : decode cJ5_appendNull_278bc 52 = .ok (.iload_n 1, 1) := by decide +kernel
theorem dJ5_appendNull_278bc_53 : decode cJ5_appendNull_278bc 53 = .ok (.iinc 1 1, 3) := by decide +kernel
theorem dJ5_appendNull_278bc_56 : decode cJ5_appendNull_278bc 56 = .ok (.bipush 108, 2) := by decide +kernel
theorem dJ5_appendNull_278bc_58 : decode cJ5_appendNull_278bc 58 = .ok (.bastore, 1) := by decide +kernel
theorem dJ5_appendNull_278bc_59 : decode cJ5_appendNull_278bc 59 = .ok (.goto 17, 3) := by decide +kernel
theorem dJ5_appendNull_278bc_62 : decode cJ5_appendNull_278bc 62 = .ok (.aload_n 2, 1) := by decide +kernel
theorem dJ5_appendNull_278bc_63 : decode cJ5_appendNull_278bc 63 = .ok (.iload_n 1, 1) := by decide +kernel
theorem dJ5_appendNull_278bc_64 : decode cJ5_appendNull_278bc 64 = .ok (.bipush 110, 2) := by decide +kernel
theorem dJ5_appendNull_278bc_66 : decode cJ5_appendNull_278bc 66 = .ok (.bipush 117, 2) := by decide +kernel
theorem dJ5_appendNull_278bc_68 : decode cJ5_appendNull_278bc 68 = .ok (.bipush 108, 2) := by decide +kernel
theorem dJ5_appendNull_278bc_70 : decode cJ5_appendNull_278bc 70 = .ok (.bipush 108, 2) := by decide +kernel
theorem dJ5_appendNull_278bc_72 : decode cJ5_appendNull_278bc 72 = .ok (.invokestatic 226, 3) := by decide +kernel
theorem dJ5_appendNull_278bc_75 : decode cJ5_appendNull_278bc 75 = .ok (.istore_n 1, 1) := by decide +kernel
theorem dJ5_appendNull_278bc_76 : decode cJ5_appendNull_278bc 76 = .ok (.aload_n 0, 1) := by decide +kernel
theorem dJ5_appendNull_278bc_77 : decode cJ5_appendNull_278bc 77 = .ok (.iload_n 1, 1) := by decide +kernel
theorem dJ5_appendNull_278bc_78 : decode cJ5_appendNull_278bc 78 = .ok (.putfield 79, 3) := by decide +kernel
theorem dJ5_appendNull_278bc_81 : decode cJ5_appendNull_278bc 81 = .ok (.aload_n 0, 1) := by decide +kernel
theorem dJ5_appendNull_278bc_82 : decode cJ5_appendNull_278bc 82 = .ok (.areturn, 1) := by decide +kernel
theorem dJ5_append_3fe6f_0 : decode cJ5_append_3fe6f 0 = .ok (.aload_n 0, 1) := by decide +kernel
theorem dJ5_append_3fe6f_1 : decode cJ5_append_3fe6f 1 = .ok (.aload_n 0, 1) := by decide +kernel
theorem dJ5_append_3fe6f_2 : decode cJ5_append_3fe6f 2 = .ok (.getfield 79, 3) := by decide +kernel
theorem dJ5_append_3fe6f_5 : decode cJ5_append_3fe6f 5 = .ok (.iconst 1, 1) := by decide +kernel
theorem dJ5_append_3fe6f_6 : decode cJ5_append_3fe6f 6 = .ok (.iadd, 1) := by decide +kernel
theorem dJ5_append_3fe6f_7 : decode cJ5_append_3fe6f 7 = .ok (.invokevirtual 100, 3) := by decide +kernel
theorem dJ5_append_3fe6f_10 : decode cJ5_append_3fe6f 10 = .ok (.aload_n 0, 1) := by decide +kernel
theorem dJ5_append_3fe6f_11 : decode cJ5_append_3fe6f 11 = .ok (.invokevirtual 83, 3) := by decide +kernel
theorem dJ5_append_3fe6f_14 : decode cJ5_append_3fe6f 14 = .ok (.ifCond .eq 31, 3) := by decide +kernel
theorem dJ5_append_3fe6f_17 : decode cJ5_append_3fe6f 17 = .ok (.iload_n 1, 1) := by decide +kernel
theorem dJ5_append_3fe6f_18 : decode cJ5_append_3fe6f 18 = .ok (.invokestatic 191, 3) := by decide +kernel
theorem dJ5_append_3fe6f_21 : decode cJ5_append_3fe6f 21 = .ok (.ifCond .eq 24, 3) := by decide +kernel
theorem dJ5_append_3fe6f_24 : decode cJ5_append_3fe6f 24 = .ok (.aload_n 0, 1) := by decide +kernel
theorem dJ5_append_3fe6f_25 : decode cJ5_append_3fe6f 25 = .ok (.getfield 15, 3) := by decide +kernel
theorem dJ5_append_3fe6f_28 : decode cJ5_append_3fe6f 28 = .ok (.aload_n 0, 1) := by decide +kernel
theorem dJ5_append_3fe6f_29 : decode cJ5_append_3fe6f 29 = .ok (.dup, 1) := by decide +kernel
theorem dJ5_append_3fe6f_30 : decode cJ5_append_3fe6f 30 = .ok (.getfield 79, 3) := by decide +kernel
theorem dJ5_append_3fe6f_33 : decode cJ5_append_3fe6f 33 = .ok (.dup_x1, 1) := by decide +kernel
theorem dJ5_append_3fe6f_34 : decode cJ5_append_3fe6f 34 = .ok (.iconst 1, 1) := by decide +kernel
theorem dJ5_append_3fe6f_35 : decode cJ5_append_3fe6f 35 = .ok (.iadd, 1) := by decide +kernel
theorem dJ5_append_3fe6f_36 : decode cJ5_append_3fe6f 36 = .ok (.putfield 79, 3) := by decide +kernel
theorem dJ5_append_3fe6f_39 : decode cJ5_append_3fe6f 39 = .ok (.iload_n 1, 1) := by decide +kernel
theorem dJ5_append_3fe6f_40 : decode cJ5_append_3fe6f 40 = .ok (.i2b, 1) := by decide +kernel
theorem dJ5_append_3fe6f_41 : decode cJ5_append_3fe6f 41 = .ok (.bastore, 1) := by decide +kernel
theorem dJ5_append_3fe6f_42 : decode cJ5_append_3fe6f 42 = .ok (.goto 33, 3) := by decide +kernel
theorem dJ5_append_3fe6f_45 : decode cJ5_append_3fe6f 45 = .ok (.aload_n 0, 1) := by decide +kernel
theorem dJ5_append_3fe6f_46 : decode cJ5_append_3fe6f 46 = .ok (.invokevirtual 83, 3) := by decide +kernel
theorem dJ5_append_3fe6f_49 : decode cJ5_append_3fe6f 49 = .ok (.ifCond .eq 7, 3) := by decide +kernel
theorem dJ5_append_3fe6f_52 : decode cJ5_append_3fe6f 52 = .ok (.aload_n 0, 1) := by decide +kernel
theorem dJ5_append_3fe6f_53 : decode cJ5_append_3fe6f 53 = .ok (.invokevirtual 195, 3) := by decide +kernel
theorem dJ5_append_3fe6f_56 : decode cJ5_append_3fe6f 56 = .ok (.aload_n 0, 1) := by decide +kernel
theorem dJ5_append_3fe6f_57 : decode cJ5_append_3fe6f 57 = .ok (.getfield 15, 3) := by decide +kernel
theorem dJ5_append_3fe6f_60 : decode cJ5_append_3fe6f 60 = .ok (.aload_n 0, 1) := by decide +kernel
theorem dJ5_append_3fe6f_61 : decode cJ5_append_3fe6f 61 = .ok (.dup, 1) := by decide +kernel
theorem dJ5_append_3fe6f_62 : decode cJ5_append_3fe6f 62 = .ok (.getfield 79, 3) := by decide +kernel
theorem dJ5_append_3fe6f_65 : decode cJ5_append_3fe6f 65 = .ok (.dup_x1, 1) := by decide +kernel
theorem dJ5_append_3fe6f_66 : decode cJ5_append_3fe6f 66 = .ok (.iconst 1, 1) := by decide +kernel
theorem dJ5_append_3fe6f_67 : decode cJ5_append_3fe6f 67 = .ok (.iadd, 1) := by decide +kernel
theorem dJ5_append_3fe6f_68 : decode cJ5_append_3fe6f 68 = .ok (.putfield 79, 3) := by decide +kernel
theorem dJ5_append_3fe6f_71 : decode cJ5_append_3fe6f 71 = .ok (.iload_n 1, 1) := by decide +kernel
theorem dJ5_append_3fe6f_72 : decode cJ5_append_3fe6f 72 = .ok (.invokestatic 197, 3) := by decide +kernel
theorem dJ5_append_3fe6f_75 : decode cJ5_append_3fe6f 75 = .ok (.aload_n 0, 1) := by decide +kernel
theorem dJ5_append_3fe6f_76 : decode cJ5_append_3fe6f 76 = .ok (.areturn, 1) := by decide +kernel
theorem dJ5_append_c97b9_0 : decode cJ5_append_c97b9 0 = .ok (.aload_n 0, 1) := by decide +kernel
theorem dJ5_append_c97b9_1 : decode cJ5_append_c97b9 1 = .ok (.getfield 79, 3) := by decide +kernel
theorem dJ5_append_c97b9_4 : decode cJ5_append_c97b9 4 = .ok (.istore_n 2, 1) := by decide +kernel
theorem dJ5_append_c97b9_5 : decode cJ5_append_c97b9 5 = .ok (.iload_n 2, 1) := by decide +kernel
theorem dJ5_append_c97b9_6 : decode cJ5_append_c97b9 6 = .ok (.iload_n 1, 1) := by decide +kernel
theorem dJ5_append_c97b9_7 : decode cJ5_append_c97b9 7 = .ok (.invokestatic 245, 3) := by decide +kernel
theorem dJ5_append_c97b9_10 : decode cJ5_append_c97b9 10 = .ok (.iadd, 1) := by decide +kernel
theorem dJ5_append_c97b9_11 : decode cJ5_append_c97b9 11 = .ok (.istore_n 3, 1) := by decide +kernel
theorem dJ5_append_c97b9_12 : decode cJ5_append_c97b9 12 = .ok (.aload_n 0, 1) := by decide +kernel
theorem dJ5_append_c97b9_13 : decode cJ5_append_c97b9 13 = .ok (.iload_n 3, 1) := by decide +kernel
theorem dJ5_append_c97b9_14 : decode cJ5_append_c97b9 14 = .ok (.invokevirtual 100, 3) := by decide +kernel
theorem dJ5_append_c97b9_17 : decode cJ5_append_c97b9 17 = .ok (.aload_n 0, 1) := by decide +kernel
theorem dJ5_append_c97b9_18 : decode cJ5_append_c97b9 18 = .ok (.invokevirtual 83, 3) := by decide +kernel
theorem dJ5_append_c97b9_21 : decode cJ5_append_c97b9 21 = .ok (.ifCond .eq 16, 3) := by decide +kernel
theorem dJ5_append_c97b9_24 : decode cJ5_append_c97b9 24 = .ok (.iload_n 1, 1) := by decide +kernel
theorem dJ5_append_c97b9_25 : decode cJ5_append_c97b9 25 = .ok (.iload_n 3, 1) := by decide +kernel
theorem dJ5_append_c97b9_26 : decode cJ5_append_c97b9 26 = .ok (.aload_n 0, 1) := by decide +kernel
theorem dJ5_append_c97b9_27 : decode cJ5_append_c97b9 27 = .ok (.getfield 15, 3) := by decide +kernel
theorem dJ5_append_c97b9_30 : decode cJ5_append_c97b9 30 = .ok (.invokestatic 248, 3) := by decide +kernel
theorem dJ5_append_c97b9_33 : decode cJ5_append_c97b9 33 = .ok (.pop, 1) := by decide +kernel
theorem dJ5_append_c97b9_34 : decode cJ5_append_c97b9 34 = .ok (.goto 14, 3) := by decide +kernel
theorem dJ5_append_c97b9_37 : decode cJ5_append_c97b9 37 = .ok (.iload_n 1, 1) := by decide +kernel
theorem dJ5_append_c97b9_38 : decode cJ5_append_c97b9 38 = .ok (.iload_n 2, 1) := by decide +kernel
theorem dJ5_append_c97b9_39 : decode cJ5_append_c97b9 39 = .ok (.iload_n 3, 1) := by decide +kernel
theorem dJ5_append_c97b9_40 : decode cJ5_append_c97b9 40 = .ok (.aload_n 0, 1) := by decide +kernel
theorem dJ5_append_c97b9_41 : decode cJ5_append_c97b9 41 = .ok (.getfield 15, 3) := by decide +kernel
theorem dJ5_append_c97b9_44 : decode cJ5_append_c97b9 44 = .ok (.invokestatic 251, 3) := by decide +kernel
theorem dJ5_append_c97b9_47 : decode cJ5_append_c97b9 47 = .ok (.pop, 1) := by decide +kernel
theorem dJ5_append_c97b9_48 : decode cJ5_append_c97b9 48 = .ok (.aload_n 0, 1) := by decide +kernel
theorem dJ5_append_c97b9_49 : decode cJ5_append_c97b9 49 = .ok (.iload_n 3, 1) := by decide +kernel
theorem dJ5_append_c97b9_50 : decode cJ5_append_c97b9 50 = .ok (.putfield 79, 3) := by decide +kernel
theorem dJ5_append_c97b9_53 : decode cJ5_append_c97b9 53 = .ok (.aload_n 0, 1) := by decide +kernel
theorem dJ5_append_c97b9_54 : decode cJ5_append_c97b9 54 = .ok (.areturn, 1) := by decide +kernel
theorem dJ5_getValue_6d5f1_0 : decode cJ5_getValue_6d5f1 0 = .ok (.aload_n 0, 1) := by decide +kernel
theorem dJ5_getValue_6d5f1_1 : decode cJ5_getValue_6d5f1 1 = .ok (.getfield 15, 3) := by decide +kernel
theorem dJ5_getValue_6d5f1_4 : decode cJ5_getValue_6d5f1 4 = .ok (.areturn, 1) := by decide +kernel
theorem dJ5_isLatin1_aae02_0 : decode cJ5_isLatin1_aae02 0 = .ok (.getstatic 18, 3) := by decide +kernel
theorem dJ5_isLatin1_aae02_3 : decode cJ5_isLatin1_aae02 3 = .ok (.ifCond .eq 14, 3) := by decide +kernel
theorem dJ5_isLatin1_aae02_6 : decode cJ5_isLatin1_aae02 6 = .ok (.aload_n 0, 1) := by decide +kernel
theorem dJ5_isLatin1_aae02_7 : decode cJ5_isLatin1_aae02 7 = .ok (.getfield 22, 3) := by decide +kernel
theorem dJ5_isLatin1_aae02_10 : decode cJ5_isLatin1_aae02 10 = .ok (.ifCond .ne 7, 3) := by decide +kernel
theorem dJ5_isLatin1_aae02_13 : decode cJ5_isLatin1_aae02 13 = .ok (.iconst 1, 1) := by decide +kernel
theorem dJ5_isLatin1_aae02_14 : decode cJ5_isLatin1_aae02 14 = .ok (.goto 4, 3) := by decide +kernel
theorem dJ5_isLatin1_aae02_17 : decode cJ5_isLatin1_aae02 17 = .ok (.iconst 0, 1) := by decide +kernel
theorem dJ5_isLatin1_aae02_18 : decode cJ5_isLatin1_aae02 18 = .ok (.ireturn, 1) := by decide +kernel
theorem dJ5_inflateIfNeededFor_a7421_0 : decode cJ5_inflateIfNeededFor_a7421 0 = .ok (.getstatic 18, 3) := by decide +kernel
theorem dJ5_inflateIfNeededFor_a7421_3 : decode cJ5_inflateIfNeededFor_a7421 3 = .ok (.ifCond .eq 18, 3) := by decide +kernel
theorem dJ5_inflateIfNeededFor_a7421_6 : decode cJ5_inflateIfNeededFor_a7421 6 = .ok (.aload_n 0, 1) := by decide +kernel
theorem dJ5_inflateIfNeededFor_a7421_7 : decode cJ5_inflateIfNeededFor_a7421 7 = .ok (.getfield 22, 3) := by decide +kernel
theorem dJ5_inflateIfNeededFor_a7421_10 : decode cJ5_inflateIfNeededFor_a7421 10 = .ok (.aload_n 1, 1) := by decide +kernel
theorem dJ5_inflateIfNeededFor_a7421_11 : decode cJ5_inflateIfNeededFor_a7421 11 = .ok (.invokevirtual 40, 3) := by decide +kernel
theorem dJ5_inflateIfNeededFor_a7421_14 : decode cJ5_inflateIfNeededFor_a7421 14 = .ok (.if_icmp .eq 7, 3) := by decide +kernel
theorem dJ5_inflateIfNeededFor_a7421_17 : decode cJ5_inflateIfNeededFor_a7421 17 = .ok (.aload_n 0, 1) := by decide +kernel
theorem dJ5_inflateIfNeededFor_a7421_18 : decode cJ5_inflateIfNeededFor_a7421 18 = .ok (.invokevirtual 195, 3) := by decide +kernel
theorem dJ5_inflateIfNeededFor_a7421_21 : decode cJ5_inflateIfNeededFor_a7421 21 = .ok (.return_, 1) := by decide +kernel
theorem dJ5_putStringAt_47b60_0 : decode cJ5_putStringAt_47b60 0 = .ok (.aload_n 0, 1) := by decide +kernel
theorem dJ5_putStringAt_47b60_1 : decode cJ5_putStringAt_47b60 1 = .ok (.aload_n 2, 1) := by decide +kernel
theorem dJ5_putStringAt_47b60_2 : decode cJ5_putStringAt_47b60 2 = .ok (.invokevirtual 397, 3) := by decide +kernel
theorem dJ5_putStringAt_47b60_5 : decode cJ5_putStringAt_47b60 5 = .ok (.aload_n 2, 1) := by decide +kernel
theorem dJ5_putStringAt_47b60_6 : decode cJ5_putStringAt_47b60 6 = .ok (.aload_n 0, 1) := by decide +kernel
theorem dJ5_putStringAt_47b60_7 : decode cJ5_putStringAt_47b60 7 = .ok (.getfield 15, 3) := by decide +kernel
theorem dJ5_putStringAt_47b60_10 : decode cJ5_putStringAt_47b60 10 = .ok (.iload_n 1, 1) := by decide +kernel
theorem dJ5_putStringAt_47b60_11 : decode cJ5_putStringAt_47b60 11 = .ok (.aload_n 0, 1) := by decide +kernel
theorem dJ5_putStringAt_47b60_12 : decode cJ5_putStringAt_47b60 12 = .ok (.getfield 22, 3) := by decide +kernel
theorem dJ5_putStringAt_47b60_15 : decode cJ5_putStringAt_47b60 15 = .ok (.invokevirtual 399, 3) := by decide +kernel
theorem dJ5_putStringAt_47b60_18 : decode cJ5_putStringAt_47b60 18 = .ok (.return_, 1) := by decide +kernel
theorem dJ6_getChars_ba4f3_0 : decode cJ6_getChars_ba4f3 0 = .ok (.iload_n 1, 1) := by decide +kernel
theorem dJ6_getChars_ba4f3_1 : decode cJ6_getChars_ba4f3 1 = .ok (.istore 5, 2) := by decide +kernel
theorem dJ6_getChars_ba4f3_3 : decode cJ6_getChars_ba4f3 3 = .ok (.iload_n 0, 1) := by decide +kernel
theorem dJ6_getChars_ba4f3_4 : decode cJ6_getChars_ba4f3 4 = .ok (.ifCond .ge 7, 3) := by decide +kernel
theorem dJ6_getChars_ba4f3_7 : decode cJ6_getChars_ba4f3 7 = .ok (.iconst 1, 1) := by decide +kernel
theorem dJ6_getChars_ba4f3_8 : decode cJ6_getChars_ba4f3 8 = .ok (.goto 4, 3) := by decide +kernel
theorem dJ6_getChars_ba4f3_11 : decode cJ6_getChars_ba4f3 11 = .ok (.iconst 0, 1) := by decide +kernel
theorem dJ6_getChars_ba4f3_12 : decode cJ6_getChars_ba4f3 12 = .ok (.istore 6, 2) := by decide +kernel
theorem dJ6_getChars_ba4f3_14 : decode cJ6_getChars_ba4f3 14 = .ok (.iload 6, 2) := by decide +kernel
theorem dJ6_getChars_ba4f3_16 : decode cJ6_getChars_ba4f3 16 = .ok (.ifCond .ne 6, 3) := by decide +kernel
theorem dJ6_getChars_ba4f3_19 : decode cJ6_getChars_ba4f3 19 = .ok (.iload_n 0, 1) := by decide +kernel
theorem dJ6_getChars_ba4f3_20 : decode cJ6_getChars_ba4f3 20 = .ok (.ineg, 1) := by decide +kernel
theorem dJ6_getChars_ba4f3_21 : decode cJ6_getChars_ba4f3 21 = .ok (.istore_n 0, 1) := by decide +kernel
theorem dJ6_getChars_ba4f3_22 : decode cJ6_getChars_ba4f3 22 = .ok (.iload_n 0, 1) := by decide +kernel
theorem dJ6_getChars_ba4f3_23 : decode cJ6_getChars_ba4f3 23 = .ok (.bipush (-100), 2) := by decide +kernel
theorem dJ6_getChars_ba4f3_25 : decode cJ6_getChars_ba4f3 25 = .ok (.if_icmp .gt 47, 3) := by decide +kernel
theorem dJ6_getChars_ba4f3_28 : decode cJ6_getChars_ba4f3 28 = .ok (.iload_n 0, 1) := by decide +kernel
theorem dJ6_getChars_ba4f3_29 : decode cJ6_getChars_ba4f3 29 = .ok (.bipush 100, 2) := by decide +kernel
theorem dJ6_getChars_ba4f3_31 : decode cJ6_getChars_ba4f3 31 = .ok (.idiv, 1) := by decide +kernel
theorem dJ6_getChars_ba4f3_32 : decode cJ6_getChars_ba4f3 32 = .ok (.istore_n 3, 1) := by decide +kernel
theorem dJ6_getChars_ba4f3_33 : decode cJ6_getChars_ba4f3 33 = .ok (.iload_n 3, 1) := by decide +kernel
theorem dJ6_getChars_ba4f3_34 : decode cJ6_getChars_ba4f3 34 = .ok (.bipush 100, 2) := by decide +kernel
theorem dJ6_getChars_ba4f3_36 : decode cJ6_getChars_ba4f3 36 = .ok (.imul, 1) := by decide +kernel
theorem dJ6_getChars_ba4f3_37 : decode cJ6_getChars_ba4f3 37 = .ok (.iload_n 0, 1) := by decide +kernel
theorem dJ6_getChars_ba4f3_38 : decode cJ6_getChars_ba4f3 38 = .ok (.isub, 1) := by decide +kernel
theorem dJ6_getChars_ba4f3_39 : decode cJ6_getChars_ba4f3 39 = .ok (.istore 4, 2) := by decide +kernel
theorem dJ6_getChars_ba4f3_41 : decode cJ6_getChars_ba4f3 41 = .ok (.iload_n 3, 1) := by decide +kernel
theorem dJ6_getChars_ba4f3_42 : decode cJ6_getChars_ba4f3 42 = .ok (.istore_n 0, 1) := by decide +kernel
theorem dJ6_getChars_ba4f3_43 : decode cJ6_getChars_ba4f3 43 = .ok (.aload_n 2, 1) := by decide +kernel
theorem dJ6_getChars_ba4f3_44 : decode cJ6_getChars_ba4f3 44 = .ok (.iinc 5 (-1), 3) := by decide +kernel
theorem dJ6_getChars_ba4f3_47 : decode cJ6_getChars_ba4f3 47 = .ok (.iload 5, 2) := by decide +kernel
theorem dJ6_getChars_ba4f3_49 : decode cJ6_getChars_ba4f3 49 = .ok (.getstatic 83, 3) := by decide +kernel
theorem dJ6_getChars_ba4f3_52 : decode cJ6_getChars_ba4f3 52 = .ok (.iload 4, 2) := by decide +kernel
theorem dJ6_getChars_ba4f3_54 : decode cJ6_getChars_ba4f3 54 = .ok (.baload, 1) := by decide +kernel
theorem dJ6_getChars_ba4f3_55 : decode cJ6_getChars_ba4f3 55 = .ok (.bastore, 1) := by decide +kernel
theorem dJ6_getChars_ba4f3_56 : decode cJ6_getChars_ba4f3 56 = .ok (.aload_n 2, 1) := by decide +kernel
theorem dJ6_getChars_ba4f3_57 : decode cJ6_getChars_ba4f3 57 = .ok (.iinc 5 (-1), 3) := by decide +kernel
theorem dJ6_getChars_ba4f3_60 : decode cJ6_getChars_ba4f3 60 = .ok (.iload 5, 2) := by decide +kernel
theorem dJ6_getChars_ba4f3_62 : decode cJ6_getChars_ba4f3 62 = .ok (.getstatic 87, 3) := by decide +kernel
theorem dJ6_getChars_ba4f3_65 : decode cJ6_getChars_ba4f3 65 = .ok (.iload 4, 2) := by decide +kernel
theorem dJ6_getChars_ba4f3_67 : decode cJ6_getChars_ba4f3 67 = .ok (.baload, 1) := by decide +kernel
theorem dJ6_getChars_ba4f3_68 : decode cJ6_getChars_ba4f3 68 = .ok (.bastore, 1) := by decide +kernel
theorem dJ6_getChars_ba4f3_69 : decode cJ6_getChars_ba4f3 69 = .ok (.goto (-47), 3) := by decide +kernel
theorem dJ6_getChars_ba4f3_72 : decode cJ6_getChars_ba4f3 72 = .ok (.aload_n 2, 1) := by decide +kernel
theorem dJ6_getChars_ba4f3_73 : decode cJ6_getChars_ba4f3 73 = .ok (.iinc 5 (-1), 3) := by decide +kernel
theorem dJ6_getChars_ba4f3_76 : decode cJ6_getChars_ba4f3 76 = .ok (.iload 5, 2) := by decide +kernel
theorem dJ6_getChars_ba4f3_78 : decode cJ6_getChars_ba4f3 78 = .ok (.getstatic 83, 3) := by decide +kernel
theorem dJ6_getChars_ba4f3_81 : decode cJ6_getChars_ba4f3 81 = .ok (.iload_n 0, 1) := by decide +kernel
theorem dJ6_getChars_ba4f3_82 : decode cJ6_getChars_ba4f3 82 = .ok (.ineg, 1) := by decide +kernel
theorem dJ6_getChars_ba4f3_83 : decode cJ6_getChars_ba4f3 83 = .ok (.baload, 1) := by decide +kernel
theorem dJ6_getChars_ba4f3_84 : decode cJ6_getChars_ba4f3 84 = .ok (.bastore, 1) := by decide +kernel
theorem dJ6_getChars_ba4f3_85 : decode cJ6_getChars_ba4f3 85 = .ok (.iload_n 0, 1) := by decide +kernel
theorem dJ6_getChars_ba4f3_86 : decode cJ6_getChars_ba4f3 86 = .ok (.bipush (-9), 2) := by decide +kernel
theorem dJ6_getChars_ba4f3_88 : decode cJ6_getChars_ba4f3 88 = .ok (.if_icmp .ge 16, 3) := by decide +kernel
theorem dJ6_getChars_ba4f3_91 : decode cJ6_getChars_ba4f3 91 = .ok (.aload_n 2, 1) := by decide +kernel
theorem dJ6_getChars_ba4f3_92 : decode cJ6_getChars_ba4f3 92 = .ok (.iinc 5 (-1), 3) := by decide +kernel
theorem dJ6_getChars_ba4f3_95 : decode cJ6_getChars_ba4f3 95 = .ok (.iload 5, 2) := by decide +kernel
theorem dJ6_getChars_ba4f3_97 : decode cJ6_getChars_ba4f3 97 = .ok (.getstatic 87, 3) := by decide +kernel
theorem dJ6_getChars_ba4f3_100 : decode cJ6_getChars_ba4f3 100 = .ok (.iload_n 0, 1) := by decide +kernel
theorem dJ6_getChars_ba4f3_101 : decode cJ6_getChars_ba4f3 101 = .ok (.ineg, 1) := by decide +kernel
theorem dJ6_getChars_ba4f3_102 : decode cJ6_getChars_ba4f3 102 = .ok (.baload, 1) := by decide +kernel
theorem dJ6_getChars_ba4f3_103 : decode cJ6_getChars_ba4f3 103 = .ok (.bastore, 1) := by decide +kernel
theorem dJ6_getChars_ba4f3_104 : decode cJ6_getChars_ba4f3 104 = .ok (.iload 6, 2) := by decide +kernel
theorem dJ6_getChars_ba4f3_106 : decode cJ6_getChars_ba4f3 106 = .ok (.ifCond .eq 12, 3) := by decide +kernel
theorem dJ6_getChars_ba4f3_109 : decode cJ6_getChars_ba4f3 109 = .ok (.aload_n 2, 1) := by decide +kernel
theorem dJ6_getChars_ba4f3_110 : decode cJ6_getChars_ba4f3 110 = .ok (.iinc 5 (-1), 3) := by decide +kernel
theorem dJ6_getChars_ba4f3_113 : decode cJ6_getChars_ba4f3 113 = .ok (.iload 5, 2) := by decide +kernel
theorem dJ6_getChars_ba4f3_115 : decode cJ6_getChars_ba4f3 115 = .ok (.bipush 45, 2) := by decide +kernel
theorem dJ6_getChars_ba4f3_117 : decode cJ6_getChars_ba4f3 117 = .ok (.bastore, 1) := by decide +kernel
theorem dJ6_getChars_ba4f3_118 : decode cJ6_getChars_ba4f3 118 = .ok (.iload 5, 2) := by decide +kernel
theorem dJ6_getChars_ba4f3_120 : decode cJ6_getChars_ba4f3 120 = .ok (.ireturn, 1) := by decide +kernel
theorem dJ6_stringSize_0f7a4_0 : decode cJ6_stringSize_0f7a4 0 = .ok (.iconst 1, 1) := by decide +kernel
theorem dJ6_stringSize_0f7a4_1 : decode cJ6_stringSize_0f7a4 1 = .ok (.istore_n 1, 1) := by decide +kernel
theorem dJ6_stringSize_0f7a4_2 : decode cJ6_stringSize_0f7a4 2 = .ok (.iload_n 0, 1) := by decide +kernel
theorem dJ6_stringSize_0f7a4_3 : decode cJ6_stringSize_0f7a4 3 = .ok (.ifCond .lt 8, 3) := by decide +kernel
theorem dJ6_stringSize_0f7a4_6 : decode cJ6_stringSize_0f7a4 6 = .ok (.iconst 0, 1) := by decide +kernel
theorem dJ6_stringSize_0f7a4_7 : decode cJ6_stringSize_0f7a4 7 = .ok (.istore_n 1, 1) := by decide +kernel
theorem dJ6_stringSize_0f7a4_8 : decode cJ6_stringSize_0f7a4 8 = .ok (.iload_n 0, 1) := by decide +kernel
theorem dJ6_stringSize_0f7a4_9 : decode cJ6_stringSize_0f7a4 9 = .ok (.ineg, 1) := by decide +kernel
theorem dJ6_stringSize_0f7a4_10 : decode cJ6_stringSize_0f7a4 10 = .ok (.istore_n 0, 1) := by decide +kernel
theorem dJ6_stringSize_0f7a4_11 : decode cJ6_stringSize_0f7a4 11 = .ok (.bipush (-10), 2) := by decide +kernel
theorem dJ6_stringSize_0f7a4_13 : decode cJ6_stringSize_0f7a4 13 = .ok (.istore_n 2, 1) := by decide +kernel
theorem dJ6_stringSize_0f7a4_14 : decode cJ6_stringSize_0f7a4 14 = .ok (.iconst 1, 1) := by decide +kernel
theorem dJ6_stringSize_0f7a4_15 : decode cJ6_stringSize_0f7a4 15 = .ok (.istore_n 3, 1) := by decide +kernel
theorem dJ6_stringSize_0f7a4_16 : decode cJ6_stringSize_0f7a4 16 = .ok (.iload_n 3, 1) := by decide +kernel
theorem dJ6_stringSize_0f7a4_17 : decode cJ6_stringSize_0f7a4 17 = .ok (.bipush 10, 2) := by decide +kernel
theorem dJ6_stringSize_0f7a4_19 : decode cJ6_stringSize_0f7a4 19 = .ok (.if_icmp .ge 23, 3) := by decide +kernel
theorem dJ6_stringSize_0f7a4_22 : decode cJ6_stringSize_0f7a4 22 = .ok (.iload_n 0, 1) := by decide +kernel
theorem dJ6_stringSize_0f7a4_23 : decode cJ6_stringSize_0f7a4 23 = .ok (.iload_n 2, 1) := by decide +kernel
theorem dJ6_stringSize_0f7a4_24 : decode cJ6_stringSize_0f7a4 24 = .ok (.if_icmp .le 7, 3) := by decide +kernel
theorem dJ6_stringSize_0f7a4_27 : decode cJ6_stringSize_0f7a4 27 = .ok (.iload_n 3, 1) := by decide +kernel
theorem dJ6_stringSize_0f7a4_28 : decode cJ6_stringSize_0f7a4 28 = .ok (.iload_n 1, 1) := by decide +kernel
theorem dJ6_stringSize_0f7a4_29 : decode cJ6_stringSize_0f7a4 29 = .ok (.iadd, 1) := by decide +kernel
theorem dJ6_stringSize_0f7a4_30 : decode cJ6_stringSize_0f7a4 30 = .ok (.ireturn, 1) := by decide +kernel
theorem dJ6_stringSize_0f7a4_31 : decode cJ6_stringSize_0f7a4 31 = .ok (.bipush 10, 2) := by decide +kernel
theorem dJ6_stringSize_0f7a4_33 : decode cJ6_stringSize_0f7a4 33 = .ok (.iload_n 2, 1) := by decide +kernel
theorem dJ6_stringSize_0f7a4_34 : decode cJ6_stringSize_0f7a4 34 = .ok (.imul, 1) := by decide +kernel
theorem dJ6_stringSize_0f7a4_35 : decode cJ6_stringSize_0f7a4 35 = .ok (.istore_n 2, 1) := by decide +kernel
theorem dJ6_stringSize_0f7a4_36 : decode cJ6_stringSize_0f7a4 36 = .ok (.iinc 3 1, 3) := by decide +kernel
theorem dJ6_stringSize_0f7a4_39 : decode cJ6_stringSize_0f7a4 39 = .ok (.goto (-23), 3) := by decide +kernel
theorem dJ6_stringSize_0f7a4_42 : decode cJ6_stringSize_0f7a4 42 = .ok (.bipush 10, 2) := by decide +kernel
theorem dJ6_stringSize_0f7a4_44 : decode cJ6_stringSize_0f7a4 44 = .ok (.iload_n 1, 1) := by decide +kernel
theorem dJ6_stringSize_0f7a4_45 : decode cJ6_stringSize_0f7a4 45 = .ok (.iadd, 1) := by decide +kernel
theorem dJ6_stringSize_0f7a4_46 : decode cJ6_stringSize_0f7a4 46 = .ok (.ireturn, 1) := by decide +kernel
theorem dJ6_bitCount_0f7a4_0 : decode cJ6_bitCount_0f7a4 0 = .ok (.iload_n 0, 1) := by decide +kernel
theorem dJ6_bitCount_0f7a4_1 : decode cJ6_bitCount_0f7a4 1 = .ok (.iload_n 0, 1) := by decide +kernel
theorem dJ6_bitCount_0f7a4_2 : decode cJ6_bitCount_0f7a4 2 = .ok (.iconst 1, 1) := by decide +kernel
theorem dJ6_bitCount_0f7a4_3 : decode cJ6_bitCount_0f7a4 3 = .ok (.iushr, 1) := by decide +kernel
theorem dJ6_bitCount_0f7a4_4 : decode cJ6_bitCount_0f7a4 4 = .ok (.ldc_w 265, 3) := by decide +kernel
theorem dJ6_bitCount_0f7a4_7 : decode cJ6_bitCount_0f7a4 7 = .ok (.iand, 1) := by decide +kernel
theorem dJ6_bitCount_0f7a4_8 : decode cJ6_bitCount_0f7a4 8 = .ok (.isub, 1) := by decide +kernel
theorem dJ6_bitCount_0f7a4_9 : decode cJ6_bitCount_0f7a4 9 = .ok (.istore_n 0, 1) := by decide +kernel
theorem dJ6_bitCount_0f7a4_10 : decode cJ6_bitCount_0f7a4 10 = .ok (.iload_n 0, 1) := by decide +kernel
theorem dJ6_bitCount_0f7a4_11 : decode cJ6_bitCount_0f7a4 11 = .ok (.ldc_w 266, 3) := by decide +kernel
theorem dJ6_bitCount_0f7a4_14 : decode cJ6_bitCount_0f7a4 14 = .ok (.iand, 1) := by decide +kernel
theorem dJ6_bitCount_0f7a4_15 : decode cJ6_bitCount_0f7a4 15 = .ok (.iload_n 0, 1) := by decide +kernel
theorem dJ6_bitCount_0f7a4_16 : decode cJ6_bitCount_0f7a4 16 = .ok (.iconst 2, 1) := by decide +kernel
theorem dJ6_bitCount_0f7a4_17 : decode cJ6_bitCount_0f7a4 17 = .ok (.iushr, 1) := by decide +kernel
theorem dJ6_bitCount_0f7a4_18 : decode cJ6_bitCount_0f7a4 18 = .ok (.ldc_w 266, 3) := by decide +kernel
theorem dJ6_bitCount_0f7a4_21 : decode cJ6_bitCount_0f7a4 21 = .ok (.iand, 1) := by decide +kernel
theorem dJ6_bitCount_0f7a4_22 : decode cJ6_bitCount_0f7a4 22 = .ok (.iadd, 1) := by decide +kernel
theorem dJ6_bitCount_0f7a4_23 : decode cJ6_bitCount_0f7a4 23 = .ok (.istore_n 0, 1) := by decide +kernel
theorem dJ6_bitCount_0f7a4_24 : decode cJ6_bitCount_0f7a4 24 = .ok (.iload_n 0, 1) := by decide +kernel
theorem dJ6_bitCount_0f7a4_25 : decode cJ6_bitCount_0f7a4 25 = .ok (.iload_n 0, 1) := by decide +kernel
theorem dJ6_bitCount_0f7a4_26 : decode cJ6_bitCount_0f7a4 26 = .ok (.iconst 4, 1) := by decide +kernel
theorem dJ6_bitCount_0f7a4_27 : decode cJ6_bitCount_0f7a4 27 = .ok (.iushr, 1) := by decide +kernel
theorem dJ6_bitCount_0f7a4_28 : decode cJ6_bitCount_0f7a4 28 = .ok (.iadd, 1) := by decide +kernel
theorem dJ6_bitCount_0f7a4_29 : decode cJ6_bitCount_0f7a4 29 = .ok (.ldc_w 267, 3) := by decide +kernel
theorem dJ6_bitCount_0f7a4_32 : decode cJ6_bitCount_0f7a4 32 = .ok (.iand, 1) := by decide +kernel
theorem dJ6_bitCount_0f7a4_33 : decode cJ6_bitCount_0f7a4 33 = .ok (.istore_n 0, 1) := by decide +kernel
theorem dJ6_bitCount_0f7a4_34 : decode cJ6_bitCount_0f7a4 34 = .ok (.iload_n 0, 1) := by decide +kernel
theorem dJ6_bitCount_0f7a4_35 : decode cJ6_bitCount_0f7a4 35 = .ok (.iload_n 0, 1) := by decide +kernel
theorem dJ6_bitCount_0f7a4_36 : decode cJ6_bitCount_0f7a4 36 = .ok (.bipush 8, 2) := by decide +kernel
theorem dJ6_bitCount_0f7a4_38 : decode cJ6_bitCount_0f7a4 38 = .ok (.iushr, 1) := by decide +kernel
theorem dJ6_bitCount_0f7a4_39 : decode cJ6_bitCount_0f7a4 39 = .ok (.iadd, 1) := by decide +kernel
theorem dJ6_bitCount_0f7a4_40 : decode cJ6_bitCount_0f7a4 40 = .ok (.istore_n 0, 1) := by decide +kernel
theorem dJ6_bitCount_0f7a4_41 : decode cJ6_bitCount_0f7a4 41 = .ok (.iload_n 0, 1) := by decide +kernel
theorem dJ6_bitCount_0f7a4_42 : decode cJ6_bitCount_0f7a4 42 = .ok (.iload_n 0, 1) := by decide +kernel
theorem dJ6_bitCount_0f7a4_43 : decode cJ6_bitCount_0f7a4 43 = .ok (.bipush 16, 2) := by decide +kernel
theorem dJ6_bitCount_0f7a4_45 : decode cJ6_bitCount_0f7a4 45 = .ok (.iushr, 1) := by decide +kernel
theorem dJ6_bitCount_0f7a4_46 : decode cJ6_bitCount_0f7a4 46 = .ok (.iadd, 1) := by decide +kernel
theorem dJ6_bitCount_0f7a4_47 : decode cJ6_bitCount_0f7a4 47 = .ok (.istore_n 0, 1) := by decide +kernel
theorem dJ6_bitCount_0f7a4_48 : decode cJ6_bitCount_0f7a4 48 = .ok (.iload_n 0, 1) := by decide +kernel
theorem dJ6_bitCount_0f7a4_49 : decode cJ6_bitCount_0f7a4 49 = .ok (.bipush 63, 2) := by decide +kernel
theorem dJ6_bitCount_0f7a4_51 : decode cJ6_bitCount_0f7a4 51 = .ok (.iand, 1) := by decide +kernel
theorem dJ6_bitCount_0f7a4_52 : decode cJ6_bitCount_0f7a4 52 = .ok (.ireturn, 1) := by decide +kernel
theorem dJ9_abs_0f7a4_0 : decode cJ9_abs_0f7a4 0 = .ok (.iload_n 0, 1) := by decide +kernel
theorem dJ9_abs_0f7a4_1 : decode cJ9_abs_0f7a4 1 = .ok (.ifCond .ge 8, 3) := by decide +kernel
theorem dJ9_abs_0f7a4_4 : decode cJ9_abs_0f7a4 4 = .ok (.iload_n 0, 1) := by decide +kernel
theorem dJ9_abs_0f7a4_5 : decode cJ9_abs_0f7a4 5 = .ok (.ineg, 1) := by decide +kernel
theorem dJ9_abs_0f7a4_6 : decode cJ9_abs_0f7a4 6 = .ok (.goto 4, 3) := by decide +kernel
theorem dJ9_abs_0f7a4_9 : decode cJ9_abs_0f7a4 9 = .ok (.iload_n 0, 1) := by decide +kernel
theorem dJ9_abs_0f7a4_10 : decode cJ9_abs_0f7a4 10 = .ok (.ireturn, 1) := by decide +kernel
theorem dJ9_max_7cf53_0 : decode cJ9_max_7cf53 0 = .ok (.iload_n 0, 1) := by decide +kernel
theorem dJ9_max_7cf53_1 : decode cJ9_max_7cf53 1 = .ok (.iload_n 1, 1) := by decide +kernel
theorem dJ9_max_7cf53_2 : decode cJ9_max_7cf53 2 = .ok (.if_icmp .lt 7, 3) := by decide +kernel
theorem dJ9_max_7cf53_5 : decode cJ9_max_7cf53 5 = .ok (.iload_n 0, 1) := by decide +kernel
theorem dJ9_max_7cf53_6 : decode cJ9_max_7cf53 6 = .ok (.goto 4, 3) := by decide +kernel
theorem dJ9_max_7cf53_9 : decode cJ9_max_7cf53 9 = .ok (.iload_n 1, 1) := by decide +kernel
theorem dJ9_max_7cf53_10 : decode cJ9_max_7cf53 10 = .ok (.ireturn, 1) := by decide +kernel
theorem dJ9_min_7cf53_0 : decode cJ9_min_7cf53 0 = .ok (.iload_n 0, 1) := by decide +kernel
theorem dJ9_min_7cf53_1 : decode cJ9_min_7cf53 1 = .ok (.iload_n 1, 1) := by decide +kernel
theorem dJ9_min_7cf53_2 : decode cJ9_min_7cf53 2 = .ok (.if_icmp .gt 7, 3) := by decide +kernel
theorem dJ9_min_7cf53_5 : decode cJ9_min_7cf53 5 = .ok (.iload_n 0, 1) := by decide +kernel
theorem dJ9_min_7cf53_6 : decode cJ9_min_7cf53 6 = .ok (.goto 4, 3) := by decide +kernel
theorem dJ9_min_7cf53_9 : decode cJ9_min_7cf53 9 = .ok (.iload_n 1, 1) := by decide +kernel
theorem dJ9_min_7cf53_10 : decode cJ9_min_7cf53 10 = .ok (.ireturn, 1) := by decide +kernel
theorem dJ0_init_81219_0 : decode cJ0_init_81219 0 = .ok (.aload_n 0, 1) := by decide +kernel
theorem dJ0_init_81219_1 : decode cJ0_init_81219 1 = .ok (.aload_n 1, 1) := by decide +kernel
theorem dJ0_init_81219_2 : decode cJ0_init_81219 2 = .ok (.aconst_null, 1) := by decide +kernel
theorem dJ0_init_81219_3 : decode cJ0_init_81219 3 = .ok (.invokespecial 489, 3) := by decide +kernel
theorem dJ0_init_81219_6 : decode cJ0_init_81219 6 = .ok (.return_, 1) := by decide +kernel
theorem dJ0_length_8abf5_0 : decode cJ0_length_8abf5 0 = .ok (.aload_n 0, 1) := by decide +kernel
theorem dJ0_length_8abf5_1 : decode cJ0_length_8abf5 1 = .ok (.getfield 9, 3) := by decide +kernel
theorem dJ0_length_8abf5_4 : decode cJ0_length_8abf5 4 = .ok (.arraylength, 1) := by decide +kernel
theorem dJ0_length_8abf5_5 : decode cJ0_length_8abf5 5 = .ok (.aload_n 0, 1) := by decide +kernel
theorem dJ0_length_8abf5_6 : decode cJ0_length_8abf5 6 = .ok (.invokevirtual 335, 3) := by decide +kernel
theorem dJ0_length_8abf5_9 : decode cJ0_length_8abf5 9 = .ok (.ishr, 1) := by decide +kernel
theorem dJ0_length_8abf5_10 : decode cJ0_length_8abf5 10 = .ok (.ireturn, 1) := by decide +kernel
theorem dJ0_charAt_5068e_0 : decode cJ0_charAt_5068e 0 = .ok (.aload_n 0, 1) := by decide +kernel
theorem dJ0_charAt_5068e_1 : decode cJ0_charAt_5068e 1 = .ok (.invokevirtual 492, 3) := by decide +kernel
theorem dJ0_charAt_5068e_4 : decode cJ0_charAt_5068e 4 = .ok (.ifCond .eq 12, 3) := by decide +kernel
theorem dJ0_charAt_5068e_7 : decode cJ0_charAt_5068e 7 = .ok (.aload_n 0, 1) := by decide +kernel
theorem dJ0_charAt_5068e_8 : decode cJ0_charAt_5068e 8 = .ok (.getfield 9, 3) := by decide +kernel
theorem dJ0_charAt_5068e_11 : decode cJ0_charAt_5068e 11 = .ok (.iload_n 1, 1) := by decide +kernel
theorem dJ0_charAt_5068e_12 : decode cJ0_charAt_5068e 12 = .ok (.invokestatic 495, 3) := by decide +kernel
theorem dJ0_charAt_5068e_15 : decode cJ0_charAt_5068e 15 = .ok (.ireturn, 1) := by decide +kernel
theorem dJ0_charAt_5068e_16 : decode cJ0_charAt_5068e 16 = .ok (.aload_n 0, 1) := by decide +kernel
theorem dJ0_charAt_5068e_17 : decode cJ0_charAt_5068e 17 = .ok (.getfield 9, 3) := by decide +kernel
theorem dJ0_charAt_5068e_20 : decode cJ0_charAt_5068e 20 = .ok (.iload_n 1, 1) := by decide +kernel
theorem dJ0_charAt_5068e_21 : decode cJ0_charAt_5068e 21 = .ok (.invokestatic 498, 3) := by decide +kernel
theorem dJ0_charAt_5068e_24 : decode cJ0_charAt_5068e 24 = .ok (.ireturn, 1) := by decide +kernel
theorem dJ0_getBytes_840e7_0 : decode cJ0_getBytes_840e7 0 = .ok (.aload_n 0, 1) := by decide +kernel
theorem dJ0_getBytes_840e7_1 : decode cJ0_getBytes_840e7 1 = .ok (.invokevirtual 335, 3) := by decide +kernel
theorem dJ0_getBytes_840e7_4 : decode cJ0_getBytes_840e7 4 = .ok (.iload_n 3, 1) := by decide +kernel
theorem dJ0_getBytes_840e7_5 : decode cJ0_getBytes_840e7 5 = .ok (.if_icmp .ne 23, 3) := by decide +kernel
theorem dJ0_getBytes_840e7_8 : decode cJ0_getBytes_840e7 8 = .ok (.aload_n 0, 1) := by decide +kernel
theorem dJ0_getBytes_840e7_9 : decode cJ0_getBytes_840e7 9 = .ok (.getfield 9, 3) := by decide +kernel
theorem dJ0_getBytes_840e7_12 : decode cJ0_getBytes_840e7 12 = .ok (.iconst 0, 1) := by decide +kernel
theorem dJ0_getBytes_840e7_13 : decode cJ0_getBytes_840e7 13 = .ok (.aload_n 1, 1) := by decide +kernel
theorem dJ0_getBytes_840e7_14 : decode cJ0_getBytes_840e7 14 = .ok (.iload_n 2, 1) := by decide +kernel
theorem dJ0_getBytes_840e7_15 : decode cJ0_getBytes_840e7 15 = .ok (.iload_n 3, 1) := by decide +kernel
theorem dJ0_getBytes_840e7_16 : decode cJ0_getBytes_840e7 16 = .ok (.ishl, 1) := by decide +kernel
theorem dJ0_getBytes_840e7_17 : decode cJ0_getBytes_840e7 17 = .ok (.aload_n 0, 1) := by decide +kernel
theorem dJ0_getBytes_840e7_18 : decode cJ0_getBytes_840e7 18 = .ok (.getfield 9, 3) := by decide +kernel
theorem dJ0_getBytes_840e7_21 : decode cJ0_getBytes_840e7 21 = .ok (.arraylength, 1) := by decide +kernel
theorem dJ0_getBytes_840e7_22 : decode cJ0_getBytes_840e7 22 = .ok (.invokestatic 212, 3) := by decide +kernel
theorem dJ0_getBytes_840e7_25 : decode cJ0_getBytes_840e7 25 = .ok (.goto 18, 3) := by decide +kernel
theorem dJ0_getBytes_840e7_28 : decode cJ0_getBytes_840e7 28 = .ok (.aload_n 0, 1) := by decide +kernel
theorem dJ0_getBytes_840e7_29 : decode cJ0_getBytes_840e7 29 = .ok (.getfield 9, 3) := by decide +kernel
theorem dJ0_getBytes_840e7_32 : decode cJ0_getBytes_840e7 32 = .ok (.iconst 0, 1) := by decide +kernel
theorem dJ0_getBytes_840e7_33 : decode cJ0_getBytes_840e7 33 = .ok (.aload_n 1, 1) := by decide +kernel
theorem dJ0_getBytes_840e7_34 : decode cJ0_getBytes_840e7 34 = .ok (.iload_n 2, 1) := by decide +kernel
theorem dJ0_getBytes_840e7_35 : decode cJ0_getBytes_840e7 35 = .ok (.aload_n 0, 1) := by decide +kernel
theorem dJ0_getBytes_840e7_36 : decode cJ0_getBytes_840e7 36 = .ok (.getfield 9, 3) := by decide +kernel
theorem dJ0_getBytes_840e7_39 : decode cJ0_getBytes_840e7 39 = .ok (.arraylength, 1) := by decide +kernel
theorem dJ0_getBytes_840e7_40 : decode cJ0_getBytes_840e7 40 = .ok (.invokestatic 106, 3) := by decide +kernel
theorem dJ0_getBytes_840e7_43 : decode cJ0_getBytes_840e7 43 = .ok (.return_, 1) := by decide +kernel
theorem dJ0_init_db425_0 : decode cJ0_init_db425 0 = .ok (.aload_n 0, 1) := by decide +kernel
theorem dJ0_init_db425_1 : decode cJ0_init_db425 1 = .ok (.invokespecial 1, 3) := by decide +kernel
theorem dJ0_init_db425_4 : decode cJ0_init_db425 4 = .ok (.aload_n 1, 1) := by decide +kernel
theorem dJ0_init_db425_5 : decode cJ0_init_db425 5 = .ok (.invokevirtual 552, 3) := by decide +kernel
theorem dJ0_init_db425_8 : decode cJ0_init_db425 8 = .ok (.astore_n 3, 1) := by decide +kernel
theorem dJ0_init_db425_9 : decode cJ0_init_db425 9 = .ok (.aload_n 1, 1) := by decide +kernel
theorem dJ0_init_db425_10 : decode cJ0_init_db425 10 = .ok (.invokevirtual 549, 3) := by decide +kernel
theorem dJ0_init_db425_13 : decode cJ0_init_db425 13 = .ok (.istore 4, 2) := by decide +kernel
theorem dJ0_init_db425_15 : decode cJ0_init_db425 15 = .ok (.aload_n 1, 1) := by decide +kernel
theorem dJ0_init_db425_16 : decode cJ0_init_db425 16 = .ok (.invokevirtual 1047, 3) := by decide +kernel
theorem dJ0_init_db425_19 : decode cJ0_init_db425 19 = .ok (.ifCond .eq 22, 3) := by decide +kernel
theorem dJ0_init_db425_22 : decode cJ0_init_db425 22 = .ok (.aload_n 0, 1) := by decide +kernel
theorem dJ0_init_db425_23 : decode cJ0_init_db425 23 = .ok (.iconst 0, 1) := by decide +kernel
theorem dJ0_init_db425_24 : decode cJ0_init_db425 24 = .ok (.putfield 15, 3) := by decide +kernel
theorem dJ0_init_db425_27 : decode cJ0_init_db425 27 = .ok (.aload_n 0, 1) := by decide +kernel
theorem dJ0_init_db425_28 : decode cJ0_init_db425 28 = .ok (.aload_n 3, 1) := by decide +kernel
theorem dJ0_init_db425_29 : decode cJ0_init_db425 29 = .ok (.iconst 0, 1) := by decide +kernel
theorem dJ0_init_db425_30 : decode cJ0_init_db425 30 = .ok (.iload 4, 2) := by decide +kernel
theorem dJ0_init_db425_32 : decode cJ0_init_db425 32 = .ok (.invokestatic 54, 3) := by decide +kernel
theorem dJ0_init_db425_35 : decode cJ0_init_db425 35 = .ok (.putfield 9, 3) := by decide +kernel
theorem dJ0_init_db425_38 : decode cJ0_init_db425 38 = .ok (.goto 59, 3) := by decide +kernel
theorem dJ0_init_db425_41 : decode cJ0_init_db425 41 = .ok (.getstatic 38, 3) := by decide +kernel
theorem dJ0_init_db425_44 : decode cJ0_init_db425 44 = .ok (.ifCond .eq 35, 3) := by decide +kernel
theorem dJ0_init_db425_47 : decode cJ0_init_db425 47 = .ok (.aload_n 1, 1) := by decide +kernel
theorem dJ0_init_db425_48 : decode cJ0_init_db425 48 = .ok (.getfield 1048, 3) := by decide +kernel
theorem dJ0_init_db425_51 : decode cJ0_init_db425 51 = .ok (.ifCond .eq 28, 3) := by decide +kernel
theorem dJ0_init_db425_54 : decode cJ0_init_db425 54 = .ok (.aload_n 0, 1) := by decide +kernel
theorem dJ0_init_db425_55 : decode cJ0_init_db425 55 = .ok (.aload_n 3, 1) := by decide +kernel
theorem dJ0_init_db425_56 : decode cJ0_init_db425 56 = .ok (.iconst 0, 1) := by decide +kernel
theorem dJ0_init_db425_57 : decode cJ0_init_db425 57 = .ok (.iload 4, 2) := by decide +kernel
theorem dJ0_init_db425_59 : decode cJ0_init_db425 59 = .ok (.invokestatic 1051, 3) := by decide +kernel
theorem dJ0_init_db425_62 : decode cJ0_init_db425 62 = .ok (.putfield 9, 3) := by decide +kernel
theorem dJ0_init_db425_65 : decode cJ0_init_db425 65 = .ok (.aload_n 0, 1) := by decide +kernel
theorem dJ0_init_db425_66 : decode cJ0_init_db425 66 = .ok (.aload_n 0, 1) := by decide +kernel
theorem dJ0_init_db425_67 : decode cJ0_init_db425 67 = .ok (.getfield 9, 3) := by decide +kernel
theorem dJ0_init_db425_70 : decode cJ0_init_db425 70 = .ok (.iload 4, 2) := by decide +kernel
theorem dJ0_init_db425_72 : decode cJ0_init_db425 72 = .ok (.invokestatic 47, 3) := by decide +kernel
theorem dJ0_init_db425_75 : decode cJ0_init_db425 75 = .ok (.putfield 15, 3) := by decide +kernel
theorem dJ0_init_db425_78 : decode cJ0_init_db425 78 = .ok (.return_, 1) := by decide +kernel
theorem dJ0_init_db425_79 : decode cJ0_init_db425 79 = .ok (.aload_n 0, 1) := by decide +kernel
theorem dJ0_init_db425_80 : decode cJ0_init_db425 80 = .ok (.iconst 1, 1) := by decide +kernel
theorem dJ0_init_db425_81 : decode cJ0_init_db425 81 = .ok (.putfield 15, 3) := by decide +kernel
theorem dJ0_init_db425_84 : decode cJ0_init_db425 84 = .ok (.aload_n 0, 1) := by decide +kernel
theorem dJ0_init_db425_85 : decode cJ0_init_db425 85 = .ok (.aload_n 3, 1) := by decide +kernel
theorem dJ0_init_db425_86 : decode cJ0_init_db425 86 = .ok (.iconst 0, 1) := by decide +kernel
theorem dJ0_init_db425_87 : decode cJ0_init_db425 87 = .ok (.iload 4, 2) := by decide +kernel
theorem dJ0_init_db425_89 : decode cJ0_init_db425 89 = .ok (.iconst 1, 1) := by decide +kernel
theorem dJ0_init_db425_90 : decode cJ0_init_db425 90 = .ok (.ishl, 1) := by decide +kernel
theorem dJ0_init_db425_91 : decode cJ0_init_db425 91 = .ok (.invokestatic 54, 3) := by decide +kernel
theorem dJ0_init_db425_94 : decode cJ0_init_db425 94 = .ok (.putfield 9, 3) := by decide +kernel
theorem dJ0_init_db425_97 : decode cJ0_init_db425 97 = .ok (.return_, 1) := by decide +kernel
theorem dJ0_coder_7d493_0 : decode cJ0_coder_7d493 0 = .ok (.getstatic 38, 3) := by decide +kernel
theorem dJ0_coder_7d493_3 : decode cJ0_coder_7d493 3 = .ok (.ifCond .eq 10, 3) := by decide +kernel
theorem dJ0_coder_7d493_6 : decode cJ0_coder_7d493 6 = .ok (.aload_n 0, 1) := by decide +kernel
theorem dJ0_coder_7d493_7 : decode cJ0_coder_7d493 7 = .ok (.getfield 15, 3) := by decide +kernel
theorem dJ0_coder_7d493_10 : decode cJ0_coder_7d493 10 = .ok (.goto 4, 3) := by decide +kernel
theorem dJ0_coder_7d493_13 : decode cJ0_coder_7d493 13 = .ok (.iconst 1, 1) := by decide +kernel
theorem dJ0_coder_7d493_14 : decode cJ0_coder_7d493 14 = .ok (.ireturn, 1) := by decide +kernel
theorem dJ0_isLatin1_aae02_0 : decode cJ0_isLatin1_aae02 0 = .ok (.getstatic 38, 3) := by decide +kernel
theorem dJ0_isLatin1_aae02_3 : decode cJ0_isLatin1_aae02 3 = .ok (.ifCond .eq 14, 3) := by decide +kernel
theorem dJ0_isLatin1_aae02_6 : decode cJ0_isLatin1_aae02 6 = .ok (.aload_n 0, 1) := by decide +kernel
theorem dJ0_isLatin1_aae02_7 : decode cJ0_isLatin1_aae02 7 = .ok (.getfield 15, 3) := by decide +kernel
theorem dJ0_isLatin1_aae02_10 : decode cJ0_isLatin1_aae02 10 = .ok (.ifCond .ne 7, 3) := by decide +kernel
theorem dJ0_isLatin1_aae02_13 : decode cJ0_isLatin1_aae02 13 = .ok (.iconst 1, 1) := by decide +kernel
theorem dJ0_isLatin1_aae02_14 : decode cJ0_isLatin1_aae02 14 = .ok (.goto 4, 3) := by decide +kernel
theorem dJ0_isLatin1_aae02_17 : decode cJ0_isLatin1_aae02 17 = .ok (.iconst 0, 1) := by decide +kernel
theorem dJ0_isLatin1_aae02_18 : decode cJ0_isLatin1_aae02 18 = .ok (.ireturn, 1) := by decide +kernel
theorem dJ0_checkIndex_df160_0 : decode cJ0_checkIndex_df160 0 = .ok (.iload_n 0, 1) := by decide +kernel
theorem dJ0_checkIndex_df160_1 : decode cJ0_checkIndex_df160 1 = .ok (.iload_n 1, 1) := by decide +kernel
theorem dJ0_checkIndex_df160_2 : decode cJ0_checkIndex_df160 2 = .ok (.getstatic 1053, 3) := by decide +kernel
theorem dJ0_checkIndex_df160_5 : decode cJ0_checkIndex_df160 5 = .ok (.invokestatic 1059, 3) := by decide +kernel
theorem dJ0_checkIndex_df160_8 : decode cJ0_checkIndex_df160 8 = .ok (.pop, 1) := by decide +kernel
theorem dJ0_checkIndex_df160_9 : decode cJ0_checkIndex_df160 9 = .ok (.return_, 1) := by decide +kernel
theorem dJ0_checkBoundsOffCount_cabcc_0 : decode cJ0_checkBoundsOffCount_cabcc 0 = .ok (.iload_n 0, 1) := by decide +kernel
theorem dJ0_checkBoundsOffCount_cabcc_1 : decode cJ0_checkBoundsOffCount_cabcc 1 = .ok (.iload_n 1, 1) := by decide +kernel
theorem dJ0_checkBoundsOffCount_cabcc_2 : decode cJ0_checkBoundsOffCount_cabcc 2 = .ok (.iload_n 2, 1) := by decide +kernel
theorem dJ0_checkBoundsOffCount_cabcc_3 : decode cJ0_checkBoundsOffCount_cabcc 3 = .ok (.getstatic 1053, 3) := by decide +kernel
theorem dJ0_checkBoundsOffCount_cabcc_6 : decode cJ0_checkBoundsOffCount_cabcc 6 = .ok (.invokestatic 1065, 3) := by decide +kernel
theorem dJ0_checkBoundsOffCount_cabcc_9 : decode cJ0_checkBoundsOffCount_cabcc 9 = .ok (.ireturn, 1) := by decide +kernel
theorem dJ0_checkBoundsBeginEnd_23922_0 : decode cJ0_checkBoundsBeginEnd_23922 0 = .ok (.iload_n 0, 1) := by decide +kernel
theorem dJ0_checkBoundsBeginEnd_23922_1 : decode cJ0_checkBoundsBeginEnd_23922 1 = .ok (.iload_n 1, 1) := by decide +kernel
theorem dJ0_checkBoundsBeginEnd_23922_2 : decode cJ0_checkBoundsBeginEnd_23922 2 = .ok (.iload_n 2, 1) := by decide +kernel
theorem dJ0_checkBoundsBeginEnd_23922_3 : decode cJ0_checkBoundsBeginEnd_23922 3 = .ok (.getstatic 1053, 3) := by decide +kernel
theorem dJ0_checkBoundsBeginEnd_23922_6 : decode cJ0_checkBoundsBeginEnd_23922 6 = .ok (.invokestatic 1062, 3) := by decide +kernel
theorem dJ0_checkBoundsBeginEnd_23922_9 : decode cJ0_checkBoundsBeginEnd_23922 9 = .ok (.pop, 1) := by decide +kernel
theorem dJ0_checkBoundsBeginEnd_23922_10 : decode cJ0_checkBoundsBeginEnd_23922 10 = .ok (.return_, 1) := by decide +kernel
theorem dJ4_init_da8c8_0 : decode cJ4_init_da8c8 0 = .ok (.aload_n 0, 1) := by decide +kernel
theorem dJ4_init_da8c8_1 : decode cJ4_init_da8c8 1 = .ok (.bipush 16, 2) := by decide +kernel
theorem dJ4_init_da8c8_3 : decode cJ4_init_da8c8 3 = .ok (.invokespecial 1, 3) := by decide +kernel
theorem dJ4_init_da8c8_6 : decode cJ4_init_da8c8 6 = .ok (.return_, 1) := by decide +kernel
theorem dJ4_append_15ec4_0 : decode cJ4_append_15ec4 0 = .ok (.aload_n 0, 1) := by decide +kernel
theorem dJ4_append_15ec4_1 : decode cJ4_append_15ec4 1 = .ok (.aload_n 1, 1) := by decide +kernel
theorem dJ4_append_15ec4_2 : decode cJ4_append_15ec4 2 = .ok (.invokespecial 29, 3) := by decide +kernel
theorem dJ4_append_15ec4_5 : decode cJ4_append_15ec4 5 = .ok (.pop, 1) := by decide +kernel
theorem dJ4_append_15ec4_6 : decode cJ4_append_15ec4 6 = .ok (.aload_n 0, 1) := by decide +kernel
theorem dJ4_append_15ec4_7 : decode cJ4_append_15ec4 7 = .ok (.areturn, 1) := by decide +kernel
theorem dJ4_append_cf468_0 : decode cJ4_append_cf468 0 = .ok (.aload_n 0, 1) := by decide +kernel
theorem dJ4_append_cf468_1 : decode cJ4_append_cf468 1 = .ok (.iload_n 1, 1) := by decide +kernel
theorem dJ4_append_cf468_2 : decode cJ4_append_cf468 2 = .ok (.invokespecial 50, 3) := by decide +kernel
theorem dJ4_append_cf468_5 : decode cJ4_append_cf468 5 = .ok (.pop, 1) := by decide +kernel
theorem dJ4_append_cf468_6 : decode cJ4_append_cf468 6 = .ok (.aload_n 0, 1) := by decide +kernel
theorem dJ4_append_cf468_7 : decode cJ4_append_cf468 7 = .ok (.areturn, 1) := by decide +kernel
theorem dJ4_append_bf812_0 : decode cJ4_append_bf812 0 = .ok (.aload_n 0, 1) := by decide +kernel
theorem dJ4_append_bf812_1 : decode cJ4_append_bf812 1 = .ok (.iload_n 1, 1) := by decide +kernel
theorem dJ4_append_bf812_2 : decode cJ4_append_bf812 2 = .ok (.invokespecial 53, 3) := by decide +kernel
theorem dJ4_append_bf812_5 : decode cJ4_append_bf812 5 = .ok (.pop, 1) := by decide +kernel
theorem dJ4_append_bf812_6 : decode cJ4_append_bf812 6 = .ok (.aload_n 0, 1) := by decide +kernel
theorem dJ4_append_bf812_7 : decode cJ4_append_bf812 7 = .ok (.areturn, 1) := by decide +kernel
theorem dJ4_toString_0e30d_0 : decode cJ4_toString_0e30d 0 = .ok (.new 18, 3) := by decide +kernel
theorem dJ4_toString_0e30d_3 : decode cJ4_toString_0e30d 3 = .ok (.dup, 1) := by decide +kernel
theorem dJ4_toString_0e30d_4 : decode cJ4_toString_0e30d 4 = .ok (.aload_n 0, 1) := by decide +kernel
theorem dJ4_toString_0e30d_5 : decode cJ4_toString_0e30d 5 = .ok (.invokespecial 137, 3) := by decide +kernel
theorem dJ4_toString_0e30d_8 : decode cJ4_toString_0e30d 8 = .ok (.areturn, 1) := by decide +kernel
theorem dJ4_length_8abf5_0 : decode cJ4_length_8abf5 0 = .ok (.aload_n 0, 1) := by decide +kernel
theorem dJ4_length_8abf5_1 : decode cJ4_length_8abf5 1 = .ok (.invokespecial 343, 3) := by decide +kernel
theorem dJ4_length_8abf5_4 : decode cJ4_length_8abf5 4 = .ok (.ireturn, 1) := by decide +kernel
theorem dJ1_charAt_3b067_0 : decode cJ1_charAt_3b067 0 = .ok (.iload_n 1, 1) := by decide +kernel
theorem dJ1_charAt_3b067_1 : decode cJ1_charAt_3b067 1 = .ok (.aload_n 0, 1) := by decide +kernel
theorem dJ1_charAt_3b067_2 : decode cJ1_charAt_3b067 2 = .ok (.arraylength, 1) := by decide +kernel
theorem dJ1_charAt_3b067_3 : decode cJ1_charAt_3b067 3 = .ok (.invokestatic 9, 3) := by decide +kernel
theorem dJ1_charAt_3b067_6 : decode cJ1_charAt_3b067 6 = .ok (.aload_n 0, 1) := by decide +kernel
theorem dJ1_charAt_3b067_7 : decode cJ1_charAt_3b067 7 = .ok (.iload_n 1, 1) := by decide +kernel
theorem dJ1_charAt_3b067_8 : decode cJ1_charAt_3b067 8 = .ok (.baload, 1) := by decide +kernel
theorem dJ1_charAt_3b067_9 : decode cJ1_charAt_3b067 9 = .ok (.sipush 255, 3) := by decide +kernel
theorem dJ1_charAt_3b067_12 : decode cJ1_charAt_3b067 12 = .ok (.iand, 1) := by decide +kernel
theorem dJ1_charAt_3b067_13 : decode cJ1_charAt_3b067 13 = .ok (.i2c, 1) := by decide +kernel
theorem dJ1_charAt_3b067_14 : decode cJ1_charAt_3b067 14 = .ok (.ireturn, 1) := by decide +kernel
theorem dJ1_canEncode_fc78d_0 : decode cJ1_canEncode_fc78d 0 = .ok (.iload_n 0, 1) := by decide +kernel
theorem dJ1_canEncode_fc78d_1 : decode cJ1_canEncode_fc78d 1 = .ok (.sipush 255, 3) := by decide +kernel
theorem dJ1_canEncode_fc78d_4 : decode cJ1_canEncode_fc78d 4 = .ok (.if_icmp .gt 7, 3) := by decide +kernel
theorem dJ1_canEncode_fc78d_7 : decode cJ1_canEncode_fc78d 7 = .ok (.iconst 1, 1) := by decide +kernel
theorem dJ1_canEncode_fc78d_8 : decode cJ1_canEncode_fc78d 8 = .ok (.goto 4, 3) := by decide +kernel
theorem dJ1_canEncode_fc78d_11 : decode cJ1_canEncode_fc78d 11 = .ok (.iconst 0, 1) := by decide +kernel
theorem dJ1_canEncode_fc78d_12 : decode cJ1_canEncode_fc78d 12 = .ok (.ireturn, 1) := by decide +kernel
theorem dJ1_inflate_0e8fd_0 : decode cJ1_inflate_0e8fd 0 = .ok (.aload_n 0, 1) := by decide +kernel
theorem dJ1_inflate_0e8fd_1 : decode cJ1_inflate_0e8fd 1 = .ok (.iload_n 1, 1) := by decide +kernel
theorem dJ1_inflate_0e8fd_2 : decode cJ1_inflate_0e8fd 2 = .ok (.aload_n 2, 1) := by decide +kernel
theorem dJ1_inflate_0e8fd_3 : decode cJ1_inflate_0e8fd 3 = .ok (.iload_n 3, 1) := by decide +kernel
theorem dJ1_inflate_0e8fd_4 : decode cJ1_inflate_0e8fd 4 = .ok (.iload 4, 2) := by decide +kernel
theorem dJ1_inflate_0e8fd_6 : decode cJ1_inflate_0e8fd 6 = .ok (.invokestatic 240, 3) := by decide +kernel
theorem dJ1_inflate_0e8fd_9 : decode cJ1_inflate_0e8fd 9 = .ok (.return_, 1) := by decide +kernel
theorem dJ2_newBytesFor_77867_0 : decode cJ2_newBytesFor_77867 0 = .ok (.iload_n 0, 1) := by decide +kernel
theorem dJ2_newBytesFor_77867_1 : decode cJ2_newBytesFor_77867 1 = .ok (.invokestatic 11, 3) := by decide +kernel
theorem dJ2_newBytesFor_77867_4 : decode cJ2_newBytesFor_77867 4 = .ok (.newarray .byte, 2) := by decide +kernel
theorem dJ2_newBytesFor_77867_6 : decode cJ2_newBytesFor_77867 6 = .ok (.areturn, 1) := by decide +kernel
theorem dJ2_newBytesLength_0f7a4_0 : decode cJ2_newBytesLength_0f7a4 0 = .ok (.iload_n 0, 1) := by decide +kernel
theorem dJ2_newBytesLength_0f7a4_1 : decode cJ2_newBytesLength_0f7a4 1 = .ok (.ifCond .ge 11, 3) := by decide +kernel
theorem dJ2_newBytesLength_0f7a4_4 : decode cJ2_newBytesLength_0f7a4 4 = .ok (.new 17, 3) := by decide +kernel
theorem dJ2_newBytesLength_0f7a4_7 : decode cJ2_newBytesLength_0f7a4 7 = .ok (.dup, 1) := by decide +kernel
theorem dJ2_newBytesLength_0f7a4_8 : decode cJ2_newBytesLength_0f7a4 8 = .ok (.invokespecial 19, 3) := by decide +kernel
theorem dJ2_newBytesLength_0f7a4_11 : decode cJ2_newBytesLength_0f7a4 11 = .ok (.athrow, 1) := by decide +kernel
theorem dJ2_newBytesLength_0f7a4_12 : decode cJ2_newBytesLength_0f7a4 12 = .ok (.iload_n 0, 1) := by decide +kernel
theorem dJ2_newBytesLength_0f7a4_13 : decode cJ2_newBytesLength_0f7a4 13 = .ok (.ldc 20, 2) := by decide +kernel
theorem dJ2_newBytesLength_0f7a4_15 : decode cJ2_newBytesLength_0f7a4 15 = .ok (.if_icmp .lt 40, 3) := by decide +kernel
theorem dJ2_newBytesLength_0f7a4_18 : decode cJ2_newBytesLength_0f7a4 18 = .ok (.new 21, 3) := by decide +kernel
theorem dJ2_newBytesLength_0f7a4_21 : decode cJ2_newBytesLength_0f7a4 21 = .ok (.dup, 1) := by decide +kernel
theorem dJ2_newBytesLength_0f7a4_22 : decode cJ2_newBytesLength_0f7a4 22 = .ok (.new 23, 3) := by decide +kernel
theorem dJ2_newBytesLength_0f7a4_25 : decode cJ2_newBytesLength_0f7a4 25 = .ok (.dup, 1) := by decide +kernel
theorem dJ2_newBytesLength_0f7a4_26 : decode cJ2_newBytesLength_0f7a4 26 = .ok (.invokespecial 25, 3) := by decide +kernel
theorem dJ2_newBytesLength_0f7a4_29 : decode cJ2_newBytesLength_0f7a4 29 = .ok (.ldc 26, 2) := by decide +kernel
theorem dJ2_newBytesLength_0f7a4_31 : decode cJ2_newBytesLength_0f7a4 31 = .ok (.invokevirtual 28, 3) := by decide +kernel
theorem dJ2_newBytesLength_0f7a4_34 : decode cJ2_newBytesLength_0f7a4 34 = .ok (.iload_n 0, 1) := by decide +kernel
theorem dJ2_newBytesLength_0f7a4_35 : decode cJ2_newBytesLength_0f7a4 35 = .ok (.invokevirtual 32, 3) := by decide +kernel
theorem dJ2_newBytesLength_0f7a4_38 : decode cJ2_newBytesLength_0f7a4 38 = .ok (.ldc 35, 2) := by decide +kernel
theorem dJ2_newBytesLength_0f7a4_40 : decode cJ2_newBytesLength_0f7a4 40 = .ok (.invokevirtual 28, 3) := by decide +kernel
theorem dJ2_newBytesLength_0f7a4_43 : decode cJ2_newBytesLength_0f7a4 43 = .ok (.ldc 20, 2) := by decide +kernel
theorem dJ2_newBytesLength_0f7a4_45 : decode cJ2_newBytesLength_0f7a4 45 = .ok (.invokevirtual 32, 3) := by decide +kernel
theorem dJ2_newBytesLength_0f7a4_48 : decode cJ2_newBytesLength_0f7a4 48 = .ok (.invokevirtual 37, 3) := by decide +kernel
theorem dJ2_newBytesLength_0f7a4_51 : decode cJ2_newBytesLength_0f7a4 51 = .ok (.invokespecial 41, 3) := by decide +kernel
theorem dJ2_newBytesLength_0f7a4_54 : decode cJ2_newBytesLength_0f7a4 54 = .ok (.athrow, 1) := by decide +kernel
theorem dJ2_newBytesLength_0f7a4_55 : decode cJ2_newBytesLength_0f7a4 55 = .ok (.iload_n 0, 1) := by decide +kernel
theorem dJ2_newBytesLength_0f7a4_56 : decode cJ2_newBytesLength_0f7a4 56 = .ok (.iconst 1, 1) := by decide +kernel
theorem dJ2_newBytesLength_0f7a4_57 : decode cJ2_newBytesLength_0f7a4 57 = .ok (.ishl, 1) := by decide +kernel
theorem dJ2_newBytesLength_0f7a4_58 : decode cJ2_newBytesLength_0f7a4 58 = .ok (.ireturn, 1) := by decide +kernel
theorem dJ2_putChar_b72d1_0 : decode cJ2_putChar_b72d1 0 = .ok (.getstatic 44, 3) := by decide +kernel
theorem dJ2_putChar_b72d1_3 : decode cJ2_putChar_b72d1 3 = .ok (.ifCond .ne 25, 3) := by decide +kernel
theorem dJ2_putChar_b72d1_6 : decode cJ2_putChar_b72d1 6 = .ok (.iload_n 1, 1) := by decide +kernel
theorem dJ2_putChar_b72d1_7 : decode cJ2_putChar_b72d1 7 = .ok (.ifCond .lt 11, 3) := by decide +kernel
theorem dJ2_putChar_b72d1_10 : decode cJ2_putChar_b72d1 10 = .ok (.iload_n 1, 1) := by decide +kernel
theorem dJ2_putChar_b72d1_11 : decode cJ2_putChar_b72d1 11 = .ok (.aload_n 0, 1) := by decide +kernel
theorem dJ2_putChar_b72d1_12 : decode cJ2_putChar_b72d1 12 = .ok (.invokestatic 48, 3) := by decide +kernel
theorem dJ2_putChar_b72d1_15 : decode cJ2_putChar_b72d1 15 = .ok (.if_icmp .lt 13, 3) := by decide +kernel
theorem dJ2_putChar_b72d1_18 : decode cJ2_putChar_b72d1 18 = .ok (.new 52, 3) := by decide +kernel
theorem dJ2_putChar_b72d1_21 : decode cJ2_putChar_b72d1 21 = .ok (.dup, 1) := by decide +kernel
theorem dJ2_putChar_b72d1_22 : decode cJ2_putChar_b72d1 22 = .ok (.ldc 54, 2) := by decide +kernel
theorem dJ2_putChar_b72d1_24 : decode cJ2_putChar_b72d1 24 = .ok (.invokespecial 56, 3) := by decide +kernel
theorem dJ2_putChar_b72d1_27 : decode cJ2_putChar_b72d1 27 = .ok (.athrow, 1) := by decide +kernel
theorem dJ2_putChar_b72d1_28 : decode cJ2_putChar_b72d1 28 = .ok (.iload_n 1, 1) := by decide +kernel
theorem dJ2_putChar_b72d1_29 : decode cJ2_putChar_b72d1 29 = .ok (.iconst 1, 1) := by decide +kernel
theorem dJ2_putChar_b72d1_30 : decode cJ2_putChar_b72d1 30 = .ok (.ishl, 1) := by decide +kernel
theorem dJ2_putChar_b72d1_31 : decode cJ2_putChar_b72d1 31 = .ok (.istore_n 1, 1) := by decide +kernel
theorem dJ2_putChar_b72d1_32 : decode cJ2_putChar_b72d1 32 = .ok (.aload_n 0, 1) := by decide +kernel
theorem dJ2_putChar_b72d1_33 : decode cJ2_putChar_b72d1 33 = .ok (.iload_n 1, 1) := by decide +kernel
theorem dJ2_putChar_b72d1_34 : decode cJ2_putChar_b72d1 34 = .ok (.iinc 1 1, 3) := by decide +kernel
theorem dJ2_putChar_b72d1_37 : decode cJ2_putChar_b72d1 37 = .ok (.iload_n 2, 1) := by decide +kernel
theorem dJ2_putChar_b72d1_38 : decode cJ2_putChar_b72d1 38 = .ok (.getstatic 59, 3) := by decide +kernel
theorem dJ2_putChar_b72d1_41 : decode cJ2_putChar_b72d1 41 = .ok (.ishr, 1) := by decide +kernel
theorem dJ2_putChar_b72d1_42 : decode cJ2_putChar_b72d1 42 = .ok (.i2b, 1) := by decide +kernel
theorem dJ2_putChar_b72d1_43 : decode cJ2_putChar_b72d1 43 = .ok (.bastore, 1) := by decide +kernel
theorem dJ2_putChar_b72d1_44 : decode cJ2_putChar_b72d1 44 = .ok (.aload_n 0, 1) := by decide +kernel
theorem dJ2_putChar_b72d1_45 : decode cJ2_putChar_b72d1 45 = .ok (.iload_n 1, 1) := by decide +kernel
theorem dJ2_putChar_b72d1_46 : decode cJ2_putChar_b72d1 46 = .ok (.iload_n 2, 1) := by decide +kernel
theorem dJ2_putChar_b72d1_47 : decode cJ2_putChar_b72d1 47 = .ok (.getstatic 63, 3) := by decide +kernel
theorem dJ2_putChar_b72d1_50 : decode cJ2_putChar_b72d1 50 = .ok (.ishr, 1) := by decide +kernel
theorem dJ2_putChar_b72d1_51 : decode cJ2_putChar_b72d1 51 = .ok (.i2b, 1) := by decide +kernel
theorem dJ2_putChar_b72d1_52 : decode cJ2_putChar_b72d1 52 = .ok (.bastore, 1) := by decide +kernel
theorem dJ2_putChar_b72d1_53 : decode cJ2_putChar_b72d1 53 = .ok (.return_, 1) := by decide +kernel
theorem dJ2_getChar_3b067_0 : decode cJ2_getChar_3b067 0 = .ok (.getstatic 44, 3) := by decide +kernel
theorem dJ2_getChar_3b067_3 : decode cJ2_getChar_3b067 3 = .ok (.ifCond .ne 25, 3) := by decide +kernel
theorem dJ2_getChar_3b067_6 : decode cJ2_getChar_3b067 6 = .ok (.iload_n 1, 1) := by decide +kernel
theorem dJ2_getChar_3b067_7 : decode cJ2_getChar_3b067 7 = .ok (.ifCond .lt 11, 3) := by decide +kernel
theorem dJ2_getChar_3b067_10 : decode cJ2_getChar_3b067 10 = .ok (.iload_n 1, 1) := by decide +kernel
theorem dJ2_getChar_3b067_11 : decode cJ2_getChar_3b067 11 = .ok (.aload_n 0, 1) := by decide +kernel
theorem dJ2_getChar_3b067_12 : decode cJ2_getChar_3b067 12 = .ok (.invokestatic 48, 3) := by decide +kernel
theorem dJ2_getChar_3b067_15 : decode cJ2_getChar_3b067 15 = .ok (.if_icmp .lt 13, 3) := by decide +kernel
theorem dJ2_getChar_3b067_18 : decode cJ2_getChar_3b067 18 = .ok (.new 52, 3) := by decide +kernel
theorem dJ2_getChar_3b067_21 : decode cJ2_getChar_3b067 21 = .ok (.dup, 1) := by decide +kernel
theorem dJ2_getChar_3b067_22 : decode cJ2_getChar_3b067 22 = .ok (.ldc 54, 2) := by decide +kernel
theorem dJ2_getChar_3b067_24 : decode cJ2_getChar_3b067 24 = .ok (.invokespecial 56, 3) := by decide +kernel
theorem dJ2_getChar_3b067_27 : decode cJ2_getChar_3b067 27 = .ok (.athrow, 1) := by decide +kernel
theorem dJ2_getChar_3b067_28 : decode cJ2_getChar_3b067 28 = .ok (.iload_n 1, 1) := by decide +kernel
theorem dJ2_getChar_3b067_29 : decode cJ2_getChar_3b067 29 = .ok (.iconst 1, 1) := by decide +kernel
theorem dJ2_getChar_3b067_30 : decode cJ2_getChar_3b067 30 = .ok (.ishl, 1) := by decide +kernel
theorem dJ2_getChar_3b067_31 : decode cJ2_getChar_3b067 31 = .ok (.istore_n 1, 1) := by decide +kernel
theorem dJ2_getChar_3b067_32 : decode cJ2_getChar_3b067 32 = .ok (.aload_n 0, 1) := by decide +kernel
theorem dJ2_getChar_3b067_33 : decode cJ2_getChar_3b067 33 = .ok (.iload_n 1, 1) := by decide +kernel
theorem dJ2_getChar_3b067_34 : decode cJ2_getChar_3b067 34 = .ok (.iinc 1 1, 3) := by decide +kernel
theorem dJ2_getChar_3b067_37 : decode cJ2_getChar_3b067 37 = .ok (.baload, 1) := by decide +kernel
theorem dJ2_getChar_3b067_38 : decode cJ2_getChar_3b067 38 = .ok (.sipush 255, 3) := by decide +kernel
theorem dJ2_getChar_3b067_41 : decode cJ2_getChar_3b067 41 = .ok (.iand, 1) := by decide +kernel
theorem dJ2_getChar_3b067_42 : decode cJ2_getChar_3b067 42 = .ok (.getstatic 59, 3) := by decide +kernel
theorem dJ2_getChar_3b067_45 : decode cJ2_getChar_3b067 45 = .ok (.ishl, 1) := by decide +kernel
theorem dJ2_getChar_3b067_46 : decode cJ2_getChar_3b067 46 = .ok (.aload_n 0, 1) := by decide +kernel
theorem dJ2_getChar_3b067_47 : decode cJ2_getChar_3b067 47 = .ok (.iload_n 1, 1) := by decide +kernel
theorem dJ2_getChar_3b067_48 : decode cJ2_getChar_3b067 48 = .ok (.baload, 1) := by decide +kernel
theorem dJ2_getChar_3b067_49 : decode cJ2_getChar_3b067 49 = .ok (.sipush 255, 3) := by decide +kernel
theorem dJ2_getChar_3b067_52 : decode cJ2_getChar_3b067 52 = .ok (.iand, 1) := by decide +kernel
theorem dJ2_getChar_3b067_53 : decode cJ2_getChar_3b067 53 = .ok (.getstatic 63, 3) := by decide +kernel
theorem dJ2_getChar_3b067_56 : decode cJ2_getChar_3b067 56 = .ok (.ishl, 1) := by decide +kernel
theorem dJ2_getChar_3b067_57 : decode cJ2_getChar_3b067 57 = .ok (.ior, 1) := by decide +kernel
theorem dJ2_getChar_3b067_58 : decode cJ2_getChar_3b067 58 = .ok (.i2c, 1) := by decide +kernel
theorem dJ2_getChar_3b067_59 : decode cJ2_getChar_3b067 59 = .ok (.ireturn, 1) := by decide +kernel
theorem dJ2_length_9d52b_0 : decode cJ2_length_9d52b 0 = .ok (.aload_n 0, 1) := by decide +kernel
theorem dJ2_length_9d52b_1 : decode cJ2_length_9d52b 1 = .ok (.arraylength, 1) := by decide +kernel
theorem dJ2_length_9d52b_2 : decode cJ2_length_9d52b 2 = .ok (.iconst 1, 1) := by decide +kernel
theorem dJ2_length_9d52b_3 : decode cJ2_length_9d52b 3 = .ok (.ishr, 1) := by decide +kernel
theorem dJ2_length_9d52b_4 : decode cJ2_length_9d52b 4 = .ok (.ireturn, 1) := by decide +kernel
theorem dJ2_coderFromArrayLen_85cad_0 : decode cJ2_coderFromArrayLen_85cad 0 = .ok (.iload_n 1, 1) := by decide +kernel
theorem dJ2_coderFromArrayLen_85cad_1 : decode cJ2_coderFromArrayLen_85cad 1 = .ok (.aload_n 0, 1) := by decide +kernel
theorem dJ2_coderFromArrayLen_85cad_2 : decode cJ2_coderFromArrayLen_85cad 2 = .ok (.arraylength, 1) := by decide +kernel
theorem dJ2_coderFromArrayLen_85cad_3 : decode cJ2_coderFromArrayLen_85cad 3 = .ok (.isub, 1) := by decide +kernel
theorem dJ2_coderFromArrayLen_85cad_4 : decode cJ2_coderFromArrayLen_85cad 4 = .ok (.bipush 31, 2) := by decide +kernel
theorem dJ2_coderFromArrayLen_85cad_6 : decode cJ2_coderFromArrayLen_85cad 6 = .ok (.iushr, 1) := by decide +kernel
theorem dJ2_coderFromArrayLen_85cad_7 : decode cJ2_coderFromArrayLen_85cad 7 = .ok (.i2b, 1) := by decide +kernel
theorem dJ2_coderFromArrayLen_85cad_8 : decode cJ2_coderFromArrayLen_85cad 8 = .ok (.ireturn, 1) := by decide +kernel
theorem dJ2_compress_39247_0 : decode cJ2_compress_39247 0 = .ok (.iload_n 2, 1) := by decide +kernel
theorem dJ2_compress_39247_1 : decode cJ2_compress_39247 1 = .ok (.newarray .byte, 2) := by decide +kernel
theorem dJ2_compress_39247_3 : decode cJ2_compress_39247 3 = .ok (.astore_n 3, 1) := by decide +kernel
theorem dJ2_compress_39247_4 : decode cJ2_compress_39247 4 = .ok (.aload_n 0, 1) := by decide +kernel
theorem dJ2_compress_39247_5 : decode cJ2_compress_39247 5 = .ok (.iload_n 1, 1) := by decide +kernel
theorem dJ2_compress_39247_6 : decode cJ2_compress_39247 6 = .ok (.aload_n 3, 1) := by decide +kernel
theorem dJ2_compress_39247_7 : decode cJ2_compress_39247 7 = .ok (.iconst 0, 1) := by decide +kernel
theorem dJ2_compress_39247_8 : decode cJ2_compress_39247 8 = .ok (.iload_n 2, 1) := by decide +kernel
theorem dJ2_compress_39247_9 : decode cJ2_compress_39247 9 = .ok (.invokestatic 123, 3) := by decide +kernel
theorem dJ2_compress_39247_12 : decode cJ2_compress_39247 12 = .ok (.istore 4, 2) := by decide +kernel
theorem dJ2_compress_39247_14 : decode cJ2_compress_39247 14 = .ok (.iload 4, 2) := by decide +kernel
theorem dJ2_compress_39247_16 : decode cJ2_compress_39247 16 = .ok (.iload_n 2, 1) := by decide +kernel
theorem dJ2_compress_39247_17 : decode cJ2_compress_39247 17 = .ok (.if_icmp .eq 47, 3) := by decide +kernel
theorem dJ2_compress_39247_20 : decode cJ2_compress_39247 20 = .ok (.aload_n 0, 1) := by decide +kernel
theorem dJ2_compress_39247_21 : decode cJ2_compress_39247 21 = .ok (.iload_n 1, 1) := by decide +kernel
theorem dJ2_compress_39247_22 : decode cJ2_compress_39247 22 = .ok (.iconst 1, 1) := by decide +kernel
theorem dJ2_compress_39247_23 : decode cJ2_compress_39247 23 = .ok (.ishl, 1) := by decide +kernel
theorem dJ2_compress_39247_24 : decode cJ2_compress_39247 24 = .ok (.iload_n 1, 1) := by decide +kernel
theorem dJ2_compress_39247_25 : decode cJ2_compress_39247 25 = .ok (.iload_n 2, 1) := by decide +kernel
theorem dJ2_compress_39247_26 : decode cJ2_compress_39247 26 = .ok (.iadd, 1) := by decide +kernel
theorem dJ2_compress_39247_27 : decode cJ2_compress_39247 27 = .ok (.invokestatic 11, 3) := by decide +kernel
theorem dJ2_compress_39247_30 : decode cJ2_compress_39247 30 = .ok (.invokestatic 126, 3) := by decide +kernel
theorem dJ2_compress_39247_33 : decode cJ2_compress_39247 33 = .ok (.astore 5, 2) := by decide +kernel
theorem dJ2_compress_39247_35 : decode cJ2_compress_39247 35 = .ok (.aload 5, 2) := by decide +kernel
theorem dJ2_compress_39247_37 : decode cJ2_compress_39247 37 = .ok (.iload 4, 2) := by decide +kernel
theorem dJ2_compress_39247_39 : decode cJ2_compress_39247 39 = .ok (.invokestatic 71, 3) := by decide +kernel
theorem dJ2_compress_39247_42 : decode cJ2_compress_39247 42 = .ok (.sipush 255, 3) := by decide +kernel
theorem dJ2_compress_39247_45 : decode cJ2_compress_39247 45 = .ok (.if_icmp .gt 16, 3) := by decide +kernel
theorem dJ2_compress_39247_48 : decode cJ2_compress_39247 48 = .ok (.aload 5, 2) := by decide +kernel
theorem dJ2_compress_39247_50 : decode cJ2_compress_39247 50 = .ok (.iconst 0, 1) := by decide +kernel
theorem dJ2_compress_39247_51 : decode cJ2_compress_39247 51 = .ok (.aload_n 3, 1) := by decide +kernel
theorem dJ2_compress_39247_52 : decode cJ2_compress_39247 52 = .ok (.iconst 0, 1) := by decide +kernel
theorem dJ2_compress_39247_53 : decode cJ2_compress_39247 53 = .ok (.iload_n 2, 1) := by decide +kernel
theorem dJ2_compress_39247_54 : decode cJ2_compress_39247 54 = .ok (.invokestatic 123, 3) := by decide +kernel
theorem dJ2_compress_39247_57 : decode cJ2_compress_39247 57 = .ok (.iload_n 2, 1) := by decide +kernel
theorem dJ2_compress_39247_58 : decode cJ2_compress_39247 58 = .ok (.if_icmp .eq 6, 3) := by decide +kernel
theorem dJ2_compress_39247_61 : decode cJ2_compress_39247 61 = .ok (.aload 5, 2) := by decide +kernel
theorem dJ2_compress_39247_63 : decode cJ2_compress_39247 63 = .ok (.areturn, 1) := by decide +kernel
theorem dJ2_compress_39247_64 : decode cJ2_compress_39247 64 = .ok (.aload_n 3, 1) := by decide +kernel
theorem dJ2_compress_39247_65 : decode cJ2_compress_39247 65 = .ok (.areturn, 1) := by decide +kernel
theorem dJ2_compress_5af95_0 : decode cJ2_compress_5af95 0 = .ok (.iload_n 1, 1) := by decide +kernel
theorem dJ2_compress_5af95_1 : decode cJ2_compress_5af95 1 = .ok (.iload 4, 2) := by decide +kernel
theorem dJ2_compress_5af95_3 : decode cJ2_compress_5af95 3 = .ok (.aload_n 0, 1) := by decide +kernel
theorem dJ2_compress_5af95_4 : decode cJ2_compress_5af95 4 = .ok (.invokestatic 173, 3) := by decide +kernel
theorem dJ2_compress_5af95_7 : decode cJ2_compress_5af95 7 = .ok (.iconst 0, 1) := by decide +kernel
theorem dJ2_compress_5af95_8 : decode cJ2_compress_5af95 8 = .ok (.istore 5, 2) := by decide +kernel
theorem dJ2_compress_5af95_10 : decode cJ2_compress_5af95 10 = .ok (.iload 5, 2) := by decide +kernel
theorem dJ2_compress_5af95_12 : decode cJ2_compress_5af95 12 = .ok (.iload 4, 2) := by decide +kernel
theorem dJ2_compress_5af95_14 : decode cJ2_compress_5af95 14 = .ok (.if_icmp .ge 39, 3) := by decide +kernel
theorem dJ2_compress_5af95_17 : decode cJ2_compress_5af95 17 = .ok (.aload_n 0, 1) := by decide +kernel
theorem dJ2_compress_5af95_18 : decode cJ2_compress_5af95 18 = .ok (.iload_n 1, 1) := by decide +kernel
theorem dJ2_compress_5af95_19 : decode cJ2_compress_5af95 19 = .ok (.invokestatic 71, 3) := by decide +kernel
theorem dJ2_compress_5af95_22 : decode cJ2_compress_5af95 22 = .ok (.istore 6, 2) := by decide +kernel
theorem dJ2_compress_5af95_24 : decode cJ2_compress_5af95 24 = .ok (.iload 6, 2) := by decide +kernel
theorem dJ2_compress_5af95_26 : decode cJ2_compress_5af95 26 = .ok (.sipush 255, 3) := by decide +kernel
theorem dJ2_compress_5af95_29 : decode cJ2_compress_5af95 29 = .ok (.if_icmp .le 6, 3) := by decide +kernel
theorem dJ2_compress_5af95_32 : decode cJ2_compress_5af95 32 = .ok (.iload 5, 2) := by decide +kernel
theorem dJ2_compress_5af95_34 : decode cJ2_compress_5af95 34 = .ok (.ireturn, 1) := by decide +kernel
theorem dJ2_compress_5af95_35 : decode cJ2_compress_5af95 35 = .ok (.aload_n 2, 1) := by decide +kernel
theorem dJ2_compress_5af95_36 : decode cJ2_compress_5af95 36 = .ok (.iload_n 3, 1) := by decide +kernel
theorem dJ2_compress_5af95_37 : decode cJ2_compress_5af95 37 = .ok (.iload 6, 2) := by decide +kernel
theorem dJ2_compress_5af95_39 : decode cJ2_compress_5af95 39 = .ok (.i2b, 1) := by decide +kernel
theorem dJ2_compress_5af95_40 : decode cJ2_compress_5af95 40 = .ok (.bastore, 1) := by decide +kernel
theorem dJ2_compress_5af95_41 : decode cJ2_compress_5af95 41 = .ok (.iinc 1 1, 3) := by decide +kernel
theorem dJ2_compress_5af95_44 : decode cJ2_compress_5af95 44 = .ok (.iinc 3 1, 3) := by decide +kernel
theorem dJ2_compress_5af95_47 : decode cJ2_compress_5af95 47 = .ok (.iinc 5 1, 3) := by decide +kernel
theorem dJ2_compress_5af95_50 : decode cJ2_compress_5af95 50 = .ok (.goto (-40), 3) := by decide +kernel
theorem dJ2_compress_5af95_53 : decode cJ2_compress_5af95 53 = .ok (.iload 4, 2) := by decide +kernel
theorem dJ2_compress_5af95_55 : decode cJ2_compress_5af95 55 = .ok (.ireturn, 1) := by decide +kernel
theorem dJ2_putCharSB_b72d1_0 : decode cJ2_putCharSB_b72d1 0 = .ok (.iload_n 1, 1) := by decide +kernel
theorem dJ2_putCharSB_b72d1_1 : decode cJ2_putCharSB_b72d1 1 = .ok (.aload_n 0, 1) := by decide +kernel
theorem dJ2_putCharSB_b72d1_2 : decode cJ2_putCharSB_b72d1 2 = .ok (.invokestatic 67, 3) := by decide +kernel
theorem dJ2_putCharSB_b72d1_5 : decode cJ2_putCharSB_b72d1 5 = .ok (.aload_n 0, 1) := by decide +kernel
theorem dJ2_putCharSB_b72d1_6 : decode cJ2_putCharSB_b72d1 6 = .ok (.iload_n 1, 1) := by decide +kernel
theorem dJ2_putCharSB_b72d1_7 : decode cJ2_putCharSB_b72d1 7 = .ok (.iload_n 2, 1) := by decide +kernel
theorem dJ2_putCharSB_b72d1_8 : decode cJ2_putCharSB_b72d1 8 = .ok (.invokestatic 111, 3) := by decide +kernel
theorem dJ2_putCharSB_b72d1_11 : decode cJ2_putCharSB_b72d1 11 = .ok (.return_, 1) := by decide +kernel
theorem dJ2_getChars_46870_0 : decode cJ2_getChars_46870 0 = .ok (.iload_n 1, 1) := by decide +kernel
theorem dJ2_getChars_46870_1 : decode cJ2_getChars_46870 1 = .ok (.iload_n 2, 1) := by decide +kernel
theorem dJ2_getChars_46870_2 : decode cJ2_getChars_46870 2 = .ok (.aload_n 3, 1) := by decide +kernel
theorem dJ2_getChars_46870_3 : decode cJ2_getChars_46870 3 = .ok (.invokestatic 96, 3) := by decide +kernel
theorem dJ2_getChars_46870_6 : decode cJ2_getChars_46870 6 = .ok (.iload_n 0, 1) := by decide +kernel
theorem dJ2_getChars_46870_7 : decode cJ2_getChars_46870 7 = .ok (.iload_n 2, 1) := by decide +kernel
theorem dJ2_getChars_46870_8 : decode cJ2_getChars_46870 8 = .ok (.aload_n 3, 1) := by decide +kernel
theorem dJ2_getChars_46870_9 : decode cJ2_getChars_46870 9 = .ok (.invokestatic 393, 3) := by decide +kernel
theorem dJ2_getChars_46870_12 : decode cJ2_getChars_46870 12 = .ok (.istore 4, 2) := by decide +kernel
theorem dJ2_getChars_46870_14 : decode cJ2_getChars_46870 14 = .ok (.getstatic 44, 3) := by decide +kernel
theorem dJ2_getChars_46870_17 : decode cJ2_getChars_46870 17 = .ok (.ifCond .ne 17, 3) := by decide +kernel
theorem dJ2_getChars_46870_20 : decode cJ2_getChars_46870 20 = .ok (.iload_n 1, 1) := by decide +kernel
theorem dJ2_getChars_46870_21 : decode cJ2_getChars_46870 21 = .ok (.iload 4, 2) := by decide +kernel
theorem dJ2_getChars_46870_23 : decode cJ2_getChars_46870 23 = .ok (.if_icmp .eq 11, 3) := by decide +kernel
theorem dJ2_getChars_46870_26 : decode cJ2_getChars_46870 26 = .ok (.new 52, 3) := by decide +kernel
theorem dJ2_getChars_46870_29 : decode cJ2_getChars_46870 29 = .ok (.dup, 1) := by decide +kernel
theorem dJ2_getChars_46870_30 : decode cJ2_getChars_46870 30 = .ok (.invokespecial 66, 3) := by decide +kernel
theorem dJ2_getChars_46870_33 : decode cJ2_getChars_46870 33 = .ok (.athrow, 1) := by decide +kernel
theorem dJ2_getChars_46870_34 : decode cJ2_getChars_46870 34 = .ok (.iload 4, 2) := by decide +kernel
theorem dJ2_getChars_46870_36 : decode cJ2_getChars_46870 36 = .ok (.ireturn, 1) := by decide +kernel
theorem dJ2_putCharsAt_cd4e5_0 : decode cJ2_putCharsAt_cd4e5 0 = .ok (.iload_n 1, 1) := by decide +kernel
theorem dJ2_putCharsAt_cd4e5_1 : decode cJ2_putCharsAt_cd4e5 1 = .ok (.iconst 4, 1) := by decide +kernel
theorem dJ2_putCharsAt_cd4e5_2 : decode cJ2_putCharsAt_cd4e5 2 = .ok (.iadd, 1) := by decide +kernel
theorem dJ2_putCharsAt_cd4e5_3 : decode cJ2_putCharsAt_cd4e5 3 = .ok (.istore 6, 2) := by decide +kernel
theorem dJ2_putCharsAt_cd4e5_5 : decode cJ2_putCharsAt_cd4e5 5 = .ok (.iload_n 1, 1) := by decide +kernel
theorem dJ2_putCharsAt_cd4e5_6 : decode cJ2_putCharsAt_cd4e5 6 = .ok (.iload 6, 2) := by decide +kernel
theorem dJ2_putCharsAt_cd4e5_8 : decode cJ2_putCharsAt_cd4e5 8 = .ok (.aload_n 0, 1) := by decide +kernel
theorem dJ2_putCharsAt_cd4e5_9 : decode cJ2_putCharsAt_cd4e5 9 = .ok (.invokestatic 96, 3) := by decide +kernel
theorem dJ2_putCharsAt_cd4e5_12 : decode cJ2_putCharsAt_cd4e5 12 = .ok (.aload_n 0, 1) := by decide +kernel
theorem dJ2_putCharsAt_cd4e5_13 : decode cJ2_putCharsAt_cd4e5 13 = .ok (.iload_n 1, 1) := by decide +kernel
theorem dJ2_putCharsAt_cd4e5_14 : decode cJ2_putCharsAt_cd4e5 14 = .ok (.iinc 1 1, 3) := by decide +kernel
theorem dJ2_putCharsAt_cd4e5_17 : decode cJ2_putCharsAt_cd4e5 17 = .ok (.iload_n 2, 1) := by decide +kernel
theorem dJ2_putCharsAt_cd4e5_18 : decode cJ2_putCharsAt_cd4e5 18 = .ok (.invokestatic 111, 3) := by decide +kernel
theorem dJ2_putCharsAt_cd4e5_21 : decode cJ2_putCharsAt_cd4e5 21 = .ok (.aload_n 0, 1) := by decide +kernel
theorem dJ2_putCharsAt_cd4e5_22 : decode cJ2_putCharsAt_cd4e5 22 = .ok (.iload_n 1, 1) := by decide +kernel
theorem dJ2_putCharsAt_cd4e5_23 : decode cJ2_putCharsAt_cd4e5 23 = .ok (.iinc 1 1, 3) := by decide +kernel
theorem dJ2_putCharsAt_cd4e5_26 : decode cJ2_putCharsAt_cd4e5 26 = .ok (.iload_n 3, 1) := by decide +kernel
theorem dJ2_putCharsAt_cd4e5_27 : decode cJ2_putCharsAt_cd4e5 27 = .ok (.invokestatic 111, 3) := by decide +kernel
theorem dJ2_putCharsAt_cd4e5_30 : decode cJ2_putCharsAt_cd4e5 30 = .ok (.aload_n 0, 1) := by decide +kernel
theorem dJ2_putCharsAt_cd4e5_31 : decode cJ2_putCharsAt_cd4e5 31 = .ok (.iload_n 1, 1) := by decide +kernel
theorem dJ2_putCharsAt_cd4e5_32 : decode cJ2_putCharsAt_cd4e5 32 = .ok (.iinc 1 1, 3) := by decide +kernel
theorem dJ2_putCharsAt_cd4e5_35 : decode cJ2_putCharsAt_cd4e5 35 = .ok (.iload 4, 2) := by decide +kernel
theorem dJ2_putCharsAt_cd4e5_37 : decode cJ2_putCharsAt_cd4e5 37 = .ok (.invokestatic 111, 3) := by decide +kernel
theorem dJ2_putCharsAt_cd4e5_40 : decode cJ2_putCharsAt_cd4e5 40 = .ok (.aload_n 0, 1) := by decide +kernel
theorem dJ2_putCharsAt_cd4e5_41 : decode cJ2_putCharsAt_cd4e5 41 = .ok (.iload_n 1, 1) := by decide +kernel
theorem dJ2_putCharsAt_cd4e5_42 : decode cJ2_putCharsAt_cd4e5 42 = .ok (.iinc 1 1, 3) := by decide +kernel
theorem dJ2_putCharsAt_cd4e5_45 : decode cJ2_putCharsAt_cd4e5 45 = .ok (.iload 5, 2) := by decide +kernel
theorem dJ2_putCharsAt_cd4e5_47 : decode cJ2_putCharsAt_cd4e5 47 = .ok (.invokestatic 111, 3) := by decide +kernel
theorem dJ2_putCharsAt_cd4e5_50 : decode cJ2_putCharsAt_cd4e5 50 = .ok (.getstatic 44, 3) := by decide +kernel
theorem dJ2_putCharsAt_cd4e5_53 : decode cJ2_putCharsAt_cd4e5 53 = .ok (.ifCond .ne 17, 3) := by decide +kernel
theorem dJ2_putCharsAt_cd4e5_56 : decode cJ2_putCharsAt_cd4e5 56 = .ok (.iload_n 1, 1) := by decide +kernel
theorem dJ2_putCharsAt_cd4e5_57 : decode cJ2_putCharsAt_cd4e5 57 = .ok (.iload 6, 2) := by decide +kernel
theorem dJ2_putCharsAt_cd4e5_59 : decode cJ2_putCharsAt_cd4e5 59 = .ok (.if_icmp .eq 11, 3) := by decide +kernel
theorem dJ2_putCharsAt_cd4e5_62 : decode cJ2_putCharsAt_cd4e5 62 = .ok (.new 52, 3) := by decide +kernel
theorem dJ2_putCharsAt_cd4e5_65 : decode cJ2_putCharsAt_cd4e5 65 = .ok (.dup, 1) := by decide +kernel
theorem dJ2_putCharsAt_cd4e5_66 : decode cJ2_putCharsAt_cd4e5 66 = .ok (.invokespecial 66, 3) := by decide +kernel
theorem dJ2_putCharsAt_cd4e5_69 : decode cJ2_putCharsAt_cd4e5 69 = .ok (.athrow, 1) := by decide +kernel
theorem dJ2_putCharsAt_cd4e5_70 : decode cJ2_putCharsAt_cd4e5 70 = .ok (.iload 6, 2) := by decide +kernel
theorem dJ2_putCharsAt_cd4e5_72 : decode cJ2_putCharsAt_cd4e5 72 = .ok (.ireturn, 1) := by decide +kernel
theorem dJ2_charAt_3b067_0 : decode cJ2_charAt_3b067 0 = .ok (.iload_n 1, 1) := by decide +kernel
theorem dJ2_charAt_3b067_1 : decode cJ2_charAt_3b067 1 = .ok (.aload_n 0, 1) := by decide +kernel
theorem dJ2_charAt_3b067_2 : decode cJ2_charAt_3b067 2 = .ok (.invokestatic 67, 3) := by decide +kernel
theorem dJ2_charAt_3b067_5 : decode cJ2_charAt_3b067 5 = .ok (.aload_n 0, 1) := by decide +kernel
theorem dJ2_charAt_3b067_6 : decode cJ2_charAt_3b067 6 = .ok (.iload_n 1, 1) := by decide +kernel
theorem dJ2_charAt_3b067_7 : decode cJ2_charAt_3b067 7 = .ok (.invokestatic 71, 3) := by decide +kernel
theorem dJ2_charAt_3b067_10 : decode cJ2_charAt_3b067 10 = .ok (.ireturn, 1) := by decide +kernel
theorem dJ2_inflate_0e8fd_0 : decode cJ2_inflate_0e8fd 0 = .ok (.iload_n 3, 1) := by decide +kernel
theorem dJ2_inflate_0e8fd_1 : decode cJ2_inflate_0e8fd 1 = .ok (.iload 4, 2) := by decide +kernel
theorem dJ2_inflate_0e8fd_3 : decode cJ2_inflate_0e8fd 3 = .ok (.aload_n 2, 1) := by decide +kernel
theorem dJ2_inflate_0e8fd_4 : decode cJ2_inflate_0e8fd 4 = .ok (.invokestatic 173, 3) := by decide +kernel
theorem dJ2_inflate_0e8fd_7 : decode cJ2_inflate_0e8fd 7 = .ok (.iconst 0, 1) := by decide +kernel
theorem dJ2_inflate_0e8fd_8 : decode cJ2_inflate_0e8fd 8 = .ok (.istore 5, 2) := by decide +kernel
theorem dJ2_inflate_0e8fd_10 : decode cJ2_inflate_0e8fd 10 = .ok (.iload 5, 2) := by decide +kernel
theorem dJ2_inflate_0e8fd_12 : decode cJ2_inflate_0e8fd 12 = .ok (.iload 4, 2) := by decide +kernel
theorem dJ2_inflate_0e8fd_14 : decode cJ2_inflate_0e8fd 14 = .ok (.if_icmp .ge 27, 3) := by decide +kernel
theorem dJ2_inflate_0e8fd_17 : decode cJ2_inflate_0e8fd 17 = .ok (.aload_n 2, 1) := by decide +kernel
theorem dJ2_inflate_0e8fd_18 : decode cJ2_inflate_0e8fd 18 = .ok (.iload_n 3, 1) := by decide +kernel
theorem dJ2_inflate_0e8fd_19 : decode cJ2_inflate_0e8fd 19 = .ok (.iinc 3 1, 3) := by decide +kernel
theorem dJ2_inflate_0e8fd_22 : decode cJ2_inflate_0e8fd 22 = .ok (.aload_n 0, 1) := by decide +kernel
theorem dJ2_inflate_0e8fd_23 : decode cJ2_inflate_0e8fd 23 = .ok (.iload_n 1, 1) := by decide +kernel
theorem dJ2_inflate_0e8fd_24 : decode cJ2_inflate_0e8fd 24 = .ok (.iinc 1 1, 3) := by decide +kernel
theorem dJ2_inflate_0e8fd_27 : decode cJ2_inflate_0e8fd 27 = .ok (.baload, 1) := by decide +kernel
theorem dJ2_inflate_0e8fd_28 : decode cJ2_inflate_0e8fd 28 = .ok (.sipush 255, 3) := by decide +kernel
theorem dJ2_inflate_0e8fd_31 : decode cJ2_inflate_0e8fd 31 = .ok (.iand, 1) := by decide +kernel
theorem dJ2_inflate_0e8fd_32 : decode cJ2_inflate_0e8fd 32 = .ok (.invokestatic 111, 3) := by decide +kernel
theorem dJ2_inflate_0e8fd_35 : decode cJ2_inflate_0e8fd 35 = .ok (.iinc 5 1, 3) := by decide +kernel
theorem dJ2_inflate_0e8fd_38 : decode cJ2_inflate_0e8fd 38 = .ok (.goto (-28), 3) := by decide +kernel
theorem dJ2_inflate_0e8fd_41 : decode cJ2_inflate_0e8fd 41 = .ok (.return_, 1) := by decide +kernel
theorem dJ2_getChars_ba4f3_0 : decode cJ2_getChars_ba4f3 0 = .ok (.iload_n 1, 1) := by decide +kernel
theorem dJ2_getChars_ba4f3_1 : decode cJ2_getChars_ba4f3 1 = .ok (.istore 5, 2) := by decide +kernel
theorem dJ2_getChars_ba4f3_3 : decode cJ2_getChars_ba4f3 3 = .ok (.iload_n 0, 1) := by decide +kernel
theorem dJ2_getChars_ba4f3_4 : decode cJ2_getChars_ba4f3 4 = .ok (.ifCond .ge 7, 3) := by decide +kernel
theorem dJ2_getChars_ba4f3_7 : decode cJ2_getChars_ba4f3 7 = .ok (.iconst 1, 1) := by decide +kernel
theorem dJ2_getChars_ba4f3_8 : decode cJ2_getChars_ba4f3 8 = .ok (.goto 4, 3) := by decide +kernel
theorem dJ2_getChars_ba4f3_11 : decode cJ2_getChars_ba4f3 11 = .ok (.iconst 0, 1) := by decide +kernel
theorem dJ2_getChars_ba4f3_12 : decode cJ2_getChars_ba4f3 12 = .ok (.istore 6, 2) := by decide +kernel
theorem dJ2_getChars_ba4f3_14 : decode cJ2_getChars_ba4f3 14 = .ok (.iload 6, 2) := by decide +kernel
theorem dJ2_getChars_ba4f3_16 : decode cJ2_getChars_ba4f3 16 = .ok (.ifCond .ne 6, 3) := by decide +kernel
theorem dJ2_getChars_ba4f3_19 : decode cJ2_getChars_ba4f3 19 = .ok (.iload_n 0, 1) := by decide +kernel
theorem dJ2_getChars_ba4f3_20 : decode cJ2_getChars_ba4f3 20 = .ok (.ineg, 1) := by decide +kernel
theorem dJ2_getChars_ba4f3_21 : decode cJ2_getChars_ba4f3 21 = .ok (.istore_n 0, 1) := by decide +kernel
theorem dJ2_getChars_ba4f3_22 : decode cJ2_getChars_ba4f3 22 = .ok (.iload_n 0, 1) := by decide +kernel
theorem dJ2_getChars_ba4f3_23 : decode cJ2_getChars_ba4f3 23 = .ok (.bipush (-100), 2) := by decide +kernel
theorem dJ2_getChars_ba4f3_25 : decode cJ2_getChars_ba4f3 25 = .ok (.if_icmp .gt 51, 3) := by decide +kernel
theorem dJ2_getChars_ba4f3_28 : decode cJ2_getChars_ba4f3 28 = .ok (.iload_n 0, 1) := by decide +kernel
theorem dJ2_getChars_ba4f3_29 : decode cJ2_getChars_ba4f3 29 = .ok (.bipush 100, 2) := by decide +kernel
theorem dJ2_getChars_ba4f3_31 : decode cJ2_getChars_ba4f3 31 = .ok (.idiv, 1) := by decide +kernel
theorem dJ2_getChars_ba4f3_32 : decode cJ2_getChars_ba4f3 32 = .ok (.istore_n 3, 1) := by decide +kernel
theorem dJ2_getChars_ba4f3_33 : decode cJ2_getChars_ba4f3 33 = .ok (.iload_n 3, 1) := by decide +kernel
theorem dJ2_getChars_ba4f3_34 : decode cJ2_getChars_ba4f3 34 = .ok (.bipush 100, 2) := by decide +kernel
theorem dJ2_getChars_ba4f3_36 : decode cJ2_getChars_ba4f3 36 = .ok (.imul, 1) := by decide +kernel
theorem dJ2_getChars_ba4f3_37 : decode cJ2_getChars_ba4f3 37 = .ok (.iload_n 0, 1) := by decide +kernel
theorem dJ2_getChars_ba4f3_38 : decode cJ2_getChars_ba4f3 38 = .ok (.isub, 1) := by decide +kernel
theorem dJ2_getChars_ba4f3_39 : decode cJ2_getChars_ba4f3 39 = .ok (.istore 4, 2) := by decide +kernel
theorem dJ2_getChars_ba4f3_41 : decode cJ2_getChars_ba4f3 41 = .ok (.iload_n 3, 1) := by decide +kernel
theorem dJ2_getChars_ba4f3_42 : decode cJ2_getChars_ba4f3 42 = .ok (.istore_n 0, 1) := by decide +kernel
theorem dJ2_getChars_ba4f3_43 : decode cJ2_getChars_ba4f3 43 = .ok (.aload_n 2, 1) := by decide +kernel
theorem dJ2_getChars_ba4f3_44 : decode cJ2_getChars_ba4f3 44 = .ok (.iinc 5 (-1), 3) := by decide +kernel
theorem dJ2_getChars_ba4f3_47 : decode cJ2_getChars_ba4f3 47 = .ok (.iload 5, 2) := by decide +kernel
theorem dJ2_getChars_ba4f3_49 : decode cJ2_getChars_ba4f3 49 = .ok (.getstatic 403, 3) := by decide +kernel
theorem dJ2_getChars_ba4f3_52 : decode cJ2_getChars_ba4f3 52 = .ok (.iload 4, 2) := by decide +kernel
theorem dJ2_getChars_ba4f3_54 : decode cJ2_getChars_ba4f3 54 = .ok (.baload, 1) := by decide +kernel
theorem dJ2_getChars_ba4f3_55 : decode cJ2_getChars_ba4f3 55 = .ok (.invokestatic 111, 3) := by decide +kernel
theorem dJ2_getChars_ba4f3_58 : decode cJ2_getChars_ba4f3 58 = .ok (.aload_n 2, 1) := by decide +kernel
theorem dJ2_getChars_ba4f3_59 : decode cJ2_getChars_ba4f3 59 = .ok (.iinc 5 (-1), 3) := by decide +kernel
theorem dJ2_getChars_ba4f3_62 : decode cJ2_getChars_ba4f3 62 = .ok (.iload 5, 2) := by decide +kernel
theorem dJ2_getChars_ba4f3_64 : decode cJ2_getChars_ba4f3 64 = .ok (.getstatic 407, 3) := by decide +kernel
theorem dJ2_getChars_ba4f3_67 : decode cJ2_getChars_ba4f3 67 = .ok (.iload 4, 2) := by decide +kernel
theorem dJ2_getChars_ba4f3_69 : decode cJ2_getChars_ba4f3 69 = .ok (.baload, 1) := by decide +kernel
theorem dJ2_getChars_ba4f3_70 : decode cJ2_getChars_ba4f3 70 = .ok (.invokestatic 111, 3) := by decide +kernel
theorem dJ2_getChars_ba4f3_73 : decode cJ2_getChars_ba4f3 73 = .ok (.goto (-51), 3) := by decide +kernel
theorem dJ2_getChars_ba4f3_76 : decode cJ2_getChars_ba4f3 76 = .ok (.aload_n 2, 1) := by decide +kernel
theorem dJ2_getChars_ba4f3_77 : decode cJ2_getChars_ba4f3 77 = .ok (.iinc 5 (-1), 3) := by decide +kernel
theorem dJ2_getChars_ba4f3_80 : decode cJ2_getChars_ba4f3 80 = .ok (.iload 5, 2) := by decide +kernel
theorem dJ2_getChars_ba4f3_82 : decode cJ2_getChars_ba4f3 82 = .ok (.getstatic 403, 3) := by decide +kernel
theorem dJ2_getChars_ba4f3_85 : decode cJ2_getChars_ba4f3 85 = .ok (.iload_n 0, 1) := by decide +kernel
theorem dJ2_getChars_ba4f3_86 : decode cJ2_getChars_ba4f3 86 = .ok (.ineg, 1) := by decide +kernel
theorem dJ2_getChars_ba4f3_87 : decode cJ2_getChars_ba4f3 87 = .ok (.baload, 1) := by decide +kernel
theorem dJ2_getChars_ba4f3_88 : decode cJ2_getChars_ba4f3 88 = .ok (.invokestatic 111, 3) := by decide +kernel
theorem dJ2_getChars_ba4f3_91 : decode cJ2_getChars_ba4f3 91 = .ok (.iload_n 0, 1) := by decide +kernel
theorem dJ2_getChars_ba4f3_92 : decode cJ2_getChars_ba4f3 92 = .ok (.bipush (-9), 2) := by decide +kernel
theorem dJ2_getChars_ba4f3_94 : decode cJ2_getChars_ba4f3 94 = .ok (.if_icmp .ge 18, 3) := by decide +kernel
theorem dJ2_getChars_ba4f3_97 : decode cJ2_getChars_ba4f3 97 = .ok (.aload_n 2, 1) := by decide +kernel
theorem dJ2_getChars_ba4f3_98 : decode cJ2_getChars_ba4f3 98 = .ok (.iinc 5 (-1), 3) := by decide +kernel
theorem dJ2_getChars_ba4f3_101 : decode cJ2_getChars_ba4f3 101 = .ok (.iload 5, 2) := by decide +kernel
theorem dJ2_getChars_ba4f3_103 : decode cJ2_getChars_ba4f3 103 = .ok (.getstatic 407, 3) := by decide +kernel
theorem dJ2_getChars_ba4f3_106 : decode cJ2_getChars_ba4f3 106 = .ok (.iload_n 0, 1) := by decide +kernel
theorem dJ2_getChars_ba4f3_107 : decode cJ2_getChars_ba4f3 107 = .ok (.ineg, 1) := by decide +kernel
theorem dJ2_getChars_ba4f3_108 : decode cJ2_getChars_ba4f3 108 = .ok (.baload, 1) := by decide +kernel
theorem dJ2_getChars_ba4f3_109 : decode cJ2_getChars_ba4f3 109 = .ok (.invokestatic 111, 3) := by decide +kernel
theorem dJ2_getChars_ba4f3_112 : decode cJ2_getChars_ba4f3 112 = .ok (.iload 6, 2) := by decide +kernel
theorem dJ2_getChars_ba4f3_114 : decode cJ2_getChars_ba4f3 114 = .ok (.ifCond .eq 14, 3) := by decide +kernel
theorem dJ2_getChars_ba4f3_117 : decode cJ2_getChars_ba4f3 117 = .ok (.aload_n 2, 1) := by decide +kernel
theorem dJ2_getChars_ba4f3_118 : decode cJ2_getChars_ba4f3 118 = .ok (.iinc 5 (-1), 3) := by decide +kernel
theorem dJ2_getChars_ba4f3_121 : decode cJ2_getChars_ba4f3 121 = .ok (.iload 5, 2) := by decide +kernel
theorem dJ2_getChars_ba4f3_123 : decode cJ2_getChars_ba4f3 123 = .ok (.bipush 45, 2) := by decide +kernel
theorem dJ2_getChars_ba4f3_125 : decode cJ2_getChars_ba4f3 125 = .ok (.invokestatic 111, 3) := by decide +kernel
theorem dJ2_getChars_ba4f3_128 : decode cJ2_getChars_ba4f3 128 = .ok (.iload 5, 2) := by decide +kernel
theorem dJ2_getChars_ba4f3_130 : decode cJ2_getChars_ba4f3 130 = .ok (.ireturn, 1) := by decide +kernel
theorem dJ2_checkIndex_2214a_0 : decode cJ2_checkIndex_2214a 0 = .ok (.iload_n 0, 1) := by decide +kernel
theorem dJ2_checkIndex_2214a_1 : decode cJ2_checkIndex_2214a 1 = .ok (.aload_n 1, 1) := by decide +kernel
theorem dJ2_checkIndex_2214a_2 : decode cJ2_checkIndex_2214a 2 = .ok (.invokestatic 48, 3) := by decide +kernel
theorem dJ2_checkIndex_2214a_5 : decode cJ2_checkIndex_2214a 5 = .ok (.invokestatic 414, 3) := by decide +kernel
theorem dJ2_checkIndex_2214a_8 : decode cJ2_checkIndex_2214a 8 = .ok (.return_, 1) := by decide +kernel
theorem dJ2_checkBoundsBeginEnd_d044e_0 : decode cJ2_checkBoundsBeginEnd_d044e 0 = .ok (.iload_n 0, 1) := by decide +kernel
theorem dJ2_checkBoundsBeginEnd_d044e_1 : decode cJ2_checkBoundsBeginEnd_d044e 1 = .ok (.iload_n 1, 1) := by decide +kernel
theorem dJ2_checkBoundsBeginEnd_d044e_2 : decode cJ2_checkBoundsBeginEnd_d044e 2 = .ok (.aload_n 2, 1) := by decide +kernel
theorem dJ2_checkBoundsBeginEnd_d044e_3 : decode cJ2_checkBoundsBeginEnd_d044e 3 = .ok (.invokestatic 48, 3) := by decide +kernel
theorem dJ2_checkBoundsBeginEnd_d044e_6 : decode cJ2_checkBoundsBeginEnd_d044e 6 = .ok (.invokestatic 241, 3) := by decide +kernel
theorem dJ2_checkBoundsBeginEnd_d044e_9 : decode cJ2_checkBoundsBeginEnd_d044e 9 = .ok (.return_, 1) := by decide +kernel
theorem dJ2_checkBoundsOffCount_d044e_0 : decode cJ2_checkBoundsOffCount_d044e 0 = .ok (.iload_n 0, 1) := by decide +kernel
theorem dJ2_checkBoundsOffCount_d044e_1 : decode cJ2_checkBoundsOffCount_d044e 1 = .ok (.iload_n 1, 1) := by decide +kernel
theorem dJ2_checkBoundsOffCount_d044e_2 : decode cJ2_checkBoundsOffCount_d044e 2 = .ok (.aload_n 2, 1) := by decide +kernel
theorem dJ2_checkBoundsOffCount_d044e_3 : decode cJ2_checkBoundsOffCount_d044e 3 = .ok (.invokestatic 48, 3) := by decide +kernel
theorem dJ2_checkBoundsOffCount_d044e_6 : decode cJ2_checkBoundsOffCount_d044e 6 = .ok (.invokestatic 419, 3) := by decide +kernel
theorem dJ2_checkBoundsOffCount_d044e_9 : decode cJ2_checkBoundsOffCount_d044e 9 = .ok (.pop, 1) := by decide +kernel
theorem dJ2_checkBoundsOffCount_d044e_10 : decode cJ2_checkBoundsOffCount_d044e 10 = .ok (.return_, 1) := by decide +kernel
theorem dJxa1e45_init_da8c8_0 : decode cJxa1e45_init_da8c8 0 = .ok (.aload_n 0, 1) := by decide +kernel
theorem dJxa1e45_init_da8c8_1 : decode cJxa1e45_init_da8c8 1 = .ok (.invokespecial 1, 3) := by decide +kernel
theorem dJxa1e45_init_da8c8_4 : decode cJxa1e45_init_da8c8 4 = .ok (.return_, 1) := by decide +kernel
theorem dJxc12de_init_da8c8_0 : decode cJxc12de_init_da8c8 0 = .ok (.aload_n 0, 1) := by decide +kernel
theorem dJxc12de_init_da8c8_1 : decode cJxc12de_init_da8c8 1 = .ok (.invokespecial 1, 3) := by decide +kernel
theorem dJxc12de_init_da8c8_4 : decode cJxc12de_init_da8c8 4 = .ok (.aload_n 0, 1) := by decide +kernel
theorem dJxc12de_init_da8c8_5 : decode cJxc12de_init_da8c8 5 = .ok (.iconst 0, 1) := by decide +kernel
theorem dJxc12de_init_da8c8_6 : decode cJxc12de_init_da8c8 6 = .ok (.putfield 7, 3) := by decide +kernel
theorem dJxc12de_init_da8c8_9 : decode cJxc12de_init_da8c8 9 = .ok (.return_, 1) := by decide +kernel
theorem dJx4a65c_init_da8c8_0 : decode cJx4a65c_init_da8c8 0 = .ok (.aload_n 0, 1) := by decide +kernel
theorem dJx4a65c_init_da8c8_1 : decode cJx4a65c_init_da8c8 1 = .ok (.invokespecial 1, 3) := by decide +kernel
theorem dJx4a65c_init_da8c8_4 : decode cJx4a65c_init_da8c8 4 = .ok (.aload_n 0, 1) := by decide +kernel
theorem dJx4a65c_init_da8c8_5 : decode cJx4a65c_init_da8c8 5 = .ok (.getstatic 39, 3) := by decide +kernel
theorem dJx4a65c_init_da8c8_8 : decode cJx4a65c_init_da8c8 8 = .ok (.putfield 9, 3) := by decide +kernel
theorem dJx4a65c_init_da8c8_11 : decode cJx4a65c_init_da8c8 11 = .ok (.return_, 1) := by decide +kernel
theorem dJx4a65c_grow_92f84_0 : decode cJx4a65c_grow_92f84 0 = .ok (.aload_n 0, 1) := by decide +kernel
theorem dJx4a65c_grow_92f84_1 : decode cJx4a65c_grow_92f84 1 = .ok (.getfield 9, 3) := by decide +kernel
theorem dJx4a65c_grow_92f84_4 : decode cJx4a65c_grow_92f84 4 = .ok (.arraylength, 1) := by decide +kernel
theorem dJx4a65c_grow_92f84_5 : decode cJx4a65c_grow_92f84 5 = .ok (.istore_n 2, 1) := by decide +kernel
theorem dJx4a65c_grow_92f84_6 : decode cJx4a65c_grow_92f84 6 = .ok (.iload_n 2, 1) := by decide +kernel
theorem dJx4a65c_grow_92f84_7 : decode cJx4a65c_grow_92f84 7 = .ok (.ifCond .gt 13, 3) := by decide +kernel
theorem dJx4a65c_grow_92f84_10 : decode cJx4a65c_grow_92f84 10 = .ok (.aload_n 0, 1) := by decide +kernel
theorem dJx4a65c_grow_92f84_11 : decode cJx4a65c_grow_92f84 11 = .ok (.getfield 9, 3) := by decide +kernel
theorem dJx4a65c_grow_92f84_14 : decode cJx4a65c_grow_92f84 14 = .ok (.getstatic 39, 3) := by decide +kernel
theorem dJx4a65c_grow_92f84_17 : decode cJx4a65c_grow_92f84 17 = .ok (.if_acmp .eq 28, 3) := by decide +kernel
theorem dJx4a65c_grow_92f84_20 : decode cJx4a65c_grow_92f84 20 = .ok (.iload_n 2, 1) := by decide +kernel
theorem dJx4a65c_grow_92f84_21 : decode cJx4a65c_grow_92f84 21 = .ok (.iload_n 1, 1) := by decide +kernel
theorem dJx4a65c_grow_92f84_22 : decode cJx4a65c_grow_92f84 22 = .ok (.iload_n 2, 1) := by decide +kernel
theorem dJx4a65c_grow_92f84_23 : decode cJx4a65c_grow_92f84 23 = .ok (.isub, 1) := by decide +kernel
theorem dJx4a65c_grow_92f84_24 : decode cJx4a65c_grow_92f84 24 = .ok (.iload_n 2, 1) := by decide +kernel
theorem dJx4a65c_grow_92f84_25 : decode cJx4a65c_grow_92f84 25 = .ok (.iconst 1, 1) := by decide +kernel
theorem dJx4a65c_grow_92f84_26 : decode cJx4a65c_grow_92f84 26 = .ok (.ishr, 1) := by decide +kernel
theorem dJx4a65c_grow_92f84_27 : decode cJx4a65c_grow_92f84 27 = .ok (.invokestatic 73, 3) := by decide +kernel
theorem dJx4a65c_grow_92f84_30 : decode cJx4a65c_grow_92f84 30 = .ok (.istore_n 3, 1) := by decide +kernel
theorem dJx4a65c_grow_92f84_31 : decode cJx4a65c_grow_92f84 31 = .ok (.aload_n 0, 1) := by decide +kernel
theorem dJx4a65c_grow_92f84_32 : decode cJx4a65c_grow_92f84 32 = .ok (.aload_n 0, 1) := by decide +kernel
theorem dJx4a65c_grow_92f84_33 : decode cJx4a65c_grow_92f84 33 = .ok (.getfield 9, 3) := by decide +kernel
theorem dJx4a65c_grow_92f84_36 : decode cJx4a65c_grow_92f84 36 = .ok (.iload_n 3, 1) := by decide +kernel
theorem dJx4a65c_grow_92f84_37 : decode cJx4a65c_grow_92f84 37 = .ok (.invokestatic 66, 3) := by decide +kernel
theorem dJx4a65c_grow_92f84_40 : decode cJx4a65c_grow_92f84 40 = .ok (.dup_x1, 1) := by decide +kernel
theorem dJx4a65c_grow_92f84_41 : decode cJx4a65c_grow_92f84 41 = .ok (.putfield 9, 3) := by decide +kernel
theorem dJx4a65c_grow_92f84_44 : decode cJx4a65c_grow_92f84 44 = .ok (.areturn, 1) := by decide +kernel
theorem dJx4a65c_grow_92f84_45 : decode cJx4a65c_grow_92f84 45 = .ok (.aload_n 0, 1) := by decide +kernel
theorem dJx4a65c_grow_92f84_46 : decode cJx4a65c_grow_92f84 46 = .ok (.bipush 10, 2) := by decide +kernel
theorem dJx4a65c_grow_92f84_48 : decode cJx4a65c_grow_92f84 48 = .ok (.iload_n 1, 1) := by decide +kernel
theorem dJx4a65c_grow_92f84_49 : decode cJx4a65c_grow_92f84 49 = .ok (.invokestatic 79, 3) := by decide +kernel
theorem dJx4a65c_grow_92f84_52 : decode cJx4a65c_grow_92f84 52 = .ok (.anewarray 7, 3) := by decide +kernel
theorem dJx4a65c_grow_92f84_55 : decode cJx4a65c_grow_92f84 55 = .ok (.dup_x1, 1) := by decide +kernel
theorem dJx4a65c_grow_92f84_56 : decode cJx4a65c_grow_92f84 56 = .ok (.putfield 9, 3) := by decide +kernel
theorem dJx4a65c_grow_92f84_59 : decode cJx4a65c_grow_92f84 59 = .ok (.areturn, 1) := by decide +kernel
theorem dJx4a65c_grow_d5877_0 : decode cJx4a65c_grow_d5877 0 = .ok (.aload_n 0, 1) := by decide +kernel
theorem dJx4a65c_grow_d5877_1 : decode cJx4a65c_grow_d5877 1 = .ok (.aload_n 0, 1) := by decide +kernel
theorem dJx4a65c_grow_d5877_2 : decode cJx4a65c_grow_d5877 2 = .ok (.getfield 48, 3) := by decide +kernel
theorem dJx4a65c_grow_d5877_5 : decode cJx4a65c_grow_d5877 5 = .ok (.iconst 1, 1) := by decide +kernel
theorem dJx4a65c_grow_d5877_6 : decode cJx4a65c_grow_d5877 6 = .ok (.iadd, 1) := by decide +kernel
theorem dJx4a65c_grow_d5877_7 : decode cJx4a65c_grow_d5877 7 = .ok (.invokevirtual 69, 3) := by decide +kernel
theorem dJx4a65c_grow_d5877_10 : decode cJx4a65c_grow_d5877 10 = .ok (.areturn, 1) := by decide +kernel
theorem dJx4a65c_size_8abf5_0 : decode cJx4a65c_size_8abf5 0 = .ok (.aload_n 0, 1) := by decide +kernel
theorem dJx4a65c_size_8abf5_1 : decode cJx4a65c_size_8abf5 1 = .ok (.getfield 48, 3) := by decide +kernel
theorem dJx4a65c_size_8abf5_4 : decode cJx4a65c_size_8abf5 4 = .ok (.ireturn, 1) := by decide +kernel
theorem dJx4a65c_elementData_915e3_0 : decode cJx4a65c_elementData_915e3 0 = .ok (.aload_n 0, 1) := by decide +kernel
theorem dJx4a65c_elementData_915e3_1 : decode cJx4a65c_elementData_915e3 1 = .ok (.getfield 9, 3) := by decide +kernel
theorem dJx4a65c_elementData_915e3_4 : decode cJx4a65c_elementData_915e3 4 = .ok (.iload_n 1, 1) := by decide +kernel
theorem dJx4a65c_elementData_915e3_5 : decode cJx4a65c_elementData_915e3 5 = .ok (.aaload, 1) := by decide +kernel
theorem dJx4a65c_elementData_915e3_6 : decode cJx4a65c_elementData_915e3 6 = .ok (.areturn, 1) := by decide +kernel
theorem dJx4a65c_get_915e3_0 : decode cJx4a65c_get_915e3 0 = .ok (.iload_n 1, 1) := by decide +kernel
theorem dJx4a65c_get_915e3_1 : decode cJx4a65c_get_915e3 1 = .ok (.aload_n 0, 1) := by decide +kernel
theorem dJx4a65c_get_915e3_2 : decode cJx4a65c_get_915e3 2 = .ok (.getfield 48, 3) := by decide +kernel
theorem dJx4a65c_get_915e3_5 : decode cJx4a65c_get_915e3 5 = .ok (.invokestatic 118, 3) := by decide +kernel
theorem dJx4a65c_get_915e3_8 : decode cJx4a65c_get_915e3 8 = .ok (.pop, 1) := by decide +kernel
theorem dJx4a65c_get_915e3_9 : decode cJx4a65c_get_915e3 9 = .ok (.aload_n 0, 1) := by decide +kernel
theorem dJx4a65c_get_915e3_10 : decode cJx4a65c_get_915e3 10 = .ok (.iload_n 1, 1) := by decide +kernel
theorem dJx4a65c_get_915e3_11 : decode cJx4a65c_get_915e3 11 = .ok (.invokevirtual 123, 3) := by decide +kernel
theorem dJx4a65c_get_915e3_14 : decode cJx4a65c_get_915e3 14 = .ok (.areturn, 1) := by decide +kernel
theorem dJx4a65c_add_72be8_0 : decode cJx4a65c_add_72be8 0 = .ok (.iload_n 3, 1) := by decide +kernel
theorem dJx4a65c_add_72be8_1 : decode cJx4a65c_add_72be8 1 = .ok (.aload_n 2, 1) := by decide +kernel
theorem dJx4a65c_add_72be8_2 : decode cJx4a65c_add_72be8 2 = .ok (.arraylength, 1) := by decide +kernel
theorem dJx4a65c_add_72be8_3 : decode cJx4a65c_add_72be8 3 = .ok (.if_icmp .ne 8, 3) := by decide +kernel
theorem dJx4a65c_add_72be8_6 : decode cJx4a65c_add_72be8 6 = .ok (.aload_n 0, 1) := by decide +kernel
theorem dJx4a65c_add_72be8_7 : decode cJx4a65c_add_72be8 7 = .ok (.invokevirtual 129, 3) := by decide +kernel
theorem dJx4a65c_add_72be8_10 : decode cJx4a65c_add_72be8 10 = .ok (.astore_n 2, 1) := by decide +kernel
theorem dJx4a65c_add_72be8_11 : decode cJx4a65c_add_72be8 11 = .ok (.aload_n 2, 1) := by decide +kernel
theorem dJx4a65c_add_72be8_12 : decode cJx4a65c_add_72be8 12 = .ok (.iload_n 3, 1) := by decide +kernel
theorem dJx4a65c_add_72be8_13 : decode cJx4a65c_add_72be8 13 = .ok (.aload_n 1, 1) := by decide +kernel
theorem dJx4a65c_add_72be8_14 : decode cJx4a65c_add_72be8 14 = .ok (.aastore, 1) := by decide +kernel
theorem dJx4a65c_add_72be8_15 : decode cJx4a65c_add_72be8 15 = .ok (.aload_n 0, 1) := by decide +kernel
theorem dJx4a65c_add_72be8_16 : decode cJx4a65c_add_72be8 16 = .ok (.iload_n 3, 1) := by decide +kernel
theorem dJx4a65c_add_72be8_17 : decode cJx4a65c_add_72be8 17 = .ok (.iconst 1, 1) := by decide +kernel
theorem dJx4a65c_add_72be8_18 : decode cJx4a65c_add_72be8 18 = .ok (.iadd, 1) := by decide +kernel
theorem dJx4a65c_add_72be8_19 : decode cJx4a65c_add_72be8 19 = .ok (.putfield 48, 3) := by decide +kernel
theorem dJx4a65c_add_72be8_22 : decode cJx4a65c_add_72be8 22 = .ok (.return_, 1) := by decide +kernel
theorem dJx4a65c_add_9ea2d_0 : decode cJx4a65c_add_9ea2d 0 = .ok (.aload_n 0, 1) := by decide +kernel
theorem dJx4a65c_add_9ea2d_1 : decode cJx4a65c_add_9ea2d 1 = .ok (.dup, 1) := by decide +kernel
theorem dJx4a65c_add_9ea2d_2 : decode cJx4a65c_add_9ea2d 2 = .ok (.getfield 63, 3) := by decide +kernel
theorem dJx4a65c_add_9ea2d_5 : decode cJx4a65c_add_9ea2d 5 = .ok (.iconst 1, 1) := by decide +kernel
theorem dJx4a65c_add_9ea2d_6 : decode cJx4a65c_add_9ea2d 6 = .ok (.iadd, 1) := by decide +kernel
theorem dJx4a65c_add_9ea2d_7 : decode cJx4a65c_add_9ea2d 7 = .ok (.putfield 63, 3) := by decide +kernel
theorem dJx4a65c_add_9ea2d_10 : decode cJx4a65c_add_9ea2d 10 = .ok (.aload_n 0, 1) := by decide +kernel
theorem dJx4a65c_add_9ea2d_11 : decode cJx4a65c_add_9ea2d 11 = .ok (.aload_n 1, 1) := by decide +kernel
theorem dJx4a65c_add_9ea2d_12 : decode cJx4a65c_add_9ea2d 12 = .ok (.aload_n 0, 1) := by decide +kernel
theorem dJx4a65c_add_9ea2d_13 : decode cJx4a65c_add_9ea2d 13 = .ok (.getfield 9, 3) := by decide +kernel
theorem dJx4a65c_add_9ea2d_16 : decode cJx4a65c_add_9ea2d 16 = .ok (.aload_n 0, 1) := by decide +kernel
theorem dJx4a65c_add_9ea2d_17 : decode cJx4a65c_add_9ea2d 17 = .ok (.getfield 48, 3) := by decide +kernel
theorem dJx4a65c_add_9ea2d_20 : decode cJx4a65c_add_9ea2d 20 = .ok (.invokevirtual 131, 3) := by decide +kernel
theorem dJx4a65c_add_9ea2d_23 : decode cJx4a65c_add_9ea2d 23 = .ok (.iconst 1, 1) := by decide +kernel
theorem dJx4a65c_add_9ea2d_24 : decode cJx4a65c_add_9ea2d 24 = .ok (.ireturn, 1) := by decide +kernel
theorem dJ7_copyOf_1904c_0 : decode cJ7_copyOf_1904c 0 = .ok (.aload_n 0, 1) := by decide +kernel
theorem dJ7_copyOf_1904c_1 : decode cJ7_copyOf_1904c 1 = .ok (.iload_n 1, 1) := by decide +kernel
theorem dJ7_copyOf_1904c_2 : decode cJ7_copyOf_1904c 2 = .ok (.aload_n 0, 1) := by decide +kernel
theorem dJ7_copyOf_1904c_3 : decode cJ7_copyOf_1904c 3 = .ok (.invokevirtual 86, 3) := by decide +kernel
theorem dJ7_copyOf_1904c_6 : decode cJ7_copyOf_1904c 6 = .ok (.invokestatic 300, 3) := by decide +kernel
theorem dJ7_copyOf_1904c_9 : decode cJ7_copyOf_1904c 9 = .ok (.areturn, 1) := by decide +kernel
theorem dJ7_copyOf_6403c_0 : decode cJ7_copyOf_6403c 0 = .ok (.aload_n 2, 1) := by decide +kernel
theorem dJ7_copyOf_6403c_1 : decode cJ7_copyOf_6403c 1 = .ok (.ldc 110, 2) := by decide +kernel
theorem dJ7_copyOf_6403c_3 : decode cJ7_copyOf_6403c 3 = .ok (.if_acmp .ne 10, 3) := by decide +kernel
theorem dJ7_copyOf_6403c_6 : decode cJ7_copyOf_6403c 6 = .ok (.iload_n 1, 1) := by decide +kernel
theorem dJ7_copyOf_6403c_7 : decode cJ7_copyOf_6403c 7 = .ok (.anewarray 2, 3) := by decide +kernel
theorem dJ7_copyOf_6403c_10 : decode cJ7_copyOf_6403c 10 = .ok (.goto 14, 3) := by decide +kernel
theorem dJ7_copyOf_6403c_13 : decode cJ7_copyOf_6403c 13 = .ok (.aload_n 2, 1) := by decide +kernel
theorem dJ7_copyOf_6403c_14 : decode cJ7_copyOf_6403c 14 = .ok (.invokevirtual 90, 3) := by decide +kernel
theorem dJ7_copyOf_6403c_17 : decode cJ7_copyOf_6403c 17 = .ok (.iload_n 1, 1) := by decide +kernel
theorem dJ7_copyOf_6403c_18 : decode cJ7_copyOf_6403c 18 = .ok (.invokestatic 95, 3) := by decide +kernel
theorem dJ7_copyOf_6403c_21 : decode cJ7_copyOf_6403c 21 = .ok (.checkcast 110, 3) := by decide +kernel
theorem dJ7_copyOf_6403c_24 : decode cJ7_copyOf_6403c 24 = .ok (.astore_n 3, 1) := by decide +kernel
theorem dJ7_copyOf_6403c_25 : decode cJ7_copyOf_6403c 25 = .ok (.aload_n 0, 1) := by decide +kernel
theorem dJ7_copyOf_6403c_26 : decode cJ7_copyOf_6403c 26 = .ok (.iconst 0, 1) := by decide +kernel
theorem dJ7_copyOf_6403c_27 : decode cJ7_copyOf_6403c 27 = .ok (.aload_n 3, 1) := by decide +kernel
theorem dJ7_copyOf_6403c_28 : decode cJ7_copyOf_6403c 28 = .ok (.iconst 0, 1) := by decide +kernel
theorem dJ7_copyOf_6403c_29 : decode cJ7_copyOf_6403c 29 = .ok (.aload_n 0, 1) := by decide +kernel
theorem dJ7_copyOf_6403c_30 : decode cJ7_copyOf_6403c 30 = .ok (.arraylength, 1) := by decide +kernel
theorem dJ7_copyOf_6403c_31 : decode cJ7_copyOf_6403c 31 = .ok (.iload_n 1, 1) := by decide +kernel
theorem dJ7_copyOf_6403c_32 : decode cJ7_copyOf_6403c 32 = .ok (.invokestatic 304, 3) := by decide +kernel
theorem dJ7_copyOf_6403c_35 : decode cJ7_copyOf_6403c 35 = .ok (.invokestatic 150, 3) := by decide +kernel
theorem dJ7_copyOf_6403c_38 : decode cJ7_copyOf_6403c 38 = .ok (.aload_n 3, 1) := by decide +kernel
theorem dJ7_copyOf_6403c_39 : decode cJ7_copyOf_6403c 39 = .ok (.areturn, 1) := by decide +kernel
theorem dJ7_copyOf_9075b_0 : decode cJ7_copyOf_9075b 0 = .ok (.iload_n 1, 1) := by decide +kernel
theorem dJ7_copyOf_9075b_1 : decode cJ7_copyOf_9075b 1 = .ok (.aload_n 0, 1) := by decide +kernel
theorem dJ7_copyOf_9075b_2 : decode cJ7_copyOf_9075b 2 = .ok (.arraylength, 1) := by decide +kernel
theorem dJ7_copyOf_9075b_3 : decode cJ7_copyOf_9075b 3 = .ok (.if_icmp .ne 11, 3) := by decide +kernel
theorem dJ7_copyOf_9075b_6 : decode cJ7_copyOf_9075b 6 = .ok (.aload_n 0, 1) := by decide +kernel
theorem dJ7_copyOf_9075b_7 : decode cJ7_copyOf_9075b 7 = .ok (.invokevirtual 310, 3) := by decide +kernel
theorem dJ7_copyOf_9075b_10 : decode cJ7_copyOf_9075b 10 = .ok (.checkcast 311, 3) := by decide +kernel
theorem dJ7_copyOf_9075b_13 : decode cJ7_copyOf_9075b 13 = .ok (.areturn, 1) := by decide +kernel
theorem dJ7_copyOf_9075b_14 : decode cJ7_copyOf_9075b 14 = .ok (.iload_n 1, 1) := by decide +kernel
theorem dJ7_copyOf_9075b_15 : decode cJ7_copyOf_9075b 15 = .ok (.newarray .byte, 2) := by decide +kernel
theorem dJ7_copyOf_9075b_17 : decode cJ7_copyOf_9075b 17 = .ok (.astore_n 2, 1) := by decide +kernel
theorem dJ7_copyOf_9075b_18 : decode cJ7_copyOf_9075b 18 = .ok (.aload_n 0, 1) := by decide +kernel
theorem dJ7_copyOf_9075b_19 : decode cJ7_copyOf_9075b 19 = .ok (.iconst 0, 1) := by decide +kernel
theorem dJ7_copyOf_9075b_20 : decode cJ7_copyOf_9075b 20 = .ok (.aload_n 2, 1) := by decide +kernel
theorem dJ7_copyOf_9075b_21 : decode cJ7_copyOf_9075b 21 = .ok (.iconst 0, 1) := by decide +kernel
theorem dJ7_copyOf_9075b_22 : decode cJ7_copyOf_9075b 22 = .ok (.aload_n 0, 1) := by decide +kernel
theorem dJ7_copyOf_9075b_23 : decode cJ7_copyOf_9075b 23 = .ok (.arraylength, 1) := by decide +kernel
theorem dJ7_copyOf_9075b_24 : decode cJ7_copyOf_9075b 24 = .ok (.iload_n 1, 1) := by decide +kernel
theorem dJ7_copyOf_9075b_25 : decode cJ7_copyOf_9075b 25 = .ok (.invokestatic 304, 3) := by decide +kernel
theorem dJ7_copyOf_9075b_28 : decode cJ7_copyOf_9075b 28 = .ok (.invokestatic 150, 3) := by decide +kernel
theorem dJ7_copyOf_9075b_31 : decode cJ7_copyOf_9075b 31 = .ok (.aload_n 2, 1) := by decide +kernel
theorem dJ7_copyOf_9075b_32 : decode cJ7_copyOf_9075b 32 = .ok (.areturn, 1) := by decide +kernel
theorem dJ7_checkLength_df160_0 : decode cJ7_checkLength_df160 0 = .ok (.iload_n 1, 1) := by decide +kernel
theorem dJ7_checkLength_df160_1 : decode cJ7_checkLength_df160 1 = .ok (.iload_n 0, 1) := by decide +kernel
theorem dJ7_checkLength_df160_2 : decode cJ7_checkLength_df160 2 = .ok (.if_icmp .ge 35, 3) := by decide +kernel
theorem dJ7_checkLength_df160_5 : decode cJ7_checkLength_df160 5 = .ok (.new 43, 3) := by decide +kernel
theorem dJ7_checkLength_df160_8 : decode cJ7_checkLength_df160 8 = .ok (.dup, 1) := by decide +kernel
theorem dJ7_checkLength_df160_9 : decode cJ7_checkLength_df160 9 = .ok (.new 45, 3) := by decide +kernel
theorem dJ7_checkLength_df160_12 : decode cJ7_checkLength_df160 12 = .ok (.dup, 1) := by decide +kernel
theorem dJ7_checkLength_df160_13 : decode cJ7_checkLength_df160 13 = .ok (.invokespecial 47, 3) := by decide +kernel
theorem dJ7_checkLength_df160_16 : decode cJ7_checkLength_df160 16 = .ok (.iload_n 0, 1) := by decide +kernel
theorem dJ7_checkLength_df160_17 : decode cJ7_checkLength_df160 17 = .ok (.invokevirtual 54, 3) := by decide +kernel
theorem dJ7_checkLength_df160_20 : decode cJ7_checkLength_df160 20 = .ok (.ldc_w 337, 3) := by decide +kernel
theorem dJ7_checkLength_df160_23 : decode cJ7_checkLength_df160 23 = .ok (.invokevirtual 50, 3) := by decide +kernel
theorem dJ7_checkLength_df160_26 : decode cJ7_checkLength_df160 26 = .ok (.iload_n 1, 1) := by decide +kernel
theorem dJ7_checkLength_df160_27 : decode cJ7_checkLength_df160 27 = .ok (.invokevirtual 54, 3) := by decide +kernel
theorem dJ7_checkLength_df160_30 : decode cJ7_checkLength_df160 30 = .ok (.invokevirtual 61, 3) := by decide +kernel
theorem dJ7_checkLength_df160_33 : decode cJ7_checkLength_df160 33 = .ok (.invokespecial 65, 3) := by decide +kernel
theorem dJ7_checkLength_df160_36 : decode cJ7_checkLength_df160 36 = .ok (.athrow, 1) := by decide +kernel
theorem dJ7_checkLength_df160_37 : decode cJ7_checkLength_df160 37 = .ok (.return_, 1) := by decide +kernel
theorem dJ7_copyOfRange_39247_0 : decode cJ7_copyOfRange_39247 0 = .ok (.iload_n 1, 1) := by decide +kernel
theorem dJ7_copyOfRange_39247_1 : decode cJ7_copyOfRange_39247 1 = .ok (.ifCond .ne 9, 3) := by decide +kernel
theorem dJ7_copyOfRange_39247_4 : decode cJ7_copyOfRange_39247 4 = .ok (.iload_n 2, 1) := by decide +kernel
theorem dJ7_copyOfRange_39247_5 : decode cJ7_copyOfRange_39247 5 = .ok (.aload_n 0, 1) := by decide +kernel
theorem dJ7_copyOfRange_39247_6 : decode cJ7_copyOfRange_39247 6 = .ok (.arraylength, 1) := by decide +kernel
theorem dJ7_copyOfRange_39247_7 : decode cJ7_copyOfRange_39247 7 = .ok (.if_icmp .eq 10, 3) := by decide +kernel
theorem dJ7_copyOfRange_39247_10 : decode cJ7_copyOfRange_39247 10 = .ok (.aload_n 0, 1) := by decide +kernel
theorem dJ7_copyOfRange_39247_11 : decode cJ7_copyOfRange_39247 11 = .ok (.iload_n 1, 1) := by decide +kernel
theorem dJ7_copyOfRange_39247_12 : decode cJ7_copyOfRange_39247 12 = .ok (.iload_n 2, 1) := by decide +kernel
theorem dJ7_copyOfRange_39247_13 : decode cJ7_copyOfRange_39247 13 = .ok (.invokestatic 339, 3) := by decide +kernel
theorem dJ7_copyOfRange_39247_16 : decode cJ7_copyOfRange_39247 16 = .ok (.areturn, 1) := by decide +kernel
theorem dJ7_copyOfRange_39247_17 : decode cJ7_copyOfRange_39247 17 = .ok (.aload_n 0, 1) := by decide +kernel
theorem dJ7_copyOfRange_39247_18 : decode cJ7_copyOfRange_39247 18 = .ok (.invokevirtual 310, 3) := by decide +kernel
theorem dJ7_copyOfRange_39247_21 : decode cJ7_copyOfRange_39247 21 = .ok (.checkcast 311, 3) := by decide +kernel
theorem dJ7_copyOfRange_39247_24 : decode cJ7_copyOfRange_39247 24 = .ok (.areturn, 1) := by decide +kernel
theorem dJ7_copyOfRangeByte_39247_0 : decode cJ7_copyOfRangeByte_39247 0 = .ok (.iload_n 1, 1) := by decide +kernel
theorem dJ7_copyOfRangeByte_39247_1 : decode cJ7_copyOfRangeByte_39247 1 = .ok (.iload_n 2, 1) := by decide +kernel
theorem dJ7_copyOfRangeByte_39247_2 : decode cJ7_copyOfRangeByte_39247 2 = .ok (.invokestatic 343, 3) := by decide +kernel
theorem dJ7_copyOfRangeByte_39247_5 : decode cJ7_copyOfRangeByte_39247 5 = .ok (.iload_n 2, 1) := by decide +kernel
theorem dJ7_copyOfRangeByte_39247_6 : decode cJ7_copyOfRangeByte_39247 6 = .ok (.iload_n 1, 1) := by decide +kernel
theorem dJ7_copyOfRangeByte_39247_7 : decode cJ7_copyOfRangeByte_39247 7 = .ok (.isub, 1) := by decide +kernel
theorem dJ7_copyOfRangeByte_39247_8 : decode cJ7_copyOfRangeByte_39247 8 = .ok (.istore_n 3, 1) := by decide +kernel
theorem dJ7_copyOfRangeByte_39247_9 : decode cJ7_copyOfRangeByte_39247 9 = .ok (.iload_n 3, 1) := by decide +kernel
theorem dJ7_copyOfRangeByte_39247_10 : decode cJ7_copyOfRangeByte_39247 10 = .ok (.newarray .byte, 2) := by decide +kernel
theorem dJ7_copyOfRangeByte_39247_12 : decode cJ7_copyOfRangeByte_39247 12 = .ok (.astore 4, 2) := by decide +kernel
theorem dJ7_copyOfRangeByte_39247_14 : decode cJ7_copyOfRangeByte_39247 14 = .ok (.aload_n 0, 1) := by decide +kernel
theorem dJ7_copyOfRangeByte_39247_15 : decode cJ7_copyOfRangeByte_39247 15 = .ok (.iload_n 1, 1) := by decide +kernel
theorem dJ7_copyOfRangeByte_39247_16 : decode cJ7_copyOfRangeByte_39247 16 = .ok (.aload 4, 2) := by decide +kernel
theorem dJ7_copyOfRangeByte_39247_18 : decode cJ7_copyOfRangeByte_39247 18 = .ok (.iconst 0, 1) := by decide +kernel
theorem dJ7_copyOfRangeByte_39247_19 : decode cJ7_copyOfRangeByte_39247 19 = .ok (.aload_n 0, 1) := by decide +kernel
theorem dJ7_copyOfRangeByte_39247_20 : decode cJ7_copyOfRangeByte_39247 20 = .ok (.arraylength, 1) := by decide +kernel
theorem dJ7_copyOfRangeByte_39247_21 : decode cJ7_copyOfRangeByte_39247 21 = .ok (.iload_n 1, 1) := by decide +kernel
theorem dJ7_copyOfRangeByte_39247_22 : decode cJ7_copyOfRangeByte_39247 22 = .ok (.isub, 1) := by decide +kernel
theorem dJ7_copyOfRangeByte_39247_23 : decode cJ7_copyOfRangeByte_39247 23 = .ok (.iload_n 3, 1) := by decide +kernel
theorem dJ7_copyOfRangeByte_39247_24 : decode cJ7_copyOfRangeByte_39247 24 = .ok (.invokestatic 304, 3) := by decide +kernel
theorem dJ7_copyOfRangeByte_39247_27 : decode cJ7_copyOfRangeByte_39247 27 = .ok (.invokestatic 150, 3) := by decide +kernel
theorem dJ7_copyOfRangeByte_39247_30 : decode cJ7_copyOfRangeByte_39247 30 = .ok (.aload 4, 2) := by decide +kernel
theorem dJ7_copyOfRangeByte_39247_32 : decode cJ7_copyOfRangeByte_39247 32 = .ok (.areturn, 1) := by decide +kernel
theorem dJ15_checkIndex_7cf53_0 : decode cJ15_checkIndex_7cf53 0 = .ok (.iload_n 0, 1) := by decide +kernel
theorem dJ15_checkIndex_7cf53_1 : decode cJ15_checkIndex_7cf53 1 = .ok (.iload_n 1, 1) := by decide +kernel
theorem dJ15_checkIndex_7cf53_2 : decode cJ15_checkIndex_7cf53 2 = .ok (.aconst_null, 1) := by decide +kernel
theorem dJ15_checkIndex_7cf53_3 : decode cJ15_checkIndex_7cf53 3 = .ok (.invokestatic 105, 3) := by decide +kernel
theorem dJ15_checkIndex_7cf53_6 : decode cJ15_checkIndex_7cf53 6 = .ok (.ireturn, 1) := by decide +kernel
theorem dJ8_newLength_cabcc_0 : decode cJ8_newLength_cabcc 0 = .ok (.iload_n 0, 1) := by decide +kernel
theorem dJ8_newLength_cabcc_1 : decode cJ8_newLength_cabcc 1 = .ok (.iload_n 1, 1) := by decide +kernel
theorem dJ8_newLength_cabcc_2 : decode cJ8_newLength_cabcc 2 = .ok (.iload_n 2, 1) := by decide +kernel
theorem dJ8_newLength_cabcc_3 : decode cJ8_newLength_cabcc 3 = .ok (.invokestatic 194, 3) := by decide +kernel
theorem dJ8_newLength_cabcc_6 : decode cJ8_newLength_cabcc 6 = .ok (.iadd, 1) := by decide +kernel
theorem dJ8_newLength_cabcc_7 : decode cJ8_newLength_cabcc 7 = .ok (.istore_n 3, 1) := by decide +kernel
theorem dJ8_newLength_cabcc_8 : decode cJ8_newLength_cabcc 8 = .ok (.iconst 0, 1) := by decide +kernel
theorem dJ8_newLength_cabcc_9 : decode cJ8_newLength_cabcc 9 = .ok (.iload_n 3, 1) := by decide +kernel
theorem dJ8_newLength_cabcc_10 : decode cJ8_newLength_cabcc 10 = .ok (.if_icmp .ge 11, 3) := by decide +kernel
theorem dJ8_newLength_cabcc_13 : decode cJ8_newLength_cabcc 13 = .ok (.iload_n 3, 1) := by decide +kernel
theorem dJ8_newLength_cabcc_14 : decode cJ8_newLength_cabcc 14 = .ok (.ldc 200, 2) := by decide +kernel
theorem dJ8_newLength_cabcc_16 : decode cJ8_newLength_cabcc 16 = .ok (.if_icmp .gt 5, 3) := by decide +kernel
theorem dJ8_newLength_cabcc_19 : decode cJ8_newLength_cabcc 19 = .ok (.iload_n 3, 1) := by decide +kernel
theorem dJ8_newLength_cabcc_20 : decode cJ8_newLength_cabcc 20 = .ok (.ireturn, 1) := by decide +kernel
theorem dJ8_newLength_cabcc_21 : decode cJ8_newLength_cabcc 21 = .ok (.iload_n 0, 1) := by decide +kernel
theorem dJ8_newLength_cabcc_22 : decode cJ8_newLength_cabcc 22 = .ok (.iload_n 1, 1) := by decide +kernel
theorem dJ8_newLength_cabcc_23 : decode cJ8_newLength_cabcc 23 = .ok (.invokestatic 201, 3) := by decide +kernel
theorem dJ8_newLength_cabcc_26 : decode cJ8_newLength_cabcc 26 = .ok (.ireturn, 1) := by decide +kernel
theorem dJ8_hugeLength_7cf53_0 : decode cJ8_hugeLength_7cf53 0 = .ok (.iload_n 0, 1) := by decide +kernel
theorem dJ8_hugeLength_7cf53_1 : decode cJ8_hugeLength_7cf53 1 = .ok (.iload_n 1, 1) := by decide +kernel
theorem dJ8_hugeLength_7cf53_2 : decode cJ8_hugeLength_7cf53 2 = .ok (.iadd, 1) := by decide +kernel
theorem dJ8_hugeLength_7cf53_3 : decode cJ8_hugeLength_7cf53 3 = .ok (.istore_n 2, 1) := by decide +kernel
theorem dJ8_hugeLength_7cf53_4 : decode cJ8_hugeLength_7cf53 4 = .ok (.iload_n 2, 1) := by decide +kernel
theorem dJ8_hugeLength_7cf53_5 : decode cJ8_hugeLength_7cf53 5 = .ok (.ifCond .ge 44, 3) := by decide +kernel
theorem dJ8_hugeLength_7cf53_8 : decode cJ8_hugeLength_7cf53 8 = .ok (.new 204, 3) := by decide +kernel
theorem dJ8_hugeLength_7cf53_11 : decode cJ8_hugeLength_7cf53 11 = .ok (.dup, 1) := by decide +kernel
theorem dJ8_hugeLength_7cf53_12 : decode cJ8_hugeLength_7cf53 12 = .ok (.new 89, 3) := by decide +kernel
theorem dJ8_hugeLength_7cf53_15 : decode cJ8_hugeLength_7cf53 15 = .ok (.dup, 1) := by decide +kernel
theorem dJ8_hugeLength_7cf53_16 : decode cJ8_hugeLength_7cf53 16 = .ok (.invokespecial 91, 3) := by decide +kernel
theorem dJ8_hugeLength_7cf53_19 : decode cJ8_hugeLength_7cf53 19 = .ok (.ldc 206, 2) := by decide +kernel
theorem dJ8_hugeLength_7cf53_21 : decode cJ8_hugeLength_7cf53 21 = .ok (.invokevirtual 94, 3) := by decide +kernel
theorem dJ8_hugeLength_7cf53_24 : decode cJ8_hugeLength_7cf53 24 = .ok (.iload_n 0, 1) := by decide +kernel
theorem dJ8_hugeLength_7cf53_25 : decode cJ8_hugeLength_7cf53 25 = .ok (.invokevirtual 98, 3) := by decide +kernel
theorem dJ8_hugeLength_7cf53_28 : decode cJ8_hugeLength_7cf53 28 = .ok (.ldc 208, 2) := by decide +kernel
theorem dJ8_hugeLength_7cf53_30 : decode cJ8_hugeLength_7cf53 30 = .ok (.invokevirtual 94, 3) := by decide +kernel
theorem dJ8_hugeLength_7cf53_33 : decode cJ8_hugeLength_7cf53 33 = .ok (.iload_n 1, 1) := by decide +kernel
theorem dJ8_hugeLength_7cf53_34 : decode cJ8_hugeLength_7cf53 34 = .ok (.invokevirtual 98, 3) := by decide +kernel
theorem dJ8_hugeLength_7cf53_37 : decode cJ8_hugeLength_7cf53 37 = .ok (.ldc 210, 2) := by decide +kernel
theorem dJ8_hugeLength_7cf53_39 : decode cJ8_hugeLength_7cf53 39 = .ok (.invokevirtual 94, 3) := by decide +kernel
theorem dJ8_hugeLength_7cf53_42 : decode cJ8_hugeLength_7cf53 42 = .ok (.invokevirtual 101, 3) := by decide +kernel
theorem dJ8_hugeLength_7cf53_45 : decode cJ8_hugeLength_7cf53 45 = .ok (.invokespecial 212, 3) := by decide +kernel
theorem dJ8_hugeLength_7cf53_48 : decode cJ8_hugeLength_7cf53 48 = .ok (.athrow, 1) := by decide +kernel
theorem dJ8_hugeLength_7cf53_49 : decode cJ8_hugeLength_7cf53 49 = .ok (.iload_n 2, 1) := by decide +kernel
theorem dJ8_hugeLength_7cf53_50 : decode cJ8_hugeLength_7cf53 50 = .ok (.ldc 200, 2) := by decide +kernel
theorem dJ8_hugeLength_7cf53_52 : decode cJ8_hugeLength_7cf53 52 = .ok (.if_icmp .gt 6, 3) := by decide +kernel
theorem dJ8_hugeLength_7cf53_55 : decode cJ8_hugeLength_7cf53 55 = .ok (.ldc 200, 2) := by decide +kernel
theorem dJ8_hugeLength_7cf53_57 : decode cJ8_hugeLength_7cf53 57 = .ok (.ireturn, 1) := by decide +kernel
theorem dJ8_hugeLength_7cf53_58 : decode cJ8_hugeLength_7cf53 58 = .ok (.iload_n 2, 1) := by decide +kernel
theorem dJ8_hugeLength_7cf53_59 : decode cJ8_hugeLength_7cf53 59 = .ok (.ireturn, 1) := by decide +kernel
theorem dJ3_checkIndex_8e157_0 : decode cJ3_checkIndex_8e157 0 = .ok (.iload_n 0, 1) := by decide +kernel
theorem dJ3_checkIndex_8e157_1 : decode cJ3_checkIndex_8e157 1 = .ok (.ifCond .lt 8, 3) := by decide +kernel
theorem dJ3_checkIndex_8e157_4 : decode cJ3_checkIndex_8e157 4 = .ok (.iload_n 0, 1) := by decide +kernel
theorem dJ3_checkIndex_8e157_5 : decode cJ3_checkIndex_8e157 5 = .ok (.iload_n 1, 1) := by decide +kernel
theorem dJ3_checkIndex_8e157_6 : decode cJ3_checkIndex_8e157 6 = .ok (.if_icmp .lt 10, 3) := by decide +kernel
theorem dJ3_checkIndex_8e157_9 : decode cJ3_checkIndex_8e157 9 = .ok (.aload_n 2, 1) := by decide +kernel
theorem dJ3_checkIndex_8e157_10 : decode cJ3_checkIndex_8e157 10 = .ok (.iload_n 0, 1) := by decide +kernel
theorem dJ3_checkIndex_8e157_11 : decode cJ3_checkIndex_8e157 11 = .ok (.iload_n 1, 1) := by decide +kernel
theorem dJ3_checkIndex_8e157_12 : decode cJ3_checkIndex_8e157 12 = .ok (.invokestatic 95, 3) := by decide +kernel
theorem dJ3_checkIndex_8e157_15 : decode cJ3_checkIndex_8e157 15 = .ok (.athrow, 1) := by decide +kernel
theorem dJ3_checkIndex_8e157_16 : decode cJ3_checkIndex_8e157 16 = .ok (.iload_n 0, 1) := by decide +kernel
theorem dJ3_checkIndex_8e157_17 : decode cJ3_checkIndex_8e157 17 = .ok (.ireturn, 1) := by decide +kernel
theorem dJ3_checkFromToIndex_8c36e_0 : decode cJ3_checkFromToIndex_8c36e 0 = .ok (.iload_n 0, 1) := by decide +kernel
theorem dJ3_checkFromToIndex_8c36e_1 : decode cJ3_checkFromToIndex_8c36e 1 = .ok (.ifCond .lt 13, 3) := by decide +kernel
theorem dJ3_checkFromToIndex_8c36e_4 : decode cJ3_checkFromToIndex_8c36e 4 = .ok (.iload_n 0, 1) := by decide +kernel
theorem dJ3_checkFromToIndex_8c36e_5 : decode cJ3_checkFromToIndex_8c36e 5 = .ok (.iload_n 1, 1) := by decide +kernel
theorem dJ3_checkFromToIndex_8c36e_6 : decode cJ3_checkFromToIndex_8c36e 6 = .ok (.if_icmp .gt 8, 3) := by decide +kernel
theorem dJ3_checkFromToIndex_8c36e_9 : decode cJ3_checkFromToIndex_8c36e 9 = .ok (.iload_n 1, 1) := by decide +kernel
theorem dJ3_checkFromToIndex_8c36e_10 : decode cJ3_checkFromToIndex_8c36e 10 = .ok (.iload_n 2, 1) := by decide +kernel
theorem dJ3_checkFromToIndex_8c36e_11 : decode cJ3_checkFromToIndex_8c36e 11 = .ok (.if_icmp .le 11, 3) := by decide +kernel
theorem dJ3_checkFromToIndex_8c36e_14 : decode cJ3_checkFromToIndex_8c36e 14 = .ok (.aload_n 3, 1) := by decide +kernel
theorem dJ3_checkFromToIndex_8c36e_15 : decode cJ3_checkFromToIndex_8c36e 15 = .ok (.iload_n 0, 1) := by decide +kernel
theorem dJ3_checkFromToIndex_8c36e_16 : decode cJ3_checkFromToIndex_8c36e 16 = .ok (.iload_n 1, 1) := by decide +kernel
theorem dJ3_checkFromToIndex_8c36e_17 : decode cJ3_checkFromToIndex_8c36e 17 = .ok (.iload_n 2, 1) := by decide +kernel
theorem dJ3_checkFromToIndex_8c36e_18 : decode cJ3_checkFromToIndex_8c36e 18 = .ok (.invokestatic 99, 3) := by decide +kernel
theorem dJ3_checkFromToIndex_8c36e_21 : decode cJ3_checkFromToIndex_8c36e 21 = .ok (.athrow, 1) := by decide +kernel
theorem dJ3_checkFromToIndex_8c36e_22 : decode cJ3_checkFromToIndex_8c36e 22 = .ok (.iload_n 0, 1) := by decide +kernel
theorem dJ3_checkFromToIndex_8c36e_23 : decode cJ3_checkFromToIndex_8c36e 23 = .ok (.ireturn, 1) := by decide +kernel
theorem dJ3_checkFromIndexSize_8c36e_0 : decode cJ3_checkFromIndexSize_8c36e 0 = .ok (.iload_n 2, 1) := by decide +kernel
theorem dJ3_checkFromIndexSize_8c36e_1 : decode cJ3_checkFromIndexSize_8c36e 1 = .ok (.iload_n 0, 1) := by decide +kernel
theorem dJ3_checkFromIndexSize_8c36e_2 : decode cJ3_checkFromIndexSize_8c36e 2 = .ok (.ior, 1) := by decide +kernel
theorem dJ3_checkFromIndexSize_8c36e_3 : decode cJ3_checkFromIndexSize_8c36e 3 = .ok (.iload_n 1, 1) := by decide +kernel
theorem dJ3_checkFromIndexSize_8c36e_4 : decode cJ3_checkFromIndexSize_8c36e 4 = .ok (.ior, 1) := by decide +kernel
theorem dJ3_checkFromIndexSize_8c36e_5 : decode cJ3_checkFromIndexSize_8c36e 5 = .ok (.ifCond .lt 10, 3) := by decide +kernel
theorem dJ3_checkFromIndexSize_8c36e_8 : decode cJ3_checkFromIndexSize_8c36e 8 = .ok (.iload_n 1, 1) := by decide +kernel
theorem dJ3_checkFromIndexSize_8c36e_9 : decode cJ3_checkFromIndexSize_8c36e 9 = .ok (.iload_n 2, 1) := by decide +kernel
theorem dJ3_checkFromIndexSize_8c36e_10 : decode cJ3_checkFromIndexSize_8c36e 10 = .ok (.iload_n 0, 1) := by decide +kernel
theorem dJ3_checkFromIndexSize_8c36e_11 : decode cJ3_checkFromIndexSize_8c36e 11 = .ok (.isub, 1) := by decide +kernel
theorem dJ3_checkFromIndexSize_8c36e_12 : decode cJ3_checkFromIndexSize_8c36e 12 = .ok (.if_icmp .le 11, 3) := by decide +kernel
theorem dJ3_checkFromIndexSize_8c36e_15 : decode cJ3_checkFromIndexSize_8c36e 15 = .ok (.aload_n 3, 1) := by decide +kernel
theorem dJ3_checkFromIndexSize_8c36e_16 : decode cJ3_checkFromIndexSize_8c36e 16 = .ok (.iload_n 0, 1) := by decide +kernel
theorem dJ3_checkFromIndexSize_8c36e_17 : decode cJ3_checkFromIndexSize_8c36e 17 = .ok (.iload_n 1, 1) := by decide +kernel
theorem dJ3_checkFromIndexSize_8c36e_18 : decode cJ3_checkFromIndexSize_8c36e 18 = .ok (.iload_n 2, 1) := by decide +kernel
theorem dJ3_checkFromIndexSize_8c36e_19 : decode cJ3_checkFromIndexSize_8c36e 19 = .ok (.invokestatic 103, 3) := by decide +kernel
theorem dJ3_checkFromIndexSize_8c36e_22 : decode cJ3_checkFromIndexSize_8c36e 22 = .ok (.athrow, 1) := by decide +kernel
theorem dJ3_checkFromIndexSize_8c36e_23 : decode cJ3_checkFromIndexSize_8c36e 23 = .ok (.iload_n 0, 1) := by decide +kernel
theorem dJ3_checkFromIndexSize_8c36e_24 : decode cJ3_checkFromIndexSize_8c36e 24 = .ok (.ireturn, 1) := by decide +kernel
theorem dL_addWell_0 : decode cL_addWell 0 = .ok (.aload 7, 2) := by decide +kernel
theorem dL_addWell_2 : decode cL_addWell 2 = .ok (.iconst 0, 1) := by decide +kernel
theorem dL_addWell_3 : decode cL_addWell 3 = .ok (.aload_n 0, 1) := by decide +kernel
theorem dL_addWell_4 : decode cL_addWell 4 = .ok (.iload_n 1, 1) := by decide +kernel
theorem dL_addWell_5 : decode cL_addWell 5 = .ok (.iload_n 2, 1) := by decide +kernel
theorem dL_addWell_6 : decode cL_addWell 6 = .ok (.iload_n 3, 1) := by decide +kernel
theorem dL_addWell_7 : decode cL_addWell 7 = .ok (.iload 4, 2) := by decide +kernel
theorem dL_addWell_9 : decode cL_addWell 9 = .ok (.iload 5, 2) := by decide +kernel
theorem dL_addWell_11 : decode cL_addWell 11 = .ok (.iload 6, 2) := by decide +kernel
theorem dL_addWell_13 : decode cL_addWell 13 = .ok (.invokevirtual 7, 3) := by decide +kernel
theorem dL_addWell_16 : decode cL_addWell 16 = .ok (.i2l, 1) := by decide +kernel
theorem dL_addWell_17 : decode cL_addWell 17 = .ok (.lastore, 1) := by decide +kernel
theorem dL_addWell_18 : decode cL_addWell 18 = .ok (.goto 15, 3) := by decide +kernel
theorem dL_addWell_21 : decode cL_addWell 21 = .ok (.astore 8, 2) := by decide +kernel
theorem dL_addWell_23 : decode cL_addWell 23 = .ok (.iconst 1, 1) := by decide +kernel
theorem dL_addWell_24 : decode cL_addWell 24 = .ok (.ireturn, 1) := by decide +kernel
theorem dL_addWell_25 : decode cL_addWell 25 = .ok (.astore 8, 2) := by decide +kernel
theorem dL_addWell_27 : decode cL_addWell 27 = .ok (.iconst 2, 1) := by decide +kernel
theorem dL_addWell_28 : decode cL_addWell 28 = .ok (.ireturn, 1) := by decide +kernel
theorem dL_addWell_29 : decode cL_addWell 29 = .ok (.astore 8, 2) := by decide +kernel
theorem dL_addWell_31 : decode cL_addWell 31 = .ok (.iconst 3, 1) := by decide +kernel
theorem dL_addWell_32 : decode cL_addWell 32 = .ok (.ireturn, 1) := by decide +kernel
theorem dL_addWell_33 : decode cL_addWell 33 = .ok (.iconst 0, 1) := by decide +kernel
theorem dL_addWell_34 : decode cL_addWell 34 = .ok (.ireturn, 1) := by decide +kernel
theorem dL_plan_0 : decode cL_plan 0 = .ok (.aload_n 3, 1) := by decide +kernel
theorem dL_plan_1 : decode cL_plan 1 = .ok (.iconst 0, 1) := by decide +kernel
theorem dL_plan_2 : decode cL_plan 2 = .ok (.aload_n 0, 1) := by decide +kernel
theorem dL_plan_3 : decode cL_plan 3 = .ok (.iload_n 1, 1) := by decide +kernel
theorem dL_plan_4 : decode cL_plan 4 = .ok (.iload_n 2, 1) := by decide +kernel
theorem dL_plan_5 : decode cL_plan 5 = .ok (.invokevirtual 19, 3) := by decide +kernel
theorem dL_plan_8 : decode cL_plan 8 = .ok (.i2l, 1) := by decide +kernel
theorem dL_plan_9 : decode cL_plan 9 = .ok (.lastore, 1) := by decide +kernel
theorem dL_plan_10 : decode cL_plan 10 = .ok (.goto 11, 3) := by decide +kernel
theorem dL_plan_13 : decode cL_plan 13 = .ok (.astore 4, 2) := by decide +kernel
theorem dL_plan_15 : decode cL_plan 15 = .ok (.iconst 1, 1) := by decide +kernel
theorem dL_plan_16 : decode cL_plan 16 = .ok (.ireturn, 1) := by decide +kernel
theorem dL_plan_17 : decode cL_plan 17 = .ok (.astore 4, 2) := by decide +kernel
theorem dL_plan_19 : decode cL_plan 19 = .ok (.iconst 2, 1) := by decide +kernel
theorem dL_plan_20 : decode cL_plan 20 = .ok (.ireturn, 1) := by decide +kernel
theorem dL_plan_21 : decode cL_plan 21 = .ok (.iconst 0, 1) := by decide +kernel
theorem dL_plan_22 : decode cL_plan 22 = .ok (.ireturn, 1) := by decide +kernel
theorem dL_setRecharge_0 : decode cL_setRecharge 0 = .ok (.aload_n 3, 1) := by decide +kernel
theorem dL_setRecharge_1 : decode cL_setRecharge 1 = .ok (.iconst 0, 1) := by decide +kernel
theorem dL_setRecharge_2 : decode cL_setRecharge 2 = .ok (.aload_n 0, 1) := by decide +kernel
theorem dL_setRecharge_3 : decode cL_setRecharge 3 = .ok (.iload_n 1, 1) := by decide +kernel
theorem dL_setRecharge_4 : decode cL_setRecharge 4 = .ok (.iload_n 2, 1) := by decide +kernel
theorem dL_setRecharge_5 : decode cL_setRecharge 5 = .ok (.invokevirtual 23, 3) := by decide +kernel
theorem dL_setRecharge_8 : decode cL_setRecharge 8 = .ok (.i2l, 1) := by decide +kernel
theorem dL_setRecharge_9 : decode cL_setRecharge 9 = .ok (.lastore, 1) := by decide +kernel
theorem dL_setRecharge_10 : decode cL_setRecharge 10 = .ok (.goto 11, 3) := by decide +kernel
theorem dL_setRecharge_13 : decode cL_setRecharge 13 = .ok (.astore 4, 2) := by decide +kernel
theorem dL_setRecharge_15 : decode cL_setRecharge 15 = .ok (.iconst 1, 1) := by decide +kernel
theorem dL_setRecharge_16 : decode cL_setRecharge 16 = .ok (.ireturn, 1) := by decide +kernel
theorem dL_setRecharge_17 : decode cL_setRecharge 17 = .ok (.astore 4, 2) := by decide +kernel
theorem dL_setRecharge_19 : decode cL_setRecharge 19 = .ok (.iconst 2, 1) := by decide +kernel
theorem dL_setRecharge_20 : decode cL_setRecharge 20 = .ok (.ireturn, 1) := by decide +kernel
theorem dL_setRecharge_21 : decode cL_setRecharge 21 = .ok (.iconst 0, 1) := by decide +kernel
theorem dL_setRecharge_22 : decode cL_setRecharge 22 = .ok (.ireturn, 1) := by decide +kernel
theorem dL_reach_0 : decode cL_reach 0 = .ok (.aload_n 3, 1) := by decide +kernel
theorem dL_reach_1 : decode cL_reach 1 = .ok (.iconst 0, 1) := by decide +kernel
theorem dL_reach_2 : decode cL_reach 2 = .ok (.aload_n 0, 1) := by decide +kernel
theorem dL_reach_3 : decode cL_reach 3 = .ok (.iload_n 1, 1) := by decide +kernel
theorem dL_reach_4 : decode cL_reach 4 = .ok (.iload_n 2, 1) := by decide +kernel
theorem dL_reach_5 : decode cL_reach 5 = .ok (.invokevirtual 26, 3) := by decide +kernel
theorem dL_reach_8 : decode cL_reach 8 = .ok (.i2l, 1) := by decide +kernel
theorem dL_reach_9 : decode cL_reach 9 = .ok (.lastore, 1) := by decide +kernel
theorem dL_reach_10 : decode cL_reach 10 = .ok (.goto 7, 3) := by decide +kernel
theorem dL_reach_13 : decode cL_reach 13 = .ok (.astore 4, 2) := by decide +kernel
theorem dL_reach_15 : decode cL_reach 15 = .ok (.iconst 1, 1) := by decide +kernel
theorem dL_reach_16 : decode cL_reach 16 = .ok (.ireturn, 1) := by decide +kernel
theorem dL_reach_17 : decode cL_reach 17 = .ok (.iconst 0, 1) := by decide +kernel
theorem dL_reach_18 : decode cL_reach 18 = .ok (.ireturn, 1) := by decide +kernel
theorem dL_level_0 : decode cL_level 0 = .ok (.aload_n 2, 1) := by decide +kernel
theorem dL_level_1 : decode cL_level 1 = .ok (.iconst 0, 1) := by decide +kernel
theorem dL_level_2 : decode cL_level 2 = .ok (.aload_n 0, 1) := by decide +kernel
theorem dL_level_3 : decode cL_level 3 = .ok (.iload_n 1, 1) := by decide +kernel
theorem dL_level_4 : decode cL_level 4 = .ok (.invokevirtual 29, 3) := by decide +kernel
theorem dL_level_7 : decode cL_level 7 = .ok (.i2l, 1) := by decide +kernel
theorem dL_level_8 : decode cL_level 8 = .ok (.lastore, 1) := by decide +kernel
theorem dL_level_9 : decode cL_level 9 = .ok (.goto 6, 3) := by decide +kernel
theorem dL_level_12 : decode cL_level 12 = .ok (.astore_n 3, 1) := by decide +kernel
theorem dL_level_13 : decode cL_level 13 = .ok (.iconst 1, 1) := by decide +kernel
theorem dL_level_14 : decode cL_level 14 = .ok (.ireturn, 1) := by decide +kernel
theorem dL_level_15 : decode cL_level 15 = .ok (.iconst 0, 1) := by decide +kernel
theorem dL_level_16 : decode cL_level 16 = .ok (.ireturn, 1) := by decide +kernel
theorem dL_sign_0 : decode cL_sign 0 = .ok (.aload_n 3, 1) := by decide +kernel
theorem dL_sign_1 : decode cL_sign 1 = .ok (.iconst 0, 1) := by decide +kernel
theorem dL_sign_2 : decode cL_sign 2 = .ok (.aload_n 0, 1) := by decide +kernel
theorem dL_sign_3 : decode cL_sign 3 = .ok (.iload_n 1, 1) := by decide +kernel
theorem dL_sign_4 : decode cL_sign 4 = .ok (.iload_n 2, 1) := by decide +kernel
theorem dL_sign_5 : decode cL_sign 5 = .ok (.invokevirtual 33, 3) := by decide +kernel
theorem dL_sign_8 : decode cL_sign 8 = .ok (.i2l, 1) := by decide +kernel
theorem dL_sign_9 : decode cL_sign 9 = .ok (.lastore, 1) := by decide +kernel
theorem dL_sign_10 : decode cL_sign 10 = .ok (.goto 7, 3) := by decide +kernel
theorem dL_sign_13 : decode cL_sign 13 = .ok (.astore 4, 2) := by decide +kernel
theorem dL_sign_15 : decode cL_sign 15 = .ok (.iconst 1, 1) := by decide +kernel
theorem dL_sign_16 : decode cL_sign 16 = .ok (.ireturn, 1) := by decide +kernel
theorem dL_sign_17 : decode cL_sign 17 = .ok (.iconst 0, 1) := by decide +kernel
theorem dL_sign_18 : decode cL_sign 18 = .ok (.ireturn, 1) := by decide +kernel
theorem dL_year_0 : decode cL_year 0 = .ok (.aload_n 1, 1) := by decide +kernel
theorem dL_year_1 : decode cL_year 1 = .ok (.iconst 0, 1) := by decide +kernel
theorem dL_year_2 : decode cL_year 2 = .ok (.aload_n 0, 1) := by decide +kernel
theorem dL_year_3 : decode cL_year 3 = .ok (.invokevirtual 37, 3) := by decide +kernel
theorem dL_year_6 : decode cL_year 6 = .ok (.i2l, 1) := by decide +kernel
theorem dL_year_7 : decode cL_year 7 = .ok (.lastore, 1) := by decide +kernel
theorem dL_year_8 : decode cL_year 8 = .ok (.goto 6, 3) := by decide +kernel
theorem dL_year_11 : decode cL_year 11 = .ok (.astore_n 2, 1) := by decide +kernel
theorem dL_year_12 : decode cL_year 12 = .ok (.iconst 1, 1) := by decide +kernel
theorem dL_year_13 : decode cL_year 13 = .ok (.ireturn, 1) := by decide +kernel
theorem dL_year_14 : decode cL_year 14 = .ok (.iconst 0, 1) := by decide +kernel
theorem dL_year_15 : decode cL_year 15 = .ok (.ireturn, 1) := by decide +kernel
theorem dL_drew_0 : decode cL_drew 0 = .ok (.aload_n 2, 1) := by decide +kernel
theorem dL_drew_1 : decode cL_drew 1 = .ok (.iconst 0, 1) := by decide +kernel
theorem dL_drew_2 : decode cL_drew 2 = .ok (.aload_n 0, 1) := by decide +kernel
theorem dL_drew_3 : decode cL_drew 3 = .ok (.iload_n 1, 1) := by decide +kernel
theorem dL_drew_4 : decode cL_drew 4 = .ok (.invokevirtual 41, 3) := by decide +kernel
theorem dL_drew_7 : decode cL_drew 7 = .ok (.i2l, 1) := by decide +kernel
theorem dL_drew_8 : decode cL_drew 8 = .ok (.lastore, 1) := by decide +kernel
theorem dL_drew_9 : decode cL_drew 9 = .ok (.goto 6, 3) := by decide +kernel
theorem dL_drew_12 : decode cL_drew 12 = .ok (.astore_n 3, 1) := by decide +kernel
theorem dL_drew_13 : decode cL_drew 13 = .ok (.iconst 1, 1) := by decide +kernel
theorem dL_drew_14 : decode cL_drew 14 = .ok (.ireturn, 1) := by decide +kernel
theorem dL_drew_15 : decode cL_drew 15 = .ok (.iconst 0, 1) := by decide +kernel
theorem dL_drew_16 : decode cL_drew 16 = .ok (.ireturn, 1) := by decide +kernel
theorem dL_told_0 : decode cL_told 0 = .ok (.aload_n 2, 1) := by decide +kernel
theorem dL_told_1 : decode cL_told 1 = .ok (.iconst 0, 1) := by decide +kernel
theorem dL_told_2 : decode cL_told 2 = .ok (.aload_n 0, 1) := by decide +kernel
theorem dL_told_3 : decode cL_told 3 = .ok (.iload_n 1, 1) := by decide +kernel
theorem dL_told_4 : decode cL_told 4 = .ok (.invokevirtual 44, 3) := by decide +kernel
theorem dL_told_7 : decode cL_told 7 = .ok (.i2l, 1) := by decide +kernel
theorem dL_told_8 : decode cL_told 8 = .ok (.lastore, 1) := by decide +kernel
theorem dL_told_9 : decode cL_told 9 = .ok (.goto 6, 3) := by decide +kernel
theorem dL_told_12 : decode cL_told 12 = .ok (.astore_n 3, 1) := by decide +kernel
theorem dL_told_13 : decode cL_told 13 = .ok (.iconst 1, 1) := by decide +kernel
theorem dL_told_14 : decode cL_told 14 = .ok (.ireturn, 1) := by decide +kernel
theorem dL_told_15 : decode cL_told 15 = .ok (.iconst 0, 1) := by decide +kernel
theorem dL_told_16 : decode cL_told 16 = .ok (.ireturn, 1) := by decide +kernel
theorem dL_toggleMeter_0 : decode cL_toggleMeter 0 = .ok (.aload_n 2, 1) := by decide +kernel
theorem dL_toggleMeter_1 : decode cL_toggleMeter 1 = .ok (.iconst 0, 1) := by decide +kernel
theorem dL_toggleMeter_2 : decode cL_toggleMeter 2 = .ok (.aload_n 0, 1) := by decide +kernel
theorem dL_toggleMeter_3 : decode cL_toggleMeter 3 = .ok (.iload_n 1, 1) := by decide +kernel
theorem dL_toggleMeter_4 : decode cL_toggleMeter 4 = .ok (.invokevirtual 47, 3) := by decide +kernel
theorem dL_toggleMeter_7 : decode cL_toggleMeter 7 = .ok (.ifCond .eq 7, 3) := by decide +kernel
theorem dL_toggleMeter_10 : decode cL_toggleMeter 10 = .ok (.lconst 1, 1) := by decide +kernel
theorem dL_toggleMeter_11 : decode cL_toggleMeter 11 = .ok (.goto 4, 3) := by decide +kernel
theorem dL_toggleMeter_14 : decode cL_toggleMeter 14 = .ok (.lconst 0, 1) := by decide +kernel
theorem dL_toggleMeter_15 : decode cL_toggleMeter 15 = .ok (.lastore, 1) := by decide +kernel
theorem dL_toggleMeter_16 : decode cL_toggleMeter 16 = .ok (.goto 6, 3) := by decide +kernel
theorem dL_toggleMeter_19 : decode cL_toggleMeter 19 = .ok (.astore_n 3, 1) := by decide +kernel
theorem dL_toggleMeter_20 : decode cL_toggleMeter 20 = .ok (.iconst 1, 1) := by decide +kernel
theorem dL_toggleMeter_21 : decode cL_toggleMeter 21 = .ok (.ireturn, 1) := by decide +kernel
theorem dL_toggleMeter_22 : decode cL_toggleMeter 22 = .ok (.iconst 0, 1) := by decide +kernel
theorem dL_toggleMeter_23 : decode cL_toggleMeter 23 = .ok (.ireturn, 1) := by decide +kernel
theorem dL_power_0 : decode cL_power 0 = .ok (.aload_n 3, 1) := by decide +kernel
theorem dL_power_1 : decode cL_power 1 = .ok (.iconst 0, 1) := by decide +kernel
theorem dL_power_2 : decode cL_power 2 = .ok (.aload_n 0, 1) := by decide +kernel
theorem dL_power_3 : decode cL_power 3 = .ok (.iload_n 1, 1) := by decide +kernel
theorem dL_power_4 : decode cL_power 4 = .ok (.iload_n 2, 1) := by decide +kernel
theorem dL_power_5 : decode cL_power 5 = .ok (.invokevirtual 51, 3) := by decide +kernel
theorem dL_power_8 : decode cL_power 8 = .ok (.i2l, 1) := by decide +kernel
theorem dL_power_9 : decode cL_power 9 = .ok (.lastore, 1) := by decide +kernel
theorem dL_power_10 : decode cL_power 10 = .ok (.goto 11, 3) := by decide +kernel
theorem dL_power_13 : decode cL_power 13 = .ok (.astore 4, 2) := by decide +kernel
theorem dL_power_15 : decode cL_power 15 = .ok (.iconst 1, 1) := by decide +kernel
theorem dL_power_16 : decode cL_power 16 = .ok (.ireturn, 1) := by decide +kernel
theorem dL_power_17 : decode cL_power 17 = .ok (.astore 4, 2) := by decide +kernel
theorem dL_power_19 : decode cL_power 19 = .ok (.iconst 2, 1) := by decide +kernel
theorem dL_power_20 : decode cL_power 20 = .ok (.ireturn, 1) := by decide +kernel
theorem dL_power_21 : decode cL_power 21 = .ok (.iconst 0, 1) := by decide +kernel
theorem dL_power_22 : decode cL_power 22 = .ok (.ireturn, 1) := by decide +kernel
theorem dL_bank_0 : decode cL_bank 0 = .ok (.aload_n 2, 1) := by decide +kernel
theorem dL_bank_1 : decode cL_bank 1 = .ok (.iconst 0, 1) := by decide +kernel
theorem dL_bank_2 : decode cL_bank 2 = .ok (.aload_n 0, 1) := by decide +kernel
theorem dL_bank_3 : decode cL_bank 3 = .ok (.iload_n 1, 1) := by decide +kernel
theorem dL_bank_4 : decode cL_bank 4 = .ok (.invokevirtual 54, 3) := by decide +kernel
theorem dL_bank_7 : decode cL_bank 7 = .ok (.i2l, 1) := by decide +kernel
theorem dL_bank_8 : decode cL_bank 8 = .ok (.lastore, 1) := by decide +kernel
theorem dL_bank_9 : decode cL_bank 9 = .ok (.goto 6, 3) := by decide +kernel
theorem dL_bank_12 : decode cL_bank 12 = .ok (.astore_n 3, 1) := by decide +kernel
theorem dL_bank_13 : decode cL_bank 13 = .ok (.iconst 1, 1) := by decide +kernel
theorem dL_bank_14 : decode cL_bank 14 = .ok (.ireturn, 1) := by decide +kernel
theorem dL_bank_15 : decode cL_bank 15 = .ok (.iconst 0, 1) := by decide +kernel
theorem dL_bank_16 : decode cL_bank 16 = .ok (.ireturn, 1) := by decide +kernel
theorem dL_lend_0 : decode cL_lend 0 = .ok (.aload 4, 2) := by decide +kernel
theorem dL_lend_2 : decode cL_lend 2 = .ok (.iconst 0, 1) := by decide +kernel
theorem dL_lend_3 : decode cL_lend 3 = .ok (.aload_n 0, 1) := by decide +kernel
theorem dL_lend_4 : decode cL_lend 4 = .ok (.iload_n 1, 1) := by decide +kernel
theorem dL_lend_5 : decode cL_lend 5 = .ok (.iload_n 2, 1) := by decide +kernel
theorem dL_lend_6 : decode cL_lend 6 = .ok (.iload_n 3, 1) := by decide +kernel
theorem dL_lend_7 : decode cL_lend 7 = .ok (.invokevirtual 57, 3) := by decide +kernel
theorem dL_lend_10 : decode cL_lend 10 = .ok (.i2l, 1) := by decide +kernel
theorem dL_lend_11 : decode cL_lend 11 = .ok (.lastore, 1) := by decide +kernel
theorem dL_lend_12 : decode cL_lend 12 = .ok (.goto 15, 3) := by decide +kernel
theorem dL_lend_15 : decode cL_lend 15 = .ok (.astore 5, 2) := by decide +kernel
theorem dL_lend_17 : decode cL_lend 17 = .ok (.iconst 1, 1) := by decide +kernel
theorem dL_lend_18 : decode cL_lend 18 = .ok (.ireturn, 1) := by decide +kernel
theorem dL_lend_19 : decode cL_lend 19 = .ok (.astore 5, 2) := by decide +kernel
theorem dL_lend_21 : decode cL_lend 21 = .ok (.iconst 2, 1) := by decide +kernel
theorem dL_lend_22 : decode cL_lend 22 = .ok (.ireturn, 1) := by decide +kernel
theorem dL_lend_23 : decode cL_lend 23 = .ok (.astore 5, 2) := by decide +kernel
theorem dL_lend_25 : decode cL_lend 25 = .ok (.iconst 3, 1) := by decide +kernel
theorem dL_lend_26 : decode cL_lend 26 = .ok (.ireturn, 1) := by decide +kernel
theorem dL_lend_27 : decode cL_lend 27 = .ok (.iconst 0, 1) := by decide +kernel
theorem dL_lend_28 : decode cL_lend 28 = .ok (.ireturn, 1) := by decide +kernel
theorem dL_callBack_0 : decode cL_callBack 0 = .ok (.aload_n 3, 1) := by decide +kernel
theorem dL_callBack_1 : decode cL_callBack 1 = .ok (.iconst 0, 1) := by decide +kernel
theorem dL_callBack_2 : decode cL_callBack 2 = .ok (.aload_n 0, 1) := by decide +kernel
theorem dL_callBack_3 : decode cL_callBack 3 = .ok (.iload_n 1, 1) := by decide +kernel
theorem dL_callBack_4 : decode cL_callBack 4 = .ok (.iload_n 2, 1) := by decide +kernel
theorem dL_callBack_5 : decode cL_callBack 5 = .ok (.invokevirtual 61, 3) := by decide +kernel
theorem dL_callBack_8 : decode cL_callBack 8 = .ok (.i2l, 1) := by decide +kernel
theorem dL_callBack_9 : decode cL_callBack 9 = .ok (.lastore, 1) := by decide +kernel
theorem dL_callBack_10 : decode cL_callBack 10 = .ok (.goto 11, 3) := by decide +kernel
theorem dL_callBack_13 : decode cL_callBack 13 = .ok (.astore 4, 2) := by decide +kernel
theorem dL_callBack_15 : decode cL_callBack 15 = .ok (.iconst 1, 1) := by decide +kernel
theorem dL_callBack_16 : decode cL_callBack 16 = .ok (.ireturn, 1) := by decide +kernel
theorem dL_callBack_17 : decode cL_callBack 17 = .ok (.astore 4, 2) := by decide +kernel
theorem dL_callBack_19 : decode cL_callBack 19 = .ok (.iconst 2, 1) := by decide +kernel
theorem dL_callBack_20 : decode cL_callBack 20 = .ok (.ireturn, 1) := by decide +kernel
theorem dL_callBack_21 : decode cL_callBack 21 = .ok (.iconst 0, 1) := by decide +kernel
theorem dL_callBack_22 : decode cL_callBack 22 = .ok (.ireturn, 1) := by decide +kernel
theorem dL_fines_0 : decode cL_fines 0 = .ok (.aload_n 2, 1) := by decide +kernel
theorem dL_fines_1 : decode cL_fines 1 = .ok (.iconst 0, 1) := by decide +kernel
theorem dL_fines_2 : decode cL_fines 2 = .ok (.aload_n 0, 1) := by decide +kernel
theorem dL_fines_3 : decode cL_fines 3 = .ok (.iload_n 1, 1) := by decide +kernel
theorem dL_fines_4 : decode cL_fines 4 = .ok (.invokevirtual 64, 3) := by decide +kernel
theorem dL_fines_7 : decode cL_fines 7 = .ok (.i2l, 1) := by decide +kernel
theorem dL_fines_8 : decode cL_fines 8 = .ok (.lastore, 1) := by decide +kernel
theorem dL_fines_9 : decode cL_fines 9 = .ok (.goto 6, 3) := by decide +kernel
theorem dL_fines_12 : decode cL_fines 12 = .ok (.astore_n 3, 1) := by decide +kernel
theorem dL_fines_13 : decode cL_fines 13 = .ok (.iconst 1, 1) := by decide +kernel
theorem dL_fines_14 : decode cL_fines 14 = .ok (.ireturn, 1) := by decide +kernel
theorem dL_fines_15 : decode cL_fines 15 = .ok (.iconst 0, 1) := by decide +kernel
theorem dL_fines_16 : decode cL_fines 16 = .ok (.ireturn, 1) := by decide +kernel
theorem dL_build_0 : decode cL_build 0 = .ok (.aload_n 2, 1) := by decide +kernel
theorem dL_build_1 : decode cL_build 1 = .ok (.iconst 0, 1) := by decide +kernel
theorem dL_build_2 : decode cL_build 2 = .ok (.aload_n 0, 1) := by decide +kernel
theorem dL_build_3 : decode cL_build 3 = .ok (.iload_n 1, 1) := by decide +kernel
theorem dL_build_4 : decode cL_build 4 = .ok (.invokevirtual 67, 3) := by decide +kernel
theorem dL_build_7 : decode cL_build 7 = .ok (.i2l, 1) := by decide +kernel
theorem dL_build_8 : decode cL_build 8 = .ok (.lastore, 1) := by decide +kernel
theorem dL_build_9 : decode cL_build 9 = .ok (.goto 9, 3) := by decide +kernel
theorem dL_build_12 : decode cL_build 12 = .ok (.astore_n 3, 1) := by decide +kernel
theorem dL_build_13 : decode cL_build 13 = .ok (.iconst 1, 1) := by decide +kernel
theorem dL_build_14 : decode cL_build 14 = .ok (.ireturn, 1) := by decide +kernel
theorem dL_build_15 : decode cL_build 15 = .ok (.astore_n 3, 1) := by decide +kernel
theorem dL_build_16 : decode cL_build 16 = .ok (.iconst 2, 1) := by decide +kernel
theorem dL_build_17 : decode cL_build 17 = .ok (.ireturn, 1) := by decide +kernel
theorem dL_build_18 : decode cL_build 18 = .ok (.iconst 0, 1) := by decide +kernel
theorem dL_build_19 : decode cL_build 19 = .ok (.ireturn, 1) := by decide +kernel
theorem dL_law_0 : decode cL_law 0 = .ok (.new 8, 3) := by decide +kernel
theorem dL_law_3 : decode cL_law 3 = .ok (.dup, 1) := by decide +kernel
theorem dL_law_4 : decode cL_law 4 = .ok (.invokespecial 70, 3) := by decide +kernel
theorem dL_law_7 : decode cL_law 7 = .ok (.astore_n 1, 1) := by decide +kernel
theorem dL_law_8 : decode cL_law 8 = .ok (.new 71, 3) := by decide +kernel
theorem dL_law_11 : decode cL_law 11 = .ok (.dup, 1) := by decide +kernel
theorem dL_law_12 : decode cL_law 12 = .ok (.invokespecial 73, 3) := by decide +kernel
theorem dL_law_15 : decode cL_law 15 = .ok (.astore_n 2, 1) := by decide +kernel
theorem dL_law_16 : decode cL_law 16 = .ok (.iconst 1, 1) := by decide +kernel
theorem dL_law_17 : decode cL_law 17 = .ok (.newarray .long, 2) := by decide +kernel
theorem dL_law_19 : decode cL_law 19 = .ok (.astore_n 3, 1) := by decide +kernel
theorem dL_law_20 : decode cL_law 20 = .ok (.iconst 0, 1) := by decide +kernel
theorem dL_law_21 : decode cL_law 21 = .ok (.istore 4, 2) := by decide +kernel
theorem dL_law_23 : decode cL_law 23 = .ok (.iload 4, 2) := by decide +kernel
theorem dL_law_25 : decode cL_law 25 = .ok (.aload_n 0, 1) := by decide +kernel
theorem dL_law_26 : decode cL_law 26 = .ok (.arraylength, 1) := by decide +kernel
theorem dL_law_27 : decode cL_law 27 = .ok (.bipush 7, 2) := by decide +kernel
theorem dL_law_29 : decode cL_law 29 = .ok (.isub, 1) := by decide +kernel
theorem dL_law_30 : decode cL_law 30 = .ok (.if_icmp .gt 1196, 3) := by decide +kernel
theorem dL_law_33 : decode cL_law 33 = .ok (.aload_n 0, 1) := by decide +kernel
theorem dL_law_34 : decode cL_law 34 = .ok (.iload 4, 2) := by decide +kernel
theorem dL_law_36 : decode cL_law 36 = .ok (.iaload, 1) := by decide +kernel
theorem dL_law_37 : decode cL_law 37 = .ok (.bipush 31, 2) := by decide +kernel
theorem dL_law_39 : decode cL_law 39 = .ok (.iand, 1) := by decide +kernel
theorem dL_law_40 : decode cL_law 40 = .ok (.tableswitch 1180 0 18 #[92, 210, 278, 346, 414, 470, 538, 582, 595, 608, 664, 720, 783, 851, 907, 987, 1055, 1111, 1124], 92) := by decide +kernel
theorem dL_law_132 : decode cL_law 132 = .ok (.aload_n 1, 1) := by decide +kernel
theorem dL_law_133 : decode cL_law 133 = .ok (.aload_n 0, 1) := by decide +kernel
theorem dL_law_134 : decode cL_law 134 = .ok (.iload 4, 2) := by decide +kernel
theorem dL_law_136 : decode cL_law 136 = .ok (.iconst 1, 1) := by decide +kernel
theorem dL_law_137 : decode cL_law 137 = .ok (.iadd, 1) := by decide +kernel
theorem dL_law_138 : decode cL_law 138 = .ok (.iaload, 1) := by decide +kernel
theorem dL_law_139 : decode cL_law 139 = .ok (.aload_n 0, 1) := by decide +kernel
theorem dL_law_140 : decode cL_law 140 = .ok (.iload 4, 2) := by decide +kernel
theorem dL_law_142 : decode cL_law 142 = .ok (.iconst 2, 1) := by decide +kernel
theorem dL_law_143 : decode cL_law 143 = .ok (.iadd, 1) := by decide +kernel
theorem dL_law_144 : decode cL_law 144 = .ok (.iaload, 1) := by decide +kernel
theorem dL_law_145 : decode cL_law 145 = .ok (.aload_n 0, 1) := by decide +kernel
theorem dL_law_146 : decode cL_law 146 = .ok (.iload 4, 2) := by decide +kernel
theorem dL_law_148 : decode cL_law 148 = .ok (.iconst 3, 1) := by decide +kernel
theorem dL_law_149 : decode cL_law 149 = .ok (.iadd, 1) := by decide +kernel
theorem dL_law_150 : decode cL_law 150 = .ok (.iaload, 1) := by decide +kernel
theorem dL_law_151 : decode cL_law 151 = .ok (.aload_n 0, 1) := by decide +kernel
theorem dL_law_152 : decode cL_law 152 = .ok (.iload 4, 2) := by decide +kernel
theorem dL_law_154 : decode cL_law 154 = .ok (.iconst 4, 1) := by decide +kernel
theorem dL_law_155 : decode cL_law 155 = .ok (.iadd, 1) := by decide +kernel
theorem dL_law_156 : decode cL_law 156 = .ok (.iaload, 1) := by decide +kernel
theorem dL_law_157 : decode cL_law 157 = .ok (.aload_n 0, 1) := by decide +kernel
theorem dL_law_158 : decode cL_law 158 = .ok (.iload 4, 2) := by decide +kernel
theorem dL_law_160 : decode cL_law 160 = .ok (.iconst 5, 1) := by decide +kernel
theorem dL_law_161 : decode cL_law 161 = .ok (.iadd, 1) := by decide +kernel
theorem dL_law_162 : decode cL_law 162 = .ok (.iaload, 1) := by decide +kernel
theorem dL_law_163 : decode cL_law 163 = .ok (.aload_n 0, 1) := by decide +kernel
theorem dL_law_164 : decode cL_law 164 = .ok (.iload 4, 2) := by decide +kernel
theorem dL_law_166 : decode cL_law 166 = .ok (.bipush 6, 2) := by decide +kernel
theorem dL_law_168 : decode cL_law 168 = .ok (.iadd, 1) := by decide +kernel
theorem dL_law_169 : decode cL_law 169 = .ok (.iaload, 1) := by decide +kernel
theorem dL_law_170 : decode cL_law 170 = .ok (.aload_n 3, 1) := by decide +kernel
theorem dL_law_171 : decode cL_law 171 = .ok (.invokestatic 74, 3) := by decide +kernel
theorem dL_law_174 : decode cL_law 174 = .ok (.istore 5, 2) := by decide +kernel
theorem dL_law_176 : decode cL_law 176 = .ok (.aload_n 2, 1) := by decide +kernel
theorem dL_law_177 : decode cL_law 177 = .ok (.aload_n 0, 1) := by decide +kernel
theorem dL_law_178 : decode cL_law 178 = .ok (.iload 4, 2) := by decide +kernel
theorem dL_law_180 : decode cL_law 180 = .ok (.iconst 1, 1) := by decide +kernel
theorem dL_law_181 : decode cL_law 181 = .ok (.iadd, 1) := by decide +kernel
theorem dL_law_182 : decode cL_law 182 = .ok (.iaload, 1) := by decide +kernel
theorem dL_law_183 : decode cL_law 183 = .ok (.aload_n 0, 1) := by decide +kernel
theorem dL_law_184 : decode cL_law 184 = .ok (.iload 4, 2) := by decide +kernel
theorem dL_law_186 : decode cL_law 186 = .ok (.iconst 2, 1) := by decide +kernel
theorem dL_law_187 : decode cL_law 187 = .ok (.iadd, 1) := by decide +kernel
theorem dL_law_188 : decode cL_law 188 = .ok (.iaload, 1) := by decide +kernel
theorem dL_law_189 : decode cL_law 189 = .ok (.aload_n 0, 1) := by decide +kernel
theorem dL_law_190 : decode cL_law 190 = .ok (.iload 4, 2) := by decide +kernel
theorem dL_law_192 : decode cL_law 192 = .ok (.iconst 3, 1) := by decide +kernel
theorem dL_law_193 : decode cL_law 193 = .ok (.iadd, 1) := by decide +kernel
theorem dL_law_194 : decode cL_law 194 = .ok (.iaload, 1) := by decide +kernel
theorem dL_law_195 : decode cL_law 195 = .ok (.aload_n 0, 1) := by decide +kernel
theorem dL_law_196 : decode cL_law 196 = .ok (.iload 4, 2) := by decide +kernel
theorem dL_law_198 : decode cL_law 198 = .ok (.iconst 4, 1) := by decide +kernel
theorem dL_law_199 : decode cL_law 199 = .ok (.iadd, 1) := by decide +kernel
theorem dL_law_200 : decode cL_law 200 = .ok (.iaload, 1) := by decide +kernel
theorem dL_law_201 : decode cL_law 201 = .ok (.aload_n 0, 1) := by decide +kernel
theorem dL_law_202 : decode cL_law 202 = .ok (.iload 4, 2) := by decide +kernel
theorem dL_law_204 : decode cL_law 204 = .ok (.iconst 5, 1) := by decide +kernel
theorem dL_law_205 : decode cL_law 205 = .ok (.iadd, 1) := by decide +kernel
theorem dL_law_206 : decode cL_law 206 = .ok (.iaload, 1) := by decide +kernel
theorem dL_law_207 : decode cL_law 207 = .ok (.aload_n 0, 1) := by decide +kernel
theorem dL_law_208 : decode cL_law 208 = .ok (.iload 4, 2) := by decide +kernel
theorem dL_law_210 : decode cL_law 210 = .ok (.bipush 6, 2) := by decide +kernel
theorem dL_law_212 : decode cL_law 212 = .ok (.iadd, 1) := by decide +kernel
theorem dL_law_213 : decode cL_law 213 = .ok (.iaload, 1) := by decide +kernel
theorem dL_law_214 : decode cL_law 214 = .ok (.invokevirtual 79, 3) := by decide +kernel
theorem dL_law_217 : decode cL_law 217 = .ok (.istore 6, 2) := by decide +kernel
theorem dL_law_219 : decode cL_law 219 = .ok (.aload_n 2, 1) := by decide +kernel
theorem dL_law_220 : decode cL_law 220 = .ok (.invokevirtual 80, 3) := by decide +kernel
theorem dL_law_223 : decode cL_law 223 = .ok (.iload 5, 2) := by decide +kernel
theorem dL_law_225 : decode cL_law 225 = .ok (.if_icmp .eq 5, 3) := by decide +kernel
theorem dL_law_228 : decode cL_law 228 = .ok (.iconst 0, 1) := by decide +kernel
theorem dL_law_229 : decode cL_law 229 = .ok (.ireturn, 1) := by decide +kernel
theorem dL_law_230 : decode cL_law 230 = .ok (.iload 5, 2) := by decide +kernel
theorem dL_law_232 : decode cL_law 232 = .ok (.ifCond .ne 15, 3) := by decide +kernel
theorem dL_law_235 : decode cL_law 235 = .ok (.aload_n 3, 1) := by decide +kernel
theorem dL_law_236 : decode cL_law 236 = .ok (.iconst 0, 1) := by decide +kernel
theorem dL_law_237 : decode cL_law 237 = .ok (.laload, 1) := by decide +kernel
theorem dL_law_238 : decode cL_law 238 = .ok (.iload 6, 2) := by decide +kernel
theorem dL_law_240 : decode cL_law 240 = .ok (.i2l, 1) := by decide +kernel
theorem dL_law_241 : decode cL_law 241 = .ok (.lcmp, 1) := by decide +kernel
theorem dL_law_242 : decode cL_law 242 = .ok (.ifCond .eq 5, 3) := by decide +kernel
theorem dL_law_245 : decode cL_law 245 = .ok (.iconst 0, 1) := by decide +kernel
theorem dL_law_246 : decode cL_law 246 = .ok (.ireturn, 1) := by decide +kernel
theorem dL_law_247 : decode cL_law 247 = .ok (.goto 973, 3) := by decide +kernel
theorem dL_law_250 : decode cL_law 250 = .ok (.aload_n 1, 1) := by decide +kernel
theorem dL_law_251 : decode cL_law 251 = .ok (.aload_n 0, 1) := by decide +kernel
theorem dL_law_252 : decode cL_law 252 = .ok (.iload 4, 2) := by decide +kernel
theorem dL_law_254 : decode cL_law 254 = .ok (.iconst 1, 1) := by decide +kernel
theorem dL_law_255 : decode cL_law 255 = .ok (.iadd, 1) := by decide +kernel
theorem dL_law_256 : decode cL_law 256 = .ok (.iaload, 1) := by decide +kernel
theorem dL_law_257 : decode cL_law 257 = .ok (.aload_n 0, 1) := by decide +kernel
theorem dL_law_258 : decode cL_law 258 = .ok (.iload 4, 2) := by decide +kernel
theorem dL_law_260 : decode cL_law 260 = .ok (.iconst 2, 1) := by decide +kernel
theorem dL_law_261 : decode cL_law 261 = .ok (.iadd, 1) := by decide +kernel
theorem dL_law_262 : decode cL_law 262 = .ok (.iaload, 1) := by decide +kernel
theorem dL_law_263 : decode cL_law 263 = .ok (.aload_n 3, 1) := by decide +kernel
theorem dL_law_264 : decode cL_law 264 = .ok (.invokestatic 83, 3) := by decide +kernel
theorem dL_law_267 : decode cL_law 267 = .ok (.istore 5, 2) := by decide +kernel
theorem dL_law_269 : decode cL_law 269 = .ok (.aload_n 2, 1) := by decide +kernel
theorem dL_law_270 : decode cL_law 270 = .ok (.aload_n 0, 1) := by decide +kernel
theorem dL_law_271 : decode cL_law 271 = .ok (.iload 4, 2) := by decide +kernel
theorem dL_law_273 : decode cL_law 273 = .ok (.iconst 1, 1) := by decide +kernel
theorem dL_law_274 : decode cL_law 274 = .ok (.iadd, 1) := by decide +kernel
theorem dL_law_275 : decode cL_law 275 = .ok (.iaload, 1) := by decide +kernel
theorem dL_law_276 : decode cL_law 276 = .ok (.aload_n 0, 1) := by decide +kernel
theorem dL_law_277 : decode cL_law 277 = .ok (.iload 4, 2) := by decide +kernel
theorem dL_law_279 : decode cL_law 279 = .ok (.iconst 2, 1) := by decide +kernel
theorem dL_law_280 : decode cL_law 280 = .ok (.iadd, 1) := by decide +kernel
theorem dL_law_281 : decode cL_law 281 = .ok (.iaload, 1) := by decide +kernel
theorem dL_law_282 : decode cL_law 282 = .ok (.invokevirtual 86, 3) := by decide +kernel
theorem dL_law_285 : decode cL_law 285 = .ok (.istore 6, 2) := by decide +kernel
theorem dL_law_287 : decode cL_law 287 = .ok (.aload_n 2, 1) := by decide +kernel
theorem dL_law_288 : decode cL_law 288 = .ok (.invokevirtual 80, 3) := by decide +kernel
theorem dL_law_291 : decode cL_law 291 = .ok (.iload 5, 2) := by decide +kernel
theorem dL_law_293 : decode cL_law 293 = .ok (.if_icmp .eq 5, 3) := by decide +kernel
theorem dL_law_296 : decode cL_law 296 = .ok (.iconst 0, 1) := by decide +kernel
theorem dL_law_297 : decode cL_law 297 = .ok (.ireturn, 1) := by decide +kernel
theorem dL_law_298 : decode cL_law 298 = .ok (.iload 5, 2) := by decide +kernel
theorem dL_law_300 : decode cL_law 300 = .ok (.ifCond .ne 15, 3) := by decide +kernel
theorem dL_law_303 : decode cL_law 303 = .ok (.aload_n 3, 1) := by decide +kernel
theorem dL_law_304 : decode cL_law 304 = .ok (.iconst 0, 1) := by decide +kernel
theorem dL_law_305 : decode cL_law 305 = .ok (.laload, 1) := by decide +kernel
theorem dL_law_306 : decode cL_law 306 = .ok (.iload 6, 2) := by decide +kernel
theorem dL_law_308 : decode cL_law 308 = .ok (.i2l, 1) := by decide +kernel
theorem dL_law_309 : decode cL_law 309 = .ok (.lcmp, 1) := by decide +kernel
theorem dL_law_310 : decode cL_law 310 = .ok (.ifCond .eq 5, 3) := by decide +kernel
theorem dL_law_313 : decode cL_law 313 = .ok (.iconst 0, 1) := by decide +kernel
theorem dL_law_314 : decode cL_law 314 = .ok (.ireturn, 1) := by decide +kernel
theorem dL_law_315 : decode cL_law 315 = .ok (.goto 905, 3) := by decide +kernel
theorem dL_law_318 : decode cL_law 318 = .ok (.aload_n 1, 1) := by decide +kernel
theorem dL_law_319 : decode cL_law 319 = .ok (.aload_n 0, 1) := by decide +kernel
theorem dL_law_320 : decode cL_law 320 = .ok (.iload 4, 2) := by decide +kernel
theorem dL_law_322 : decode cL_law 322 = .ok (.iconst 1, 1) := by decide +kernel
theorem dL_law_323 : decode cL_law 323 = .ok (.iadd, 1) := by decide +kernel
theorem dL_law_324 : decode cL_law 324 = .ok (.iaload, 1) := by decide +kernel
theorem dL_law_325 : decode cL_law 325 = .ok (.aload_n 0, 1) := by decide +kernel
theorem dL_law_326 : decode cL_law 326 = .ok (.iload 4, 2) := by decide +kernel
theorem dL_law_328 : decode cL_law 328 = .ok (.iconst 2, 1) := by decide +kernel
theorem dL_law_329 : decode cL_law 329 = .ok (.iadd, 1) := by decide +kernel
theorem dL_law_330 : decode cL_law 330 = .ok (.iaload, 1) := by decide +kernel
theorem dL_law_331 : decode cL_law 331 = .ok (.aload_n 3, 1) := by decide +kernel
theorem dL_law_332 : decode cL_law 332 = .ok (.invokestatic 87, 3) := by decide +kernel
theorem dL_law_335 : decode cL_law 335 = .ok (.istore 5, 2) := by decide +kernel
theorem dL_law_337 : decode cL_law 337 = .ok (.aload_n 2, 1) := by decide +kernel
theorem dL_law_338 : decode cL_law 338 = .ok (.aload_n 0, 1) := by decide +kernel
theorem dL_law_339 : decode cL_law 339 = .ok (.iload 4, 2) := by decide +kernel
theorem dL_law_341 : decode cL_law 341 = .ok (.iconst 1, 1) := by decide +kernel
theorem dL_law_342 : decode cL_law 342 = .ok (.iadd, 1) := by decide +kernel
theorem dL_law_343 : decode cL_law 343 = .ok (.iaload, 1) := by decide +kernel
theorem dL_law_344 : decode cL_law 344 = .ok (.aload_n 0, 1) := by decide +kernel
theorem dL_law_345 : decode cL_law 345 = .ok (.iload 4, 2) := by decide +kernel
theorem dL_law_347 : decode cL_law 347 = .ok (.iconst 2, 1) := by decide +kernel
theorem dL_law_348 : decode cL_law 348 = .ok (.iadd, 1) := by decide +kernel
theorem dL_law_349 : decode cL_law 349 = .ok (.iaload, 1) := by decide +kernel
theorem dL_law_350 : decode cL_law 350 = .ok (.invokevirtual 89, 3) := by decide +kernel
theorem dL_law_353 : decode cL_law 353 = .ok (.istore 6, 2) := by decide +kernel
theorem dL_law_355 : decode cL_law 355 = .ok (.aload_n 2, 1) := by decide +kernel
theorem dL_law_356 : decode cL_law 356 = .ok (.invokevirtual 80, 3) := by decide +kernel
theorem dL_law_359 : decode cL_law 359 = .ok (.iload 5, 2) := by decide +kernel
theorem dL_law_361 : decode cL_law 361 = .ok (.if_icmp .eq 5, 3) := by decide +kernel
theorem dL_law_364 : decode cL_law 364 = .ok (.iconst 0, 1) := by decide +kernel
theorem dL_law_365 : decode cL_law 365 = .ok (.ireturn, 1) := by decide +kernel
theorem dL_law_366 : decode cL_law 366 = .ok (.iload 5, 2) := by decide +kernel
theorem dL_law_368 : decode cL_law 368 = .ok (.ifCond .ne 15, 3) := by decide +kernel
theorem dL_law_371 : decode cL_law 371 = .ok (.aload_n 3, 1) := by decide +kernel
theorem dL_law_372 : decode cL_law 372 = .ok (.iconst 0, 1) := by decide +kernel
theorem dL_law_373 : decode cL_law 373 = .ok (.laload, 1) := by decide +kernel
theorem dL_law_374 : decode cL_law 374 = .ok (.iload 6, 2) := by decide +kernel
theorem dL_law_376 : decode cL_law 376 = .ok (.i2l, 1) := by decide +kernel
theorem dL_law_377 : decode cL_law 377 = .ok (.lcmp, 1) := by decide +kernel
theorem dL_law_378 : decode cL_law 378 = .ok (.ifCond .eq 5, 3) := by decide +kernel
theorem dL_law_381 : decode cL_law 381 = .ok (.iconst 0, 1) := by decide +kernel
theorem dL_law_382 : decode cL_law 382 = .ok (.ireturn, 1) := by decide +kernel
theorem dL_law_383 : decode cL_law 383 = .ok (.goto 837, 3) := by decide +kernel
theorem dL_law_386 : decode cL_law 386 = .ok (.aload_n 1, 1) := by decide +kernel
theorem dL_law_387 : decode cL_law 387 = .ok (.aload_n 0, 1) := by decide +kernel
theorem dL_law_388 : decode cL_law 388 = .ok (.iload 4, 2) := by decide +kernel
theorem dL_law_390 : decode cL_law 390 = .ok (.iconst 1, 1) := by decide +kernel
theorem dL_law_391 : decode cL_law 391 = .ok (.iadd, 1) := by decide +kernel
theorem dL_law_392 : decode cL_law 392 = .ok (.iaload, 1) := by decide +kernel
theorem dL_law_393 : decode cL_law 393 = .ok (.aload_n 0, 1) := by decide +kernel
theorem dL_law_394 : decode cL_law 394 = .ok (.iload 4, 2) := by decide +kernel
theorem dL_law_396 : decode cL_law 396 = .ok (.iconst 2, 1) := by decide +kernel
theorem dL_law_397 : decode cL_law 397 = .ok (.iadd, 1) := by decide +kernel
theorem dL_law_398 : decode cL_law 398 = .ok (.iaload, 1) := by decide +kernel
theorem dL_law_399 : decode cL_law 399 = .ok (.aload_n 3, 1) := by decide +kernel
theorem dL_law_400 : decode cL_law 400 = .ok (.invokestatic 90, 3) := by decide +kernel
theorem dL_law_403 : decode cL_law 403 = .ok (.istore 5, 2) := by decide +kernel
theorem dL_law_405 : decode cL_law 405 = .ok (.aload_n 2, 1) := by decide +kernel
theorem dL_law_406 : decode cL_law 406 = .ok (.aload_n 0, 1) := by decide +kernel
theorem dL_law_407 : decode cL_law 407 = .ok (.iload 4, 2) := by decide +kernel
theorem dL_law_409 : decode cL_law 409 = .ok (.iconst 1, 1) := by decide +kernel
theorem dL_law_410 : decode cL_law 410 = .ok (.iadd, 1) := by decide +kernel
theorem dL_law_411 : decode cL_law 411 = .ok (.iaload, 1) := by decide +kernel
theorem dL_law_412 : decode cL_law 412 = .ok (.aload_n 0, 1) := by decide +kernel
theorem dL_law_413 : decode cL_law 413 = .ok (.iload 4, 2) := by decide +kernel
theorem dL_law_415 : decode cL_law 415 = .ok (.iconst 2, 1) := by decide +kernel
theorem dL_law_416 : decode cL_law 416 = .ok (.iadd, 1) := by decide +kernel
theorem dL_law_417 : decode cL_law 417 = .ok (.iaload, 1) := by decide +kernel
theorem dL_law_418 : decode cL_law 418 = .ok (.invokevirtual 92, 3) := by decide +kernel
theorem dL_law_421 : decode cL_law 421 = .ok (.istore 6, 2) := by decide +kernel
theorem dL_law_423 : decode cL_law 423 = .ok (.aload_n 2, 1) := by decide +kernel
theorem dL_law_424 : decode cL_law 424 = .ok (.invokevirtual 80, 3) := by decide +kernel
theorem dL_law_427 : decode cL_law 427 = .ok (.iload 5, 2) := by decide +kernel
theorem dL_law_429 : decode cL_law 429 = .ok (.if_icmp .eq 5, 3) := by decide +kernel
theorem dL_law_432 : decode cL_law 432 = .ok (.iconst 0, 1) := by decide +kernel
theorem dL_law_433 : decode cL_law 433 = .ok (.ireturn, 1) := by decide +kernel
theorem dL_law_434 : decode cL_law 434 = .ok (.iload 5, 2) := by decide +kernel
theorem dL_law_436 : decode cL_law 436 = .ok (.ifCond .ne 15, 3) := by decide +kernel
theorem dL_law_439 : decode cL_law 439 = .ok (.aload_n 3, 1) := by decide +kernel
theorem dL_law_440 : decode cL_law 440 = .ok (.iconst 0, 1) := by decide +kernel
theorem dL_law_441 : decode cL_law 441 = .ok (.laload, 1) := by decide +kernel
theorem dL_law_442 : decode cL_law 442 = .ok (.iload 6, 2) := by decide +kernel
theorem dL_law_444 : decode cL_law 444 = .ok (.i2l, 1) := by decide +kernel
theorem dL_law_445 : decode cL_law 445 = .ok (.lcmp, 1) := by decide +kernel
theorem dL_law_446 : decode cL_law 446 = .ok (.ifCond .eq 5, 3) := by decide +kernel
theorem dL_law_449 : decode cL_law 449 = .ok (.iconst 0, 1) := by decide +kernel
theorem dL_law_450 : decode cL_law 450 = .ok (.ireturn, 1) := by decide +kernel
theorem dL_law_451 : decode cL_law 451 = .ok (.goto 769, 3) := by decide +kernel
theorem dL_law_454 : decode cL_law 454 = .ok (.aload_n 1, 1) := by decide +kernel
theorem dL_law_455 : decode cL_law 455 = .ok (.aload_n 0, 1) := by decide +kernel
theorem dL_law_456 : decode cL_law 456 = .ok (.iload 4, 2) := by decide +kernel
theorem dL_law_458 : decode cL_law 458 = .ok (.iconst 1, 1) := by decide +kernel
theorem dL_law_459 : decode cL_law 459 = .ok (.iadd, 1) := by decide +kernel
theorem dL_law_460 : decode cL_law 460 = .ok (.iaload, 1) := by decide +kernel
theorem dL_law_461 : decode cL_law 461 = .ok (.aload_n 3, 1) := by decide +kernel
theorem dL_law_462 : decode cL_law 462 = .ok (.invokestatic 93, 3) := by decide +kernel
theorem dL_law_465 : decode cL_law 465 = .ok (.istore 5, 2) := by decide +kernel
theorem dL_law_467 : decode cL_law 467 = .ok (.aload_n 2, 1) := by decide +kernel
theorem dL_law_468 : decode cL_law 468 = .ok (.aload_n 0, 1) := by decide +kernel
theorem dL_law_469 : decode cL_law 469 = .ok (.iload 4, 2) := by decide +kernel
theorem dL_law_471 : decode cL_law 471 = .ok (.iconst 1, 1) := by decide +kernel
theorem dL_law_472 : decode cL_law 472 = .ok (.iadd, 1) := by decide +kernel
theorem dL_law_473 : decode cL_law 473 = .ok (.iaload, 1) := by decide +kernel
theorem dL_law_474 : decode cL_law 474 = .ok (.invokevirtual 96, 3) := by decide +kernel
theorem dL_law_477 : decode cL_law 477 = .ok (.istore 6, 2) := by decide +kernel
theorem dL_law_479 : decode cL_law 479 = .ok (.aload_n 2, 1) := by decide +kernel
theorem dL_law_480 : decode cL_law 480 = .ok (.invokevirtual 80, 3) := by decide +kernel
theorem dL_law_483 : decode cL_law 483 = .ok (.iload 5, 2) := by decide +kernel
theorem dL_law_485 : decode cL_law 485 = .ok (.if_icmp .eq 5, 3) := by decide +kernel
theorem dL_law_488 : decode cL_law 488 = .ok (.iconst 0, 1) := by decide +kernel
theorem dL_law_489 : decode cL_law 489 = .ok (.ireturn, 1) := by decide +kernel
theorem dL_law_490 : decode cL_law 490 = .ok (.iload 5, 2) := by decide +kernel
theorem dL_law_492 : decode cL_law 492 = .ok (.ifCond .ne 15, 3) := by decide +kernel
theorem dL_law_495 : decode cL_law 495 = .ok (.aload_n 3, 1) := by decide +kernel
theorem dL_law_496 : decode cL_law 496 = .ok (.iconst 0, 1) := by decide +kernel
theorem dL_law_497 : decode cL_law 497 = .ok (.laload, 1) := by decide +kernel
theorem dL_law_498 : decode cL_law 498 = .ok (.iload 6, 2) := by decide +kernel
theorem dL_law_500 : decode cL_law 500 = .ok (.i2l, 1) := by decide +kernel
theorem dL_law_501 : decode cL_law 501 = .ok (.lcmp, 1) := by decide +kernel
theorem dL_law_502 : decode cL_law 502 = .ok (.ifCond .eq 5, 3) := by decide +kernel
theorem dL_law_505 : decode cL_law 505 = .ok (.iconst 0, 1) := by decide +kernel
theorem dL_law_506 : decode cL_law 506 = .ok (.ireturn, 1) := by decide +kernel
theorem dL_law_507 : decode cL_law 507 = .ok (.goto 713, 3) := by decide +kernel
theorem dL_law_510 : decode cL_law 510 = .ok (.aload_n 1, 1) := by decide +kernel
theorem dL_law_511 : decode cL_law 511 = .ok (.aload_n 0, 1) := by decide +kernel
theorem dL_law_512 : decode cL_law 512 = .ok (.iload 4, 2) := by decide +kernel
theorem dL_law_514 : decode cL_law 514 = .ok (.iconst 1, 1) := by decide +kernel
theorem dL_law_515 : decode cL_law 515 = .ok (.iadd, 1) := by decide +kernel
theorem dL_law_516 : decode cL_law 516 = .ok (.iaload, 1) := by decide +kernel
theorem dL_law_517 : decode cL_law 517 = .ok (.aload_n 0, 1) := by decide +kernel
theorem dL_law_518 : decode cL_law 518 = .ok (.iload 4, 2) := by decide +kernel
theorem dL_law_520 : decode cL_law 520 = .ok (.iconst 2, 1) := by decide +kernel
theorem dL_law_521 : decode cL_law 521 = .ok (.iadd, 1) := by decide +kernel
theorem dL_law_522 : decode cL_law 522 = .ok (.iaload, 1) := by decide +kernel
theorem dL_law_523 : decode cL_law 523 = .ok (.aload_n 3, 1) := by decide +kernel
theorem dL_law_524 : decode cL_law 524 = .ok (.invokestatic 97, 3) := by decide +kernel
theorem dL_law_527 : decode cL_law 527 = .ok (.istore 5, 2) := by decide +kernel
theorem dL_law_529 : decode cL_law 529 = .ok (.aload_n 2, 1) := by decide +kernel
theorem dL_law_530 : decode cL_law 530 = .ok (.aload_n 0, 1) := by decide +kernel
theorem dL_law_531 : decode cL_law 531 = .ok (.iload 4, 2) := by decide +kernel
theorem dL_law_533 : decode cL_law 533 = .ok (.iconst 1, 1) := by decide +kernel
theorem dL_law_534 : decode cL_law 534 = .ok (.iadd, 1) := by decide +kernel
theorem dL_law_535 : decode cL_law 535 = .ok (.iaload, 1) := by decide +kernel
theorem dL_law_536 : decode cL_law 536 = .ok (.aload_n 0, 1) := by decide +kernel
theorem dL_law_537 : decode cL_law 537 = .ok (.iload 4, 2) := by decide +kernel
theorem dL_law_539 : decode cL_law 539 = .ok (.iconst 2, 1) := by decide +kernel
theorem dL_law_540 : decode cL_law 540 = .ok (.iadd, 1) := by decide +kernel
theorem dL_law_541 : decode cL_law 541 = .ok (.iaload, 1) := by decide +kernel
theorem dL_law_542 : decode cL_law 542 = .ok (.invokevirtual 99, 3) := by decide +kernel
theorem dL_law_545 : decode cL_law 545 = .ok (.istore 6, 2) := by decide +kernel
theorem dL_law_547 : decode cL_law 547 = .ok (.aload_n 2, 1) := by decide +kernel
theorem dL_law_548 : decode cL_law 548 = .ok (.invokevirtual 80, 3) := by decide +kernel
theorem dL_law_551 : decode cL_law 551 = .ok (.iload 5, 2) := by decide +kernel
theorem dL_law_553 : decode cL_law 553 = .ok (.if_icmp .eq 5, 3) := by decide +kernel
theorem dL_law_556 : decode cL_law 556 = .ok (.iconst 0, 1) := by decide +kernel
theorem dL_law_557 : decode cL_law 557 = .ok (.ireturn, 1) := by decide +kernel
theorem dL_law_558 : decode cL_law 558 = .ok (.iload 5, 2) := by decide +kernel
theorem dL_law_560 : decode cL_law 560 = .ok (.ifCond .ne 15, 3) := by decide +kernel
theorem dL_law_563 : decode cL_law 563 = .ok (.aload_n 3, 1) := by decide +kernel
theorem dL_law_564 : decode cL_law 564 = .ok (.iconst 0, 1) := by decide +kernel
theorem dL_law_565 : decode cL_law 565 = .ok (.laload, 1) := by decide +kernel
theorem dL_law_566 : decode cL_law 566 = .ok (.iload 6, 2) := by decide +kernel
theorem dL_law_568 : decode cL_law 568 = .ok (.i2l, 1) := by decide +kernel
theorem dL_law_569 : decode cL_law 569 = .ok (.lcmp, 1) := by decide +kernel
theorem dL_law_570 : decode cL_law 570 = .ok (.ifCond .eq 5, 3) := by decide +kernel
theorem dL_law_573 : decode cL_law 573 = .ok (.iconst 0, 1) := by decide +kernel
theorem dL_law_574 : decode cL_law 574 = .ok (.ireturn, 1) := by decide +kernel
theorem dL_law_575 : decode cL_law 575 = .ok (.goto 645, 3) := by decide +kernel
theorem dL_law_578 : decode cL_law 578 = .ok (.aload_n 1, 1) := by decide +kernel
theorem dL_law_579 : decode cL_law 579 = .ok (.aload_n 3, 1) := by decide +kernel
theorem dL_law_580 : decode cL_law 580 = .ok (.invokestatic 100, 3) := by decide +kernel
theorem dL_law_583 : decode cL_law 583 = .ok (.istore 5, 2) := by decide +kernel
theorem dL_law_585 : decode cL_law 585 = .ok (.aload_n 2, 1) := by decide +kernel
theorem dL_law_586 : decode cL_law 586 = .ok (.invokevirtual 103, 3) := by decide +kernel
theorem dL_law_589 : decode cL_law 589 = .ok (.istore 6, 2) := by decide +kernel
theorem dL_law_591 : decode cL_law 591 = .ok (.aload_n 2, 1) := by decide +kernel
theorem dL_law_592 : decode cL_law 592 = .ok (.invokevirtual 80, 3) := by decide +kernel
theorem dL_law_595 : decode cL_law 595 = .ok (.iload 5, 2) := by decide +kernel
theorem dL_law_597 : decode cL_law 597 = .ok (.if_icmp .eq 5, 3) := by decide +kernel
theorem dL_law_600 : decode cL_law 600 = .ok (.iconst 0, 1) := by decide +kernel
theorem dL_law_601 : decode cL_law 601 = .ok (.ireturn, 1) := by decide +kernel
theorem dL_law_602 : decode cL_law 602 = .ok (.iload 5, 2) := by decide +kernel
theorem dL_law_604 : decode cL_law 604 = .ok (.ifCond .ne 15, 3) := by decide +kernel
theorem dL_law_607 : decode cL_law 607 = .ok (.aload_n 3, 1) := by decide +kernel
theorem dL_law_608 : decode cL_law 608 = .ok (.iconst 0, 1) := by decide +kernel
theorem dL_law_609 : decode cL_law 609 = .ok (.laload, 1) := by decide +kernel
theorem dL_law_610 : decode cL_law 610 = .ok (.iload 6, 2) := by decide +kernel
theorem dL_law_612 : decode cL_law 612 = .ok (.i2l, 1) := by decide +kernel
theorem dL_law_613 : decode cL_law 613 = .ok (.lcmp, 1) := by decide +kernel
theorem dL_law_614 : decode cL_law 614 = .ok (.ifCond .eq 5, 3) := by decide +kernel
theorem dL_law_617 : decode cL_law 617 = .ok (.iconst 0, 1) := by decide +kernel
theorem dL_law_618 : decode cL_law 618 = .ok (.ireturn, 1) := by decide +kernel
theorem dL_law_619 : decode cL_law 619 = .ok (.goto 601, 3) := by decide +kernel
theorem dL_law_622 : decode cL_law 622 = .ok (.aload_n 1, 1) := by decide +kernel
theorem dL_law_623 : decode cL_law 623 = .ok (.invokevirtual 104, 3) := by decide +kernel
theorem dL_law_626 : decode cL_law 626 = .ok (.aload_n 2, 1) := by decide +kernel
theorem dL_law_627 : decode cL_law 627 = .ok (.invokevirtual 107, 3) := by decide +kernel
theorem dL_law_630 : decode cL_law 630 = .ok (.if_icmp .eq 590, 3) := by decide +kernel
theorem dL_law_633 : decode cL_law 633 = .ok (.iconst 0, 1) := by decide +kernel
theorem dL_law_634 : decode cL_law 634 = .ok (.ireturn, 1) := by decide +kernel
theorem dL_law_635 : decode cL_law 635 = .ok (.aload_n 1, 1) := by decide +kernel
theorem dL_law_636 : decode cL_law 636 = .ok (.invokevirtual 108, 3) := by decide +kernel
theorem dL_law_639 : decode cL_law 639 = .ok (.aload_n 2, 1) := by decide +kernel
theorem dL_law_640 : decode cL_law 640 = .ok (.invokevirtual 111, 3) := by decide +kernel
theorem dL_law_643 : decode cL_law 643 = .ok (.if_icmp .eq 577, 3) := by decide +kernel
theorem dL_law_646 : decode cL_law 646 = .ok (.iconst 0, 1) := by decide +kernel
theorem dL_law_647 : decode cL_law 647 = .ok (.ireturn, 1) := by decide +kernel
theorem dL_law_648 : decode cL_law 648 = .ok (.aload_n 1, 1) := by decide +kernel
theorem dL_law_649 : decode cL_law 649 = .ok (.aload_n 0, 1) := by decide +kernel
theorem dL_law_650 : decode cL_law 650 = .ok (.iload 4, 2) := by decide +kernel
theorem dL_law_652 : decode cL_law 652 = .ok (.iconst 1, 1) := by decide +kernel
theorem dL_law_653 : decode cL_law 653 = .ok (.iadd, 1) := by decide +kernel
theorem dL_law_654 : decode cL_law 654 = .ok (.iaload, 1) := by decide +kernel
theorem dL_law_655 : decode cL_law 655 = .ok (.aload_n 3, 1) := by decide +kernel
theorem dL_law_656 : decode cL_law 656 = .ok (.invokestatic 112, 3) := by decide +kernel
theorem dL_law_659 : decode cL_law 659 = .ok (.istore 5, 2) := by decide +kernel
theorem dL_law_661 : decode cL_law 661 = .ok (.aload_n 2, 1) := by decide +kernel
theorem dL_law_662 : decode cL_law 662 = .ok (.aload_n 0, 1) := by decide +kernel
theorem dL_law_663 : decode cL_law 663 = .ok (.iload 4, 2) := by decide +kernel
theorem dL_law_665 : decode cL_law 665 = .ok (.iconst 1, 1) := by decide +kernel
theorem dL_law_666 : decode cL_law 666 = .ok (.iadd, 1) := by decide +kernel
theorem dL_law_667 : decode cL_law 667 = .ok (.iaload, 1) := by decide +kernel
theorem dL_law_668 : decode cL_law 668 = .ok (.invokevirtual 114, 3) := by decide +kernel
theorem dL_law_671 : decode cL_law 671 = .ok (.istore 6, 2) := by decide +kernel
theorem dL_law_673 : decode cL_law 673 = .ok (.aload_n 2, 1) := by decide +kernel
theorem dL_law_674 : decode cL_law 674 = .ok (.invokevirtual 80, 3) := by decide +kernel
theorem dL_law_677 : decode cL_law 677 = .ok (.iload 5, 2) := by decide +kernel
theorem dL_law_679 : decode cL_law 679 = .ok (.if_icmp .eq 5, 3) := by decide +kernel
theorem dL_law_682 : decode cL_law 682 = .ok (.iconst 0, 1) := by decide +kernel
theorem dL_law_683 : decode cL_law 683 = .ok (.ireturn, 1) := by decide +kernel
theorem dL_law_684 : decode cL_law 684 = .ok (.iload 5, 2) := by decide +kernel
theorem dL_law_686 : decode cL_law 686 = .ok (.ifCond .ne 15, 3) := by decide +kernel
theorem dL_law_689 : decode cL_law 689 = .ok (.aload_n 3, 1) := by decide +kernel
theorem dL_law_690 : decode cL_law 690 = .ok (.iconst 0, 1) := by decide +kernel
theorem dL_law_691 : decode cL_law 691 = .ok (.laload, 1) := by decide +kernel
theorem dL_law_692 : decode cL_law 692 = .ok (.iload 6, 2) := by decide +kernel
theorem dL_law_694 : decode cL_law 694 = .ok (.i2l, 1) := by decide +kernel
theorem dL_law_695 : decode cL_law 695 = .ok (.lcmp, 1) := by decide +kernel
theorem dL_law_696 : decode cL_law 696 = .ok (.ifCond .eq 5, 3) := by decide +kernel
theorem dL_law_699 : decode cL_law 699 = .ok (.iconst 0, 1) := by decide +kernel
theorem dL_law_700 : decode cL_law 700 = .ok (.ireturn, 1) := by decide +kernel
theorem dL_law_701 : decode cL_law 701 = .ok (.goto 519, 3) := by decide +kernel
theorem dL_law_704 : decode cL_law 704 = .ok (.aload_n 1, 1) := by decide +kernel
theorem dL_law_705 : decode cL_law 705 = .ok (.aload_n 0, 1) := by decide +kernel
theorem dL_law_706 : decode cL_law 706 = .ok (.iload 4, 2) := by decide +kernel
theorem dL_law_708 : decode cL_law 708 = .ok (.iconst 1, 1) := by decide +kernel
theorem dL_law_709 : decode cL_law 709 = .ok (.iadd, 1) := by decide +kernel
theorem dL_law_710 : decode cL_law 710 = .ok (.iaload, 1) := by decide +kernel
theorem dL_law_711 : decode cL_law 711 = .ok (.aload_n 3, 1) := by decide +kernel
theorem dL_law_712 : decode cL_law 712 = .ok (.invokestatic 115, 3) := by decide +kernel
theorem dL_law_715 : decode cL_law 715 = .ok (.istore 5, 2) := by decide +kernel
theorem dL_law_717 : decode cL_law 717 = .ok (.aload_n 2, 1) := by decide +kernel
theorem dL_law_718 : decode cL_law 718 = .ok (.aload_n 0, 1) := by decide +kernel
theorem dL_law_719 : decode cL_law 719 = .ok (.iload 4, 2) := by decide +kernel
theorem dL_law_721 : decode cL_law 721 = .ok (.iconst 1, 1) := by decide +kernel
theorem dL_law_722 : decode cL_law 722 = .ok (.iadd, 1) := by decide +kernel
theorem dL_law_723 : decode cL_law 723 = .ok (.iaload, 1) := by decide +kernel
theorem dL_law_724 : decode cL_law 724 = .ok (.invokevirtual 117, 3) := by decide +kernel
theorem dL_law_727 : decode cL_law 727 = .ok (.istore 6, 2) := by decide +kernel
theorem dL_law_729 : decode cL_law 729 = .ok (.aload_n 2, 1) := by decide +kernel
theorem dL_law_730 : decode cL_law 730 = .ok (.invokevirtual 80, 3) := by decide +kernel
theorem dL_law_733 : decode cL_law 733 = .ok (.iload 5, 2) := by decide +kernel
theorem dL_law_735 : decode cL_law 735 = .ok (.if_icmp .eq 5, 3) := by decide +kernel
theorem dL_law_738 : decode cL_law 738 = .ok (.iconst 0, 1) := by decide +kernel
theorem dL_law_739 : decode cL_law 739 = .ok (.ireturn, 1) := by decide +kernel
theorem dL_law_740 : decode cL_law 740 = .ok (.iload 5, 2) := by decide +kernel
theorem dL_law_742 : decode cL_law 742 = .ok (.ifCond .ne 15, 3) := by decide +kernel
theorem dL_law_745 : decode cL_law 745 = .ok (.aload_n 3, 1) := by decide +kernel
theorem dL_law_746 : decode cL_law 746 = .ok (.iconst 0, 1) := by decide +kernel
theorem dL_law_747 : decode cL_law 747 = .ok (.laload, 1) := by decide +kernel
theorem dL_law_748 : decode cL_law 748 = .ok (.iload 6, 2) := by decide +kernel
theorem dL_law_750 : decode cL_law 750 = .ok (.i2l, 1) := by decide +kernel
theorem dL_law_751 : decode cL_law 751 = .ok (.lcmp, 1) := by decide +kernel
theorem dL_law_752 : decode cL_law 752 = .ok (.ifCond .eq 5, 3) := by decide +kernel
theorem dL_law_755 : decode cL_law 755 = .ok (.iconst 0, 1) := by decide +kernel
theorem dL_law_756 : decode cL_law 756 = .ok (.ireturn, 1) := by decide +kernel
theorem dL_law_757 : decode cL_law 757 = .ok (.goto 463, 3) := by decide +kernel
theorem dL_law_760 : decode cL_law 760 = .ok (.aload_n 1, 1) := by decide +kernel
theorem dL_law_761 : decode cL_law 761 = .ok (.aload_n 0, 1) := by decide +kernel
theorem dL_law_762 : decode cL_law 762 = .ok (.iload 4, 2) := by decide +kernel
theorem dL_law_764 : decode cL_law 764 = .ok (.iconst 1, 1) := by decide +kernel
theorem dL_law_765 : decode cL_law 765 = .ok (.iadd, 1) := by decide +kernel
theorem dL_law_766 : decode cL_law 766 = .ok (.iaload, 1) := by decide +kernel
theorem dL_law_767 : decode cL_law 767 = .ok (.aload_n 3, 1) := by decide +kernel
theorem dL_law_768 : decode cL_law 768 = .ok (.invokestatic 118, 3) := by decide +kernel
theorem dL_law_771 : decode cL_law 771 = .ok (.istore 5, 2) := by decide +kernel
theorem dL_law_773 : decode cL_law 773 = .ok (.aload_n 2, 1) := by decide +kernel
theorem dL_law_774 : decode cL_law 774 = .ok (.aload_n 0, 1) := by decide +kernel
theorem dL_law_775 : decode cL_law 775 = .ok (.iload 4, 2) := by decide +kernel
theorem dL_law_777 : decode cL_law 777 = .ok (.iconst 1, 1) := by decide +kernel
theorem dL_law_778 : decode cL_law 778 = .ok (.iadd, 1) := by decide +kernel
theorem dL_law_779 : decode cL_law 779 = .ok (.iaload, 1) := by decide +kernel
theorem dL_law_780 : decode cL_law 780 = .ok (.invokevirtual 120, 3) := by decide +kernel
theorem dL_law_783 : decode cL_law 783 = .ok (.istore 6, 2) := by decide +kernel
theorem dL_law_785 : decode cL_law 785 = .ok (.aload_n 2, 1) := by decide +kernel
theorem dL_law_786 : decode cL_law 786 = .ok (.invokevirtual 80, 3) := by decide +kernel
theorem dL_law_789 : decode cL_law 789 = .ok (.iload 5, 2) := by decide +kernel
theorem dL_law_791 : decode cL_law 791 = .ok (.if_icmp .eq 5, 3) := by decide +kernel
theorem dL_law_794 : decode cL_law 794 = .ok (.iconst 0, 1) := by decide +kernel
theorem dL_law_795 : decode cL_law 795 = .ok (.ireturn, 1) := by decide +kernel
theorem dL_law_796 : decode cL_law 796 = .ok (.iload 5, 2) := by decide +kernel
theorem dL_law_798 : decode cL_law 798 = .ok (.ifCond .ne 22, 3) := by decide +kernel
theorem dL_law_801 : decode cL_law 801 = .ok (.aload_n 3, 1) := by decide +kernel
theorem dL_law_802 : decode cL_law 802 = .ok (.iconst 0, 1) := by decide +kernel
theorem dL_law_803 : decode cL_law 803 = .ok (.laload, 1) := by decide +kernel
theorem dL_law_804 : decode cL_law 804 = .ok (.iload 6, 2) := by decide +kernel
theorem dL_law_806 : decode cL_law 806 = .ok (.ifCond .eq 7, 3) := by decide +kernel
theorem dL_law_809 : decode cL_law 809 = .ok (.lconst 1, 1) := by decide +kernel
theorem dL_law_810 : decode cL_law 810 = .ok (.goto 4, 3) := by decide +kernel
theorem dL_law_813 : decode cL_law 813 = .ok (.lconst 0, 1) := by decide +kernel
theorem dL_law_814 : decode cL_law 814 = .ok (.lcmp, 1) := by decide +kernel
theorem dL_law_815 : decode cL_law 815 = .ok (.ifCond .eq 5, 3) := by decide +kernel
theorem dL_law_818 : decode cL_law 818 = .ok (.iconst 0, 1) := by decide +kernel
theorem dL_law_819 : decode cL_law 819 = .ok (.ireturn, 1) := by decide +kernel
theorem dL_law_820 : decode cL_law 820 = .ok (.goto 400, 3) := by decide +kernel
theorem dL_law_823 : decode cL_law 823 = .ok (.aload_n 1, 1) := by decide +kernel
theorem dL_law_824 : decode cL_law 824 = .ok (.aload_n 0, 1) := by decide +kernel
theorem dL_law_825 : decode cL_law 825 = .ok (.iload 4, 2) := by decide +kernel
theorem dL_law_827 : decode cL_law 827 = .ok (.iconst 1, 1) := by decide +kernel
theorem dL_law_828 : decode cL_law 828 = .ok (.iadd, 1) := by decide +kernel
theorem dL_law_829 : decode cL_law 829 = .ok (.iaload, 1) := by decide +kernel
theorem dL_law_830 : decode cL_law 830 = .ok (.aload_n 0, 1) := by decide +kernel
theorem dL_law_831 : decode cL_law 831 = .ok (.iload 4, 2) := by decide +kernel
theorem dL_law_833 : decode cL_law 833 = .ok (.iconst 2, 1) := by decide +kernel
theorem dL_law_834 : decode cL_law 834 = .ok (.iadd, 1) := by decide +kernel
theorem dL_law_835 : decode cL_law 835 = .ok (.iaload, 1) := by decide +kernel
theorem dL_law_836 : decode cL_law 836 = .ok (.aload_n 3, 1) := by decide +kernel
theorem dL_law_837 : decode cL_law 837 = .ok (.invokestatic 121, 3) := by decide +kernel
theorem dL_law_840 : decode cL_law 840 = .ok (.istore 5, 2) := by decide +kernel
theorem dL_law_842 : decode cL_law 842 = .ok (.aload_n 2, 1) := by decide +kernel
theorem dL_law_843 : decode cL_law 843 = .ok (.aload_n 0, 1) := by decide +kernel
theorem dL_law_844 : decode cL_law 844 = .ok (.iload 4, 2) := by decide +kernel
theorem dL_law_846 : decode cL_law 846 = .ok (.iconst 1, 1) := by decide +kernel
theorem dL_law_847 : decode cL_law 847 = .ok (.iadd, 1) := by decide +kernel
theorem dL_law_848 : decode cL_law 848 = .ok (.iaload, 1) := by decide +kernel
theorem dL_law_849 : decode cL_law 849 = .ok (.aload_n 0, 1) := by decide +kernel
theorem dL_law_850 : decode cL_law 850 = .ok (.iload 4, 2) := by decide +kernel
theorem dL_law_852 : decode cL_law 852 = .ok (.iconst 2, 1) := by decide +kernel
theorem dL_law_853 : decode cL_law 853 = .ok (.iadd, 1) := by decide +kernel
theorem dL_law_854 : decode cL_law 854 = .ok (.iaload, 1) := by decide +kernel
theorem dL_law_855 : decode cL_law 855 = .ok (.invokevirtual 123, 3) := by decide +kernel
theorem dL_law_858 : decode cL_law 858 = .ok (.istore 6, 2) := by decide +kernel
theorem dL_law_860 : decode cL_law 860 = .ok (.aload_n 2, 1) := by decide +kernel
theorem dL_law_861 : decode cL_law 861 = .ok (.invokevirtual 80, 3) := by decide +kernel
theorem dL_law_864 : decode cL_law 864 = .ok (.iload 5, 2) := by decide +kernel
theorem dL_law_866 : decode cL_law 866 = .ok (.if_icmp .eq 5, 3) := by decide +kernel
theorem dL_law_869 : decode cL_law 869 = .ok (.iconst 0, 1) := by decide +kernel
theorem dL_law_870 : decode cL_law 870 = .ok (.ireturn, 1) := by decide +kernel
theorem dL_law_871 : decode cL_law 871 = .ok (.iload 5, 2) := by decide +kernel
theorem dL_law_873 : decode cL_law 873 = .ok (.ifCond .ne 15, 3) := by decide +kernel
theorem dL_law_876 : decode cL_law 876 = .ok (.aload_n 3, 1) := by decide +kernel
theorem dL_law_877 : decode cL_law 877 = .ok (.iconst 0, 1) := by decide +kernel
theorem dL_law_878 : decode cL_law 878 = .ok (.laload, 1) := by decide +kernel
theorem dL_law_879 : decode cL_law 879 = .ok (.iload 6, 2) := by decide +kernel
theorem dL_law_881 : decode cL_law 881 = .ok (.i2l, 1) := by decide +kernel
theorem dL_law_882 : decode cL_law 882 = .ok (.lcmp, 1) := by decide +kernel
theorem dL_law_883 : decode cL_law 883 = .ok (.ifCond .eq 5, 3) := by decide +kernel
theorem dL_law_886 : decode cL_law 886 = .ok (.iconst 0, 1) := by decide +kernel
theorem dL_law_887 : decode cL_law 887 = .ok (.ireturn, 1) := by decide +kernel
theorem dL_law_888 : decode cL_law 888 = .ok (.goto 332, 3) := by decide +kernel
theorem dL_law_891 : decode cL_law 891 = .ok (.aload_n 1, 1) := by decide +kernel
theorem dL_law_892 : decode cL_law 892 = .ok (.aload_n 0, 1) := by decide +kernel
theorem dL_law_893 : decode cL_law 893 = .ok (.iload 4, 2) := by decide +kernel
theorem dL_law_895 : decode cL_law 895 = .ok (.iconst 1, 1) := by decide +kernel
theorem dL_law_896 : decode cL_law 896 = .ok (.iadd, 1) := by decide +kernel
theorem dL_law_897 : decode cL_law 897 = .ok (.iaload, 1) := by decide +kernel
theorem dL_law_898 : decode cL_law 898 = .ok (.aload_n 3, 1) := by decide +kernel
theorem dL_law_899 : decode cL_law 899 = .ok (.invokestatic 124, 3) := by decide +kernel
theorem dL_law_902 : decode cL_law 902 = .ok (.istore 5, 2) := by decide +kernel
theorem dL_law_904 : decode cL_law 904 = .ok (.aload_n 2, 1) := by decide +kernel
theorem dL_law_905 : decode cL_law 905 = .ok (.aload_n 0, 1) := by decide +kernel
theorem dL_law_906 : decode cL_law 906 = .ok (.iload 4, 2) := by decide +kernel
theorem dL_law_908 : decode cL_law 908 = .ok (.iconst 1, 1) := by decide +kernel
theorem dL_law_909 : decode cL_law 909 = .ok (.iadd, 1) := by decide +kernel
theorem dL_law_910 : decode cL_law 910 = .ok (.iaload, 1) := by decide +kernel
theorem dL_law_911 : decode cL_law 911 = .ok (.invokevirtual 126, 3) := by decide +kernel
theorem dL_law_914 : decode cL_law 914 = .ok (.istore 6, 2) := by decide +kernel
theorem dL_law_916 : decode cL_law 916 = .ok (.aload_n 2, 1) := by decide +kernel
theorem dL_law_917 : decode cL_law 917 = .ok (.invokevirtual 80, 3) := by decide +kernel
theorem dL_law_920 : decode cL_law 920 = .ok (.iload 5, 2) := by decide +kernel
theorem dL_law_922 : decode cL_law 922 = .ok (.if_icmp .eq 5, 3) := by decide +kernel
theorem dL_law_925 : decode cL_law 925 = .ok (.iconst 0, 1) := by decide +kernel
theorem dL_law_926 : decode cL_law 926 = .ok (.ireturn, 1) := by decide +kernel
theorem dL_law_927 : decode cL_law 927 = .ok (.iload 5, 2) := by decide +kernel
theorem dL_law_929 : decode cL_law 929 = .ok (.ifCond .ne 15, 3) := by decide +kernel
theorem dL_law_932 : decode cL_law 932 = .ok (.aload_n 3, 1) := by decide +kernel
theorem dL_law_933 : decode cL_law 933 = .ok (.iconst 0, 1) := by decide +kernel
theorem dL_law_934 : decode cL_law 934 = .ok (.laload, 1) := by decide +kernel
theorem dL_law_935 : decode cL_law 935 = .ok (.iload 6, 2) := by decide +kernel
theorem dL_law_937 : decode cL_law 937 = .ok (.i2l, 1) := by decide +kernel
theorem dL_law_938 : decode cL_law 938 = .ok (.lcmp, 1) := by decide +kernel
theorem dL_law_939 : decode cL_law 939 = .ok (.ifCond .eq 5, 3) := by decide +kernel
theorem dL_law_942 : decode cL_law 942 = .ok (.iconst 0, 1) := by decide +kernel
theorem dL_law_943 : decode cL_law 943 = .ok (.ireturn, 1) := by decide +kernel
theorem dL_law_944 : decode cL_law 944 = .ok (.goto 276, 3) := by decide +kernel
theorem dL_law_947 : decode cL_law 947 = .ok (.aload_n 1, 1) := by decide +kernel
theorem dL_law_948 : decode cL_law 948 = .ok (.aload_n 0, 1) := by decide +kernel
theorem dL_law_949 : decode cL_law 949 = .ok (.iload 4, 2) := by decide +kernel
theorem dL_law_951 : decode cL_law 951 = .ok (.iconst 1, 1) := by decide +kernel
theorem dL_law_952 : decode cL_law 952 = .ok (.iadd, 1) := by decide +kernel
theorem dL_law_953 : decode cL_law 953 = .ok (.iaload, 1) := by decide +kernel
theorem dL_law_954 : decode cL_law 954 = .ok (.aload_n 0, 1) := by decide +kernel
theorem dL_law_955 : decode cL_law 955 = .ok (.iload 4, 2) := by decide +kernel
theorem dL_law_957 : decode cL_law 957 = .ok (.iconst 2, 1) := by decide +kernel
theorem dL_law_958 : decode cL_law 958 = .ok (.iadd, 1) := by decide +kernel
theorem dL_law_959 : decode cL_law 959 = .ok (.iaload, 1) := by decide +kernel
theorem dL_law_960 : decode cL_law 960 = .ok (.aload_n 0, 1) := by decide +kernel
theorem dL_law_961 : decode cL_law 961 = .ok (.iload 4, 2) := by decide +kernel
theorem dL_law_963 : decode cL_law 963 = .ok (.iconst 3, 1) := by decide +kernel
theorem dL_law_964 : decode cL_law 964 = .ok (.iadd, 1) := by decide +kernel
theorem dL_law_965 : decode cL_law 965 = .ok (.iaload, 1) := by decide +kernel
theorem dL_law_966 : decode cL_law 966 = .ok (.aload_n 3, 1) := by decide +kernel
theorem dL_law_967 : decode cL_law 967 = .ok (.invokestatic 127, 3) := by decide +kernel
theorem dL_law_970 : decode cL_law 970 = .ok (.istore 5, 2) := by decide +kernel
theorem dL_law_972 : decode cL_law 972 = .ok (.aload_n 2, 1) := by decide +kernel
theorem dL_law_973 : decode cL_law 973 = .ok (.aload_n 0, 1) := by decide +kernel
theorem dL_law_974 : decode cL_law 974 = .ok (.iload 4, 2) := by decide +kernel
theorem dL_law_976 : decode cL_law 976 = .ok (.iconst 1, 1) := by decide +kernel
theorem dL_law_977 : decode cL_law 977 = .ok (.iadd, 1) := by decide +kernel
theorem dL_law_978 : decode cL_law 978 = .ok (.iaload, 1) := by decide +kernel
theorem dL_law_979 : decode cL_law 979 = .ok (.aload_n 0, 1) := by decide +kernel
theorem dL_law_980 : decode cL_law 980 = .ok (.iload 4, 2) := by decide +kernel
theorem dL_law_982 : decode cL_law 982 = .ok (.iconst 2, 1) := by decide +kernel
theorem dL_law_983 : decode cL_law 983 = .ok (.iadd, 1) := by decide +kernel
theorem dL_law_984 : decode cL_law 984 = .ok (.iaload, 1) := by decide +kernel
theorem dL_law_985 : decode cL_law 985 = .ok (.aload_n 0, 1) := by decide +kernel
theorem dL_law_986 : decode cL_law 986 = .ok (.iload 4, 2) := by decide +kernel
theorem dL_law_988 : decode cL_law 988 = .ok (.iconst 3, 1) := by decide +kernel
theorem dL_law_989 : decode cL_law 989 = .ok (.iadd, 1) := by decide +kernel
theorem dL_law_990 : decode cL_law 990 = .ok (.iaload, 1) := by decide +kernel
theorem dL_law_991 : decode cL_law 991 = .ok (.invokevirtual 130, 3) := by decide +kernel
theorem dL_law_994 : decode cL_law 994 = .ok (.istore 6, 2) := by decide +kernel
theorem dL_law_996 : decode cL_law 996 = .ok (.aload_n 2, 1) := by decide +kernel
theorem dL_law_997 : decode cL_law 997 = .ok (.invokevirtual 80, 3) := by decide +kernel
theorem dL_law_1000 : decode cL_law 1000 = .ok (.iload 5, 2) := by decide +kernel
theorem dL_law_1002 : decode cL_law 1002 = .ok (.if_icmp .eq 5, 3) := by decide +kernel
theorem dL_law_1005 : decode cL_law 1005 = .ok (.iconst 0, 1) := by decide +kernel
theorem dL_law_1006 : decode cL_law 1006 = .ok (.ireturn, 1) := by decide +kernel
theorem dL_law_1007 : decode cL_law 1007 = .ok (.iload 5, 2) := by decide +kernel
theorem dL_law_1009 : decode cL_law 1009 = .ok (.ifCond .ne 15, 3) := by decide +kernel
theorem dL_law_1012 : decode cL_law 1012 = .ok (.aload_n 3, 1) := by decide +kernel
theorem dL_law_1013 : decode cL_law 1013 = .ok (.iconst 0, 1) := by decide +kernel
theorem dL_law_1014 : decode cL_law 1014 = .ok (.laload, 1) := by decide +kernel
theorem dL_law_1015 : decode cL_law 1015 = .ok (.iload 6, 2) := by decide +kernel
theorem dL_law_1017 : decode cL_law 1017 = .ok (.i2l, 1) := by decide +kernel
theorem dL_law_1018 : decode cL_law 1018 = .ok (.lcmp, 1) := by decide +kernel
theorem dL_law_1019 : decode cL_law 1019 = .ok (.ifCond .eq 5, 3) := by decide +kernel
theorem dL_law_1022 : decode cL_law 1022 = .ok (.iconst 0, 1) := by decide +kernel
theorem dL_law_1023 : decode cL_law 1023 = .ok (.ireturn, 1) := by decide +kernel
theorem dL_law_1024 : decode cL_law 1024 = .ok (.goto 196, 3) := by decide +kernel
theorem dL_law_1027 : decode cL_law 1027 = .ok (.aload_n 1, 1) := by decide +kernel
theorem dL_law_1028 : decode cL_law 1028 = .ok (.aload_n 0, 1) := by decide +kernel
theorem dL_law_1029 : decode cL_law 1029 = .ok (.iload 4, 2) := by decide +kernel
theorem dL_law_1031 : decode cL_law 1031 = .ok (.iconst 1, 1) := by decide +kernel
theorem dL_law_1032 : decode cL_law 1032 = .ok (.iadd, 1) := by decide +kernel
theorem dL_law_1033 : decode cL_law 1033 = .ok (.iaload, 1) := by decide +kernel
theorem dL_law_1034 : decode cL_law 1034 = .ok (.aload_n 0, 1) := by decide +kernel
theorem dL_law_1035 : decode cL_law 1035 = .ok (.iload 4, 2) := by decide +kernel
theorem dL_law_1037 : decode cL_law 1037 = .ok (.iconst 2, 1) := by decide +kernel
theorem dL_law_1038 : decode cL_law 1038 = .ok (.iadd, 1) := by decide +kernel
theorem dL_law_1039 : decode cL_law 1039 = .ok (.iaload, 1) := by decide +kernel
theorem dL_law_1040 : decode cL_law 1040 = .ok (.aload_n 3, 1) := by decide +kernel
theorem dL_law_1041 : decode cL_law 1041 = .ok (.invokestatic 131, 3) := by decide +kernel
theorem dL_law_1044 : decode cL_law 1044 = .ok (.istore 5, 2) := by decide +kernel
theorem dL_law_1046 : decode cL_law 1046 = .ok (.aload_n 2, 1) := by decide +kernel
theorem dL_law_1047 : decode cL_law 1047 = .ok (.aload_n 0, 1) := by decide +kernel
theorem dL_law_1048 : decode cL_law 1048 = .ok (.iload 4, 2) := by decide +kernel
theorem dL_law_1050 : decode cL_law 1050 = .ok (.iconst 1, 1) := by decide +kernel
theorem dL_law_1051 : decode cL_law 1051 = .ok (.iadd, 1) := by decide +kernel
theorem dL_law_1052 : decode cL_law 1052 = .ok (.iaload, 1) := by decide +kernel
theorem dL_law_1053 : decode cL_law 1053 = .ok (.aload_n 0, 1) := by decide +kernel
theorem dL_law_1054 : decode cL_law 1054 = .ok (.iload 4, 2) := by decide +kernel
theorem dL_law_1056 : decode cL_law 1056 = .ok (.iconst 2, 1) := by decide +kernel
theorem dL_law_1057 : decode cL_law 1057 = .ok (.iadd, 1) := by decide +kernel
theorem dL_law_1058 : decode cL_law 1058 = .ok (.iaload, 1) := by decide +kernel
theorem dL_law_1059 : decode cL_law 1059 = .ok (.invokevirtual 133, 3) := by decide +kernel
theorem dL_law_1062 : decode cL_law 1062 = .ok (.istore 6, 2) := by decide +kernel
theorem dL_law_1064 : decode cL_law 1064 = .ok (.aload_n 2, 1) := by decide +kernel
theorem dL_law_1065 : decode cL_law 1065 = .ok (.invokevirtual 80, 3) := by decide +kernel
theorem dL_law_1068 : decode cL_law 1068 = .ok (.iload 5, 2) := by decide +kernel
theorem dL_law_1070 : decode cL_law 1070 = .ok (.if_icmp .eq 5, 3) := by decide +kernel
theorem dL_law_1073 : decode cL_law 1073 = .ok (.iconst 0, 1) := by decide +kernel
theorem dL_law_1074 : decode cL_law 1074 = .ok (.ireturn, 1) := by decide +kernel
theorem dL_law_1075 : decode cL_law 1075 = .ok (.iload 5, 2) := by decide +kernel
theorem dL_law_1077 : decode cL_law 1077 = .ok (.ifCond .ne 15, 3) := by decide +kernel
theorem dL_law_1080 : decode cL_law 1080 = .ok (.aload_n 3, 1) := by decide +kernel
theorem dL_law_1081 : decode cL_law 1081 = .ok (.iconst 0, 1) := by decide +kernel
theorem dL_law_1082 : decode cL_law 1082 = .ok (.laload, 1) := by decide +kernel
theorem dL_law_1083 : decode cL_law 1083 = .ok (.iload 6, 2) := by decide +kernel
theorem dL_law_1085 : decode cL_law 1085 = .ok (.i2l, 1) := by decide +kernel
theorem dL_law_1086 : decode cL_law 1086 = .ok (.lcmp, 1) := by decide +kernel
theorem dL_law_1087 : decode cL_law 1087 = .ok (.ifCond .eq 5, 3) := by decide +kernel
theorem dL_law_1090 : decode cL_law 1090 = .ok (.iconst 0, 1) := by decide +kernel
theorem dL_law_1091 : decode cL_law 1091 = .ok (.ireturn, 1) := by decide +kernel
theorem dL_law_1092 : decode cL_law 1092 = .ok (.goto 128, 3) := by decide +kernel
theorem dL_law_1095 : decode cL_law 1095 = .ok (.aload_n 1, 1) := by decide +kernel
theorem dL_law_1096 : decode cL_law 1096 = .ok (.aload_n 0, 1) := by decide +kernel
theorem dL_law_1097 : decode cL_law 1097 = .ok (.iload 4, 2) := by decide +kernel
theorem dL_law_1099 : decode cL_law 1099 = .ok (.iconst 1, 1) := by decide +kernel
theorem dL_law_1100 : decode cL_law 1100 = .ok (.iadd, 1) := by decide +kernel
theorem dL_law_1101 : decode cL_law 1101 = .ok (.iaload, 1) := by decide +kernel
theorem dL_law_1102 : decode cL_law 1102 = .ok (.aload_n 3, 1) := by decide +kernel
theorem dL_law_1103 : decode cL_law 1103 = .ok (.invokestatic 134, 3) := by decide +kernel
theorem dL_law_1106 : decode cL_law 1106 = .ok (.istore 5, 2) := by decide +kernel
theorem dL_law_1108 : decode cL_law 1108 = .ok (.aload_n 2, 1) := by decide +kernel
theorem dL_law_1109 : decode cL_law 1109 = .ok (.aload_n 0, 1) := by decide +kernel
theorem dL_law_1110 : decode cL_law 1110 = .ok (.iload 4, 2) := by decide +kernel
theorem dL_law_1112 : decode cL_law 1112 = .ok (.iconst 1, 1) := by decide +kernel
theorem dL_law_1113 : decode cL_law 1113 = .ok (.iadd, 1) := by decide +kernel
theorem dL_law_1114 : decode cL_law 1114 = .ok (.iaload, 1) := by decide +kernel
theorem dL_law_1115 : decode cL_law 1115 = .ok (.invokevirtual 136, 3) := by decide +kernel
theorem dL_law_1118 : decode cL_law 1118 = .ok (.istore 6, 2) := by decide +kernel
theorem dL_law_1120 : decode cL_law 1120 = .ok (.aload_n 2, 1) := by decide +kernel
theorem dL_law_1121 : decode cL_law 1121 = .ok (.invokevirtual 80, 3) := by decide +kernel
theorem dL_law_1124 : decode cL_law 1124 = .ok (.iload 5, 2) := by decide +kernel
theorem dL_law_1126 : decode cL_law 1126 = .ok (.if_icmp .eq 5, 3) := by decide +kernel
theorem dL_law_1129 : decode cL_law 1129 = .ok (.iconst 0, 1) := by decide +kernel
theorem dL_law_1130 : decode cL_law 1130 = .ok (.ireturn, 1) := by decide +kernel
theorem dL_law_1131 : decode cL_law 1131 = .ok (.iload 5, 2) := by decide +kernel
theorem dL_law_1133 : decode cL_law 1133 = .ok (.ifCond .ne 15, 3) := by decide +kernel
theorem dL_law_1136 : decode cL_law 1136 = .ok (.aload_n 3, 1) := by decide +kernel
theorem dL_law_1137 : decode cL_law 1137 = .ok (.iconst 0, 1) := by decide +kernel
theorem dL_law_1138 : decode cL_law 1138 = .ok (.laload, 1) := by decide +kernel
theorem dL_law_1139 : decode cL_law 1139 = .ok (.iload 6, 2) := by decide +kernel
theorem dL_law_1141 : decode cL_law 1141 = .ok (.i2l, 1) := by decide +kernel
theorem dL_law_1142 : decode cL_law 1142 = .ok (.lcmp, 1) := by decide +kernel
theorem dL_law_1143 : decode cL_law 1143 = .ok (.ifCond .eq 5, 3) := by decide +kernel
theorem dL_law_1146 : decode cL_law 1146 = .ok (.iconst 0, 1) := by decide +kernel
theorem dL_law_1147 : decode cL_law 1147 = .ok (.ireturn, 1) := by decide +kernel
theorem dL_law_1148 : decode cL_law 1148 = .ok (.goto 72, 3) := by decide +kernel
theorem dL_law_1151 : decode cL_law 1151 = .ok (.aload_n 1, 1) := by decide +kernel
theorem dL_law_1152 : decode cL_law 1152 = .ok (.invokevirtual 137, 3) := by decide +kernel
theorem dL_law_1155 : decode cL_law 1155 = .ok (.aload_n 2, 1) := by decide +kernel
theorem dL_law_1156 : decode cL_law 1156 = .ok (.invokevirtual 140, 3) := by decide +kernel
theorem dL_law_1159 : decode cL_law 1159 = .ok (.if_icmp .eq 61, 3) := by decide +kernel
theorem dL_law_1162 : decode cL_law 1162 = .ok (.iconst 0, 1) := by decide +kernel
theorem dL_law_1163 : decode cL_law 1163 = .ok (.ireturn, 1) := by decide +kernel
theorem dL_law_1164 : decode cL_law 1164 = .ok (.aload_n 1, 1) := by decide +kernel
theorem dL_law_1165 : decode cL_law 1165 = .ok (.aload_n 0, 1) := by decide +kernel
theorem dL_law_1166 : decode cL_law 1166 = .ok (.iload 4, 2) := by decide +kernel
theorem dL_law_1168 : decode cL_law 1168 = .ok (.iconst 1, 1) := by decide +kernel
theorem dL_law_1169 : decode cL_law 1169 = .ok (.iadd, 1) := by decide +kernel
theorem dL_law_1170 : decode cL_law 1170 = .ok (.iaload, 1) := by decide +kernel
theorem dL_law_1171 : decode cL_law 1171 = .ok (.aload_n 3, 1) := by decide +kernel
theorem dL_law_1172 : decode cL_law 1172 = .ok (.invokestatic 141, 3) := by decide +kernel
theorem dL_law_1175 : decode cL_law 1175 = .ok (.istore 5, 2) := by decide +kernel
theorem dL_law_1177 : decode cL_law 1177 = .ok (.aload_n 2, 1) := by decide +kernel
theorem dL_law_1178 : decode cL_law 1178 = .ok (.aload_n 0, 1) := by decide +kernel
theorem dL_law_1179 : decode cL_law 1179 = .ok (.iload 4, 2) := by decide +kernel
theorem dL_law_1181 : decode cL_law 1181 = .ok (.iconst 1, 1) := by decide +kernel
theorem dL_law_1182 : decode cL_law 1182 = .ok (.iadd, 1) := by decide +kernel
theorem dL_law_1183 : decode cL_law 1183 = .ok (.iaload, 1) := by decide +kernel
theorem dL_law_1184 : decode cL_law 1184 = .ok (.invokevirtual 143, 3) := by decide +kernel
theorem dL_law_1187 : decode cL_law 1187 = .ok (.istore 6, 2) := by decide +kernel
theorem dL_law_1189 : decode cL_law 1189 = .ok (.aload_n 2, 1) := by decide +kernel
theorem dL_law_1190 : decode cL_law 1190 = .ok (.invokevirtual 80, 3) := by decide +kernel
theorem dL_law_1193 : decode cL_law 1193 = .ok (.iload 5, 2) := by decide +kernel
theorem dL_law_1195 : decode cL_law 1195 = .ok (.if_icmp .eq 5, 3) := by decide +kernel
theorem dL_law_1198 : decode cL_law 1198 = .ok (.iconst 0, 1) := by decide +kernel
theorem dL_law_1199 : decode cL_law 1199 = .ok (.ireturn, 1) := by decide +kernel
theorem dL_law_1200 : decode cL_law 1200 = .ok (.iload 5, 2) := by decide +kernel
theorem dL_law_1202 : decode cL_law 1202 = .ok (.ifCond .ne 15, 3) := by decide +kernel
theorem dL_law_1205 : decode cL_law 1205 = .ok (.aload_n 3, 1) := by decide +kernel
theorem dL_law_1206 : decode cL_law 1206 = .ok (.iconst 0, 1) := by decide +kernel
theorem dL_law_1207 : decode cL_law 1207 = .ok (.laload, 1) := by decide +kernel
theorem dL_law_1208 : decode cL_law 1208 = .ok (.iload 6, 2) := by decide +kernel
theorem dL_law_1210 : decode cL_law 1210 = .ok (.i2l, 1) := by decide +kernel
theorem dL_law_1211 : decode cL_law 1211 = .ok (.lcmp, 1) := by decide +kernel
theorem dL_law_1212 : decode cL_law 1212 = .ok (.ifCond .eq 5, 3) := by decide +kernel
theorem dL_law_1215 : decode cL_law 1215 = .ok (.iconst 0, 1) := by decide +kernel
theorem dL_law_1216 : decode cL_law 1216 = .ok (.ireturn, 1) := by decide +kernel
theorem dL_law_1217 : decode cL_law 1217 = .ok (.goto 3, 3) := by decide +kernel
theorem dL_law_1220 : decode cL_law 1220 = .ok (.iinc 4 7, 3) := by decide +kernel
theorem dL_law_1223 : decode cL_law 1223 = .ok (.goto (-1200), 3) := by decide +kernel
theorem dL_law_1226 : decode cL_law 1226 = .ok (.iconst 1, 1) := by decide +kernel
theorem dL_law_1227 : decode cL_law 1227 = .ok (.ireturn, 1) := by decide +kernel
abbrev vwCl : List vw_C := [(RJ0, TJ0, 4), (RJ4, TJ4, 4), (RJx4a65c, TJx4a65c, 3), (RX0, TX0, 16), (RX1, TX1, 6), (RX2, TX2, 23)]
end
section
/-! 02: the layer over the kit: heaps as partial maps (Hp), a goal WR that hides heap, frame and locals, contracts CT. My own. -/
abbrev Hp : Type := Nat → Option va_E
def hu (h : Hp) (a : Nat) (e : va_E) : Hp := fun q => if q = a then some e else h q
theorem hu_s {h : Hp} {a : Nat} {e : va_E} : hu h a e a = some e := if_pos rfl
theorem hu_n {h : Hp} {a q : Nat} {e : va_E} (n : q ≠ a) : hu h a e q = h q := if_neg n
/-- layout: class ids and slots (D), the array classes (cy), fixed addresses (z) -/
abbrev GT : Type := va_G × (Nat → ClassId) × (Nat → Nat)
def tyl (cy : Nat → ClassId) : List (ClassId × FieldType) := [(cy 0, .int), (cy 1, .byte), (cy 2, .boolean), (cy 3, .long), (cy 4, .object "java/lang/Object")]
abbrev aI (G : GT) (n : Nat) (f : Nat → Int32) : va_E := .inl (G.2.1 0, n, .inl f)
abbrev aB (G : GT) (n : Nat) (f : Nat → Int32) : va_E := .inl (G.2.1 1, n, .inl f)
abbrev aZ (G : GT) (n : Nat) (f : Nat → Int32) : va_E := .inl (G.2.1 2, n, .inl f)
abbrev aJ (G : GT) (n : Nat) (f : Nat → Int64) : va_E := .inl (G.2.1 3, n, .inr (.inl f))
abbrev aO (G : GT) (n : Nat) (f : Nat → Option Nat) : va_E := .inl (G.2.1 4, n, .inr (.inr (.inr (.inr f))))
abbrev ob (ci : Nat) (fs : List Value) : va_E := .inr (ci, fs)
def Rep (D : va_G) (h : Hp) (H : Heap) : Prop := ∀ (a : Nat) (e : va_E), h a = some e → va_at D vwCl (a, e) H
def AH (h : Hp) (sz : Nat) : Nat → Prop := fun q => h q ≠ none ∨ sz ≤ q
def eISE : String := "java/lang/IllegalStateException"
def eIOB : String := "java/lang/IndexOutOfBoundsException"
def eIAE : String := "java/lang/IllegalArgumentException"
/-- what never changes: statics, constants, relations of classes -/
def ST (G : GT) (A : Nat → Prop) (U : State) (H : Heap) : Prop :=
  (va_Z "java/util/ArrayList" "DEFAULTCAPACITY_EMPTY_ELEMENTDATA" "[Ljava/lang/Object;" (.ref (G.2.2 0)) A U H ∧ va_T (.object "java/lang/Object") (G.2.2 0) 0 (fun _ => .null) A U H) ∧
  va_Z "java/lang/String" "COMPACT_STRINGS" "Z" (.int 1) A U H ∧
  (∃ fO : Nat → Int32, va_Z "java/lang/Integer" "DigitOnes" "[B" (.ref (G.2.2 1)) A U H ∧ va_T .byte (G.2.2 1) 100 (fun j => .int (fO j)) A U H ∧ ∀ j, j < 100 → fO j = nI (48 + j % 10)) ∧
  (∃ fT : Nat → Int32, va_Z "java/lang/Integer" "DigitTens" "[B" (.ref (G.2.2 2)) A U H ∧ va_T .byte (G.2.2 2) 100 (fun j => .int (fT j)) A U H ∧ ∀ j, j < 100 → fT j = nI (48 + j / 10)) ∧
  (va_Zq "jdk/internal/util/Preconditions" "SIOOBE_FORMATTER" "Ljava/util/function/BiFunction;" A U H ∧ vx_Zq Bundle.tN "UNASSIGNED_STACK" Bundle.steD A U H ∧ vx_Zq Bundle.tN "SUPPRESSED_SENTINEL" Bundle.listD A U H) ∧
  vk_S 1 [5] [[108, 97, 121, 101, 114]] (fun _ => G.2.2 3) (fun _ => G.2.2 4) A U H ∧
  (vk_R RX0 52 "layer" (G.2.2 3) U ∧ vk_R RX1 145 "the bank has less" (G.2.2 145) U ∧ vk_R RX1 158 "too little in the fund, or 5 ponds" (G.2.2 158) U ∧ vk_R RX1 160 "no such well" (G.2.2 160) U ∧ vk_R RX1 166 "no such layer" (G.2.2 166) U ∧ vk_R RX1 170 "out of range" (G.2.2 170) U ∧ vk_R RX1 173 "both wells are the same" (G.2.2 173) U ∧ vk_R RX1 47 "there are 8 wells" (G.2.2 47) U ∧ vk_R RX1 92 "no such character" (G.2.2 92) U ∧ vk_R RX1 99 "60 years have passed" (G.2.2 99) U) ∧
  (va_Nw (.castable eISE eISE) U ∧ va_Nw (.castable eIOB eIOB) U ∧ va_Nw (.castable eIAE eIAE) U ∧ va_Nw (.declares (Bundle.initS "java/lang/RuntimeException")) U ∧ va_Nw (.declares (Bundle.initS "java/lang/Exception")) U ∧ va_Nw (.declares (Bundle.initS Bundle.tN)) U ∧ va_Nw (.castable RX0 "java/lang/Object") U) ∧
  (va_Nc eISE eIOB U ∧ va_Nc eISE eIAE U ∧ va_Nc eIAE eIOB U)
theorem ST.kept {G : GT} {A : Nat → Prop} {U : State} {H H1 : Heap} (h : ST G A U H) (hq : ∀ a : Nat, a < H.size → ¬ A a → H1[a]? = H[a]?) : ST G A U H1 := by
  obtain ⟨⟨a1, a2⟩, b, ⟨fO, c1, c2, c3⟩, ⟨fT, d1, d2, d3⟩, ⟨e1, e2, e3⟩, f, g, i, j⟩ := h
  exact ⟨⟨a1.kept hq, a2.kept hq⟩, b.kept hq, ⟨fO, c1.kept hq, c2.kept hq, c3⟩, ⟨fT, d1.kept hq, d2.kept hq, d3⟩, ⟨e1.kept hq, e2.kept hq, e3.kept hq⟩, f.kept hq, g, i, j⟩
theorem ST.narrow {G : GT} {A B : Nat → Prop} {U : State} {H : Heap} (h : ST G A U H) (hq : ∀ q, B q → A q) : ST G B U H := by
  obtain ⟨⟨a1, a2⟩, b, ⟨fO, c1, c2, c3⟩, ⟨fT, d1, d2, d3⟩, ⟨e1, e2, e3⟩, f, g, i, j⟩ := h
  exact ⟨⟨a1.narrow hq, a2.narrow hq⟩, b.narrow hq, ⟨fO, c1.narrow hq, c2.narrow hq, c3⟩, ⟨fT, d1.narrow hq, d2.narrow hq, d3⟩, ⟨e1.narrow hq, e2.narrow hq, e3.narrow hq⟩, f.narrow hq, g, i, j⟩
theorem ST.warm {G : GT} {A : Nat → Prop} {s U : State} {H : Heap} (hW : s.WarmedH U.vm) (h : ST G A s H) : ST G A U H := by
  obtain ⟨⟨a1, a2⟩, b, ⟨fO, c1, c2, c3⟩, ⟨fT, d1, d2, d3⟩, ⟨e1, e2, e3⟩, f, ⟨g1, g2, g3, g4, g5, g6, g7, g8, g9, g10⟩, ⟨i1, i2, i3, i4, i5, i6, i7⟩, ⟨j1, j2, j3⟩⟩ := h
  have hv := hW.alike
  exact ⟨⟨a1.moved hv, a2.moved hv⟩, b.moved hv, ⟨fO, c1.moved hv, c2.moved hv, c3⟩, ⟨fT, d1.moved hv, d2.moved hv, d3⟩, ⟨e1.moved hv, e2.moved hv, e3.moved hv⟩, f.moved hv, ⟨g1.warm hW, g2.warm hW, g3.warm hW, g4.warm hW, g5.warm hW, g6.warm hW, g7.warm hW, g8.warm hW, g9.warm hW, g10.warm hW⟩, ⟨i1.warmC hW, i2.warmC hW, i3.warmC hW, i4.warmD hW, i5.warmD hW, i6.warmD hW, i7.warmC hW⟩, ⟨j1.moved hv, j2.moved hv, j3.moved hv⟩⟩
theorem ST.same {G : GT} {A : Nat → Prop} {s U : State} {H : Heap} (hv : U.vm = s.vm) (h : ST G A s H) : ST G A U H := by
  refine ST.warm ?_ h
  rw [hv]
  exact State.WarmedH.refl s
/-- the words that all methods share -/
abbrev BIG : List Cond := wsL_law
theorem BIG_good : BIG.all goodWord = true := by decide +kernel
theorem gBIG : GoodIn BIG BIG := fun w hw => ⟨hw, good_of_word (List.all_eq_true.mp BIG_good w hw)⟩
/-- a method's frame, in one piece -/
abbrev KT : Type := Program × Launch × Env × Room × State × MethodId × Array Value × List Frame × Method × Code
abbrev KT.p (K : KT) : Program := K.1
abbrev KT.l (K : KT) : Launch := K.2.1
abbrev KT.e (K : KT) : Env := K.2.2.1
abbrev KT.R (K : KT) : Room := K.2.2.2.1
abbrev KT.s (K : KT) : State := K.2.2.2.2.1
abbrev KT.m (K : KT) : MethodId := K.2.2.2.2.2.1
abbrev KT.args (K : KT) : Array Value := K.2.2.2.2.2.2.1
abbrev KT.below (K : KT) : List Frame := K.2.2.2.2.2.2.2.1
abbrev KT.meth (K : KT) : Method := K.2.2.2.2.2.2.2.2.1
abbrev KT.c (K : KT) : Code := K.2.2.2.2.2.2.2.2.2
/-- what holds all through a method's body -/
def CX (K : KT) (G : GT) (A : Nat → Prop) (own : String) (cc : ByteArray) (nL : Nat) (ret : Option FieldType) (rm : Room) (tb : List ExceptionTableEntry) : Prop :=
  K.p.tables.exec = Jvm.exec ∧ K.c.code = cc ∧ K.c.maxLocals = nL ∧ K.s.vm.findClass own = some K.m.cls ∧ (∀ w ∈ BIG, w.before K.args K.s = true) ∧ va_K G.1 vwCl (tyl G.2.1) K.s ∧ ST G A K.s K.s.heap ∧ (∀ q, K.s.heap.size ≤ q → A q) ∧ K.meth.sig.returnType = ret ∧ K.meth.locks = false ∧ K.l.stackTraces = false ∧ K.R = rm ∧ K.c.exceptionTable.toList = tb
section
variable {K : KT} {G : GT} {A : Nat → Prop} {own : String} {cc : ByteArray} {nL : Nat} {ret : Option FieldType} {rm : Room} {tb : List ExceptionTableEntry}
theorem CX.ex (C : CX K G A own cc nL ret rm tb) : K.p.tables.exec = Jvm.exec := C.1
theorem CX.cd (C : CX K G A own cc nL ret rm tb) : K.c.code = cc := C.2.1
theorem CX.mxl (C : CX K G A own cc nL ret rm tb) : K.c.maxLocals = nL := C.2.2.1
theorem CX.ow (C : CX K G A own cc nL ret rm tb) : K.s.vm.findClass own = some K.m.cls := C.2.2.2.1
theorem CX.ts (C : CX K G A own cc nL ret rm tb) : ∀ w ∈ BIG, w.before K.args K.s = true := C.2.2.2.2.1
theorem CX.kn (C : CX K G A own cc nL ret rm tb) : va_K G.1 vwCl (tyl G.2.1) K.s := C.2.2.2.2.2.1
theorem CX.st (C : CX K G A own cc nL ret rm tb) : ST G A K.s K.s.heap := C.2.2.2.2.2.2.1
theorem CX.fr (C : CX K G A own cc nL ret rm tb) : ∀ q, K.s.heap.size ≤ q → A q := C.2.2.2.2.2.2.2.1
theorem CX.rt (C : CX K G A own cc nL ret rm tb) : K.meth.sig.returnType = ret := C.2.2.2.2.2.2.2.2.1
theorem CX.lk (C : CX K G A own cc nL ret rm tb) : K.meth.locks = false := C.2.2.2.2.2.2.2.2.2.1
theorem CX.ntr (C : CX K G A own cc nL ret rm tb) : K.l.stackTraces = false := C.2.2.2.2.2.2.2.2.2.2.1
theorem CX.rom (C : CX K G A own cc nL ret rm tb) : K.R = rm := C.2.2.2.2.2.2.2.2.2.2.2.1
theorem CX.tab (C : CX K G A own cc nL ret rm tb) : K.c.exceptionTable.toList = tb := C.2.2.2.2.2.2.2.2.2.2.2.2
end
/-- locals: known values of one slot each, by their places -/
def LV (ls : Array Slot) (lv : List (Option Value)) : Prop := ls.size = lv.length ∧ lv_wf ls ∧ ∀ (i : Nat) (v : Value), lv[i]? = some (some v) → ls[i]? = some (.val v) ∧ v.category = 1
def lvq : Nat → List (Option Value) → List (Nat × Value)
  | _, [] => []
  | i, none :: t => lvq (i + 1) t
  | i, some v :: t => (i, v) :: lvq (i + 1) t
theorem lvq_mem : ∀ (lv : List (Option Value)) (k i : Nat) (v : Value), (i, v) ∈ lvq k lv ↔ k ≤ i ∧ lv[i - k]? = some (some v)
  | [], k, i, v => by simp [lvq]
  | none :: t, k, i, v => by
    rw [lvq, lvq_mem t (k + 1) i v]
    constructor
    · rintro ⟨h1, h2⟩
      refine ⟨by omega, ?_⟩
      rw [show i - k = (i - (k + 1)) + 1 by omega, List.getElem?_cons_succ]; exact h2
    · rintro ⟨h1, h2⟩
      by_cases e : i = k
      · subst e; simp at h2
      · refine ⟨by omega, ?_⟩
        rw [show i - k = (i - (k + 1)) + 1 by omega, List.getElem?_cons_succ] at h2; exact h2
  | some w :: t, k, i, v => by
    rw [lvq, List.mem_cons, lvq_mem t (k + 1) i v]
    constructor
    · rintro (h | ⟨h1, h2⟩)
      · cases h
        exact ⟨Nat.le_refl _, by simp⟩
      · refine ⟨by omega, ?_⟩
        rw [show i - k = (i - (k + 1)) + 1 by omega, List.getElem?_cons_succ]; exact h2
    · rintro ⟨h1, h2⟩
      by_cases e : i = k
      · subst e
        simp at h2
        exact Or.inl (by rw [h2])
      · refine Or.inr ⟨by omega, ?_⟩
        rw [show i - k = (i - (k + 1)) + 1 by omega, List.getElem?_cons_succ] at h2; exact h2
theorem LV.has {ls : Array Slot} {lv : List (Option Value)} (h : LV ls lv) : lv_has ls lv.length (lvq 0 lv) := by
  refine ⟨h.1, h.2.1, fun q hq => ?_⟩
  have := (lvq_mem lv 0 q.1 q.2).mp hq
  rw [Nat.sub_zero] at this
  exact (h.2.2 _ _ this.2).1
theorem LV.at {ls : Array Slot} {lv : List (Option Value)} (h : LV ls lv) {i : Nat} {v : Value} (hk : lv[i]? = some (some v)) : ls[i]? = some (.val v) := (h.2.2 i v hk).1
theorem LV.set {ls ls' : Array Slot} {lv : List (Option Value)} {i : Nat} {v : Value} (h : LV ls lv) (hv : v.category = 1) (h' : lv_has ls' lv.length ((i, v) :: (lvq 0 lv).filter (fun q => !(q.1 == i) && !(q.1 + 1 == i && q.2.category == 2)))) (hi : i < lv.length) : LV ls' (lv.set i (some v)) := by
  refine ⟨by rw [List.length_set]; exact h'.1, h'.2.1, fun j w hj => ?_⟩
  by_cases e : j = i
  · subst e
    rw [List.getElem?_set_self hi] at hj
    cases hj
    exact ⟨h'.2.2 (j, v) List.mem_cons_self, hv⟩
  · rw [List.getElem?_set_ne (Ne.symm e)] at hj
    have hc := (h.2.2 j w hj).2
    refine ⟨h'.2.2 (j, w) (List.mem_cons_of_mem _ (List.mem_filter.mpr ⟨(lvq_mem lv 0 j w).mpr ⟨Nat.zero_le _, hj⟩, ?_⟩)), hc⟩
    simp [e, hc]
theorem LV.args : ∀ (vs : List Value) (k : Nat), (∀ v ∈ vs, v.category = 1) → ∀ (i : Nat) (v : Value), vs[i]? = some v → (k + i, v) ∈ lv_args k vs
  | [], _, _, i, v, h => by simp at h
  | w :: t, k, hc, i, v, h => by
    have hw := hc w List.mem_cons_self
    rw [lv_args, if_neg (by omega)]
    cases i with
    | zero => simp at h; subst h; exact List.mem_cons_self
    | succ i =>
      rw [List.getElem?_cons_succ] at h
      have := LV.args t (k + 1) (fun v hv => hc v (List.mem_cons_of_mem _ hv)) i v h
      rw [show k + (i + 1) = k + 1 + i by omega]
      exact List.mem_cons_of_mem _ this
theorem LV.sl : ∀ (vs : List Value), (∀ v ∈ vs, v.category = 1) → (lg_sl vs).length = vs.length
  | [], _ => rfl
  | w :: t, hc => by
    have hw := hc w List.mem_cons_self
    have := LV.sl t (fun v hv => hc v (List.mem_cons_of_mem _ hv))
    unfold lg_sl at this ⊢
    rw [List.flatMap_cons, if_neg (by omega)]
    simp [this]
/-- the locals with which a method begins -/
def lv0 (vs : List Value) (n : Nat) : List (Option Value) := vs.map some ++ List.replicate (n - vs.length) none
theorem LV.start {vs : List Value} {n : Nat} (hc : ∀ v ∈ vs, v.category = 1) (hn : vs.length ≤ n) : LV ((lg_sl vs ++ List.replicate (n - (lg_sl vs).length) Slot.unset).toArray) (lv0 vs n) := by
  have h := lv_entry vs (n := n) (by rw [LV.sl vs hc]; exact hn)
  refine ⟨by rw [h.1]; simp [lv0]; omega, h.2.1, fun i v hi => ?_⟩
  by_cases e : i < vs.length
  · rw [lv0, List.getElem?_append_left (by simpa using e), List.getElem?_map] at hi
    cases hg : vs[i]? with
    | none => rw [hg] at hi; cases hi
    | some w =>
      rw [hg] at hi
      cases hi
      have := LV.args vs 0 hc i v hg
      rw [Nat.zero_add] at this
      exact ⟨h.2.2 _ this, hc v (List.mem_of_getElem? hg)⟩
  · exfalso
    rw [lv0, List.getElem?_append_right (by simp; omega)] at hi
    rcases List.mem_replicate.mp (List.mem_of_getElem? hi) with ⟨-, h9⟩
    cases h9
/-- THE GOAL: from any heap of which P's map is true -/
def WR (K : KT) (G : GT) (A : Nat → Prop) (Q : State → Prop) (P : Hp → Prop) (lv : List (Option Value)) (k n pc : Nat) (st : List Value) : Prop :=
  ∀ (h : Hp) (H : Heap) (locs : List Loc) (ls : Array Slot), P h → Rep G.1 h H → (∀ a, h a ≠ none → A a) → va_S A K.s.heap H locs → LV ls lv →
    W K.p K.l K.e K.R K.s K.m K.args K.below K.meth K.c H locs k n Q (F0 K.m pc ls st)
/-- .. with an exception of class E thrown over the frame -/
def WX (K : KT) (G : GT) (A : Nat → Prop) (Q : State → Prop) (P : Hp → Prop) (lv : List (Option Value)) (k n pc : Nat) (st : List Value) (E : String) : Prop :=
  ∀ (h : Hp) (H : Heap) (locs : List Loc) (ls : Array Slot) (q : Addr) (ce : Cell), P h → Rep G.1 h H → (∀ a, h a ≠ none → A a) → va_S A K.s.heap H locs → LV ls lv → H[q]? = some ce → ce.vm = .none → K.s.vm.findClass E = some ce.cls →
    vx_W K.p K.l K.e K.R K.s K.m K.args K.below K.meth K.c H locs k n Q (F0 K.m pc ls st) q
theorem WR.imp {K : KT} {G : GT} {A : Nat → Prop} {Q : State → Prop} {P P' : Hp → Prop} {lv : List (Option Value)} {k n pc : Nat} {st : List Value} (hp : ∀ h, P h → P' h) (kk : WR K G A Q P' lv k n pc st) : WR K G A Q P lv k n pc st :=
  fun h H locs ls hh => kk h H locs ls (hp h hh)
theorem WR.all {K : KT} {G : GT} {A : Nat → Prop} {Q : State → Prop} {P : Hp → Prop} {lv : List (Option Value)} {k n pc : Nat} {st : List Value} (kk : ∀ h, P h → WR K G A Q (Eq h) lv k n pc st) : WR K G A Q P lv k n pc st :=
  fun h H locs ls hh => kk h hh h H locs ls rfl
theorem WR.ex {K : KT} {G : GT} {A : Nat → Prop} {Q : State → Prop} {α : Sort _} {P : α → Hp → Prop} {lv : List (Option Value)} {k n pc : Nat} {st : List Value} (kk : ∀ x, WR K G A Q (P x) lv k n pc st) : WR K G A Q (fun h => ∃ x, P x h) lv k n pc st :=
  fun h H locs ls hh => by obtain ⟨x, hx⟩ := hh; exact kk x h H locs ls hx
theorem WR.pr {K : KT} {G : GT} {A : Nat → Prop} {Q : State → Prop} {p0 : Prop} {P : Hp → Prop} {lv : List (Option Value)} {k n pc : Nat} {st : List Value} (kk : p0 → WR K G A Q P lv k n pc st) : WR K G A Q (fun h => p0 ∧ P h) lv k n pc st :=
  fun h H locs ls hh => kk hh.1 h H locs ls hh.2
theorem WR.lv {K : KT} {G : GT} {A : Nat → Prop} {Q : State → Prop} {P : Hp → Prop} {lv lv' : List (Option Value)} {k n pc : Nat} {st : List Value} (hl : lv'.length = lv.length) (hs : ∀ (i : Nat) (v : Value), lv'[i]? = some (some v) → lv[i]? = some (some v)) (kk : WR K G A Q P lv' k n pc st) : WR K G A Q P lv k n pc st :=
  fun h H locs ls hh h1 h2 h3 h4 => kk h H locs ls hh h1 h2 h3 ⟨by rw [h4.1, hl], h4.2.1, fun i v hi => h4.2.2 i v (hs i v hi)⟩
theorem WR.wid {K : KT} {G : GT} {A : Nat → Prop} {Q : State → Prop} {P : Hp → Prop} {lv : List (Option Value)} {k n k' n' pc : Nat} {st : List Value} (h1 : k ≤ k') (h2 : n ≤ n') (kk : WR K G A Q P lv k' n' pc st) : WR K G A Q P lv k n pc st :=
  fun h H locs ls hh h3 h4 h5 h6 => W.widen h1 h2 (kk h H locs ls hh h3 h4 h5 h6)
end
section
/-! 03: rows an instruction, over WR. Written by wip/whole/gen/rows.py -/
section
variable {K : KT} {G : GT} {A : Nat → Prop} {own : String} {cc : ByteArray} {nL : Nat} {ret : Option FieldType} {rm : Room} {tb : List ExceptionTableEntry} {Q : State → Prop} {P : Hp → Prop} {lv : List (Option Value)} {k n pc : Nat} {st : List Value}
theorem R_iconst (C : CX K G A own cc nL ret rm tb) {i : Int} {v : Int32} (d : decode cc pc = .ok (.iconst i, 1)) (hv : Int32.ofInt i = v) (kk : WR K G A Q P lv k n (pc + 1) (.int v :: st)) : WR K G A Q P lv k n (pc) (st) := fun h H locs ls h0 h1 h2 h3 h4 => lv_iconst C.ex C.cd d hv (kk h H locs ls h0 h1 h2 h3 h4)
theorem R_bipush (C : CX K G A own cc nL ret rm tb) {i : Int} {v : Int32} (d : decode cc pc = .ok (.bipush i, 2)) (hv : (Int8.ofInt i).toInt32 = v) (kk : WR K G A Q P lv k n (pc + 2) (.int v :: st)) : WR K G A Q P lv k n (pc) (st) := fun h H locs ls h0 h1 h2 h3 h4 => lv_bipush C.ex C.cd d hv (kk h H locs ls h0 h1 h2 h3 h4)
theorem R_sipush (C : CX K G A own cc nL ret rm tb) {i : Int} {v : Int32} (d : decode cc pc = .ok (.sipush i, 3)) (hv : (Int16.ofInt i).toInt32 = v) (kk : WR K G A Q P lv k n (pc + 3) (.int v :: st)) : WR K G A Q P lv k n (pc) (st) := fun h H locs ls h0 h1 h2 h3 h4 => lv_sipush C.ex C.cd d hv (kk h H locs ls h0 h1 h2 h3 h4)
theorem R_lconst (C : CX K G A own cc nL ret rm tb) {i : Fin 2} {v : Int64} (d : decode cc pc = .ok (.lconst i, 1)) (hv : Int64.ofNat (i : Nat) = v) (kk : WR K G A Q P lv k n (pc + 1) (.long v :: st)) : WR K G A Q P lv k n (pc) (st) := fun h H locs ls h0 h1 h2 h3 h4 => lv_lconst C.ex C.cd d hv (kk h H locs ls h0 h1 h2 h3 h4)
theorem R_null (C : CX K G A own cc nL ret rm tb)  (d : decode cc pc = .ok (.aconst_null, 1))  (kk : WR K G A Q P lv k n (pc + 1) (.null :: st)) : WR K G A Q P lv k n (pc) (st) := fun h H locs ls h0 h1 h2 h3 h4 => lv_null C.ex C.cd d (kk h H locs ls h0 h1 h2 h3 h4)
theorem R_iload_n (C : CX K G A own cc nL ret rm tb) {j : Fin 4} {x : Int32} (d : decode cc pc = .ok (.iload_n j, 1)) (hl : lv[(j : Nat)]? = some (some (.int x))) (kk : WR K G A Q P lv k n (pc + 1) (.int x :: st)) : WR K G A Q P lv k n (pc) (st) := fun h H locs ls h0 h1 h2 h3 h4 => lv_iload_n C.ex C.cd d rfl (h4.at hl) (kk h H locs ls h0 h1 h2 h3 h4)
theorem R_iload (C : CX K G A own cc nL ret rm tb) {j : Nat} {x : Int32} (d : decode cc pc = .ok (.iload j, 2)) (hl : lv[j]? = some (some (.int x))) (kk : WR K G A Q P lv k n (pc + 2) (.int x :: st)) : WR K G A Q P lv k n (pc) (st) := fun h H locs ls h0 h1 h2 h3 h4 => lv_iload C.ex C.cd d (h4.at hl) (kk h H locs ls h0 h1 h2 h3 h4)
theorem R_aload_n (C : CX K G A own cc nL ret rm tb) {j : Fin 4} {x : Nat} (d : decode cc pc = .ok (.aload_n j, 1)) (hl : lv[(j : Nat)]? = some (some (.ref x))) (kk : WR K G A Q P lv k n (pc + 1) (.ref x :: st)) : WR K G A Q P lv k n (pc) (st) := fun h H locs ls h0 h1 h2 h3 h4 => lv_aload_n C.ex C.cd d rfl (h4.at hl) (kk h H locs ls h0 h1 h2 h3 h4)
theorem R_aload (C : CX K G A own cc nL ret rm tb) {j : Nat} {x : Nat} (d : decode cc pc = .ok (.aload j, 2)) (hl : lv[j]? = some (some (.ref x))) (kk : WR K G A Q P lv k n (pc + 2) (.ref x :: st)) : WR K G A Q P lv k n (pc) (st) := fun h H locs ls h0 h1 h2 h3 h4 => lv_aload C.ex C.cd d (h4.at hl) (kk h H locs ls h0 h1 h2 h3 h4)
theorem R_aload_nN (C : CX K G A own cc nL ret rm tb) {j : Fin 4} (d : decode cc pc = .ok (.aload_n j, 1)) (hl : lv[(j : Nat)]? = some (some .null)) (kk : WR K G A Q P lv k n (pc + 1) (.null :: st)) : WR K G A Q P lv k n (pc) (st) := fun h H locs ls h0 h1 h2 h3 h4 => lv_aload_nN C.ex C.cd d rfl (h4.at hl) (kk h H locs ls h0 h1 h2 h3 h4)
theorem R_aloadN (C : CX K G A own cc nL ret rm tb) {j : Nat} (d : decode cc pc = .ok (.aload j, 2)) (hl : lv[j]? = some (some .null)) (kk : WR K G A Q P lv k n (pc + 2) (.null :: st)) : WR K G A Q P lv k n (pc) (st) := fun h H locs ls h0 h1 h2 h3 h4 => lv_aloadN C.ex C.cd d (h4.at hl) (kk h H locs ls h0 h1 h2 h3 h4)
theorem R_istore_n (C : CX K G A own cc nL ret rm tb) {j : Fin 4} {x : Int32} {lv' : List (Option Value)} (d : decode cc pc = .ok (.istore_n j, 1)) (hj : (j : Nat) < lv.length) (he : lv.set (j : Nat) (some (.int x)) = lv') (kk : WR K G A Q P lv' k n (pc + 1) (st)) : WR K G A Q P lv k n (pc) (.int x :: st) := fun h H locs ls h0 h1 h2 h3 h4 => lv_istore_n C.ex C.cd d rfl h4.has hj rfl (fun ls' h' => kk h H locs ls' h0 h1 h2 h3 (he ▸ h4.set rfl h' hj))
theorem R_istore (C : CX K G A own cc nL ret rm tb) {j : Nat} {x : Int32} {lv' : List (Option Value)} (d : decode cc pc = .ok (.istore j, 2)) (hj : j < lv.length) (he : lv.set j (some (.int x)) = lv') (kk : WR K G A Q P lv' k n (pc + 2) (st)) : WR K G A Q P lv k n (pc) (.int x :: st) := fun h H locs ls h0 h1 h2 h3 h4 => lv_istore C.ex C.cd d h4.has hj rfl (fun ls' h' => kk h H locs ls' h0 h1 h2 h3 (he ▸ h4.set rfl h' hj))
theorem R_astore_n (C : CX K G A own cc nL ret rm tb) {j : Fin 4} {x : Nat} {lv' : List (Option Value)} (d : decode cc pc = .ok (.astore_n j, 1)) (hj : (j : Nat) < lv.length) (he : lv.set (j : Nat) (some (.ref x)) = lv') (kk : WR K G A Q P lv' k n (pc + 1) (st)) : WR K G A Q P lv k n (pc) (.ref x :: st) := fun h H locs ls h0 h1 h2 h3 h4 => lv_astore_n C.ex C.cd d rfl h4.has hj rfl (fun ls' h' => kk h H locs ls' h0 h1 h2 h3 (he ▸ h4.set rfl h' hj))
theorem R_astore (C : CX K G A own cc nL ret rm tb) {j : Nat} {x : Nat} {lv' : List (Option Value)} (d : decode cc pc = .ok (.astore j, 2)) (hj : j < lv.length) (he : lv.set j (some (.ref x)) = lv') (kk : WR K G A Q P lv' k n (pc + 2) (st)) : WR K G A Q P lv k n (pc) (.ref x :: st) := fun h H locs ls h0 h1 h2 h3 h4 => lv_astore C.ex C.cd d h4.has hj rfl (fun ls' h' => kk h H locs ls' h0 h1 h2 h3 (he ▸ h4.set rfl h' hj))
theorem R_astore_nN (C : CX K G A own cc nL ret rm tb) {j : Fin 4} {lv' : List (Option Value)} (d : decode cc pc = .ok (.astore_n j, 1)) (hj : (j : Nat) < lv.length) (he : lv.set (j : Nat) (some (.null)) = lv') (kk : WR K G A Q P lv' k n (pc + 1) (st)) : WR K G A Q P lv k n (pc) (.null :: st) := fun h H locs ls h0 h1 h2 h3 h4 => lv_astore_nN C.ex C.cd d rfl h4.has hj rfl (fun ls' h' => kk h H locs ls' h0 h1 h2 h3 (he ▸ h4.set rfl h' hj))
theorem R_astoreN (C : CX K G A own cc nL ret rm tb) {j : Nat} {lv' : List (Option Value)} (d : decode cc pc = .ok (.astore j, 2)) (hj : j < lv.length) (he : lv.set j (some (.null)) = lv') (kk : WR K G A Q P lv' k n (pc + 2) (st)) : WR K G A Q P lv k n (pc) (.null :: st) := fun h H locs ls h0 h1 h2 h3 h4 => lv_astoreN C.ex C.cd d h4.has hj rfl (fun ls' h' => kk h H locs ls' h0 h1 h2 h3 (he ▸ h4.set rfl h' hj))
theorem R_iinc (C : CX K G A own cc nL ret rm tb) {j : Nat} {i : Int} {x v : Int32} {lv' : List (Option Value)} (d : decode cc pc = .ok (.iinc j i, 3)) (hl : lv[j]? = some (some (.int x))) (hv : x + Int32.ofInt i = v) (he : lv.set j (some (.int v)) = lv') (kk : WR K G A Q P lv' k n (pc + 3) (st)) : WR K G A Q P lv k n (pc) (st) := by
  intro h H locs ls h0 h1 h2 h3 h4
  have hj : j < lv.length := (List.getElem?_eq_some_iff.mp hl).1
  obtain ⟨q, hq⟩ := List.getElem?_of_mem ((lvq_mem lv 0 j (.int x)).mpr ⟨Nat.zero_le _, hl⟩)
  exact lv_iinc C.ex C.cd d h4.has hq hv hj rfl (fun ls' h' => kk h H locs ls' h0 h1 h2 h3 (he ▸ h4.set rfl h' hj))
theorem R_iadd (C : CX K G A own cc nL ret rm tb) {x y : Int32} (d : decode cc pc = .ok (.iadd, 1))  (kk : WR K G A Q P lv k n (pc + 1) (.int (x + y) :: st)) : WR K G A Q P lv k n (pc) (.int y :: .int x :: st) := fun h H locs ls h0 h1 h2 h3 h4 => lv_iadd C.ex C.cd d (kk h H locs ls h0 h1 h2 h3 h4)
theorem R_isub (C : CX K G A own cc nL ret rm tb) {x y : Int32} (d : decode cc pc = .ok (.isub, 1))  (kk : WR K G A Q P lv k n (pc + 1) (.int (x - y) :: st)) : WR K G A Q P lv k n (pc) (.int y :: .int x :: st) := fun h H locs ls h0 h1 h2 h3 h4 => lv_isub C.ex C.cd d (kk h H locs ls h0 h1 h2 h3 h4)
theorem R_imul (C : CX K G A own cc nL ret rm tb) {x y : Int32} (d : decode cc pc = .ok (.imul, 1))  (kk : WR K G A Q P lv k n (pc + 1) (.int (x * y) :: st)) : WR K G A Q P lv k n (pc) (.int y :: .int x :: st) := fun h H locs ls h0 h1 h2 h3 h4 => lv_imul C.ex C.cd d (kk h H locs ls h0 h1 h2 h3 h4)
theorem R_iand (C : CX K G A own cc nL ret rm tb) {x y : Int32} (d : decode cc pc = .ok (.iand, 1))  (kk : WR K G A Q P lv k n (pc + 1) (.int (x &&& y) :: st)) : WR K G A Q P lv k n (pc) (.int y :: .int x :: st) := fun h H locs ls h0 h1 h2 h3 h4 => lv_iand C.ex C.cd d (kk h H locs ls h0 h1 h2 h3 h4)
theorem R_ior (C : CX K G A own cc nL ret rm tb) {x y : Int32} (d : decode cc pc = .ok (.ior, 1))  (kk : WR K G A Q P lv k n (pc + 1) (.int (x ||| y) :: st)) : WR K G A Q P lv k n (pc) (.int y :: .int x :: st) := fun h H locs ls h0 h1 h2 h3 h4 => lv_ior C.ex C.cd d (kk h H locs ls h0 h1 h2 h3 h4)
theorem R_ixor (C : CX K G A own cc nL ret rm tb) {x y : Int32} (d : decode cc pc = .ok (.ixor, 1))  (kk : WR K G A Q P lv k n (pc + 1) (.int (x ^^^ y) :: st)) : WR K G A Q P lv k n (pc) (.int y :: .int x :: st) := fun h H locs ls h0 h1 h2 h3 h4 => lv_ixor C.ex C.cd d (kk h H locs ls h0 h1 h2 h3 h4)
theorem R_ishl (C : CX K G A own cc nL ret rm tb) {x y : Int32} (d : decode cc pc = .ok (.ishl, 1))  (kk : WR K G A Q P lv k n (pc + 1) (.int (x <<< (y &&& 31)) :: st)) : WR K G A Q P lv k n (pc) (.int y :: .int x :: st) := fun h H locs ls h0 h1 h2 h3 h4 => lv_ishl C.ex C.cd d (kk h H locs ls h0 h1 h2 h3 h4)
theorem R_ishr (C : CX K G A own cc nL ret rm tb) {x y : Int32} (d : decode cc pc = .ok (.ishr, 1))  (kk : WR K G A Q P lv k n (pc + 1) (.int (x >>> (y &&& 31)) :: st)) : WR K G A Q P lv k n (pc) (.int y :: .int x :: st) := fun h H locs ls h0 h1 h2 h3 h4 => lv_ishr C.ex C.cd d (kk h H locs ls h0 h1 h2 h3 h4)
theorem R_idiv (C : CX K G A own cc nL ret rm tb) {x y : Int32} (d : decode cc pc = .ok (.idiv, 1)) (hne : ¬ y = 0) (kk : WR K G A Q P lv k n (pc + 1) (.int (x / y) :: st)) : WR K G A Q P lv k n (pc) (.int y :: .int x :: st) := fun h H locs ls h0 h1 h2 h3 h4 => lv_idiv C.ex C.cd d hne (kk h H locs ls h0 h1 h2 h3 h4)
theorem R_irem (C : CX K G A own cc nL ret rm tb) {x y : Int32} (d : decode cc pc = .ok (.irem, 1)) (hne : ¬ y = 0) (kk : WR K G A Q P lv k n (pc + 1) (.int (x - x / y * y) :: st)) : WR K G A Q P lv k n (pc) (.int y :: .int x :: st) := fun h H locs ls h0 h1 h2 h3 h4 => lv_irem C.ex C.cd d hne (kk h H locs ls h0 h1 h2 h3 h4)
theorem R_iushr (C : CX K G A own cc nL ret rm tb) {x y : Int32} (d : decode cc pc = .ok (.iushr, 1))  (kk : WR K G A Q P lv k n (pc + 1) (.int (x.toUInt32 >>> (y.toUInt32 &&& Int32.toUInt32 31)).toInt32 :: st)) : WR K G A Q P lv k n (pc) (.int y :: .int x :: st) := fun h H locs ls h0 h1 h2 h3 h4 => lv_iushr C.ex C.cd d rfl (kk h H locs ls h0 h1 h2 h3 h4)
theorem R_ineg (C : CX K G A own cc nL ret rm tb) {x : Int32} (d : decode cc pc = .ok (.ineg, 1))  (kk : WR K G A Q P lv k n (pc + 1) (.int (-x) :: st)) : WR K G A Q P lv k n (pc) (.int x :: st) := fun h H locs ls h0 h1 h2 h3 h4 => lv_ineg C.ex C.cd d (kk h H locs ls h0 h1 h2 h3 h4)
theorem R_i2l (C : CX K G A own cc nL ret rm tb) {x : Int32} (d : decode cc pc = .ok (.i2l, 1))  (kk : WR K G A Q P lv k n (pc + 1) (.long x.toInt64 :: st)) : WR K G A Q P lv k n (pc) (.int x :: st) := fun h H locs ls h0 h1 h2 h3 h4 => lv_i2l C.ex C.cd d rfl (kk h H locs ls h0 h1 h2 h3 h4)
theorem R_i2c (C : CX K G A own cc nL ret rm tb) {x : Int32} (d : decode cc pc = .ok (.i2c, 1))  (kk : WR K G A Q P lv k n (pc + 1) (.int (x.toUInt32 % 65536).toInt32 :: st)) : WR K G A Q P lv k n (pc) (.int x :: st) := fun h H locs ls h0 h1 h2 h3 h4 => lv_i2c C.ex C.cd d rfl (kk h H locs ls h0 h1 h2 h3 h4)
theorem R_i2b (C : CX K G A own cc nL ret rm tb) {x : Int32} (d : decode cc pc = .ok (.i2b, 1))  (kk : WR K G A Q P lv k n (pc + 1) (.int x.toInt8.toInt32 :: st)) : WR K G A Q P lv k n (pc) (.int x :: st) := fun h H locs ls h0 h1 h2 h3 h4 => lv_i2b C.ex C.cd d rfl (kk h H locs ls h0 h1 h2 h3 h4)
theorem R_lcmp (C : CX K G A own cc nL ret rm tb) {x y : Int64} (d : decode cc pc = .ok (.lcmp, 1))  (kk : WR K G A Q P lv k n (pc + 1) (.int (lg_cmp x y) :: st)) : WR K G A Q P lv k n (pc) (.long y :: .long x :: st) := fun h H locs ls h0 h1 h2 h3 h4 => W.lcmp C.ex C.cd d (kk h H locs ls h0 h1 h2 h3 h4)
theorem R_dup (C : CX K G A own cc nL ret rm tb) {v : Value} (d : decode cc pc = .ok (.dup, 1)) (hv : v.category = 1) (kk : WR K G A Q P lv k n (pc + 1) (v :: v :: st)) : WR K G A Q P lv k n (pc) (v :: st) := fun h H locs ls h0 h1 h2 h3 h4 => lv_dup C.ex C.cd d hv (kk h H locs ls h0 h1 h2 h3 h4)
theorem R_pop (C : CX K G A own cc nL ret rm tb) {v : Value} (d : decode cc pc = .ok (.pop, 1)) (hv : v.category = 1) (kk : WR K G A Q P lv k n (pc + 1) (st)) : WR K G A Q P lv k n (pc) (v :: st) := fun h H locs ls h0 h1 h2 h3 h4 => lv_pop C.ex C.cd d hv (kk h H locs ls h0 h1 h2 h3 h4)
theorem R_dup_x1 (C : CX K G A own cc nL ret rm tb) {v w : Value} (d : decode cc pc = .ok (.dup_x1, 1)) (hv : v.category = 1) (hw : w.category = 1) (kk : WR K G A Q P lv k n (pc + 1) (v :: w :: v :: st)) : WR K G A Q P lv k n (pc) (v :: w :: st) := fun h H locs ls h0 h1 h2 h3 h4 => lv_dup_x1 C.ex C.cd d hv hw (kk h H locs ls h0 h1 h2 h3 h4)
theorem R_dup_x2 (C : CX K G A own cc nL ret rm tb) {v w u : Value} (d : decode cc pc = .ok (.dup_x2, 1)) (hv : v.category = 1) (hw : w.category = 1) (hu : u.category = 1) (kk : WR K G A Q P lv k n (pc + 1) (v :: w :: u :: v :: st)) : WR K G A Q P lv k n (pc) (v :: w :: u :: st) := fun h H locs ls h0 h1 h2 h3 h4 => lv_dup_x2 C.ex C.cd d hv hw hu (kk h H locs ls h0 h1 h2 h3 h4)
theorem R_dup2 (C : CX K G A own cc nL ret rm tb) {v w : Value} (d : decode cc pc = .ok (.dup2, 1)) (hv : v.category = 1) (hw : w.category = 1) (kk : WR K G A Q P lv k n (pc + 1) (v :: w :: v :: w :: st)) : WR K G A Q P lv k n (pc) (v :: w :: st) := fun h H locs ls h0 h1 h2 h3 h4 => lv_dup2_11 C.ex C.cd d hv hw (kk h H locs ls h0 h1 h2 h3 h4)
theorem R_goto (C : CX K G A own cc nL ret rm tb) {off : Int} {tgt : Nat} (d : decode cc pc = .ok (.goto off, 3)) (ht : (pc : Int) + off = (tgt : Int)) (kk : WR K G A Q P lv k n (tgt) (st)) : WR K G A Q P lv k n (pc) (st) := fun h H locs ls h0 h1 h2 h3 h4 => lv_goto C.ex C.cd d ht (kk h H locs ls h0 h1 h2 h3 h4)
theorem R_ifnull (C : CX K G A own cc nL ret rm tb) {off : Int} {x : Nat} (d : decode cc pc = .ok (.ifnull off, 3))  (kk : WR K G A Q P lv k n (pc + 3) (st)) : WR K G A Q P lv k n (pc) (.ref x :: st) := fun h H locs ls h0 h1 h2 h3 h4 => lv_ifnull C.ex C.cd d (kk h H locs ls h0 h1 h2 h3 h4)
theorem R_ifnonnull (C : CX K G A own cc nL ret rm tb) {off : Int} {tgt x : Nat} (d : decode cc pc = .ok (.ifnonnull off, 3)) (ht : (pc : Int) + off = (tgt : Int)) (kk : WR K G A Q P lv k n (tgt) (st)) : WR K G A Q P lv k n (pc) (.ref x :: st) := fun h H locs ls h0 h1 h2 h3 h4 => lv_ifnonnull C.ex C.cd d ht (kk h H locs ls h0 h1 h2 h3 h4)
theorem R_ifnullN (C : CX K G A own cc nL ret rm tb) {off : Int} {tgt : Nat} (d : decode cc pc = .ok (.ifnull off, 3)) (ht : (pc : Int) + off = (tgt : Int)) (kk : WR K G A Q P lv k n (tgt) (st)) : WR K G A Q P lv k n (pc) (.null :: st) := fun h H locs ls h0 h1 h2 h3 h4 => lv_ifnullN C.ex C.cd d ht (kk h H locs ls h0 h1 h2 h3 h4)
theorem R_ifnonnullN (C : CX K G A own cc nL ret rm tb) {off : Int} (d : decode cc pc = .ok (.ifnonnull off, 3))  (kk : WR K G A Q P lv k n (pc + 3) (st)) : WR K G A Q P lv k n (pc) (.null :: st) := fun h H locs ls h0 h1 h2 h3 h4 => lv_ifnonnullN C.ex C.cd d (kk h H locs ls h0 h1 h2 h3 h4)
theorem R_if_eq (C : CX K G A own cc nL ret rm tb) {x : Int32} {off : Int} {tgt : Nat} (d : decode cc pc = .ok (.ifCond .eq off, 3)) (ht : (pc : Int) + off = (tgt : Int)) (kt : x = 0 → WR K G A Q P lv k n (tgt) (st)) (kf : ¬ x = 0 → WR K G A Q P lv k n (pc + 3) (st)) : WR K G A Q P lv k n (pc) (.int x :: st) := fun h H locs ls h0 h1 h2 h3 h4 => lv_if_eq C.ex C.cd d ht (fun q => kt q h H locs ls h0 h1 h2 h3 h4) (fun q => kf q h H locs ls h0 h1 h2 h3 h4)
theorem R_icmp_eq (C : CX K G A own cc nL ret rm tb) {x y : Int32} {off : Int} {tgt : Nat} (d : decode cc pc = .ok (.if_icmp .eq off, 3)) (ht : (pc : Int) + off = (tgt : Int)) (kt : x = y → WR K G A Q P lv k n (tgt) (st)) (kf : ¬ x = y → WR K G A Q P lv k n (pc + 3) (st)) : WR K G A Q P lv k n (pc) (.int y :: .int x :: st) := fun h H locs ls h0 h1 h2 h3 h4 => lv_icmp_eq C.ex C.cd d ht (fun q => kt q h H locs ls h0 h1 h2 h3 h4) (fun q => kf q h H locs ls h0 h1 h2 h3 h4)
theorem R_if_ne (C : CX K G A own cc nL ret rm tb) {x : Int32} {off : Int} {tgt : Nat} (d : decode cc pc = .ok (.ifCond .ne off, 3)) (ht : (pc : Int) + off = (tgt : Int)) (kt : ¬ x = 0 → WR K G A Q P lv k n (tgt) (st)) (kf : x = 0 → WR K G A Q P lv k n (pc + 3) (st)) : WR K G A Q P lv k n (pc) (.int x :: st) := fun h H locs ls h0 h1 h2 h3 h4 => lv_if_ne C.ex C.cd d ht (fun q => kt q h H locs ls h0 h1 h2 h3 h4) (fun q => kf q h H locs ls h0 h1 h2 h3 h4)
theorem R_icmp_ne (C : CX K G A own cc nL ret rm tb) {x y : Int32} {off : Int} {tgt : Nat} (d : decode cc pc = .ok (.if_icmp .ne off, 3)) (ht : (pc : Int) + off = (tgt : Int)) (kt : ¬ x = y → WR K G A Q P lv k n (tgt) (st)) (kf : x = y → WR K G A Q P lv k n (pc + 3) (st)) : WR K G A Q P lv k n (pc) (.int y :: .int x :: st) := fun h H locs ls h0 h1 h2 h3 h4 => lv_icmp_ne C.ex C.cd d ht (fun q => kt q h H locs ls h0 h1 h2 h3 h4) (fun q => kf q h H locs ls h0 h1 h2 h3 h4)
theorem R_if_lt (C : CX K G A own cc nL ret rm tb) {x : Int32} {off : Int} {tgt : Nat} (d : decode cc pc = .ok (.ifCond .lt off, 3)) (ht : (pc : Int) + off = (tgt : Int)) (kt : x < 0 → WR K G A Q P lv k n (tgt) (st)) (kf : ¬ x < 0 → WR K G A Q P lv k n (pc + 3) (st)) : WR K G A Q P lv k n (pc) (.int x :: st) := fun h H locs ls h0 h1 h2 h3 h4 => lv_if_lt C.ex C.cd d ht (fun q => kt q h H locs ls h0 h1 h2 h3 h4) (fun q => kf q h H locs ls h0 h1 h2 h3 h4)
theorem R_icmp_lt (C : CX K G A own cc nL ret rm tb) {x y : Int32} {off : Int} {tgt : Nat} (d : decode cc pc = .ok (.if_icmp .lt off, 3)) (ht : (pc : Int) + off = (tgt : Int)) (kt : x < y → WR K G A Q P lv k n (tgt) (st)) (kf : ¬ x < y → WR K G A Q P lv k n (pc + 3) (st)) : WR K G A Q P lv k n (pc) (.int y :: .int x :: st) := fun h H locs ls h0 h1 h2 h3 h4 => lv_icmp_lt C.ex C.cd d ht (fun q => kt q h H locs ls h0 h1 h2 h3 h4) (fun q => kf q h H locs ls h0 h1 h2 h3 h4)
theorem R_if_ge (C : CX K G A own cc nL ret rm tb) {x : Int32} {off : Int} {tgt : Nat} (d : decode cc pc = .ok (.ifCond .ge off, 3)) (ht : (pc : Int) + off = (tgt : Int)) (kt : 0 ≤ x → WR K G A Q P lv k n (tgt) (st)) (kf : ¬ 0 ≤ x → WR K G A Q P lv k n (pc + 3) (st)) : WR K G A Q P lv k n (pc) (.int x :: st) := fun h H locs ls h0 h1 h2 h3 h4 => lv_if_ge C.ex C.cd d ht (fun q => kt q h H locs ls h0 h1 h2 h3 h4) (fun q => kf q h H locs ls h0 h1 h2 h3 h4)
theorem R_icmp_ge (C : CX K G A own cc nL ret rm tb) {x y : Int32} {off : Int} {tgt : Nat} (d : decode cc pc = .ok (.if_icmp .ge off, 3)) (ht : (pc : Int) + off = (tgt : Int)) (kt : y ≤ x → WR K G A Q P lv k n (tgt) (st)) (kf : ¬ y ≤ x → WR K G A Q P lv k n (pc + 3) (st)) : WR K G A Q P lv k n (pc) (.int y :: .int x :: st) := fun h H locs ls h0 h1 h2 h3 h4 => lv_icmp_ge C.ex C.cd d ht (fun q => kt q h H locs ls h0 h1 h2 h3 h4) (fun q => kf q h H locs ls h0 h1 h2 h3 h4)
theorem R_if_gt (C : CX K G A own cc nL ret rm tb) {x : Int32} {off : Int} {tgt : Nat} (d : decode cc pc = .ok (.ifCond .gt off, 3)) (ht : (pc : Int) + off = (tgt : Int)) (kt : 0 < x → WR K G A Q P lv k n (tgt) (st)) (kf : ¬ 0 < x → WR K G A Q P lv k n (pc + 3) (st)) : WR K G A Q P lv k n (pc) (.int x :: st) := fun h H locs ls h0 h1 h2 h3 h4 => lv_if_gt C.ex C.cd d ht (fun q => kt q h H locs ls h0 h1 h2 h3 h4) (fun q => kf q h H locs ls h0 h1 h2 h3 h4)
theorem R_icmp_gt (C : CX K G A own cc nL ret rm tb) {x y : Int32} {off : Int} {tgt : Nat} (d : decode cc pc = .ok (.if_icmp .gt off, 3)) (ht : (pc : Int) + off = (tgt : Int)) (kt : y < x → WR K G A Q P lv k n (tgt) (st)) (kf : ¬ y < x → WR K G A Q P lv k n (pc + 3) (st)) : WR K G A Q P lv k n (pc) (.int y :: .int x :: st) := fun h H locs ls h0 h1 h2 h3 h4 => lv_icmp_gt C.ex C.cd d ht (fun q => kt q h H locs ls h0 h1 h2 h3 h4) (fun q => kf q h H locs ls h0 h1 h2 h3 h4)
theorem R_if_le (C : CX K G A own cc nL ret rm tb) {x : Int32} {off : Int} {tgt : Nat} (d : decode cc pc = .ok (.ifCond .le off, 3)) (ht : (pc : Int) + off = (tgt : Int)) (kt : x ≤ 0 → WR K G A Q P lv k n (tgt) (st)) (kf : ¬ x ≤ 0 → WR K G A Q P lv k n (pc + 3) (st)) : WR K G A Q P lv k n (pc) (.int x :: st) := fun h H locs ls h0 h1 h2 h3 h4 => lv_if_le C.ex C.cd d ht (fun q => kt q h H locs ls h0 h1 h2 h3 h4) (fun q => kf q h H locs ls h0 h1 h2 h3 h4)
theorem R_icmp_le (C : CX K G A own cc nL ret rm tb) {x y : Int32} {off : Int} {tgt : Nat} (d : decode cc pc = .ok (.if_icmp .le off, 3)) (ht : (pc : Int) + off = (tgt : Int)) (kt : x ≤ y → WR K G A Q P lv k n (tgt) (st)) (kf : ¬ x ≤ y → WR K G A Q P lv k n (pc + 3) (st)) : WR K G A Q P lv k n (pc) (.int y :: .int x :: st) := fun h H locs ls h0 h1 h2 h3 h4 => lv_icmp_le C.ex C.cd d ht (fun q => kt q h H locs ls h0 h1 h2 h3 h4) (fun q => kf q h H locs ls h0 h1 h2 h3 h4)
theorem R_acmp_eq (C : CX K G A own cc nL ret rm tb) {rx ry : Option Nat} {off : Int} {tgt : Nat} (d : decode cc pc = .ok (.if_acmp .eq off, 3)) (ht : (pc : Int) + off = (tgt : Int)) (kt : rx = ry → WR K G A Q P lv k n (tgt) (st)) (kf : ¬ rx = ry → WR K G A Q P lv k n (pc + 3) (st)) : WR K G A Q P lv k n (pc) (va_rf ry :: va_rf rx :: st) := fun h H locs ls h0 h1 h2 h3 h4 => lv_acmp_eq C.ex C.cd d ht (fun q => kt q h H locs ls h0 h1 h2 h3 h4) (fun q => kf q h H locs ls h0 h1 h2 h3 h4)
theorem R_acmp_ne (C : CX K G A own cc nL ret rm tb) {rx ry : Option Nat} {off : Int} {tgt : Nat} (d : decode cc pc = .ok (.if_acmp .ne off, 3)) (ht : (pc : Int) + off = (tgt : Int)) (kt : ¬ rx = ry → WR K G A Q P lv k n (tgt) (st)) (kf : rx = ry → WR K G A Q P lv k n (pc + 3) (st)) : WR K G A Q P lv k n (pc) (va_rf ry :: va_rf rx :: st) := fun h H locs ls h0 h1 h2 h3 h4 => lv_acmp_ne C.ex C.cd d ht (fun q => kt q h H locs ls h0 h1 h2 h3 h4) (fun q => kf q h H locs ls h0 h1 h2 h3 h4)
theorem R_ldc (C : CX K G A own cc nL ret rm tb) {i : Nat} {v : Int32} (d : decode cc pc = .ok (.ldc i, 2)) (hw : Jvm.Cond.constant own i v ∈ BIG) (kk : WR K G A Q P lv k n (pc + 2) (.int v :: st)) : WR K G A Q P lv k n (pc) (st) := fun h H locs ls h0 h1 h2 h3 h4 => lv_ldc C.ex C.cd C.ow (C.ts _ hw) d (kk h H locs ls h0 h1 h2 h3 h4)
theorem R_tsOut (C : CX K G A own cc nL ret rm tb) {dflt lo hi : Int} {offs : Array Int} {len : Nat} {x : Int32} {tgt : Nat} (d : decode cc pc = .ok (.tableswitch dflt lo hi offs, len)) (h5 : x.toInt < lo ∨ hi < x.toInt) (ht : (pc : Int) + dflt = (tgt : Int)) (kk : WR K G A Q P lv k n (tgt) (st)) : WR K G A Q P lv k n (pc) (.int x :: st) := fun h H locs ls h0 h1 h2 h3 h4 => lv_tableOut C.ex C.cd d h5 ht (kk h H locs ls h0 h1 h2 h3 h4)
theorem R_tsIn (C : CX K G A own cc nL ret rm tb) {dflt lo hi off : Int} {offs : Array Int} {len : Nat} {x : Int32} {tgt : Nat} (d : decode cc pc = .ok (.tableswitch dflt lo hi offs, len)) (h5 : ¬ x.toInt < lo) (h6 : ¬ hi < x.toInt) (ho : offs[(x.toInt - lo).toNat]? = some off) (ht : (pc : Int) + off = (tgt : Int)) (kk : WR K G A Q P lv k n (tgt) (st)) : WR K G A Q P lv k n (pc) (.int x :: st) := fun h H locs ls h0 h1 h2 h3 h4 => lv_tableIn C.ex C.cd d h5 h6 ho ht (kk h H locs ls h0 h1 h2 h3 h4)
theorem R_topi {x : Int32} (kk : ∀ y : Int32, y = x → WR K G A Q P lv k n (pc) (.int y :: st)) : WR K G A Q P lv k n (pc) (.int x :: st) := kk x rfl
end
end
section
/-! 04: the words of BIG. Written by wip/whole/gen/words.py -/
theorem kS_1 : ∀ w ∈ wsL_law0_r1, w ∈ BIG := fun _ h => List.mem_append_left _ (List.mem_append_left _ (List.mem_append_left _ (List.mem_append_left _ (List.mem_append_left _ (List.mem_append_left _ (List.mem_append_left _ (List.mem_append_left _ (List.mem_append_left _ (List.mem_append_left _ (List.mem_append_left _ h))))))))))
theorem kS_2 : ∀ w ∈ wsL_law0_r2, w ∈ BIG := fun _ h => List.mem_append_left _ (List.mem_append_left _ (List.mem_append_left _ (List.mem_append_left _ (List.mem_append_left _ (List.mem_append_left _ (List.mem_append_left _ (List.mem_append_left _ (List.mem_append_left _ (List.mem_append_left _ (List.mem_append_right _ (List.mem_append_left _ h)))))))))))
theorem kS_3 : ∀ w ∈ wsL_law0_r3, w ∈ BIG := fun _ h => List.mem_append_left _ (List.mem_append_left _ (List.mem_append_left _ (List.mem_append_left _ (List.mem_append_left _ (List.mem_append_left _ (List.mem_append_left _ (List.mem_append_left _ (List.mem_append_left _ (List.mem_append_left _ (List.mem_append_right _ (List.mem_append_right _ (List.mem_append_left _ h))))))))))))
theorem kS_4 : ∀ w ∈ wsL_law0_r4, w ∈ BIG := fun _ h => List.mem_append_left _ (List.mem_append_left _ (List.mem_append_left _ (List.mem_append_left _ (List.mem_append_left _ (List.mem_append_left _ (List.mem_append_left _ (List.mem_append_left _ (List.mem_append_left _ (List.mem_append_left _ (List.mem_append_right _ (List.mem_append_right _ (List.mem_append_right _ (List.mem_append_left _ h)))))))))))))
theorem kS_5 : ∀ w ∈ wsL_law0_r5, w ∈ BIG := fun _ h => List.mem_append_left _ (List.mem_append_left _ (List.mem_append_left _ (List.mem_append_left _ (List.mem_append_left _ (List.mem_append_left _ (List.mem_append_left _ (List.mem_append_left _ (List.mem_append_left _ (List.mem_append_left _ (List.mem_append_right _ (List.mem_append_right _ (List.mem_append_right _ (List.mem_append_right _ (List.mem_append_left _ h))))))))))))))
theorem kS_6 : ∀ w ∈ wsL_law0_r6, w ∈ BIG := fun _ h => List.mem_append_left _ (List.mem_append_left _ (List.mem_append_left _ (List.mem_append_left _ (List.mem_append_left _ (List.mem_append_left _ (List.mem_append_left _ (List.mem_append_left _ (List.mem_append_left _ (List.mem_append_left _ (List.mem_append_right _ (List.mem_append_right _ (List.mem_append_right _ (List.mem_append_right _ (List.mem_append_right _ (List.mem_append_left _ h)))))))))))))))
theorem kS_7 : ∀ w ∈ wsL_law0_r7, w ∈ BIG := fun _ h => List.mem_append_left _ (List.mem_append_left _ (List.mem_append_left _ (List.mem_append_left _ (List.mem_append_left _ (List.mem_append_left _ (List.mem_append_left _ (List.mem_append_left _ (List.mem_append_left _ (List.mem_append_left _ (List.mem_append_right _ (List.mem_append_right _ (List.mem_append_right _ (List.mem_append_right _ (List.mem_append_right _ (List.mem_append_right _ (List.mem_append_left _ h))))))))))))))))
theorem kS_8 : ∀ w ∈ wsL_law0_r8, w ∈ BIG := fun _ h => List.mem_append_left _ (List.mem_append_left _ (List.mem_append_left _ (List.mem_append_left _ (List.mem_append_left _ (List.mem_append_left _ (List.mem_append_left _ (List.mem_append_left _ (List.mem_append_left _ (List.mem_append_left _ (List.mem_append_right _ (List.mem_append_right _ (List.mem_append_right _ (List.mem_append_right _ (List.mem_append_right _ (List.mem_append_right _ (List.mem_append_right _ (List.mem_append_left _ h)))))))))))))))))
theorem kS_9 : ∀ w ∈ wsL_law0_r9, w ∈ BIG := fun _ h => List.mem_append_left _ (List.mem_append_left _ (List.mem_append_left _ (List.mem_append_left _ (List.mem_append_left _ (List.mem_append_left _ (List.mem_append_left _ (List.mem_append_left _ (List.mem_append_left _ (List.mem_append_left _ (List.mem_append_right _ (List.mem_append_right _ (List.mem_append_right _ (List.mem_append_right _ (List.mem_append_right _ (List.mem_append_right _ (List.mem_append_right _ (List.mem_append_right _ (List.mem_append_left _ h))))))))))))))))))
theorem kS_10 : ∀ w ∈ wsL_law0_r10, w ∈ BIG := fun _ h => List.mem_append_left _ (List.mem_append_left _ (List.mem_append_left _ (List.mem_append_left _ (List.mem_append_left _ (List.mem_append_left _ (List.mem_append_left _ (List.mem_append_left _ (List.mem_append_left _ (List.mem_append_left _ (List.mem_append_right _ (List.mem_append_right _ (List.mem_append_right _ (List.mem_append_right _ (List.mem_append_right _ (List.mem_append_right _ (List.mem_append_right _ (List.mem_append_right _ (List.mem_append_right _ (List.mem_append_left _ h)))))))))))))))))))
theorem kS_11 : ∀ w ∈ wsL_law0_r11, w ∈ BIG := fun _ h => List.mem_append_left _ (List.mem_append_left _ (List.mem_append_left _ (List.mem_append_left _ (List.mem_append_left _ (List.mem_append_left _ (List.mem_append_left _ (List.mem_append_left _ (List.mem_append_left _ (List.mem_append_left _ (List.mem_append_right _ (List.mem_append_right _ (List.mem_append_right _ (List.mem_append_right _ (List.mem_append_right _ (List.mem_append_right _ (List.mem_append_right _ (List.mem_append_right _ (List.mem_append_right _ (List.mem_append_right _ (List.mem_append_left _ h))))))))))))))))))))
theorem kS_12 : ∀ w ∈ wsL_law0_r12, w ∈ BIG := fun _ h => List.mem_append_left _ (List.mem_append_left _ (List.mem_append_left _ (List.mem_append_left _ (List.mem_append_left _ (List.mem_append_left _ (List.mem_append_left _ (List.mem_append_left _ (List.mem_append_left _ (List.mem_append_left _ (List.mem_append_right _ (List.mem_append_right _ (List.mem_append_right _ (List.mem_append_right _ (List.mem_append_right _ (List.mem_append_right _ (List.mem_append_right _ (List.mem_append_right _ (List.mem_append_right _ (List.mem_append_right _ (List.mem_append_right _ (List.mem_append_left _ h)))))))))))))))))))))
theorem kS_13 : ∀ w ∈ wsL_law0_r13, w ∈ BIG := fun _ h => List.mem_append_left _ (List.mem_append_left _ (List.mem_append_left _ (List.mem_append_left _ (List.mem_append_left _ (List.mem_append_left _ (List.mem_append_left _ (List.mem_append_left _ (List.mem_append_left _ (List.mem_append_left _ (List.mem_append_right _ (List.mem_append_right _ (List.mem_append_right _ (List.mem_append_right _ (List.mem_append_right _ (List.mem_append_right _ (List.mem_append_right _ (List.mem_append_right _ (List.mem_append_right _ (List.mem_append_right _ (List.mem_append_right _ (List.mem_append_right _ (List.mem_append_left _ h))))))))))))))))))))))
theorem kS_14 : ∀ w ∈ wsL_law0_r14, w ∈ BIG := fun _ h => List.mem_append_left _ (List.mem_append_left _ (List.mem_append_left _ (List.mem_append_left _ (List.mem_append_left _ (List.mem_append_left _ (List.mem_append_left _ (List.mem_append_left _ (List.mem_append_left _ (List.mem_append_left _ (List.mem_append_right _ (List.mem_append_right _ (List.mem_append_right _ (List.mem_append_right _ (List.mem_append_right _ (List.mem_append_right _ (List.mem_append_right _ (List.mem_append_right _ (List.mem_append_right _ (List.mem_append_right _ (List.mem_append_right _ (List.mem_append_right _ (List.mem_append_right _ (List.mem_append_left _ h)))))))))))))))))))))))
theorem kS_15 : ∀ w ∈ wsL_law0_r15, w ∈ BIG := fun _ h => List.mem_append_left _ (List.mem_append_left _ (List.mem_append_left _ (List.mem_append_left _ (List.mem_append_left _ (List.mem_append_left _ (List.mem_append_left _ (List.mem_append_left _ (List.mem_append_left _ (List.mem_append_left _ (List.mem_append_right _ (List.mem_append_right _ (List.mem_append_right _ (List.mem_append_right _ (List.mem_append_right _ (List.mem_append_right _ (List.mem_append_right _ (List.mem_append_right _ (List.mem_append_right _ (List.mem_append_right _ (List.mem_append_right _ (List.mem_append_right _ (List.mem_append_right _ (List.mem_append_right _ (List.mem_append_left _ h))))))))))))))))))))))))
theorem kS_16 : ∀ w ∈ wsL_law0_r16, w ∈ BIG := fun _ h => List.mem_append_left _ (List.mem_append_left _ (List.mem_append_left _ (List.mem_append_left _ (List.mem_append_left _ (List.mem_append_left _ (List.mem_append_left _ (List.mem_append_left _ (List.mem_append_left _ (List.mem_append_left _ (List.mem_append_right _ (List.mem_append_right _ (List.mem_append_right _ (List.mem_append_right _ (List.mem_append_right _ (List.mem_append_right _ (List.mem_append_right _ (List.mem_append_right _ (List.mem_append_right _ (List.mem_append_right _ (List.mem_append_right _ (List.mem_append_right _ (List.mem_append_right _ (List.mem_append_right _ (List.mem_append_right _ (List.mem_append_left _ h)))))))))))))))))))))))))
theorem kS_17 : ∀ w ∈ wsL_law0_r17, w ∈ BIG := fun _ h => List.mem_append_left _ (List.mem_append_left _ (List.mem_append_left _ (List.mem_append_left _ (List.mem_append_left _ (List.mem_append_left _ (List.mem_append_left _ (List.mem_append_left _ (List.mem_append_left _ (List.mem_append_left _ (List.mem_append_right _ (List.mem_append_right _ (List.mem_append_right _ (List.mem_append_right _ (List.mem_append_right _ (List.mem_append_right _ (List.mem_append_right _ (List.mem_append_right _ (List.mem_append_right _ (List.mem_append_right _ (List.mem_append_right _ (List.mem_append_right _ (List.mem_append_right _ (List.mem_append_right _ (List.mem_append_right _ (List.mem_append_right _ (List.mem_append_left _ h))))))))))))))))))))))))))
theorem kS_18 : ∀ w ∈ wsL_law0_r18, w ∈ BIG := fun _ h => List.mem_append_left _ (List.mem_append_left _ (List.mem_append_left _ (List.mem_append_left _ (List.mem_append_left _ (List.mem_append_left _ (List.mem_append_left _ (List.mem_append_left _ (List.mem_append_left _ (List.mem_append_left _ (List.mem_append_right _ (List.mem_append_right _ (List.mem_append_right _ (List.mem_append_right _ (List.mem_append_right _ (List.mem_append_right _ (List.mem_append_right _ (List.mem_append_right _ (List.mem_append_right _ (List.mem_append_right _ (List.mem_append_right _ (List.mem_append_right _ (List.mem_append_right _ (List.mem_append_right _ (List.mem_append_right _ (List.mem_append_right _ (List.mem_append_right _ (List.mem_append_left _ h)))))))))))))))))))))))))))
theorem kS_19 : ∀ w ∈ wsL_law0_r19, w ∈ BIG := fun _ h => List.mem_append_left _ (List.mem_append_left _ (List.mem_append_left _ (List.mem_append_left _ (List.mem_append_left _ (List.mem_append_left _ (List.mem_append_left _ (List.mem_append_left _ (List.mem_append_left _ (List.mem_append_left _ (List.mem_append_right _ (List.mem_append_right _ (List.mem_append_right _ (List.mem_append_right _ (List.mem_append_right _ (List.mem_append_right _ (List.mem_append_right _ (List.mem_append_right _ (List.mem_append_right _ (List.mem_append_right _ (List.mem_append_right _ (List.mem_append_right _ (List.mem_append_right _ (List.mem_append_right _ (List.mem_append_right _ (List.mem_append_right _ (List.mem_append_right _ (List.mem_append_right _ (List.mem_append_left _ h))))))))))))))))))))))))))))
theorem kS_20 : ∀ w ∈ wsL_law0_r20, w ∈ BIG := fun _ h => List.mem_append_left _ (List.mem_append_left _ (List.mem_append_left _ (List.mem_append_left _ (List.mem_append_left _ (List.mem_append_left _ (List.mem_append_left _ (List.mem_append_left _ (List.mem_append_left _ (List.mem_append_left _ (List.mem_append_right _ (List.mem_append_right _ (List.mem_append_right _ (List.mem_append_right _ (List.mem_append_right _ (List.mem_append_right _ (List.mem_append_right _ (List.mem_append_right _ (List.mem_append_right _ (List.mem_append_right _ (List.mem_append_right _ (List.mem_append_right _ (List.mem_append_right _ (List.mem_append_right _ (List.mem_append_right _ (List.mem_append_right _ (List.mem_append_right _ (List.mem_append_right _ (List.mem_append_right _ (List.mem_append_left _ h)))))))))))))))))))))))))))))
theorem kS_21 : ∀ w ∈ wsL_law0_r21, w ∈ BIG := fun _ h => List.mem_append_left _ (List.mem_append_left _ (List.mem_append_left _ (List.mem_append_left _ (List.mem_append_left _ (List.mem_append_left _ (List.mem_append_left _ (List.mem_append_left _ (List.mem_append_left _ (List.mem_append_left _ (List.mem_append_right _ (List.mem_append_right _ (List.mem_append_right _ (List.mem_append_right _ (List.mem_append_right _ (List.mem_append_right _ (List.mem_append_right _ (List.mem_append_right _ (List.mem_append_right _ (List.mem_append_right _ (List.mem_append_right _ (List.mem_append_right _ (List.mem_append_right _ (List.mem_append_right _ (List.mem_append_right _ (List.mem_append_right _ (List.mem_append_right _ (List.mem_append_right _ (List.mem_append_right _ (List.mem_append_right _ (List.mem_append_left _ h))))))))))))))))))))))))))))))
theorem kS_22 : ∀ w ∈ wsL_law0_r22, w ∈ BIG := fun _ h => List.mem_append_left _ (List.mem_append_left _ (List.mem_append_left _ (List.mem_append_left _ (List.mem_append_left _ (List.mem_append_left _ (List.mem_append_left _ (List.mem_append_left _ (List.mem_append_left _ (List.mem_append_left _ (List.mem_append_right _ (List.mem_append_right _ (List.mem_append_right _ (List.mem_append_right _ (List.mem_append_right _ (List.mem_append_right _ (List.mem_append_right _ (List.mem_append_right _ (List.mem_append_right _ (List.mem_append_right _ (List.mem_append_right _ (List.mem_append_right _ (List.mem_append_right _ (List.mem_append_right _ (List.mem_append_right _ (List.mem_append_right _ (List.mem_append_right _ (List.mem_append_right _ (List.mem_append_right _ (List.mem_append_right _ (List.mem_append_right _ (List.mem_append_left _ h)))))))))))))))))))))))))))))))
theorem kS_23 : ∀ w ∈ wsL_law0_r23, w ∈ BIG := fun _ h => List.mem_append_left _ (List.mem_append_left _ (List.mem_append_left _ (List.mem_append_left _ (List.mem_append_left _ (List.mem_append_left _ (List.mem_append_left _ (List.mem_append_left _ (List.mem_append_left _ (List.mem_append_left _ (List.mem_append_right _ (List.mem_append_right _ (List.mem_append_right _ (List.mem_append_right _ (List.mem_append_right _ (List.mem_append_right _ (List.mem_append_right _ (List.mem_append_right _ (List.mem_append_right _ (List.mem_append_right _ (List.mem_append_right _ (List.mem_append_right _ (List.mem_append_right _ (List.mem_append_right _ (List.mem_append_right _ (List.mem_append_right _ (List.mem_append_right _ (List.mem_append_right _ (List.mem_append_right _ (List.mem_append_right _ (List.mem_append_right _ (List.mem_append_right _ (List.mem_append_left _ h))))))))))))))))))))))))))))))))
theorem kS_24 : ∀ w ∈ wsL_law0_r24, w ∈ BIG := fun _ h => List.mem_append_left _ (List.mem_append_left _ (List.mem_append_left _ (List.mem_append_left _ (List.mem_append_left _ (List.mem_append_left _ (List.mem_append_left _ (List.mem_append_left _ (List.mem_append_left _ (List.mem_append_left _ (List.mem_append_right _ (List.mem_append_right _ (List.mem_append_right _ (List.mem_append_right _ (List.mem_append_right _ (List.mem_append_right _ (List.mem_append_right _ (List.mem_append_right _ (List.mem_append_right _ (List.mem_append_right _ (List.mem_append_right _ (List.mem_append_right _ (List.mem_append_right _ (List.mem_append_right _ (List.mem_append_right _ (List.mem_append_right _ (List.mem_append_right _ (List.mem_append_right _ (List.mem_append_right _ (List.mem_append_right _ (List.mem_append_right _ (List.mem_append_right _ (List.mem_append_right _ (List.mem_append_left _ h)))))))))))))))))))))))))))))))))
theorem kS_25 : ∀ w ∈ wsL_law0_r25, w ∈ BIG := fun _ h => List.mem_append_left _ (List.mem_append_left _ (List.mem_append_left _ (List.mem_append_left _ (List.mem_append_left _ (List.mem_append_left _ (List.mem_append_left _ (List.mem_append_left _ (List.mem_append_left _ (List.mem_append_left _ (List.mem_append_right _ (List.mem_append_right _ (List.mem_append_right _ (List.mem_append_right _ (List.mem_append_right _ (List.mem_append_right _ (List.mem_append_right _ (List.mem_append_right _ (List.mem_append_right _ (List.mem_append_right _ (List.mem_append_right _ (List.mem_append_right _ (List.mem_append_right _ (List.mem_append_right _ (List.mem_append_right _ (List.mem_append_right _ (List.mem_append_right _ (List.mem_append_right _ (List.mem_append_right _ (List.mem_append_right _ (List.mem_append_right _ (List.mem_append_right _ (List.mem_append_right _ (List.mem_append_right _ (List.mem_append_left _ h))))))))))))))))))))))))))))))))))
theorem kS_26 : ∀ w ∈ wsL_law0_r26, w ∈ BIG := fun _ h => List.mem_append_left _ (List.mem_append_left _ (List.mem_append_left _ (List.mem_append_left _ (List.mem_append_left _ (List.mem_append_left _ (List.mem_append_left _ (List.mem_append_left _ (List.mem_append_left _ (List.mem_append_left _ (List.mem_append_right _ (List.mem_append_right _ (List.mem_append_right _ (List.mem_append_right _ (List.mem_append_right _ (List.mem_append_right _ (List.mem_append_right _ (List.mem_append_right _ (List.mem_append_right _ (List.mem_append_right _ (List.mem_append_right _ (List.mem_append_right _ (List.mem_append_right _ (List.mem_append_right _ (List.mem_append_right _ (List.mem_append_right _ (List.mem_append_right _ (List.mem_append_right _ (List.mem_append_right _ (List.mem_append_right _ (List.mem_append_right _ (List.mem_append_right _ (List.mem_append_right _ (List.mem_append_right _ (List.mem_append_right _ (List.mem_append_left _ h)))))))))))))))))))))))))))))))))))
theorem kS_27 : ∀ w ∈ wsL_law0_r27, w ∈ BIG := fun _ h => List.mem_append_left _ (List.mem_append_left _ (List.mem_append_left _ (List.mem_append_left _ (List.mem_append_left _ (List.mem_append_left _ (List.mem_append_left _ (List.mem_append_left _ (List.mem_append_left _ (List.mem_append_left _ (List.mem_append_right _ (List.mem_append_right _ (List.mem_append_right _ (List.mem_append_right _ (List.mem_append_right _ (List.mem_append_right _ (List.mem_append_right _ (List.mem_append_right _ (List.mem_append_right _ (List.mem_append_right _ (List.mem_append_right _ (List.mem_append_right _ (List.mem_append_right _ (List.mem_append_right _ (List.mem_append_right _ (List.mem_append_right _ (List.mem_append_right _ (List.mem_append_right _ (List.mem_append_right _ (List.mem_append_right _ (List.mem_append_right _ (List.mem_append_right _ (List.mem_append_right _ (List.mem_append_right _ (List.mem_append_right _ (List.mem_append_right _ (List.mem_append_left _ h))))))))))))))))))))))))))))))))))))
theorem kS_28 : ∀ w ∈ wsL_law0_r28, w ∈ BIG := fun _ h => List.mem_append_left _ (List.mem_append_left _ (List.mem_append_left _ (List.mem_append_left _ (List.mem_append_left _ (List.mem_append_left _ (List.mem_append_left _ (List.mem_append_left _ (List.mem_append_left _ (List.mem_append_left _ (List.mem_append_right _ (List.mem_append_right _ (List.mem_append_right _ (List.mem_append_right _ (List.mem_append_right _ (List.mem_append_right _ (List.mem_append_right _ (List.mem_append_right _ (List.mem_append_right _ (List.mem_append_right _ (List.mem_append_right _ (List.mem_append_right _ (List.mem_append_right _ (List.mem_append_right _ (List.mem_append_right _ (List.mem_append_right _ (List.mem_append_right _ (List.mem_append_right _ (List.mem_append_right _ (List.mem_append_right _ (List.mem_append_right _ (List.mem_append_right _ (List.mem_append_right _ (List.mem_append_right _ (List.mem_append_right _ (List.mem_append_right _ (List.mem_append_right _ (List.mem_append_left _ h)))))))))))))))))))))))))))))))))))))
theorem kS_29 : ∀ w ∈ wsL_law0_r29, w ∈ BIG := fun _ h => List.mem_append_left _ (List.mem_append_left _ (List.mem_append_left _ (List.mem_append_left _ (List.mem_append_left _ (List.mem_append_left _ (List.mem_append_left _ (List.mem_append_left _ (List.mem_append_left _ (List.mem_append_left _ (List.mem_append_right _ (List.mem_append_right _ (List.mem_append_right _ (List.mem_append_right _ (List.mem_append_right _ (List.mem_append_right _ (List.mem_append_right _ (List.mem_append_right _ (List.mem_append_right _ (List.mem_append_right _ (List.mem_append_right _ (List.mem_append_right _ (List.mem_append_right _ (List.mem_append_right _ (List.mem_append_right _ (List.mem_append_right _ (List.mem_append_right _ (List.mem_append_right _ (List.mem_append_right _ (List.mem_append_right _ (List.mem_append_right _ (List.mem_append_right _ (List.mem_append_right _ (List.mem_append_right _ (List.mem_append_right _ (List.mem_append_right _ (List.mem_append_right _ (List.mem_append_right _ (List.mem_append_left _ h))))))))))))))))))))))))))))))))))))))
theorem kS_30 : ∀ w ∈ wsL_law0_r30, w ∈ BIG := fun _ h => List.mem_append_left _ (List.mem_append_left _ (List.mem_append_left _ (List.mem_append_left _ (List.mem_append_left _ (List.mem_append_left _ (List.mem_append_left _ (List.mem_append_left _ (List.mem_append_left _ (List.mem_append_left _ (List.mem_append_right _ (List.mem_append_right _ (List.mem_append_right _ (List.mem_append_right _ (List.mem_append_right _ (List.mem_append_right _ (List.mem_append_right _ (List.mem_append_right _ (List.mem_append_right _ (List.mem_append_right _ (List.mem_append_right _ (List.mem_append_right _ (List.mem_append_right _ (List.mem_append_right _ (List.mem_append_right _ (List.mem_append_right _ (List.mem_append_right _ (List.mem_append_right _ (List.mem_append_right _ (List.mem_append_right _ (List.mem_append_right _ (List.mem_append_right _ (List.mem_append_right _ (List.mem_append_right _ (List.mem_append_right _ (List.mem_append_right _ (List.mem_append_right _ (List.mem_append_right _ (List.mem_append_right _ (List.mem_append_left _ h)))))))))))))))))))))))))))))))))))))))
theorem kS_31 : ∀ w ∈ wsL_law0_r31, w ∈ BIG := fun _ h => List.mem_append_left _ (List.mem_append_left _ (List.mem_append_left _ (List.mem_append_left _ (List.mem_append_left _ (List.mem_append_left _ (List.mem_append_left _ (List.mem_append_left _ (List.mem_append_left _ (List.mem_append_left _ (List.mem_append_right _ (List.mem_append_right _ (List.mem_append_right _ (List.mem_append_right _ (List.mem_append_right _ (List.mem_append_right _ (List.mem_append_right _ (List.mem_append_right _ (List.mem_append_right _ (List.mem_append_right _ (List.mem_append_right _ (List.mem_append_right _ (List.mem_append_right _ (List.mem_append_right _ (List.mem_append_right _ (List.mem_append_right _ (List.mem_append_right _ (List.mem_append_right _ (List.mem_append_right _ (List.mem_append_right _ (List.mem_append_right _ (List.mem_append_right _ (List.mem_append_right _ (List.mem_append_right _ (List.mem_append_right _ (List.mem_append_right _ (List.mem_append_right _ (List.mem_append_right _ (List.mem_append_right _ (List.mem_append_right _ (List.mem_append_left _ h))))))))))))))))))))))))))))))))))))))))
theorem kS_32 : ∀ w ∈ wsL_law0_r32, w ∈ BIG := fun _ h => List.mem_append_left _ (List.mem_append_left _ (List.mem_append_left _ (List.mem_append_left _ (List.mem_append_left _ (List.mem_append_left _ (List.mem_append_left _ (List.mem_append_left _ (List.mem_append_left _ (List.mem_append_left _ (List.mem_append_right _ (List.mem_append_right _ (List.mem_append_right _ (List.mem_append_right _ (List.mem_append_right _ (List.mem_append_right _ (List.mem_append_right _ (List.mem_append_right _ (List.mem_append_right _ (List.mem_append_right _ (List.mem_append_right _ (List.mem_append_right _ (List.mem_append_right _ (List.mem_append_right _ (List.mem_append_right _ (List.mem_append_right _ (List.mem_append_right _ (List.mem_append_right _ (List.mem_append_right _ (List.mem_append_right _ (List.mem_append_right _ (List.mem_append_right _ (List.mem_append_right _ (List.mem_append_right _ (List.mem_append_right _ (List.mem_append_right _ (List.mem_append_right _ (List.mem_append_right _ (List.mem_append_right _ (List.mem_append_right _ (List.mem_append_right _ (List.mem_append_left _ h)))))))))))))))))))))))))))))))))))))))))
theorem kS_33 : ∀ w ∈ wsL_law0_r33, w ∈ BIG := fun _ h => List.mem_append_left _ (List.mem_append_left _ (List.mem_append_left _ (List.mem_append_left _ (List.mem_append_left _ (List.mem_append_left _ (List.mem_append_left _ (List.mem_append_left _ (List.mem_append_left _ (List.mem_append_left _ (List.mem_append_right _ (List.mem_append_right _ (List.mem_append_right _ (List.mem_append_right _ (List.mem_append_right _ (List.mem_append_right _ (List.mem_append_right _ (List.mem_append_right _ (List.mem_append_right _ (List.mem_append_right _ (List.mem_append_right _ (List.mem_append_right _ (List.mem_append_right _ (List.mem_append_right _ (List.mem_append_right _ (List.mem_append_right _ (List.mem_append_right _ (List.mem_append_right _ (List.mem_append_right _ (List.mem_append_right _ (List.mem_append_right _ (List.mem_append_right _ (List.mem_append_right _ (List.mem_append_right _ (List.mem_append_right _ (List.mem_append_right _ (List.mem_append_right _ (List.mem_append_right _ (List.mem_append_right _ (List.mem_append_right _ (List.mem_append_right _ (List.mem_append_right _ (h))))))))))))))))))))))))))))))))))))))))))
theorem k_1_0 : Cond.classLink RL 8 RX1 ∈ BIG := kS_1 _ (List.mem_of_getElem? (i := 0) rfl)
theorem k_1_1 : Cond.instantiable RX1 6 ∈ BIG := kS_1 _ (List.mem_of_getElem? (i := 1) rfl)
theorem k_1_2 : Cond.initialized RX1 ∈ BIG := kS_1 _ (List.mem_of_getElem? (i := 2) rfl)
theorem k_1_3 : Cond.classLink RL 71 RX2 ∈ BIG := kS_1 _ (List.mem_of_getElem? (i := 3) rfl)
theorem k_1_4 : Cond.instantiable RX2 23 ∈ BIG := kS_1 _ (List.mem_of_getElem? (i := 4) rfl)
theorem k_1_5 : Cond.initialized RX2 ∈ BIG := kS_1 _ (List.mem_of_getElem? (i := 5) rfl)
theorem k_1_6 : Cond.arrayClass .long ∈ BIG := kS_1 _ (List.mem_of_getElem? (i := 6) rfl)
theorem k_1_7 : Cond.methodLink RL 70 yX1_init ∈ BIG := kS_1 _ (List.mem_of_getElem? (i := 7) rfl)
theorem k_1_8 : Cond.instanceMethod yX1_init ∈ BIG := kS_1 _ (List.mem_of_getElem? (i := 8) rfl)
theorem k_1_9 : Cond.code yX1_init cX1_init 1 none ∈ BIG := kS_1 _ (List.mem_of_getElem? (i := 9) rfl)
theorem k_1_10 : Cond.methodLink RX1 1 objectInit ∈ BIG := kS_1 _ (List.mem_of_getElem? (i := 10) rfl)
theorem k_1_11 : Cond.instanceMethod objectInit ∈ BIG := kS_1 _ (List.mem_of_getElem? (i := 11) rfl)
theorem k_1_12 : Cond.code objectInit ⟨#[0xb1]⟩ 1 none ∈ BIG := kS_1 _ (List.mem_of_getElem? (i := 12) rfl)
theorem k_1_13 : Cond.classLink RX1 7 RJx4a65c ∈ BIG := kS_1 _ (List.mem_of_getElem? (i := 13) rfl)
theorem k_1_14 : Cond.instantiable RJx4a65c 3 ∈ BIG := kS_1 _ (List.mem_of_getElem? (i := 14) rfl)
theorem k_1_15 : Cond.initialized RJx4a65c ∈ BIG := kS_1 _ (List.mem_of_getElem? (i := 15) rfl)
theorem k_1_16 : Cond.fieldLink RX1 10 "WellRights" "wells" "Ljava/util/ArrayList;" ∈ BIG := kS_1 _ (List.mem_of_getElem? (i := 16) rfl)
theorem k_1_17 : Cond.arrayClass .int ∈ BIG := kS_1 _ (List.mem_of_getElem? (i := 17) rfl)
theorem k_1_18 : Cond.fieldLink RX1 16 "WellRights" "recharges" "[I" ∈ BIG := kS_1 _ (List.mem_of_getElem? (i := 18) rfl)
theorem k_1_19 : Cond.fieldLink RX1 20 "WellRights" "pondPlaces" "[I" ∈ BIG := kS_1 _ (List.mem_of_getElem? (i := 19) rfl)
theorem k_1_20 : Cond.fieldLink RX1 23 "WellRights" "pondCount" "I" ∈ BIG := kS_1 _ (List.mem_of_getElem? (i := 20) rfl)
theorem k_1_21 : Cond.fieldLink RX1 27 "WellRights" "fund" "I" ∈ BIG := kS_1 _ (List.mem_of_getElem? (i := 21) rfl)
theorem k_1_22 : Cond.fieldLink RX1 30 "WellRights" "years" "I" ∈ BIG := kS_1 _ (List.mem_of_getElem? (i := 22) rfl)
theorem k_1_23 : Cond.methodLink RX1 9 yJx4a65c_init_da8c8 ∈ BIG := kS_1 _ (List.mem_of_getElem? (i := 23) rfl)
theorem k_2_0 : Cond.instanceMethod yJx4a65c_init_da8c8 ∈ BIG := kS_2 _ (List.mem_of_getElem? (i := 0) rfl)
theorem k_2_1 : Cond.code yJx4a65c_init_da8c8 cJx4a65c_init_da8c8 1 none ∈ BIG := kS_2 _ (List.mem_of_getElem? (i := 1) rfl)
theorem k_2_2 : Cond.fieldLink RJx4a65c 39 "java/util/ArrayList" "DEFAULTCAPACITY_EMPTY_ELEMENTDATA" "[Ljava/lang/Object;" ∈ BIG := kS_2 _ (List.mem_of_getElem? (i := 2) rfl)
theorem k_2_3 : Cond.fieldLink RJx4a65c 9 "java/util/ArrayList" "elementData" "[Ljava/lang/Object;" ∈ BIG := kS_2 _ (List.mem_of_getElem? (i := 3) rfl)
theorem k_2_4 : Cond.methodLink RJx4a65c 1 yJxc12de_init_da8c8 ∈ BIG := kS_2 _ (List.mem_of_getElem? (i := 4) rfl)
theorem k_2_5 : Cond.instanceMethod yJxc12de_init_da8c8 ∈ BIG := kS_2 _ (List.mem_of_getElem? (i := 5) rfl)
theorem k_2_6 : Cond.initialized RJxc12de ∈ BIG := kS_2 _ (List.mem_of_getElem? (i := 6) rfl)
theorem k_2_7 : Cond.code yJxc12de_init_da8c8 cJxc12de_init_da8c8 1 none ∈ BIG := kS_2 _ (List.mem_of_getElem? (i := 7) rfl)
theorem k_2_8 : Cond.fieldLink RJxc12de 7 "java/util/AbstractList" "modCount" "I" ∈ BIG := kS_2 _ (List.mem_of_getElem? (i := 8) rfl)
theorem k_2_9 : Cond.methodLink RJxc12de 1 yJxa1e45_init_da8c8 ∈ BIG := kS_2 _ (List.mem_of_getElem? (i := 9) rfl)
theorem k_2_10 : Cond.instanceMethod yJxa1e45_init_da8c8 ∈ BIG := kS_2 _ (List.mem_of_getElem? (i := 10) rfl)
theorem k_2_11 : Cond.initialized RJxa1e45 ∈ BIG := kS_2 _ (List.mem_of_getElem? (i := 11) rfl)
theorem k_2_12 : Cond.code yJxa1e45_init_da8c8 cJxa1e45_init_da8c8 1 none ∈ BIG := kS_2 _ (List.mem_of_getElem? (i := 12) rfl)
theorem k_2_13 : Cond.methodLink RJxa1e45 1 objectInit ∈ BIG := kS_2 _ (List.mem_of_getElem? (i := 13) rfl)
theorem k_2_14 : Cond.methodLink RL 73 yX2_init ∈ BIG := kS_2 _ (List.mem_of_getElem? (i := 14) rfl)
theorem k_2_15 : Cond.instanceMethod yX2_init ∈ BIG := kS_2 _ (List.mem_of_getElem? (i := 15) rfl)
theorem k_2_16 : Cond.code yX2_init cX2_init 1 none ∈ BIG := kS_2 _ (List.mem_of_getElem? (i := 16) rfl)
theorem k_2_17 : Cond.methodLink RX2 1 objectInit ∈ BIG := kS_2 _ (List.mem_of_getElem? (i := 17) rfl)
theorem k_2_18 : Cond.fieldLink RX2 7 "WellRightsModel" "layer" "[I" ∈ BIG := kS_2 _ (List.mem_of_getElem? (i := 18) rfl)
theorem k_2_19 : Cond.fieldLink RX2 13 "WellRightsModel" "place" "[I" ∈ BIG := kS_2 _ (List.mem_of_getElem? (i := 19) rfl)
theorem k_2_20 : Cond.fieldLink RX2 16 "WellRightsModel" "level" "[I" ∈ BIG := kS_2 _ (List.mem_of_getElem? (i := 20) rfl)
theorem k_2_21 : Cond.fieldLink RX2 19 "WellRightsModel" "limit" "[I" ∈ BIG := kS_2 _ (List.mem_of_getElem? (i := 21) rfl)
theorem k_2_22 : Cond.fieldLink RX2 22 "WellRightsModel" "age" "[I" ∈ BIG := kS_2 _ (List.mem_of_getElem? (i := 22) rfl)
theorem k_2_23 : Cond.fieldLink RX2 25 "WellRightsModel" "right" "[I" ∈ BIG := kS_2 _ (List.mem_of_getElem? (i := 23) rfl)
theorem k_3_0 : Cond.fieldLink RX2 28 "WellRightsModel" "plans" "[I" ∈ BIG := kS_3 _ (List.mem_of_getElem? (i := 0) rfl)
theorem k_3_1 : Cond.arrayClass .boolean ∈ BIG := kS_3 _ (List.mem_of_getElem? (i := 1) rfl)
theorem k_3_2 : Cond.fieldLink RX2 31 "WellRightsModel" "fails" "[Z" ∈ BIG := kS_3 _ (List.mem_of_getElem? (i := 2) rfl)
theorem k_3_3 : Cond.fieldLink RX2 35 "WellRightsModel" "power" "[I" ∈ BIG := kS_3 _ (List.mem_of_getElem? (i := 3) rfl)
theorem k_3_4 : Cond.fieldLink RX2 38 "WellRightsModel" "bank" "[I" ∈ BIG := kS_3 _ (List.mem_of_getElem? (i := 4) rfl)
theorem k_3_5 : Cond.fieldLink RX2 41 "WellRightsModel" "fines" "[I" ∈ BIG := kS_3 _ (List.mem_of_getElem? (i := 5) rfl)
theorem k_3_6 : Cond.fieldLink RX2 44 "WellRightsModel" "drew" "[I" ∈ BIG := kS_3 _ (List.mem_of_getElem? (i := 6) rfl)
theorem k_3_7 : Cond.fieldLink RX2 47 "WellRightsModel" "told" "[I" ∈ BIG := kS_3 _ (List.mem_of_getElem? (i := 7) rfl)
theorem k_3_8 : Cond.fieldLink RX2 50 "WellRightsModel" "lent" "[I" ∈ BIG := kS_3 _ (List.mem_of_getElem? (i := 8) rfl)
theorem k_3_9 : Cond.fieldLink RX2 53 "WellRightsModel" "recharge" "[I" ∈ BIG := kS_3 _ (List.mem_of_getElem? (i := 9) rfl)
theorem k_3_10 : Cond.fieldLink RX2 56 "WellRightsModel" "pond" "[I" ∈ BIG := kS_3 _ (List.mem_of_getElem? (i := 10) rfl)
theorem k_3_11 : Cond.fieldLink RX2 59 "WellRightsModel" "stopped" "[Z" ∈ BIG := kS_3 _ (List.mem_of_getElem? (i := 11) rfl)
theorem k_3_12 : Cond.fieldLink RX2 62 "WellRightsModel" "behind" "[I" ∈ BIG := kS_3 _ (List.mem_of_getElem? (i := 12) rfl)
theorem k_3_13 : Cond.methodLink RL 74 yL_addWell ∈ BIG := kS_3 _ (List.mem_of_getElem? (i := 13) rfl)
theorem k_3_14 : Cond.static yL_addWell ∈ BIG := kS_3 _ (List.mem_of_getElem? (i := 14) rfl)
theorem k_3_15 : Cond.initialized RL ∈ BIG := kS_3 _ (List.mem_of_getElem? (i := 15) rfl)
theorem k_3_16 : Cond.codeWith yL_addWell cL_addWell 9 (some .int) [(0, 18, 21, 13), (0, 18, 25, 15), (0, 18, 29, 17)] ∈ BIG := kS_3 _ (List.mem_of_getElem? (i := 16) rfl)
theorem k_3_17 : Cond.classLink RL 13 "java/lang/IndexOutOfBoundsException" ∈ BIG := kS_3 _ (List.mem_of_getElem? (i := 17) rfl)
theorem k_3_18 : Cond.classLink RL 15 "java/lang/IllegalArgumentException" ∈ BIG := kS_3 _ (List.mem_of_getElem? (i := 18) rfl)
theorem k_3_19 : Cond.classLink RL 17 "java/lang/IllegalStateException" ∈ BIG := kS_3 _ (List.mem_of_getElem? (i := 19) rfl)
theorem k_3_20 : Cond.methodLink RL 7 yX1_addWell ∈ BIG := kS_3 _ (List.mem_of_getElem? (i := 20) rfl)
theorem k_3_21 : Cond.instanceMethod yX1_addWell ∈ BIG := kS_3 _ (List.mem_of_getElem? (i := 21) rfl)
theorem k_3_22 : Cond.selects RX1 yX1_addWell yX1_addWell ∈ BIG := kS_3 _ (List.mem_of_getElem? (i := 22) rfl)
theorem k_3_23 : Cond.code yX1_addWell cX1_addWell 8 (some .int) ∈ BIG := kS_3 _ (List.mem_of_getElem? (i := 23) rfl)
theorem k_4_0 : Cond.classLink RX1 45 "java/lang/IllegalStateException" ∈ BIG := kS_4 _ (List.mem_of_getElem? (i := 0) rfl)
theorem k_4_1 : Cond.initialized "java/lang/IllegalStateException" ∈ BIG := kS_4 _ (List.mem_of_getElem? (i := 1) rfl)
theorem k_4_2 : Cond.classLink RX1 52 RX0 ∈ BIG := kS_4 _ (List.mem_of_getElem? (i := 2) rfl)
theorem k_4_3 : Cond.instantiable RX0 16 ∈ BIG := kS_4 _ (List.mem_of_getElem? (i := 3) rfl)
theorem k_4_4 : Cond.initialized RX0 ∈ BIG := kS_4 _ (List.mem_of_getElem? (i := 4) rfl)
theorem k_4_5 : Cond.methodLink RX1 33 yX1_requireLayer ∈ BIG := kS_4 _ (List.mem_of_getElem? (i := 5) rfl)
theorem k_4_6 : Cond.static yX1_requireLayer ∈ BIG := kS_4 _ (List.mem_of_getElem? (i := 6) rfl)
theorem k_4_7 : Cond.code yX1_requireLayer cX1_requireLayer 1 none ∈ BIG := kS_4 _ (List.mem_of_getElem? (i := 7) rfl)
theorem k_4_8 : Cond.classLink RX1 90 "java/lang/IndexOutOfBoundsException" ∈ BIG := kS_4 _ (List.mem_of_getElem? (i := 8) rfl)
theorem k_4_9 : Cond.initialized "java/lang/IndexOutOfBoundsException" ∈ BIG := kS_4 _ (List.mem_of_getElem? (i := 9) rfl)
theorem k_4_10 : Cond.methodLink RX1 37 yX1_requireWithin ∈ BIG := kS_4 _ (List.mem_of_getElem? (i := 10) rfl)
theorem k_4_11 : Cond.static yX1_requireWithin ∈ BIG := kS_4 _ (List.mem_of_getElem? (i := 11) rfl)
theorem k_4_12 : Cond.code yX1_requireWithin cX1_requireWithin 3 none ∈ BIG := kS_4 _ (List.mem_of_getElem? (i := 12) rfl)
theorem k_4_13 : Cond.classLink RX1 168 "java/lang/IllegalArgumentException" ∈ BIG := kS_4 _ (List.mem_of_getElem? (i := 13) rfl)
theorem k_4_14 : Cond.initialized "java/lang/IllegalArgumentException" ∈ BIG := kS_4 _ (List.mem_of_getElem? (i := 14) rfl)
theorem k_4_15 : Cond.methodLink RX1 41 yJx4a65c_size_8abf5 ∈ BIG := kS_4 _ (List.mem_of_getElem? (i := 15) rfl)
theorem k_4_16 : Cond.instanceMethod yJx4a65c_size_8abf5 ∈ BIG := kS_4 _ (List.mem_of_getElem? (i := 16) rfl)
theorem k_4_17 : Cond.selects RJx4a65c yJx4a65c_size_8abf5 yJx4a65c_size_8abf5 ∈ BIG := kS_4 _ (List.mem_of_getElem? (i := 17) rfl)
theorem k_4_18 : Cond.code yJx4a65c_size_8abf5 cJx4a65c_size_8abf5 1 (some .int) ∈ BIG := kS_4 _ (List.mem_of_getElem? (i := 18) rfl)
theorem k_4_19 : Cond.fieldLink RJx4a65c 48 "java/util/ArrayList" "size" "I" ∈ BIG := kS_4 _ (List.mem_of_getElem? (i := 19) rfl)
theorem k_4_20 : Cond.methodLink RX1 54 yX0_init ∈ BIG := kS_4 _ (List.mem_of_getElem? (i := 20) rfl)
theorem k_4_21 : Cond.instanceMethod yX0_init ∈ BIG := kS_4 _ (List.mem_of_getElem? (i := 21) rfl)
theorem k_4_22 : Cond.code yX0_init cX0_init 8 none ∈ BIG := kS_4 _ (List.mem_of_getElem? (i := 22) rfl)
theorem k_4_23 : Cond.methodLink RX0 3 objectInit ∈ BIG := kS_4 _ (List.mem_of_getElem? (i := 23) rfl)
theorem k_5_0 : Cond.fieldLink RX0 9 "WellRights$Well" "number" "I" ∈ BIG := kS_5 _ (List.mem_of_getElem? (i := 0) rfl)
theorem k_5_1 : Cond.fieldLink RX0 15 "WellRights$Well" "layer" "I" ∈ BIG := kS_5 _ (List.mem_of_getElem? (i := 1) rfl)
theorem k_5_2 : Cond.fieldLink RX0 18 "WellRights$Well" "place" "I" ∈ BIG := kS_5 _ (List.mem_of_getElem? (i := 2) rfl)
theorem k_5_3 : Cond.fieldLink RX0 21 "WellRights$Well" "level" "I" ∈ BIG := kS_5 _ (List.mem_of_getElem? (i := 3) rfl)
theorem k_5_4 : Cond.fieldLink RX0 24 "WellRights$Well" "limit" "I" ∈ BIG := kS_5 _ (List.mem_of_getElem? (i := 4) rfl)
theorem k_5_5 : Cond.fieldLink RX0 27 "WellRights$Well" "age" "I" ∈ BIG := kS_5 _ (List.mem_of_getElem? (i := 5) rfl)
theorem k_5_6 : Cond.fieldLink RX0 30 "WellRights$Well" "right" "I" ∈ BIG := kS_5 _ (List.mem_of_getElem? (i := 6) rfl)
theorem k_5_7 : Cond.fieldLink RX0 37 "WellRights$Well" "text" "Ljava/lang/String;" ∈ BIG := kS_5 _ (List.mem_of_getElem? (i := 7) rfl)
theorem k_5_8 : Cond.fieldLink RX0 41 "WellRights$Well" "lentTo" "[I" ∈ BIG := kS_5 _ (List.mem_of_getElem? (i := 8) rfl)
theorem k_5_9 : Cond.fieldLink RX0 45 "WellRights$Well" "meterWorks" "Z" ∈ BIG := kS_5 _ (List.mem_of_getElem? (i := 9) rfl)
theorem k_5_10 : Cond.methodLink RX0 33 yX0_textOf ∈ BIG := kS_5 _ (List.mem_of_getElem? (i := 10) rfl)
theorem k_5_11 : Cond.static yX0_textOf ∈ BIG := kS_5 _ (List.mem_of_getElem? (i := 11) rfl)
theorem k_5_12 : Cond.code yX0_textOf cX0_textOf 4 (some (.object "java/lang/String")) ∈ BIG := kS_5 _ (List.mem_of_getElem? (i := 12) rfl)
theorem k_5_13 : Cond.classLink RX0 49 RJ4 ∈ BIG := kS_5 _ (List.mem_of_getElem? (i := 13) rfl)
theorem k_5_14 : Cond.instantiable RJ4 4 ∈ BIG := kS_5 _ (List.mem_of_getElem? (i := 14) rfl)
theorem k_5_15 : Cond.initialized RJ4 ∈ BIG := kS_5 _ (List.mem_of_getElem? (i := 15) rfl)
theorem k_5_16 : Cond.methodLink RX0 51 yJ4_init_da8c8 ∈ BIG := kS_5 _ (List.mem_of_getElem? (i := 16) rfl)
theorem k_5_17 : Cond.instanceMethod yJ4_init_da8c8 ∈ BIG := kS_5 _ (List.mem_of_getElem? (i := 17) rfl)
theorem k_5_18 : Cond.code yJ4_init_da8c8 cJ4_init_da8c8 1 none ∈ BIG := kS_5 _ (List.mem_of_getElem? (i := 18) rfl)
theorem k_5_19 : Cond.methodLink RJ4 1 yJ5_init_d00df ∈ BIG := kS_5 _ (List.mem_of_getElem? (i := 19) rfl)
theorem k_5_20 : Cond.instanceMethod yJ5_init_d00df ∈ BIG := kS_5 _ (List.mem_of_getElem? (i := 20) rfl)
theorem k_5_21 : Cond.initialized RJ5 ∈ BIG := kS_5 _ (List.mem_of_getElem? (i := 21) rfl)
theorem k_5_22 : Cond.code yJ5_init_d00df cJ5_init_d00df 2 none ∈ BIG := kS_5 _ (List.mem_of_getElem? (i := 22) rfl)
theorem k_5_23 : Cond.methodLink RJ5 3 objectInit ∈ BIG := kS_5 _ (List.mem_of_getElem? (i := 23) rfl)
theorem k_6_0 : Cond.fieldLink RJ5 18 "java/lang/String" "COMPACT_STRINGS" "Z" ∈ BIG := kS_6 _ (List.mem_of_getElem? (i := 0) rfl)
theorem k_6_1 : Cond.arrayClass .byte ∈ BIG := kS_6 _ (List.mem_of_getElem? (i := 1) rfl)
theorem k_6_2 : Cond.fieldLink RJ5 15 "java/lang/AbstractStringBuilder" "value" "[B" ∈ BIG := kS_6 _ (List.mem_of_getElem? (i := 2) rfl)
theorem k_6_3 : Cond.fieldLink RJ5 22 "java/lang/AbstractStringBuilder" "coder" "B" ∈ BIG := kS_6 _ (List.mem_of_getElem? (i := 3) rfl)
theorem k_6_4 : Cond.methodLink RJ5 26 yJ2_newBytesFor_77867 ∈ BIG := kS_6 _ (List.mem_of_getElem? (i := 4) rfl)
theorem k_6_5 : Cond.static yJ2_newBytesFor_77867 ∈ BIG := kS_6 _ (List.mem_of_getElem? (i := 5) rfl)
theorem k_6_6 : Cond.initialized RJ2 ∈ BIG := kS_6 _ (List.mem_of_getElem? (i := 6) rfl)
theorem k_6_7 : Cond.code yJ2_newBytesFor_77867 cJ2_newBytesFor_77867 1 (some (.array .byte)) ∈ BIG := kS_6 _ (List.mem_of_getElem? (i := 7) rfl)
theorem k_6_8 : Cond.methodLink RJ2 11 yJ2_newBytesLength_0f7a4 ∈ BIG := kS_6 _ (List.mem_of_getElem? (i := 8) rfl)
theorem k_6_9 : Cond.static yJ2_newBytesLength_0f7a4 ∈ BIG := kS_6 _ (List.mem_of_getElem? (i := 9) rfl)
theorem k_6_10 : Cond.code yJ2_newBytesLength_0f7a4 cJ2_newBytesLength_0f7a4 1 (some .int) ∈ BIG := kS_6 _ (List.mem_of_getElem? (i := 10) rfl)
theorem k_6_11 : Cond.constant RJ2 20 (1073741823) ∈ BIG := kS_6 _ (List.mem_of_getElem? (i := 11) rfl)
theorem k_6_12 : Cond.methodLink RX0 53 yJ4_append_15ec4 ∈ BIG := kS_6 _ (List.mem_of_getElem? (i := 12) rfl)
theorem k_6_13 : Cond.instanceMethod yJ4_append_15ec4 ∈ BIG := kS_6 _ (List.mem_of_getElem? (i := 13) rfl)
theorem k_6_14 : Cond.selects RJ4 yJ4_append_15ec4 yJ4_append_15ec4 ∈ BIG := kS_6 _ (List.mem_of_getElem? (i := 14) rfl)
theorem k_6_15 : Cond.code yJ4_append_15ec4 cJ4_append_15ec4 2 (some (.object "java/lang/StringBuilder")) ∈ BIG := kS_6 _ (List.mem_of_getElem? (i := 15) rfl)
theorem k_6_16 : Cond.methodLink RJ4 29 yJ5_append_cf1ce ∈ BIG := kS_6 _ (List.mem_of_getElem? (i := 16) rfl)
theorem k_6_17 : Cond.sameMethod "java/lang/AbstractStringBuilder" "java/lang/AbstractStringBuilder" "append" "(Ljava/lang/String;)Ljava/lang/AbstractStringBuilder;" ∈ BIG := kS_6 _ (List.mem_of_getElem? (i := 17) rfl)
theorem k_6_18 : Cond.superclass RJ4 RJ5 ∈ BIG := kS_6 _ (List.mem_of_getElem? (i := 18) rfl)
theorem k_6_19 : Cond.instanceMethod yJ5_append_cf1ce ∈ BIG := kS_6 _ (List.mem_of_getElem? (i := 19) rfl)
theorem k_6_20 : Cond.code yJ5_append_cf1ce cJ5_append_cf1ce 3 (some (.object "java/lang/AbstractStringBuilder")) ∈ BIG := kS_6 _ (List.mem_of_getElem? (i := 20) rfl)
theorem k_6_21 : Cond.fieldLink RJ5 79 "java/lang/AbstractStringBuilder" "count" "I" ∈ BIG := kS_6 _ (List.mem_of_getElem? (i := 21) rfl)
theorem k_6_22 : Cond.methodLink RJ5 204 ⟨"java/lang/AbstractStringBuilder", "appendNull", "()Ljava/lang/AbstractStringBuilder;"⟩ ∈ BIG := kS_6 _ (List.mem_of_getElem? (i := 22) rfl)
theorem k_6_23 : Cond.sameMethod "java/lang/AbstractStringBuilder" "java/lang/AbstractStringBuilder" "appendNull" "()Ljava/lang/AbstractStringBuilder;" ∈ BIG := kS_6 _ (List.mem_of_getElem? (i := 23) rfl)
theorem k_7_0 : Cond.selects RJ4 ⟨"java/lang/AbstractStringBuilder", "appendNull", "()Ljava/lang/AbstractStringBuilder;"⟩ yJ5_appendNull_278bc ∈ BIG := kS_7 _ (List.mem_of_getElem? (i := 0) rfl)
theorem k_7_1 : Cond.instanceMethod yJ5_appendNull_278bc ∈ BIG := kS_7 _ (List.mem_of_getElem? (i := 1) rfl)
theorem k_7_2 : Cond.code yJ5_appendNull_278bc cJ5_appendNull_278bc 3 (some (.object "java/lang/AbstractStringBuilder")) ∈ BIG := kS_7 _ (List.mem_of_getElem? (i := 2) rfl)
theorem k_7_3 : Cond.methodLink RJ5 100 ⟨"java/lang/AbstractStringBuilder", "ensureCapacityInternal", "(I)V"⟩ ∈ BIG := kS_7 _ (List.mem_of_getElem? (i := 3) rfl)
theorem k_7_4 : Cond.sameMethod "java/lang/AbstractStringBuilder" "java/lang/AbstractStringBuilder" "ensureCapacityInternal" "(I)V" ∈ BIG := kS_7 _ (List.mem_of_getElem? (i := 4) rfl)
theorem k_7_5 : Cond.selects RJ4 ⟨"java/lang/AbstractStringBuilder", "ensureCapacityInternal", "(I)V"⟩ yJ5_ensureCapacityInternal_d00df ∈ BIG := kS_7 _ (List.mem_of_getElem? (i := 5) rfl)
theorem k_7_6 : Cond.instanceMethod yJ5_ensureCapacityInternal_d00df ∈ BIG := kS_7 _ (List.mem_of_getElem? (i := 6) rfl)
theorem k_7_7 : Cond.code yJ5_ensureCapacityInternal_d00df cJ5_ensureCapacityInternal_d00df 3 none ∈ BIG := kS_7 _ (List.mem_of_getElem? (i := 7) rfl)
theorem k_7_8 : Cond.methodLink RJ5 104 ⟨"java/lang/AbstractStringBuilder", "newCapacity", "(I)I"⟩ ∈ BIG := kS_7 _ (List.mem_of_getElem? (i := 8) rfl)
theorem k_7_9 : Cond.sameMethod "java/lang/AbstractStringBuilder" "java/lang/AbstractStringBuilder" "newCapacity" "(I)I" ∈ BIG := kS_7 _ (List.mem_of_getElem? (i := 9) rfl)
theorem k_7_10 : Cond.selects RJ4 ⟨"java/lang/AbstractStringBuilder", "newCapacity", "(I)I"⟩ yJ5_newCapacity_0f7a4 ∈ BIG := kS_7 _ (List.mem_of_getElem? (i := 10) rfl)
theorem k_7_11 : Cond.instanceMethod yJ5_newCapacity_0f7a4 ∈ BIG := kS_7 _ (List.mem_of_getElem? (i := 11) rfl)
theorem k_7_12 : Cond.code yJ5_newCapacity_0f7a4 cJ5_newCapacity_0f7a4 6 (some .int) ∈ BIG := kS_7 _ (List.mem_of_getElem? (i := 12) rfl)
theorem k_7_13 : Cond.constant RJ5 39 (2147483647) ∈ BIG := kS_7 _ (List.mem_of_getElem? (i := 13) rfl)
theorem k_7_14 : Cond.methodLink RJ5 114 yJ8_newLength_cabcc ∈ BIG := kS_7 _ (List.mem_of_getElem? (i := 14) rfl)
theorem k_7_15 : Cond.static yJ8_newLength_cabcc ∈ BIG := kS_7 _ (List.mem_of_getElem? (i := 15) rfl)
theorem k_7_16 : Cond.initialized RJ8 ∈ BIG := kS_7 _ (List.mem_of_getElem? (i := 16) rfl)
theorem k_7_17 : Cond.code yJ8_newLength_cabcc cJ8_newLength_cabcc 4 (some .int) ∈ BIG := kS_7 _ (List.mem_of_getElem? (i := 17) rfl)
theorem k_7_18 : Cond.methodLink RJ8 194 Lib.Math.max.name ∈ BIG := kS_7 _ (List.mem_of_getElem? (i := 18) rfl)
theorem k_7_19 : Cond.static Lib.Math.max.name ∈ BIG := kS_7 _ (List.mem_of_getElem? (i := 19) rfl)
theorem k_7_20 : Cond.initialized "java/lang/Math" ∈ BIG := kS_7 _ (List.mem_of_getElem? (i := 20) rfl)
theorem k_7_21 : Cond.code Lib.Math.max.name Lib.Math.max.code 2 (some .int) ∈ BIG := kS_7 _ (List.mem_of_getElem? (i := 21) rfl)
theorem k_7_22 : Cond.constant RJ8 200 (2147483639) ∈ BIG := kS_7 _ (List.mem_of_getElem? (i := 22) rfl)
theorem k_7_23 : Cond.methodLink RJ8 201 yJ8_hugeLength_7cf53 ∈ BIG := kS_7 _ (List.mem_of_getElem? (i := 23) rfl)
theorem k_8_0 : Cond.static yJ8_hugeLength_7cf53 ∈ BIG := kS_8 _ (List.mem_of_getElem? (i := 0) rfl)
theorem k_8_1 : Cond.code yJ8_hugeLength_7cf53 cJ8_hugeLength_7cf53 3 (some .int) ∈ BIG := kS_8 _ (List.mem_of_getElem? (i := 1) rfl)
theorem k_8_2 : Cond.methodLink RJ5 108 yJ7_copyOf_9075b ∈ BIG := kS_8 _ (List.mem_of_getElem? (i := 2) rfl)
theorem k_8_3 : Cond.static yJ7_copyOf_9075b ∈ BIG := kS_8 _ (List.mem_of_getElem? (i := 3) rfl)
theorem k_8_4 : Cond.initialized RJ7 ∈ BIG := kS_8 _ (List.mem_of_getElem? (i := 4) rfl)
theorem k_8_5 : Cond.code yJ7_copyOf_9075b cJ7_copyOf_9075b 3 (some (.array .byte)) ∈ BIG := kS_8 _ (List.mem_of_getElem? (i := 5) rfl)
theorem k_8_6 : Cond.methodLink RJ7 310 ⟨"[B", "clone", "()Ljava/lang/Object;"⟩ ∈ BIG := kS_8 _ (List.mem_of_getElem? (i := 6) rfl)
theorem k_8_7 : Cond.sameMethod "[B" "java/lang/Object" "clone" "()Ljava/lang/Object;" ∈ BIG := kS_8 _ (List.mem_of_getElem? (i := 7) rfl)
theorem k_8_8 : Cond.native ⟨"java/lang/Object", "clone", "()Ljava/lang/Object;"⟩ ∈ BIG := kS_8 _ (List.mem_of_getElem? (i := 8) rfl)
theorem k_8_9 : Cond.instanceMethod ⟨"java/lang/Object", "clone", "()Ljava/lang/Object;"⟩ ∈ BIG := kS_8 _ (List.mem_of_getElem? (i := 9) rfl)
theorem k_8_10 : Cond.selects "[B" ⟨"[B", "clone", "()Ljava/lang/Object;"⟩ ⟨"java/lang/Object", "clone", "()Ljava/lang/Object;"⟩ ∈ BIG := kS_8 _ (List.mem_of_getElem? (i := 10) rfl)
theorem k_8_11 : Cond.classLink RJ7 311 "[B" ∈ BIG := kS_8 _ (List.mem_of_getElem? (i := 11) rfl)
theorem k_8_12 : Cond.methodLink RJ7 304 Lib.Math.min.name ∈ BIG := kS_8 _ (List.mem_of_getElem? (i := 12) rfl)
theorem k_8_13 : Cond.static Lib.Math.min.name ∈ BIG := kS_8 _ (List.mem_of_getElem? (i := 13) rfl)
theorem k_8_14 : Cond.code Lib.Math.min.name Lib.Math.min.code 2 (some .int) ∈ BIG := kS_8 _ (List.mem_of_getElem? (i := 14) rfl)
theorem k_8_15 : Cond.methodLink RJ7 150 arraycopyName ∈ BIG := kS_8 _ (List.mem_of_getElem? (i := 15) rfl)
theorem k_8_16 : Cond.native arraycopyName ∈ BIG := kS_8 _ (List.mem_of_getElem? (i := 16) rfl)
theorem k_8_17 : Cond.static arraycopyName ∈ BIG := kS_8 _ (List.mem_of_getElem? (i := 17) rfl)
theorem k_8_18 : Cond.initialized "java/lang/System" ∈ BIG := kS_8 _ (List.mem_of_getElem? (i := 18) rfl)
theorem k_8_19 : Cond.methodLink RJ5 83 ⟨"java/lang/AbstractStringBuilder", "isLatin1", "()Z"⟩ ∈ BIG := kS_8 _ (List.mem_of_getElem? (i := 19) rfl)
theorem k_8_20 : Cond.sameMethod "java/lang/AbstractStringBuilder" "java/lang/AbstractStringBuilder" "isLatin1" "()Z" ∈ BIG := kS_8 _ (List.mem_of_getElem? (i := 20) rfl)
theorem k_8_21 : Cond.selects RJ4 ⟨"java/lang/AbstractStringBuilder", "isLatin1", "()Z"⟩ yJ5_isLatin1_aae02 ∈ BIG := kS_8 _ (List.mem_of_getElem? (i := 21) rfl)
theorem k_8_22 : Cond.instanceMethod yJ5_isLatin1_aae02 ∈ BIG := kS_8 _ (List.mem_of_getElem? (i := 22) rfl)
theorem k_8_23 : Cond.code yJ5_isLatin1_aae02 cJ5_isLatin1_aae02 1 (some .boolean) ∈ BIG := kS_8 _ (List.mem_of_getElem? (i := 23) rfl)
theorem k_9_0 : Cond.methodLink RJ5 226 yJ2_putCharsAt_cd4e5 ∈ BIG := kS_9 _ (List.mem_of_getElem? (i := 0) rfl)
theorem k_9_1 : Cond.static yJ2_putCharsAt_cd4e5 ∈ BIG := kS_9 _ (List.mem_of_getElem? (i := 1) rfl)
theorem k_9_2 : Cond.code yJ2_putCharsAt_cd4e5 cJ2_putCharsAt_cd4e5 7 (some .int) ∈ BIG := kS_9 _ (List.mem_of_getElem? (i := 2) rfl)
theorem k_9_3 : Cond.fieldLink RJ2 44 "java/lang/StringUTF16" "$assertionsDisabled" "Z" ∈ BIG := kS_9 _ (List.mem_of_getElem? (i := 3) rfl)
theorem k_9_4 : Cond.methodLink RJ2 96 yJ2_checkBoundsBeginEnd_d044e ∈ BIG := kS_9 _ (List.mem_of_getElem? (i := 4) rfl)
theorem k_9_5 : Cond.static yJ2_checkBoundsBeginEnd_d044e ∈ BIG := kS_9 _ (List.mem_of_getElem? (i := 5) rfl)
theorem k_9_6 : Cond.code yJ2_checkBoundsBeginEnd_d044e cJ2_checkBoundsBeginEnd_d044e 3 none ∈ BIG := kS_9 _ (List.mem_of_getElem? (i := 6) rfl)
theorem k_9_7 : Cond.methodLink RJ2 48 yJ2_length_9d52b ∈ BIG := kS_9 _ (List.mem_of_getElem? (i := 7) rfl)
theorem k_9_8 : Cond.static yJ2_length_9d52b ∈ BIG := kS_9 _ (List.mem_of_getElem? (i := 8) rfl)
theorem k_9_9 : Cond.code yJ2_length_9d52b cJ2_length_9d52b 1 (some .int) ∈ BIG := kS_9 _ (List.mem_of_getElem? (i := 9) rfl)
theorem k_9_10 : Cond.methodLink RJ2 241 yJ0_checkBoundsBeginEnd_23922 ∈ BIG := kS_9 _ (List.mem_of_getElem? (i := 10) rfl)
theorem k_9_11 : Cond.static yJ0_checkBoundsBeginEnd_23922 ∈ BIG := kS_9 _ (List.mem_of_getElem? (i := 11) rfl)
theorem k_9_12 : Cond.initialized RJ0 ∈ BIG := kS_9 _ (List.mem_of_getElem? (i := 12) rfl)
theorem k_9_13 : Cond.code yJ0_checkBoundsBeginEnd_23922 cJ0_checkBoundsBeginEnd_23922 3 none ∈ BIG := kS_9 _ (List.mem_of_getElem? (i := 13) rfl)
theorem k_9_14 : Cond.fieldLink RJ0 1053 "jdk/internal/util/Preconditions" "SIOOBE_FORMATTER" "Ljava/util/function/BiFunction;" ∈ BIG := kS_9 _ (List.mem_of_getElem? (i := 14) rfl)
theorem k_9_15 : Cond.methodLink RJ0 1062 yJ3_checkFromToIndex_8c36e ∈ BIG := kS_9 _ (List.mem_of_getElem? (i := 15) rfl)
theorem k_9_16 : Cond.static yJ3_checkFromToIndex_8c36e ∈ BIG := kS_9 _ (List.mem_of_getElem? (i := 16) rfl)
theorem k_9_17 : Cond.initialized RJ3 ∈ BIG := kS_9 _ (List.mem_of_getElem? (i := 17) rfl)
theorem k_9_18 : Cond.code yJ3_checkFromToIndex_8c36e cJ3_checkFromToIndex_8c36e 4 (some .int) ∈ BIG := kS_9 _ (List.mem_of_getElem? (i := 18) rfl)
theorem k_9_19 : Cond.methodLink RJ2 111 yJ2_putChar_b72d1 ∈ BIG := kS_9 _ (List.mem_of_getElem? (i := 19) rfl)
theorem k_9_20 : Cond.static yJ2_putChar_b72d1 ∈ BIG := kS_9 _ (List.mem_of_getElem? (i := 20) rfl)
theorem k_9_21 : Cond.code yJ2_putChar_b72d1 cJ2_putChar_b72d1 3 none ∈ BIG := kS_9 _ (List.mem_of_getElem? (i := 21) rfl)
theorem k_9_22 : Cond.fieldLink RJ2 59 "java/lang/StringUTF16" "HI_BYTE_SHIFT" "I" ∈ BIG := kS_9 _ (List.mem_of_getElem? (i := 22) rfl)
theorem k_9_23 : Cond.fieldLink RJ2 63 "java/lang/StringUTF16" "LO_BYTE_SHIFT" "I" ∈ BIG := kS_9 _ (List.mem_of_getElem? (i := 23) rfl)
theorem k_10_0 : Cond.methodLink RJ5 32 yJ0_length_8abf5 ∈ BIG := kS_10 _ (List.mem_of_getElem? (i := 0) rfl)
theorem k_10_1 : Cond.instanceMethod yJ0_length_8abf5 ∈ BIG := kS_10 _ (List.mem_of_getElem? (i := 1) rfl)
theorem k_10_2 : Cond.selects RJ0 yJ0_length_8abf5 yJ0_length_8abf5 ∈ BIG := kS_10 _ (List.mem_of_getElem? (i := 2) rfl)
theorem k_10_3 : Cond.code yJ0_length_8abf5 cJ0_length_8abf5 1 (some .int) ∈ BIG := kS_10 _ (List.mem_of_getElem? (i := 3) rfl)
theorem k_10_4 : Cond.fieldLink RJ0 9 "java/lang/String" "value" "[B" ∈ BIG := kS_10 _ (List.mem_of_getElem? (i := 4) rfl)
theorem k_10_5 : Cond.methodLink RJ0 335 yJ0_coder_7d493 ∈ BIG := kS_10 _ (List.mem_of_getElem? (i := 5) rfl)
theorem k_10_6 : Cond.instanceMethod yJ0_coder_7d493 ∈ BIG := kS_10 _ (List.mem_of_getElem? (i := 6) rfl)
theorem k_10_7 : Cond.selects RJ0 yJ0_coder_7d493 yJ0_coder_7d493 ∈ BIG := kS_10 _ (List.mem_of_getElem? (i := 7) rfl)
theorem k_10_8 : Cond.code yJ0_coder_7d493 cJ0_coder_7d493 1 (some .byte) ∈ BIG := kS_10 _ (List.mem_of_getElem? (i := 8) rfl)
theorem k_10_9 : Cond.fieldLink RJ0 38 "java/lang/String" "COMPACT_STRINGS" "Z" ∈ BIG := kS_10 _ (List.mem_of_getElem? (i := 9) rfl)
theorem k_10_10 : Cond.fieldLink RJ0 15 "java/lang/String" "coder" "B" ∈ BIG := kS_10 _ (List.mem_of_getElem? (i := 10) rfl)
theorem k_10_11 : Cond.methodLink RJ5 208 ⟨"java/lang/AbstractStringBuilder", "putStringAt", "(ILjava/lang/String;)V"⟩ ∈ BIG := kS_10 _ (List.mem_of_getElem? (i := 11) rfl)
theorem k_10_12 : Cond.sameMethod "java/lang/AbstractStringBuilder" "java/lang/AbstractStringBuilder" "putStringAt" "(ILjava/lang/String;)V" ∈ BIG := kS_10 _ (List.mem_of_getElem? (i := 12) rfl)
theorem k_10_13 : Cond.selects RJ4 ⟨"java/lang/AbstractStringBuilder", "putStringAt", "(ILjava/lang/String;)V"⟩ yJ5_putStringAt_47b60 ∈ BIG := kS_10 _ (List.mem_of_getElem? (i := 13) rfl)
theorem k_10_14 : Cond.instanceMethod yJ5_putStringAt_47b60 ∈ BIG := kS_10 _ (List.mem_of_getElem? (i := 14) rfl)
theorem k_10_15 : Cond.code yJ5_putStringAt_47b60 cJ5_putStringAt_47b60 3 none ∈ BIG := kS_10 _ (List.mem_of_getElem? (i := 15) rfl)
theorem k_10_16 : Cond.methodLink RJ5 397 ⟨"java/lang/AbstractStringBuilder", "inflateIfNeededFor", "(Ljava/lang/String;)V"⟩ ∈ BIG := kS_10 _ (List.mem_of_getElem? (i := 16) rfl)
theorem k_10_17 : Cond.sameMethod "java/lang/AbstractStringBuilder" "java/lang/AbstractStringBuilder" "inflateIfNeededFor" "(Ljava/lang/String;)V" ∈ BIG := kS_10 _ (List.mem_of_getElem? (i := 17) rfl)
theorem k_10_18 : Cond.selects RJ4 ⟨"java/lang/AbstractStringBuilder", "inflateIfNeededFor", "(Ljava/lang/String;)V"⟩ yJ5_inflateIfNeededFor_a7421 ∈ BIG := kS_10 _ (List.mem_of_getElem? (i := 18) rfl)
theorem k_10_19 : Cond.instanceMethod yJ5_inflateIfNeededFor_a7421 ∈ BIG := kS_10 _ (List.mem_of_getElem? (i := 19) rfl)
theorem k_10_20 : Cond.code yJ5_inflateIfNeededFor_a7421 cJ5_inflateIfNeededFor_a7421 2 none ∈ BIG := kS_10 _ (List.mem_of_getElem? (i := 20) rfl)
theorem k_10_21 : Cond.methodLink RJ5 40 yJ0_coder_7d493 ∈ BIG := kS_10 _ (List.mem_of_getElem? (i := 21) rfl)
theorem k_10_22 : Cond.methodLink RJ5 195 ⟨"java/lang/AbstractStringBuilder", "inflate", "()V"⟩ ∈ BIG := kS_10 _ (List.mem_of_getElem? (i := 22) rfl)
theorem k_10_23 : Cond.sameMethod "java/lang/AbstractStringBuilder" "java/lang/AbstractStringBuilder" "inflate" "()V" ∈ BIG := kS_10 _ (List.mem_of_getElem? (i := 23) rfl)
theorem k_11_0 : Cond.selects RJ4 ⟨"java/lang/AbstractStringBuilder", "inflate", "()V"⟩ yJ5_inflate_da8c8 ∈ BIG := kS_11 _ (List.mem_of_getElem? (i := 0) rfl)
theorem k_11_1 : Cond.instanceMethod yJ5_inflate_da8c8 ∈ BIG := kS_11 _ (List.mem_of_getElem? (i := 1) rfl)
theorem k_11_2 : Cond.code yJ5_inflate_da8c8 cJ5_inflate_da8c8 2 none ∈ BIG := kS_11 _ (List.mem_of_getElem? (i := 2) rfl)
theorem k_11_3 : Cond.methodLink RJ5 125 yJ1_inflate_0e8fd ∈ BIG := kS_11 _ (List.mem_of_getElem? (i := 3) rfl)
theorem k_11_4 : Cond.static yJ1_inflate_0e8fd ∈ BIG := kS_11 _ (List.mem_of_getElem? (i := 4) rfl)
theorem k_11_5 : Cond.initialized RJ1 ∈ BIG := kS_11 _ (List.mem_of_getElem? (i := 5) rfl)
theorem k_11_6 : Cond.code yJ1_inflate_0e8fd cJ1_inflate_0e8fd 5 none ∈ BIG := kS_11 _ (List.mem_of_getElem? (i := 6) rfl)
theorem k_11_7 : Cond.methodLink RJ1 240 yJ2_inflate_0e8fd ∈ BIG := kS_11 _ (List.mem_of_getElem? (i := 7) rfl)
theorem k_11_8 : Cond.static yJ2_inflate_0e8fd ∈ BIG := kS_11 _ (List.mem_of_getElem? (i := 8) rfl)
theorem k_11_9 : Cond.code yJ2_inflate_0e8fd cJ2_inflate_0e8fd 6 none ∈ BIG := kS_11 _ (List.mem_of_getElem? (i := 9) rfl)
theorem k_11_10 : Cond.methodLink RJ2 173 yJ2_checkBoundsOffCount_d044e ∈ BIG := kS_11 _ (List.mem_of_getElem? (i := 10) rfl)
theorem k_11_11 : Cond.static yJ2_checkBoundsOffCount_d044e ∈ BIG := kS_11 _ (List.mem_of_getElem? (i := 11) rfl)
theorem k_11_12 : Cond.code yJ2_checkBoundsOffCount_d044e cJ2_checkBoundsOffCount_d044e 3 none ∈ BIG := kS_11 _ (List.mem_of_getElem? (i := 12) rfl)
theorem k_11_13 : Cond.methodLink RJ2 419 yJ0_checkBoundsOffCount_cabcc ∈ BIG := kS_11 _ (List.mem_of_getElem? (i := 13) rfl)
theorem k_11_14 : Cond.static yJ0_checkBoundsOffCount_cabcc ∈ BIG := kS_11 _ (List.mem_of_getElem? (i := 14) rfl)
theorem k_11_15 : Cond.code yJ0_checkBoundsOffCount_cabcc cJ0_checkBoundsOffCount_cabcc 3 (some .int) ∈ BIG := kS_11 _ (List.mem_of_getElem? (i := 15) rfl)
theorem k_11_16 : Cond.methodLink RJ0 1065 yJ3_checkFromIndexSize_8c36e ∈ BIG := kS_11 _ (List.mem_of_getElem? (i := 16) rfl)
theorem k_11_17 : Cond.static yJ3_checkFromIndexSize_8c36e ∈ BIG := kS_11 _ (List.mem_of_getElem? (i := 17) rfl)
theorem k_11_18 : Cond.code yJ3_checkFromIndexSize_8c36e cJ3_checkFromIndexSize_8c36e 4 (some .int) ∈ BIG := kS_11 _ (List.mem_of_getElem? (i := 18) rfl)
theorem k_11_19 : Cond.methodLink RJ5 399 yJ0_getBytes_840e7 ∈ BIG := kS_11 _ (List.mem_of_getElem? (i := 19) rfl)
theorem k_11_20 : Cond.instanceMethod yJ0_getBytes_840e7 ∈ BIG := kS_11 _ (List.mem_of_getElem? (i := 20) rfl)
theorem k_11_21 : Cond.selects RJ0 yJ0_getBytes_840e7 yJ0_getBytes_840e7 ∈ BIG := kS_11 _ (List.mem_of_getElem? (i := 21) rfl)
theorem k_11_22 : Cond.code yJ0_getBytes_840e7 cJ0_getBytes_840e7 4 none ∈ BIG := kS_11 _ (List.mem_of_getElem? (i := 22) rfl)
theorem k_11_23 : Cond.methodLink RJ0 212 arraycopyName ∈ BIG := kS_11 _ (List.mem_of_getElem? (i := 23) rfl)
theorem k_12_0 : Cond.methodLink RJ0 106 yJ1_inflate_0e8fd ∈ BIG := kS_12 _ (List.mem_of_getElem? (i := 0) rfl)
theorem k_12_1 : Cond.methodLink RX0 57 yJ4_append_bf812 ∈ BIG := kS_12 _ (List.mem_of_getElem? (i := 1) rfl)
theorem k_12_2 : Cond.instanceMethod yJ4_append_bf812 ∈ BIG := kS_12 _ (List.mem_of_getElem? (i := 2) rfl)
theorem k_12_3 : Cond.selects RJ4 yJ4_append_bf812 yJ4_append_bf812 ∈ BIG := kS_12 _ (List.mem_of_getElem? (i := 3) rfl)
theorem k_12_4 : Cond.code yJ4_append_bf812 cJ4_append_bf812 2 (some (.object "java/lang/StringBuilder")) ∈ BIG := kS_12 _ (List.mem_of_getElem? (i := 4) rfl)
theorem k_12_5 : Cond.methodLink RJ4 53 yJ5_append_c97b9 ∈ BIG := kS_12 _ (List.mem_of_getElem? (i := 5) rfl)
theorem k_12_6 : Cond.sameMethod "java/lang/AbstractStringBuilder" "java/lang/AbstractStringBuilder" "append" "(I)Ljava/lang/AbstractStringBuilder;" ∈ BIG := kS_12 _ (List.mem_of_getElem? (i := 6) rfl)
theorem k_12_7 : Cond.instanceMethod yJ5_append_c97b9 ∈ BIG := kS_12 _ (List.mem_of_getElem? (i := 7) rfl)
theorem k_12_8 : Cond.code yJ5_append_c97b9 cJ5_append_c97b9 4 (some (.object "java/lang/AbstractStringBuilder")) ∈ BIG := kS_12 _ (List.mem_of_getElem? (i := 8) rfl)
theorem k_12_9 : Cond.methodLink RJ5 245 yJ6_stringSize_0f7a4 ∈ BIG := kS_12 _ (List.mem_of_getElem? (i := 9) rfl)
theorem k_12_10 : Cond.static yJ6_stringSize_0f7a4 ∈ BIG := kS_12 _ (List.mem_of_getElem? (i := 10) rfl)
theorem k_12_11 : Cond.initialized RJ6 ∈ BIG := kS_12 _ (List.mem_of_getElem? (i := 11) rfl)
theorem k_12_12 : Cond.code yJ6_stringSize_0f7a4 cJ6_stringSize_0f7a4 4 (some .int) ∈ BIG := kS_12 _ (List.mem_of_getElem? (i := 12) rfl)
theorem k_12_13 : Cond.methodLink RJ5 248 yJ6_getChars_ba4f3 ∈ BIG := kS_12 _ (List.mem_of_getElem? (i := 13) rfl)
theorem k_12_14 : Cond.static yJ6_getChars_ba4f3 ∈ BIG := kS_12 _ (List.mem_of_getElem? (i := 14) rfl)
theorem k_12_15 : Cond.code yJ6_getChars_ba4f3 cJ6_getChars_ba4f3 7 (some .int) ∈ BIG := kS_12 _ (List.mem_of_getElem? (i := 15) rfl)
theorem k_12_16 : Cond.fieldLink RJ6 83 "java/lang/Integer" "DigitOnes" "[B" ∈ BIG := kS_12 _ (List.mem_of_getElem? (i := 16) rfl)
theorem k_12_17 : Cond.fieldLink RJ6 87 "java/lang/Integer" "DigitTens" "[B" ∈ BIG := kS_12 _ (List.mem_of_getElem? (i := 17) rfl)
theorem k_12_18 : Cond.methodLink RJ5 251 yJ2_getChars_46870 ∈ BIG := kS_12 _ (List.mem_of_getElem? (i := 18) rfl)
theorem k_12_19 : Cond.static yJ2_getChars_46870 ∈ BIG := kS_12 _ (List.mem_of_getElem? (i := 19) rfl)
theorem k_12_20 : Cond.code yJ2_getChars_46870 cJ2_getChars_46870 5 (some .int) ∈ BIG := kS_12 _ (List.mem_of_getElem? (i := 20) rfl)
theorem k_12_21 : Cond.methodLink RJ2 393 yJ2_getChars_ba4f3 ∈ BIG := kS_12 _ (List.mem_of_getElem? (i := 21) rfl)
theorem k_12_22 : Cond.static yJ2_getChars_ba4f3 ∈ BIG := kS_12 _ (List.mem_of_getElem? (i := 22) rfl)
theorem k_12_23 : Cond.code yJ2_getChars_ba4f3 cJ2_getChars_ba4f3 7 (some .int) ∈ BIG := kS_12 _ (List.mem_of_getElem? (i := 23) rfl)
theorem k_13_0 : Cond.fieldLink RJ2 403 "java/lang/Integer" "DigitOnes" "[B" ∈ BIG := kS_13 _ (List.mem_of_getElem? (i := 0) rfl)
theorem k_13_1 : Cond.fieldLink RJ2 407 "java/lang/Integer" "DigitTens" "[B" ∈ BIG := kS_13 _ (List.mem_of_getElem? (i := 1) rfl)
theorem k_13_2 : Cond.methodLink RX0 60 yJ4_append_cf468 ∈ BIG := kS_13 _ (List.mem_of_getElem? (i := 2) rfl)
theorem k_13_3 : Cond.instanceMethod yJ4_append_cf468 ∈ BIG := kS_13 _ (List.mem_of_getElem? (i := 3) rfl)
theorem k_13_4 : Cond.selects RJ4 yJ4_append_cf468 yJ4_append_cf468 ∈ BIG := kS_13 _ (List.mem_of_getElem? (i := 4) rfl)
theorem k_13_5 : Cond.code yJ4_append_cf468 cJ4_append_cf468 2 (some (.object "java/lang/StringBuilder")) ∈ BIG := kS_13 _ (List.mem_of_getElem? (i := 5) rfl)
theorem k_13_6 : Cond.methodLink RJ4 50 yJ5_append_3fe6f ∈ BIG := kS_13 _ (List.mem_of_getElem? (i := 6) rfl)
theorem k_13_7 : Cond.sameMethod "java/lang/AbstractStringBuilder" "java/lang/AbstractStringBuilder" "append" "(C)Ljava/lang/AbstractStringBuilder;" ∈ BIG := kS_13 _ (List.mem_of_getElem? (i := 7) rfl)
theorem k_13_8 : Cond.instanceMethod yJ5_append_3fe6f ∈ BIG := kS_13 _ (List.mem_of_getElem? (i := 8) rfl)
theorem k_13_9 : Cond.code yJ5_append_3fe6f cJ5_append_3fe6f 2 (some (.object "java/lang/AbstractStringBuilder")) ∈ BIG := kS_13 _ (List.mem_of_getElem? (i := 9) rfl)
theorem k_13_10 : Cond.methodLink RJ5 191 yJ1_canEncode_fc78d ∈ BIG := kS_13 _ (List.mem_of_getElem? (i := 10) rfl)
theorem k_13_11 : Cond.static yJ1_canEncode_fc78d ∈ BIG := kS_13 _ (List.mem_of_getElem? (i := 11) rfl)
theorem k_13_12 : Cond.code yJ1_canEncode_fc78d cJ1_canEncode_fc78d 1 (some .boolean) ∈ BIG := kS_13 _ (List.mem_of_getElem? (i := 12) rfl)
theorem k_13_13 : Cond.methodLink RJ5 197 yJ2_putCharSB_b72d1 ∈ BIG := kS_13 _ (List.mem_of_getElem? (i := 13) rfl)
theorem k_13_14 : Cond.static yJ2_putCharSB_b72d1 ∈ BIG := kS_13 _ (List.mem_of_getElem? (i := 14) rfl)
theorem k_13_15 : Cond.code yJ2_putCharSB_b72d1 cJ2_putCharSB_b72d1 3 none ∈ BIG := kS_13 _ (List.mem_of_getElem? (i := 15) rfl)
theorem k_13_16 : Cond.methodLink RJ2 67 yJ2_checkIndex_2214a ∈ BIG := kS_13 _ (List.mem_of_getElem? (i := 16) rfl)
theorem k_13_17 : Cond.static yJ2_checkIndex_2214a ∈ BIG := kS_13 _ (List.mem_of_getElem? (i := 17) rfl)
theorem k_13_18 : Cond.code yJ2_checkIndex_2214a cJ2_checkIndex_2214a 2 none ∈ BIG := kS_13 _ (List.mem_of_getElem? (i := 18) rfl)
theorem k_13_19 : Cond.methodLink RJ2 414 yJ0_checkIndex_df160 ∈ BIG := kS_13 _ (List.mem_of_getElem? (i := 19) rfl)
theorem k_13_20 : Cond.static yJ0_checkIndex_df160 ∈ BIG := kS_13 _ (List.mem_of_getElem? (i := 20) rfl)
theorem k_13_21 : Cond.code yJ0_checkIndex_df160 cJ0_checkIndex_df160 2 none ∈ BIG := kS_13 _ (List.mem_of_getElem? (i := 21) rfl)
theorem k_13_22 : Cond.methodLink RJ0 1059 yJ3_checkIndex_8e157 ∈ BIG := kS_13 _ (List.mem_of_getElem? (i := 22) rfl)
theorem k_13_23 : Cond.static yJ3_checkIndex_8e157 ∈ BIG := kS_13 _ (List.mem_of_getElem? (i := 23) rfl)
theorem k_14_0 : Cond.code yJ3_checkIndex_8e157 cJ3_checkIndex_8e157 3 (some .int) ∈ BIG := kS_14 _ (List.mem_of_getElem? (i := 0) rfl)
theorem k_14_1 : Cond.methodLink RX0 63 yJ4_toString_0e30d ∈ BIG := kS_14 _ (List.mem_of_getElem? (i := 1) rfl)
theorem k_14_2 : Cond.instanceMethod yJ4_toString_0e30d ∈ BIG := kS_14 _ (List.mem_of_getElem? (i := 2) rfl)
theorem k_14_3 : Cond.selects RJ4 yJ4_toString_0e30d yJ4_toString_0e30d ∈ BIG := kS_14 _ (List.mem_of_getElem? (i := 3) rfl)
theorem k_14_4 : Cond.code yJ4_toString_0e30d cJ4_toString_0e30d 1 (some (.object "java/lang/String")) ∈ BIG := kS_14 _ (List.mem_of_getElem? (i := 4) rfl)
theorem k_14_5 : Cond.classLink RJ4 18 RJ0 ∈ BIG := kS_14 _ (List.mem_of_getElem? (i := 5) rfl)
theorem k_14_6 : Cond.instantiable RJ0 4 ∈ BIG := kS_14 _ (List.mem_of_getElem? (i := 6) rfl)
theorem k_14_7 : Cond.methodLink RJ4 137 yJ0_init_81219 ∈ BIG := kS_14 _ (List.mem_of_getElem? (i := 7) rfl)
theorem k_14_8 : Cond.instanceMethod yJ0_init_81219 ∈ BIG := kS_14 _ (List.mem_of_getElem? (i := 8) rfl)
theorem k_14_9 : Cond.code yJ0_init_81219 cJ0_init_81219 2 none ∈ BIG := kS_14 _ (List.mem_of_getElem? (i := 9) rfl)
theorem k_14_10 : Cond.methodLink RJ0 489 yJ0_init_db425 ∈ BIG := kS_14 _ (List.mem_of_getElem? (i := 10) rfl)
theorem k_14_11 : Cond.instanceMethod yJ0_init_db425 ∈ BIG := kS_14 _ (List.mem_of_getElem? (i := 11) rfl)
theorem k_14_12 : Cond.code yJ0_init_db425 cJ0_init_db425 5 none ∈ BIG := kS_14 _ (List.mem_of_getElem? (i := 12) rfl)
theorem k_14_13 : Cond.methodLink RJ0 1 objectInit ∈ BIG := kS_14 _ (List.mem_of_getElem? (i := 13) rfl)
theorem k_14_14 : Cond.fieldLink RJ0 1048 "java/lang/AbstractStringBuilder" "maybeLatin1" "Z" ∈ BIG := kS_14 _ (List.mem_of_getElem? (i := 14) rfl)
theorem k_14_15 : Cond.methodLink RJ0 552 ⟨"java/lang/AbstractStringBuilder", "getValue", "()[B"⟩ ∈ BIG := kS_14 _ (List.mem_of_getElem? (i := 15) rfl)
theorem k_14_16 : Cond.sameMethod "java/lang/AbstractStringBuilder" "java/lang/AbstractStringBuilder" "getValue" "()[B" ∈ BIG := kS_14 _ (List.mem_of_getElem? (i := 16) rfl)
theorem k_14_17 : Cond.selects RJ4 ⟨"java/lang/AbstractStringBuilder", "getValue", "()[B"⟩ yJ5_getValue_6d5f1 ∈ BIG := kS_14 _ (List.mem_of_getElem? (i := 17) rfl)
theorem k_14_18 : Cond.instanceMethod yJ5_getValue_6d5f1 ∈ BIG := kS_14 _ (List.mem_of_getElem? (i := 18) rfl)
theorem k_14_19 : Cond.code yJ5_getValue_6d5f1 cJ5_getValue_6d5f1 1 (some (.array .byte)) ∈ BIG := kS_14 _ (List.mem_of_getElem? (i := 19) rfl)
theorem k_14_20 : Cond.methodLink RJ0 549 ⟨"java/lang/AbstractStringBuilder", "length", "()I"⟩ ∈ BIG := kS_14 _ (List.mem_of_getElem? (i := 20) rfl)
theorem k_14_21 : Cond.sameMethod "java/lang/AbstractStringBuilder" "java/lang/AbstractStringBuilder" "length" "()I" ∈ BIG := kS_14 _ (List.mem_of_getElem? (i := 21) rfl)
theorem k_14_22 : Cond.instanceMethod ⟨"java/lang/AbstractStringBuilder", "length", "()I"⟩ ∈ BIG := kS_14 _ (List.mem_of_getElem? (i := 22) rfl)
theorem k_14_23 : Cond.selects RJ4 ⟨"java/lang/AbstractStringBuilder", "length", "()I"⟩ yJ4_length_8abf5 ∈ BIG := kS_14 _ (List.mem_of_getElem? (i := 23) rfl)
theorem k_15_0 : Cond.instanceMethod yJ4_length_8abf5 ∈ BIG := kS_15 _ (List.mem_of_getElem? (i := 0) rfl)
theorem k_15_1 : Cond.code yJ4_length_8abf5 cJ4_length_8abf5 1 (some .int) ∈ BIG := kS_15 _ (List.mem_of_getElem? (i := 1) rfl)
theorem k_15_2 : Cond.methodLink RJ4 343 yJ5_length_8abf5 ∈ BIG := kS_15 _ (List.mem_of_getElem? (i := 2) rfl)
theorem k_15_3 : Cond.instanceMethod yJ5_length_8abf5 ∈ BIG := kS_15 _ (List.mem_of_getElem? (i := 3) rfl)
theorem k_15_4 : Cond.code yJ5_length_8abf5 cJ5_length_8abf5 1 (some .int) ∈ BIG := kS_15 _ (List.mem_of_getElem? (i := 4) rfl)
theorem k_15_5 : Cond.methodLink RJ0 1047 ⟨"java/lang/AbstractStringBuilder", "isLatin1", "()Z"⟩ ∈ BIG := kS_15 _ (List.mem_of_getElem? (i := 5) rfl)
theorem k_15_6 : Cond.methodLink RJ0 54 yJ7_copyOfRange_39247 ∈ BIG := kS_15 _ (List.mem_of_getElem? (i := 6) rfl)
theorem k_15_7 : Cond.static yJ7_copyOfRange_39247 ∈ BIG := kS_15 _ (List.mem_of_getElem? (i := 7) rfl)
theorem k_15_8 : Cond.code yJ7_copyOfRange_39247 cJ7_copyOfRange_39247 3 (some (.array .byte)) ∈ BIG := kS_15 _ (List.mem_of_getElem? (i := 8) rfl)
theorem k_15_9 : Cond.methodLink RJ7 339 yJ7_copyOfRangeByte_39247 ∈ BIG := kS_15 _ (List.mem_of_getElem? (i := 9) rfl)
theorem k_15_10 : Cond.static yJ7_copyOfRangeByte_39247 ∈ BIG := kS_15 _ (List.mem_of_getElem? (i := 10) rfl)
theorem k_15_11 : Cond.code yJ7_copyOfRangeByte_39247 cJ7_copyOfRangeByte_39247 5 (some (.array .byte)) ∈ BIG := kS_15 _ (List.mem_of_getElem? (i := 11) rfl)
theorem k_15_12 : Cond.methodLink RJ7 343 yJ7_checkLength_df160 ∈ BIG := kS_15 _ (List.mem_of_getElem? (i := 12) rfl)
theorem k_15_13 : Cond.static yJ7_checkLength_df160 ∈ BIG := kS_15 _ (List.mem_of_getElem? (i := 13) rfl)
theorem k_15_14 : Cond.code yJ7_checkLength_df160 cJ7_checkLength_df160 2 none ∈ BIG := kS_15 _ (List.mem_of_getElem? (i := 14) rfl)
theorem k_15_15 : Cond.classLink RJ7 45 RJ4 ∈ BIG := kS_15 _ (List.mem_of_getElem? (i := 15) rfl)
theorem k_15_16 : Cond.methodLink RJ0 1051 yJ2_compress_39247 ∈ BIG := kS_15 _ (List.mem_of_getElem? (i := 16) rfl)
theorem k_15_17 : Cond.static yJ2_compress_39247 ∈ BIG := kS_15 _ (List.mem_of_getElem? (i := 17) rfl)
theorem k_15_18 : Cond.code yJ2_compress_39247 cJ2_compress_39247 6 (some (.array .byte)) ∈ BIG := kS_15 _ (List.mem_of_getElem? (i := 18) rfl)
theorem k_15_19 : Cond.methodLink RJ2 123 yJ2_compress_5af95 ∈ BIG := kS_15 _ (List.mem_of_getElem? (i := 19) rfl)
theorem k_15_20 : Cond.static yJ2_compress_5af95 ∈ BIG := kS_15 _ (List.mem_of_getElem? (i := 20) rfl)
theorem k_15_21 : Cond.code yJ2_compress_5af95 cJ2_compress_5af95 7 (some .int) ∈ BIG := kS_15 _ (List.mem_of_getElem? (i := 21) rfl)
theorem k_15_22 : Cond.methodLink RJ2 71 yJ2_getChar_3b067 ∈ BIG := kS_15 _ (List.mem_of_getElem? (i := 22) rfl)
theorem k_15_23 : Cond.static yJ2_getChar_3b067 ∈ BIG := kS_15 _ (List.mem_of_getElem? (i := 23) rfl)
theorem k_16_0 : Cond.code yJ2_getChar_3b067 cJ2_getChar_3b067 2 (some .char) ∈ BIG := kS_16 _ (List.mem_of_getElem? (i := 0) rfl)
theorem k_16_1 : Cond.methodLink RJ2 126 yJ7_copyOfRange_39247 ∈ BIG := kS_16 _ (List.mem_of_getElem? (i := 1) rfl)
theorem k_16_2 : Cond.methodLink RJ0 47 yJ2_coderFromArrayLen_85cad ∈ BIG := kS_16 _ (List.mem_of_getElem? (i := 2) rfl)
theorem k_16_3 : Cond.static yJ2_coderFromArrayLen_85cad ∈ BIG := kS_16 _ (List.mem_of_getElem? (i := 3) rfl)
theorem k_16_4 : Cond.code yJ2_coderFromArrayLen_85cad cJ2_coderFromArrayLen_85cad 2 (some .byte) ∈ BIG := kS_16 _ (List.mem_of_getElem? (i := 4) rfl)
theorem k_16_5 : Cond.methodLink RX1 57 yJx4a65c_add_9ea2d ∈ BIG := kS_16 _ (List.mem_of_getElem? (i := 5) rfl)
theorem k_16_6 : Cond.instanceMethod yJx4a65c_add_9ea2d ∈ BIG := kS_16 _ (List.mem_of_getElem? (i := 6) rfl)
theorem k_16_7 : Cond.selects RJx4a65c yJx4a65c_add_9ea2d yJx4a65c_add_9ea2d ∈ BIG := kS_16 _ (List.mem_of_getElem? (i := 7) rfl)
theorem k_16_8 : Cond.code yJx4a65c_add_9ea2d cJx4a65c_add_9ea2d 2 (some .boolean) ∈ BIG := kS_16 _ (List.mem_of_getElem? (i := 8) rfl)
theorem k_16_9 : Cond.fieldLink RJx4a65c 63 "java/util/ArrayList" "modCount" "I" ∈ BIG := kS_16 _ (List.mem_of_getElem? (i := 9) rfl)
theorem k_16_10 : Cond.sameField "java/util/ArrayList" "java/util/AbstractList" "modCount" "I" ∈ BIG := kS_16 _ (List.mem_of_getElem? (i := 10) rfl)
theorem k_16_11 : Cond.methodLink RJx4a65c 131 yJx4a65c_add_72be8 ∈ BIG := kS_16 _ (List.mem_of_getElem? (i := 11) rfl)
theorem k_16_12 : Cond.instanceMethod yJx4a65c_add_72be8 ∈ BIG := kS_16 _ (List.mem_of_getElem? (i := 12) rfl)
theorem k_16_13 : Cond.selects RJx4a65c yJx4a65c_add_72be8 yJx4a65c_add_72be8 ∈ BIG := kS_16 _ (List.mem_of_getElem? (i := 13) rfl)
theorem k_16_14 : Cond.code yJx4a65c_add_72be8 cJx4a65c_add_72be8 4 none ∈ BIG := kS_16 _ (List.mem_of_getElem? (i := 14) rfl)
theorem k_16_15 : Cond.methodLink RJx4a65c 129 yJx4a65c_grow_d5877 ∈ BIG := kS_16 _ (List.mem_of_getElem? (i := 15) rfl)
theorem k_16_16 : Cond.instanceMethod yJx4a65c_grow_d5877 ∈ BIG := kS_16 _ (List.mem_of_getElem? (i := 16) rfl)
theorem k_16_17 : Cond.selects RJx4a65c yJx4a65c_grow_d5877 yJx4a65c_grow_d5877 ∈ BIG := kS_16 _ (List.mem_of_getElem? (i := 17) rfl)
theorem k_16_18 : Cond.code yJx4a65c_grow_d5877 cJx4a65c_grow_d5877 1 (some (.array (.object "java/lang/Object"))) ∈ BIG := kS_16 _ (List.mem_of_getElem? (i := 18) rfl)
theorem k_16_19 : Cond.methodLink RJx4a65c 69 yJx4a65c_grow_92f84 ∈ BIG := kS_16 _ (List.mem_of_getElem? (i := 19) rfl)
theorem k_16_20 : Cond.instanceMethod yJx4a65c_grow_92f84 ∈ BIG := kS_16 _ (List.mem_of_getElem? (i := 20) rfl)
theorem k_16_21 : Cond.selects RJx4a65c yJx4a65c_grow_92f84 yJx4a65c_grow_92f84 ∈ BIG := kS_16 _ (List.mem_of_getElem? (i := 21) rfl)
theorem k_16_22 : Cond.code yJx4a65c_grow_92f84 cJx4a65c_grow_92f84 4 (some (.array (.object "java/lang/Object"))) ∈ BIG := kS_16 _ (List.mem_of_getElem? (i := 22) rfl)
theorem k_16_23 : Cond.methodLink RJx4a65c 79 Lib.Math.max.name ∈ BIG := kS_16 _ (List.mem_of_getElem? (i := 23) rfl)
theorem k_17_0 : Cond.classLink RJx4a65c 7 "java/lang/Object" ∈ BIG := kS_17 _ (List.mem_of_getElem? (i := 0) rfl)
theorem k_17_1 : Cond.methodLink RJx4a65c 73 yJ8_newLength_cabcc ∈ BIG := kS_17 _ (List.mem_of_getElem? (i := 1) rfl)
theorem k_17_2 : Cond.methodLink RJx4a65c 66 yJ7_copyOf_1904c ∈ BIG := kS_17 _ (List.mem_of_getElem? (i := 2) rfl)
theorem k_17_3 : Cond.static yJ7_copyOf_1904c ∈ BIG := kS_17 _ (List.mem_of_getElem? (i := 3) rfl)
theorem k_17_4 : Cond.code yJ7_copyOf_1904c cJ7_copyOf_1904c 2 (some (.array (.object "java/lang/Object"))) ∈ BIG := kS_17 _ (List.mem_of_getElem? (i := 4) rfl)
theorem k_17_5 : Cond.methodLink RJ7 86 ⟨"java/lang/Object", "getClass", "()Ljava/lang/Class;"⟩ ∈ BIG := kS_17 _ (List.mem_of_getElem? (i := 5) rfl)
theorem k_17_6 : Cond.selects "[Ljava/lang/Object;" ⟨"java/lang/Object", "getClass", "()Ljava/lang/Class;"⟩ ⟨"java/lang/Object", "getClass", "()Ljava/lang/Class;"⟩ ∈ BIG := kS_17 _ (List.mem_of_getElem? (i := 6) rfl)
theorem k_17_7 : Cond.instanceMethod ⟨"java/lang/Object", "getClass", "()Ljava/lang/Class;"⟩ ∈ BIG := kS_17 _ (List.mem_of_getElem? (i := 7) rfl)
theorem k_17_8 : Cond.native ⟨"java/lang/Object", "getClass", "()Ljava/lang/Class;"⟩ ∈ BIG := kS_17 _ (List.mem_of_getElem? (i := 8) rfl)
theorem k_17_9 : Cond.methodLink RJ7 300 yJ7_copyOf_6403c ∈ BIG := kS_17 _ (List.mem_of_getElem? (i := 9) rfl)
theorem k_17_10 : Cond.static yJ7_copyOf_6403c ∈ BIG := kS_17 _ (List.mem_of_getElem? (i := 10) rfl)
theorem k_17_11 : Cond.code yJ7_copyOf_6403c cJ7_copyOf_6403c 4 (some (.array (.object "java/lang/Object"))) ∈ BIG := kS_17 _ (List.mem_of_getElem? (i := 11) rfl)
theorem k_17_12 : Cond.classLink RJ7 110 "[Ljava/lang/Object;" ∈ BIG := kS_17 _ (List.mem_of_getElem? (i := 12) rfl)
theorem k_17_13 : Cond.classLink RJ7 2 "java/lang/Object" ∈ BIG := kS_17 _ (List.mem_of_getElem? (i := 13) rfl)
theorem k_17_14 : Cond.methodLink RL 79 yX2_addWell ∈ BIG := kS_17 _ (List.mem_of_getElem? (i := 14) rfl)
theorem k_17_15 : Cond.instanceMethod yX2_addWell ∈ BIG := kS_17 _ (List.mem_of_getElem? (i := 15) rfl)
theorem k_17_16 : Cond.selects RX2 yX2_addWell yX2_addWell ∈ BIG := kS_17 _ (List.mem_of_getElem? (i := 16) rfl)
theorem k_17_17 : Cond.code yX2_addWell cX2_addWell 7 (some .int) ∈ BIG := kS_17 _ (List.mem_of_getElem? (i := 17) rfl)
theorem k_17_18 : Cond.fieldLink RX2 65 "WellRightsModel" "thrown" "I" ∈ BIG := kS_17 _ (List.mem_of_getElem? (i := 18) rfl)
theorem k_17_19 : Cond.fieldLink RX2 69 "WellRightsModel" "wells" "I" ∈ BIG := kS_17 _ (List.mem_of_getElem? (i := 19) rfl)
theorem k_17_20 : Cond.methodLink RX2 72 yX2_in ∈ BIG := kS_17 _ (List.mem_of_getElem? (i := 20) rfl)
theorem k_17_21 : Cond.static yX2_in ∈ BIG := kS_17 _ (List.mem_of_getElem? (i := 21) rfl)
theorem k_17_22 : Cond.code yX2_in cX2_in 3 (some .boolean) ∈ BIG := kS_17 _ (List.mem_of_getElem? (i := 22) rfl)
theorem k_17_23 : Cond.methodLink RX2 80 yX2_refuses ∈ BIG := kS_17 _ (List.mem_of_getElem? (i := 23) rfl)
theorem k_18_0 : Cond.instanceMethod yX2_refuses ∈ BIG := kS_18 _ (List.mem_of_getElem? (i := 0) rfl)
theorem k_18_1 : Cond.selects RX2 yX2_refuses yX2_refuses ∈ BIG := kS_18 _ (List.mem_of_getElem? (i := 1) rfl)
theorem k_18_2 : Cond.code yX2_refuses cX2_refuses 2 (some .int) ∈ BIG := kS_18 _ (List.mem_of_getElem? (i := 2) rfl)
theorem k_18_3 : Cond.methodLink RL 80 yX2_thrown ∈ BIG := kS_18 _ (List.mem_of_getElem? (i := 3) rfl)
theorem k_18_4 : Cond.instanceMethod yX2_thrown ∈ BIG := kS_18 _ (List.mem_of_getElem? (i := 4) rfl)
theorem k_18_5 : Cond.selects RX2 yX2_thrown yX2_thrown ∈ BIG := kS_18 _ (List.mem_of_getElem? (i := 5) rfl)
theorem k_18_6 : Cond.code yX2_thrown cX2_thrown 1 (some .int) ∈ BIG := kS_18 _ (List.mem_of_getElem? (i := 6) rfl)
theorem k_18_7 : Cond.methodLink RL 83 yL_plan ∈ BIG := kS_18 _ (List.mem_of_getElem? (i := 7) rfl)
theorem k_18_8 : Cond.static yL_plan ∈ BIG := kS_18 _ (List.mem_of_getElem? (i := 8) rfl)
theorem k_18_9 : Cond.codeWith yL_plan cL_plan 5 (some .int) [(0, 10, 13, 13), (0, 10, 17, 15)] ∈ BIG := kS_18 _ (List.mem_of_getElem? (i := 9) rfl)
theorem k_18_10 : Cond.methodLink RL 19 yX1_plan ∈ BIG := kS_18 _ (List.mem_of_getElem? (i := 10) rfl)
theorem k_18_11 : Cond.instanceMethod yX1_plan ∈ BIG := kS_18 _ (List.mem_of_getElem? (i := 11) rfl)
theorem k_18_12 : Cond.selects RX1 yX1_plan yX1_plan ∈ BIG := kS_18 _ (List.mem_of_getElem? (i := 12) rfl)
theorem k_18_13 : Cond.code yX1_plan cX1_plan 5 (some .int) ∈ BIG := kS_18 _ (List.mem_of_getElem? (i := 13) rfl)
theorem k_18_14 : Cond.fieldLink RX1 65 "WellRights$Well" "planned" "I" ∈ BIG := kS_18 _ (List.mem_of_getElem? (i := 14) rfl)
theorem k_18_15 : Cond.methodLink RX1 61 yX1_wellAt ∈ BIG := kS_18 _ (List.mem_of_getElem? (i := 15) rfl)
theorem k_18_16 : Cond.instanceMethod yX1_wellAt ∈ BIG := kS_18 _ (List.mem_of_getElem? (i := 16) rfl)
theorem k_18_17 : Cond.selects RX1 yX1_wellAt yX1_wellAt ∈ BIG := kS_18 _ (List.mem_of_getElem? (i := 17) rfl)
theorem k_18_18 : Cond.code yX1_wellAt cX1_wellAt 2 (some (.object "WellRights$Well")) ∈ BIG := kS_18 _ (List.mem_of_getElem? (i := 18) rfl)
theorem k_18_19 : Cond.classLink RX1 52 "WellRights$Well" ∈ BIG := kS_18 _ (List.mem_of_getElem? (i := 19) rfl)
theorem k_18_20 : Cond.methodLink RX1 162 yJx4a65c_get_915e3 ∈ BIG := kS_18 _ (List.mem_of_getElem? (i := 20) rfl)
theorem k_18_21 : Cond.instanceMethod yJx4a65c_get_915e3 ∈ BIG := kS_18 _ (List.mem_of_getElem? (i := 21) rfl)
theorem k_18_22 : Cond.selects RJx4a65c yJx4a65c_get_915e3 yJx4a65c_get_915e3 ∈ BIG := kS_18 _ (List.mem_of_getElem? (i := 22) rfl)
theorem k_18_23 : Cond.code yJx4a65c_get_915e3 cJx4a65c_get_915e3 2 (some (.object "java/lang/Object")) ∈ BIG := kS_18 _ (List.mem_of_getElem? (i := 23) rfl)
theorem k_19_0 : Cond.methodLink RJx4a65c 118 yJ15_checkIndex_7cf53 ∈ BIG := kS_19 _ (List.mem_of_getElem? (i := 0) rfl)
theorem k_19_1 : Cond.static yJ15_checkIndex_7cf53 ∈ BIG := kS_19 _ (List.mem_of_getElem? (i := 1) rfl)
theorem k_19_2 : Cond.initialized RJ15 ∈ BIG := kS_19 _ (List.mem_of_getElem? (i := 2) rfl)
theorem k_19_3 : Cond.code yJ15_checkIndex_7cf53 cJ15_checkIndex_7cf53 2 (some .int) ∈ BIG := kS_19 _ (List.mem_of_getElem? (i := 3) rfl)
theorem k_19_4 : Cond.methodLink RJ15 105 yJ3_checkIndex_8e157 ∈ BIG := kS_19 _ (List.mem_of_getElem? (i := 4) rfl)
theorem k_19_5 : Cond.methodLink RJx4a65c 123 yJx4a65c_elementData_915e3 ∈ BIG := kS_19 _ (List.mem_of_getElem? (i := 5) rfl)
theorem k_19_6 : Cond.instanceMethod yJx4a65c_elementData_915e3 ∈ BIG := kS_19 _ (List.mem_of_getElem? (i := 6) rfl)
theorem k_19_7 : Cond.selects RJx4a65c yJx4a65c_elementData_915e3 yJx4a65c_elementData_915e3 ∈ BIG := kS_19 _ (List.mem_of_getElem? (i := 7) rfl)
theorem k_19_8 : Cond.code yJx4a65c_elementData_915e3 cJx4a65c_elementData_915e3 2 (some (.object "java/lang/Object")) ∈ BIG := kS_19 _ (List.mem_of_getElem? (i := 8) rfl)
theorem k_19_9 : Cond.methodLink RL 86 yX2_plan ∈ BIG := kS_19 _ (List.mem_of_getElem? (i := 9) rfl)
theorem k_19_10 : Cond.instanceMethod yX2_plan ∈ BIG := kS_19 _ (List.mem_of_getElem? (i := 10) rfl)
theorem k_19_11 : Cond.selects RX2 yX2_plan yX2_plan ∈ BIG := kS_19 _ (List.mem_of_getElem? (i := 11) rfl)
theorem k_19_12 : Cond.code yX2_plan cX2_plan 4 (some .int) ∈ BIG := kS_19 _ (List.mem_of_getElem? (i := 12) rfl)
theorem k_19_13 : Cond.methodLink RX2 84 yX2_isAsked ∈ BIG := kS_19 _ (List.mem_of_getElem? (i := 13) rfl)
theorem k_19_14 : Cond.instanceMethod yX2_isAsked ∈ BIG := kS_19 _ (List.mem_of_getElem? (i := 14) rfl)
theorem k_19_15 : Cond.selects RX2 yX2_isAsked yX2_isAsked ∈ BIG := kS_19 _ (List.mem_of_getElem? (i := 15) rfl)
theorem k_19_16 : Cond.code yX2_isAsked cX2_isAsked 2 (some .boolean) ∈ BIG := kS_19 _ (List.mem_of_getElem? (i := 16) rfl)
theorem k_19_17 : Cond.methodLink RX2 76 yX2_isWell ∈ BIG := kS_19 _ (List.mem_of_getElem? (i := 17) rfl)
theorem k_19_18 : Cond.instanceMethod yX2_isWell ∈ BIG := kS_19 _ (List.mem_of_getElem? (i := 18) rfl)
theorem k_19_19 : Cond.selects RX2 yX2_isWell yX2_isWell ∈ BIG := kS_19 _ (List.mem_of_getElem? (i := 19) rfl)
theorem k_19_20 : Cond.code yX2_isWell cX2_isWell 2 (some .boolean) ∈ BIG := kS_19 _ (List.mem_of_getElem? (i := 20) rfl)
theorem k_19_21 : Cond.methodLink RL 87 yL_setRecharge ∈ BIG := kS_19 _ (List.mem_of_getElem? (i := 21) rfl)
theorem k_19_22 : Cond.static yL_setRecharge ∈ BIG := kS_19 _ (List.mem_of_getElem? (i := 22) rfl)
theorem k_19_23 : Cond.codeWith yL_setRecharge cL_setRecharge 5 (some .int) [(0, 10, 13, 13), (0, 10, 17, 15)] ∈ BIG := kS_19 _ (List.mem_of_getElem? (i := 23) rfl)
theorem k_20_0 : Cond.methodLink RL 23 yX1_setRecharge ∈ BIG := kS_20 _ (List.mem_of_getElem? (i := 0) rfl)
theorem k_20_1 : Cond.instanceMethod yX1_setRecharge ∈ BIG := kS_20 _ (List.mem_of_getElem? (i := 1) rfl)
theorem k_20_2 : Cond.selects RX1 yX1_setRecharge yX1_setRecharge ∈ BIG := kS_20 _ (List.mem_of_getElem? (i := 2) rfl)
theorem k_20_3 : Cond.code yX1_setRecharge cX1_setRecharge 4 (some .int) ∈ BIG := kS_20 _ (List.mem_of_getElem? (i := 3) rfl)
theorem k_20_4 : Cond.methodLink RL 89 yX2_setRecharge ∈ BIG := kS_20 _ (List.mem_of_getElem? (i := 4) rfl)
theorem k_20_5 : Cond.instanceMethod yX2_setRecharge ∈ BIG := kS_20 _ (List.mem_of_getElem? (i := 5) rfl)
theorem k_20_6 : Cond.selects RX2 yX2_setRecharge yX2_setRecharge ∈ BIG := kS_20 _ (List.mem_of_getElem? (i := 6) rfl)
theorem k_20_7 : Cond.code yX2_setRecharge cX2_setRecharge 4 (some .int) ∈ BIG := kS_20 _ (List.mem_of_getElem? (i := 7) rfl)
theorem k_20_8 : Cond.methodLink RL 90 yL_reach ∈ BIG := kS_20 _ (List.mem_of_getElem? (i := 8) rfl)
theorem k_20_9 : Cond.static yL_reach ∈ BIG := kS_20 _ (List.mem_of_getElem? (i := 9) rfl)
theorem k_20_10 : Cond.codeWith yL_reach cL_reach 5 (some .int) [(0, 10, 13, 13)] ∈ BIG := kS_20 _ (List.mem_of_getElem? (i := 10) rfl)
theorem k_20_11 : Cond.methodLink RL 26 yX1_reach ∈ BIG := kS_20 _ (List.mem_of_getElem? (i := 11) rfl)
theorem k_20_12 : Cond.instanceMethod yX1_reach ∈ BIG := kS_20 _ (List.mem_of_getElem? (i := 12) rfl)
theorem k_20_13 : Cond.selects RX1 yX1_reach yX1_reach ∈ BIG := kS_20 _ (List.mem_of_getElem? (i := 13) rfl)
theorem k_20_14 : Cond.code yX1_reach cX1_reach 5 (some .int) ∈ BIG := kS_20 _ (List.mem_of_getElem? (i := 14) rfl)
theorem k_20_15 : Cond.fieldLink RX1 68 "WellRights$Well" "layer" "I" ∈ BIG := kS_20 _ (List.mem_of_getElem? (i := 15) rfl)
theorem k_20_16 : Cond.fieldLink RX1 71 "WellRights$Well" "place" "I" ∈ BIG := kS_20 _ (List.mem_of_getElem? (i := 16) rfl)
theorem k_20_17 : Cond.methodLink RX1 74 yX0_reachedFrom ∈ BIG := kS_20 _ (List.mem_of_getElem? (i := 17) rfl)
theorem k_20_18 : Cond.instanceMethod yX0_reachedFrom ∈ BIG := kS_20 _ (List.mem_of_getElem? (i := 18) rfl)
theorem k_20_19 : Cond.selects RX0 yX0_reachedFrom yX0_reachedFrom ∈ BIG := kS_20 _ (List.mem_of_getElem? (i := 19) rfl)
theorem k_20_20 : Cond.code yX0_reachedFrom cX0_reachedFrom 5 (some .int) ∈ BIG := kS_20 _ (List.mem_of_getElem? (i := 20) rfl)
theorem k_20_21 : Cond.methodLink RX0 78 Lib.Math.abs.name ∈ BIG := kS_20 _ (List.mem_of_getElem? (i := 21) rfl)
theorem k_20_22 : Cond.static Lib.Math.abs.name ∈ BIG := kS_20 _ (List.mem_of_getElem? (i := 22) rfl)
theorem k_20_23 : Cond.code Lib.Math.abs.name Lib.Math.abs.code 1 (some .int) ∈ BIG := kS_20 _ (List.mem_of_getElem? (i := 23) rfl)
theorem k_21_0 : Cond.methodLink RX0 84 Lib.Math.max.name ∈ BIG := kS_21 _ (List.mem_of_getElem? (i := 0) rfl)
theorem k_21_1 : Cond.methodLink RL 92 yX2_reach ∈ BIG := kS_21 _ (List.mem_of_getElem? (i := 1) rfl)
theorem k_21_2 : Cond.instanceMethod yX2_reach ∈ BIG := kS_21 _ (List.mem_of_getElem? (i := 2) rfl)
theorem k_21_3 : Cond.selects RX2 yX2_reach yX2_reach ∈ BIG := kS_21 _ (List.mem_of_getElem? (i := 3) rfl)
theorem k_21_4 : Cond.code yX2_reach cX2_reach 3 (some .int) ∈ BIG := kS_21 _ (List.mem_of_getElem? (i := 4) rfl)
theorem k_21_5 : Cond.methodLink RX2 87 yX2_reaches ∈ BIG := kS_21 _ (List.mem_of_getElem? (i := 5) rfl)
theorem k_21_6 : Cond.instanceMethod yX2_reaches ∈ BIG := kS_21 _ (List.mem_of_getElem? (i := 6) rfl)
theorem k_21_7 : Cond.selects RX2 yX2_reaches yX2_reaches ∈ BIG := kS_21 _ (List.mem_of_getElem? (i := 7) rfl)
theorem k_21_8 : Cond.code yX2_reaches cX2_reaches 7 (some .int) ∈ BIG := kS_21 _ (List.mem_of_getElem? (i := 8) rfl)
theorem k_21_9 : Cond.methodLink RL 93 yL_level ∈ BIG := kS_21 _ (List.mem_of_getElem? (i := 9) rfl)
theorem k_21_10 : Cond.static yL_level ∈ BIG := kS_21 _ (List.mem_of_getElem? (i := 10) rfl)
theorem k_21_11 : Cond.codeWith yL_level cL_level 4 (some .int) [(0, 9, 12, 13)] ∈ BIG := kS_21 _ (List.mem_of_getElem? (i := 11) rfl)
theorem k_21_12 : Cond.methodLink RL 29 yX1_level ∈ BIG := kS_21 _ (List.mem_of_getElem? (i := 12) rfl)
theorem k_21_13 : Cond.instanceMethod yX1_level ∈ BIG := kS_21 _ (List.mem_of_getElem? (i := 13) rfl)
theorem k_21_14 : Cond.selects RX1 yX1_level yX1_level ∈ BIG := kS_21 _ (List.mem_of_getElem? (i := 14) rfl)
theorem k_21_15 : Cond.code yX1_level cX1_level 2 (some .int) ∈ BIG := kS_21 _ (List.mem_of_getElem? (i := 15) rfl)
theorem k_21_16 : Cond.fieldLink RX1 78 "WellRights$Well" "level" "I" ∈ BIG := kS_21 _ (List.mem_of_getElem? (i := 16) rfl)
theorem k_21_17 : Cond.methodLink RL 96 yX2_level ∈ BIG := kS_21 _ (List.mem_of_getElem? (i := 17) rfl)
theorem k_21_18 : Cond.instanceMethod yX2_level ∈ BIG := kS_21 _ (List.mem_of_getElem? (i := 18) rfl)
theorem k_21_19 : Cond.selects RX2 yX2_level yX2_level ∈ BIG := kS_21 _ (List.mem_of_getElem? (i := 19) rfl)
theorem k_21_20 : Cond.code yX2_level cX2_level 2 (some .int) ∈ BIG := kS_21 _ (List.mem_of_getElem? (i := 20) rfl)
theorem k_21_21 : Cond.methodLink RL 97 yL_sign ∈ BIG := kS_21 _ (List.mem_of_getElem? (i := 21) rfl)
theorem k_21_22 : Cond.static yL_sign ∈ BIG := kS_21 _ (List.mem_of_getElem? (i := 22) rfl)
theorem k_21_23 : Cond.codeWith yL_sign cL_sign 5 (some .int) [(0, 10, 13, 13)] ∈ BIG := kS_21 _ (List.mem_of_getElem? (i := 23) rfl)
theorem k_22_0 : Cond.methodLink RL 33 yX1_sign ∈ BIG := kS_22 _ (List.mem_of_getElem? (i := 0) rfl)
theorem k_22_1 : Cond.instanceMethod yX1_sign ∈ BIG := kS_22 _ (List.mem_of_getElem? (i := 1) rfl)
theorem k_22_2 : Cond.selects RX1 yX1_sign yX1_sign ∈ BIG := kS_22 _ (List.mem_of_getElem? (i := 2) rfl)
theorem k_22_3 : Cond.code yX1_sign cX1_sign 4 (some .char) ∈ BIG := kS_22 _ (List.mem_of_getElem? (i := 3) rfl)
theorem k_22_4 : Cond.fieldLink RX1 81 "WellRights$Well" "text" "Ljava/lang/String;" ∈ BIG := kS_22 _ (List.mem_of_getElem? (i := 4) rfl)
theorem k_22_5 : Cond.methodLink RX1 85 yJ0_length_8abf5 ∈ BIG := kS_22 _ (List.mem_of_getElem? (i := 5) rfl)
theorem k_22_6 : Cond.methodLink RX1 95 yJ0_charAt_5068e ∈ BIG := kS_22 _ (List.mem_of_getElem? (i := 6) rfl)
theorem k_22_7 : Cond.instanceMethod yJ0_charAt_5068e ∈ BIG := kS_22 _ (List.mem_of_getElem? (i := 7) rfl)
theorem k_22_8 : Cond.selects RJ0 yJ0_charAt_5068e yJ0_charAt_5068e ∈ BIG := kS_22 _ (List.mem_of_getElem? (i := 8) rfl)
theorem k_22_9 : Cond.code yJ0_charAt_5068e cJ0_charAt_5068e 2 (some .char) ∈ BIG := kS_22 _ (List.mem_of_getElem? (i := 9) rfl)
theorem k_22_10 : Cond.methodLink RJ0 492 yJ0_isLatin1_aae02 ∈ BIG := kS_22 _ (List.mem_of_getElem? (i := 10) rfl)
theorem k_22_11 : Cond.instanceMethod yJ0_isLatin1_aae02 ∈ BIG := kS_22 _ (List.mem_of_getElem? (i := 11) rfl)
theorem k_22_12 : Cond.selects RJ0 yJ0_isLatin1_aae02 yJ0_isLatin1_aae02 ∈ BIG := kS_22 _ (List.mem_of_getElem? (i := 12) rfl)
theorem k_22_13 : Cond.code yJ0_isLatin1_aae02 cJ0_isLatin1_aae02 1 (some .boolean) ∈ BIG := kS_22 _ (List.mem_of_getElem? (i := 13) rfl)
theorem k_22_14 : Cond.methodLink RJ0 495 yJ1_charAt_3b067 ∈ BIG := kS_22 _ (List.mem_of_getElem? (i := 14) rfl)
theorem k_22_15 : Cond.static yJ1_charAt_3b067 ∈ BIG := kS_22 _ (List.mem_of_getElem? (i := 15) rfl)
theorem k_22_16 : Cond.code yJ1_charAt_3b067 cJ1_charAt_3b067 2 (some .char) ∈ BIG := kS_22 _ (List.mem_of_getElem? (i := 16) rfl)
theorem k_22_17 : Cond.methodLink RJ1 9 yJ0_checkIndex_df160 ∈ BIG := kS_22 _ (List.mem_of_getElem? (i := 17) rfl)
theorem k_22_18 : Cond.methodLink RJ0 498 yJ2_charAt_3b067 ∈ BIG := kS_22 _ (List.mem_of_getElem? (i := 18) rfl)
theorem k_22_19 : Cond.static yJ2_charAt_3b067 ∈ BIG := kS_22 _ (List.mem_of_getElem? (i := 19) rfl)
theorem k_22_20 : Cond.code yJ2_charAt_3b067 cJ2_charAt_3b067 2 (some .char) ∈ BIG := kS_22 _ (List.mem_of_getElem? (i := 20) rfl)
theorem k_22_21 : Cond.methodLink RL 99 yX2_sign ∈ BIG := kS_22 _ (List.mem_of_getElem? (i := 21) rfl)
theorem k_22_22 : Cond.instanceMethod yX2_sign ∈ BIG := kS_22 _ (List.mem_of_getElem? (i := 22) rfl)
theorem k_22_23 : Cond.selects RX2 yX2_sign yX2_sign ∈ BIG := kS_22 _ (List.mem_of_getElem? (i := 23) rfl)
theorem k_23_0 : Cond.code yX2_sign cX2_sign 4 (some .char) ∈ BIG := kS_23 _ (List.mem_of_getElem? (i := 0) rfl)
theorem k_23_1 : Cond.methodLink RL 100 yL_year ∈ BIG := kS_23 _ (List.mem_of_getElem? (i := 1) rfl)
theorem k_23_2 : Cond.static yL_year ∈ BIG := kS_23 _ (List.mem_of_getElem? (i := 2) rfl)
theorem k_23_3 : Cond.codeWith yL_year cL_year 3 (some .int) [(0, 8, 11, 17)] ∈ BIG := kS_23 _ (List.mem_of_getElem? (i := 3) rfl)
theorem k_23_4 : Cond.methodLink RL 37 yX1_year ∈ BIG := kS_23 _ (List.mem_of_getElem? (i := 4) rfl)
theorem k_23_5 : Cond.instanceMethod yX1_year ∈ BIG := kS_23 _ (List.mem_of_getElem? (i := 5) rfl)
theorem k_23_6 : Cond.selects RX1 yX1_year yX1_year ∈ BIG := kS_23 _ (List.mem_of_getElem? (i := 6) rfl)
theorem k_23_7 : Cond.code yX1_year cX1_year 2 (some .int) ∈ BIG := kS_23 _ (List.mem_of_getElem? (i := 7) rfl)
theorem k_23_8 : Cond.methodLink RX1 101 yX1_shrinkBanks ∈ BIG := kS_23 _ (List.mem_of_getElem? (i := 8) rfl)
theorem k_23_9 : Cond.instanceMethod yX1_shrinkBanks ∈ BIG := kS_23 _ (List.mem_of_getElem? (i := 9) rfl)
theorem k_23_10 : Cond.selects RX1 yX1_shrinkBanks yX1_shrinkBanks ∈ BIG := kS_23 _ (List.mem_of_getElem? (i := 10) rfl)
theorem k_23_11 : Cond.code yX1_shrinkBanks cX1_shrinkBanks 4 none ∈ BIG := kS_23 _ (List.mem_of_getElem? (i := 11) rfl)
theorem k_23_12 : Cond.fieldLink RX1 138 "WellRights$Well" "bank" "I" ∈ BIG := kS_23 _ (List.mem_of_getElem? (i := 12) rfl)
theorem k_23_13 : Cond.methodLink RX1 104 yX1_whoIsStopped ∈ BIG := kS_23 _ (List.mem_of_getElem? (i := 13) rfl)
theorem k_23_14 : Cond.instanceMethod yX1_whoIsStopped ∈ BIG := kS_23 _ (List.mem_of_getElem? (i := 14) rfl)
theorem k_23_15 : Cond.selects RX1 yX1_whoIsStopped yX1_whoIsStopped ∈ BIG := kS_23 _ (List.mem_of_getElem? (i := 15) rfl)
theorem k_23_16 : Cond.code yX1_whoIsStopped cX1_whoIsStopped 4 (some .int) ∈ BIG := kS_23 _ (List.mem_of_getElem? (i := 16) rfl)
theorem k_23_17 : Cond.methodLink RX1 175 yX1_nextToStop ∈ BIG := kS_23 _ (List.mem_of_getElem? (i := 17) rfl)
theorem k_23_18 : Cond.instanceMethod yX1_nextToStop ∈ BIG := kS_23 _ (List.mem_of_getElem? (i := 18) rfl)
theorem k_23_19 : Cond.selects RX1 yX1_nextToStop yX1_nextToStop ∈ BIG := kS_23 _ (List.mem_of_getElem? (i := 19) rfl)
theorem k_23_20 : Cond.code yX1_nextToStop cX1_nextToStop 7 (some (.object "WellRights$Well")) ∈ BIG := kS_23 _ (List.mem_of_getElem? (i := 20) rfl)
theorem k_23_21 : Cond.fieldLink RX1 185 "WellRights$Well" "limit" "I" ∈ BIG := kS_23 _ (List.mem_of_getElem? (i := 21) rfl)
theorem k_23_22 : Cond.methodLink RX1 181 yX1_levelBehind ∈ BIG := kS_23 _ (List.mem_of_getElem? (i := 22) rfl)
theorem k_23_23 : Cond.instanceMethod yX1_levelBehind ∈ BIG := kS_23 _ (List.mem_of_getElem? (i := 23) rfl)
theorem k_24_0 : Cond.selects RX1 yX1_levelBehind yX1_levelBehind ∈ BIG := kS_24 _ (List.mem_of_getElem? (i := 0) rfl)
theorem k_24_1 : Cond.code yX1_levelBehind cX1_levelBehind 6 (some .int) ∈ BIG := kS_24 _ (List.mem_of_getElem? (i := 1) rfl)
theorem k_24_2 : Cond.methodLink RX1 199 yX1_hundredths ∈ BIG := kS_24 _ (List.mem_of_getElem? (i := 2) rfl)
theorem k_24_3 : Cond.static yX1_hundredths ∈ BIG := kS_24 _ (List.mem_of_getElem? (i := 3) rfl)
theorem k_24_4 : Cond.code yX1_hundredths cX1_hundredths 2 (some .int) ∈ BIG := kS_24 _ (List.mem_of_getElem? (i := 4) rfl)
theorem k_24_5 : Cond.methodLink RX1 196 yX0_drawUnder ∈ BIG := kS_24 _ (List.mem_of_getElem? (i := 5) rfl)
theorem k_24_6 : Cond.instanceMethod yX0_drawUnder ∈ BIG := kS_24 _ (List.mem_of_getElem? (i := 6) rfl)
theorem k_24_7 : Cond.selects RX0 yX0_drawUnder yX0_drawUnder ∈ BIG := kS_24 _ (List.mem_of_getElem? (i := 7) rfl)
theorem k_24_8 : Cond.code yX0_drawUnder cX0_drawUnder 2 (some .int) ∈ BIG := kS_24 _ (List.mem_of_getElem? (i := 8) rfl)
theorem k_24_9 : Cond.fieldLink RX0 75 "WellRights$Well" "planned" "I" ∈ BIG := kS_24 _ (List.mem_of_getElem? (i := 9) rfl)
theorem k_24_10 : Cond.methodLink RX0 71 yX0_isIn ∈ BIG := kS_24 _ (List.mem_of_getElem? (i := 10) rfl)
theorem k_24_11 : Cond.instanceMethod yX0_isIn ∈ BIG := kS_24 _ (List.mem_of_getElem? (i := 11) rfl)
theorem k_24_12 : Cond.selects RX0 yX0_isIn yX0_isIn ∈ BIG := kS_24 _ (List.mem_of_getElem? (i := 12) rfl)
theorem k_24_13 : Cond.code yX0_isIn cX0_isIn 2 (some .boolean) ∈ BIG := kS_24 _ (List.mem_of_getElem? (i := 13) rfl)
theorem k_24_14 : Cond.methodLink RX0 67 yX0_bit ∈ BIG := kS_24 _ (List.mem_of_getElem? (i := 14) rfl)
theorem k_24_15 : Cond.instanceMethod yX0_bit ∈ BIG := kS_24 _ (List.mem_of_getElem? (i := 15) rfl)
theorem k_24_16 : Cond.selects RX0 yX0_bit yX0_bit ∈ BIG := kS_24 _ (List.mem_of_getElem? (i := 16) rfl)
theorem k_24_17 : Cond.code yX0_bit cX0_bit 1 (some .int) ∈ BIG := kS_24 _ (List.mem_of_getElem? (i := 17) rfl)
theorem k_24_18 : Cond.methodLink RX1 188 yX0_isOlderThan ∈ BIG := kS_24 _ (List.mem_of_getElem? (i := 18) rfl)
theorem k_24_19 : Cond.instanceMethod yX0_isOlderThan ∈ BIG := kS_24 _ (List.mem_of_getElem? (i := 19) rfl)
theorem k_24_20 : Cond.selects RX0 yX0_isOlderThan yX0_isOlderThan ∈ BIG := kS_24 _ (List.mem_of_getElem? (i := 20) rfl)
theorem k_24_21 : Cond.code yX0_isOlderThan cX0_isOlderThan 2 (some .boolean) ∈ BIG := kS_24 _ (List.mem_of_getElem? (i := 21) rfl)
theorem k_24_22 : Cond.methodLink RX1 192 yX1_youngestDrawerOn ∈ BIG := kS_24 _ (List.mem_of_getElem? (i := 22) rfl)
theorem k_24_23 : Cond.instanceMethod yX1_youngestDrawerOn ∈ BIG := kS_24 _ (List.mem_of_getElem? (i := 23) rfl)
theorem k_25_0 : Cond.selects RX1 yX1_youngestDrawerOn yX1_youngestDrawerOn ∈ BIG := kS_25 _ (List.mem_of_getElem? (i := 0) rfl)
theorem k_25_1 : Cond.code yX1_youngestDrawerOn cX1_youngestDrawerOn 6 (some (.object "WellRights$Well")) ∈ BIG := kS_25 _ (List.mem_of_getElem? (i := 1) rfl)
theorem k_25_2 : Cond.methodLink RX1 178 yX0_bit ∈ BIG := kS_25 _ (List.mem_of_getElem? (i := 2) rfl)
theorem k_25_3 : Cond.methodLink RX1 107 yX1_drawWater ∈ BIG := kS_25 _ (List.mem_of_getElem? (i := 3) rfl)
theorem k_25_4 : Cond.instanceMethod yX1_drawWater ∈ BIG := kS_25 _ (List.mem_of_getElem? (i := 4) rfl)
theorem k_25_5 : Cond.selects RX1 yX1_drawWater yX1_drawWater ∈ BIG := kS_25 _ (List.mem_of_getElem? (i := 5) rfl)
theorem k_25_6 : Cond.code yX1_drawWater cX1_drawWater 4 none ∈ BIG := kS_25 _ (List.mem_of_getElem? (i := 6) rfl)
theorem k_25_7 : Cond.fieldLink RX1 125 "WellRights$Well" "drew" "I" ∈ BIG := kS_25 _ (List.mem_of_getElem? (i := 7) rfl)
theorem k_25_8 : Cond.methodLink RX1 110 yX1_tellWater ∈ BIG := kS_25 _ (List.mem_of_getElem? (i := 8) rfl)
theorem k_25_9 : Cond.instanceMethod yX1_tellWater ∈ BIG := kS_25 _ (List.mem_of_getElem? (i := 9) rfl)
theorem k_25_10 : Cond.selects RX1 yX1_tellWater yX1_tellWater ∈ BIG := kS_25 _ (List.mem_of_getElem? (i := 10) rfl)
theorem k_25_11 : Cond.code yX1_tellWater cX1_tellWater 3 none ∈ BIG := kS_25 _ (List.mem_of_getElem? (i := 11) rfl)
theorem k_25_12 : Cond.fieldLink RX1 131 "WellRights$Well" "meterWorks" "Z" ∈ BIG := kS_25 _ (List.mem_of_getElem? (i := 12) rfl)
theorem k_25_13 : Cond.fieldLink RX1 128 "WellRights$Well" "told" "I" ∈ BIG := kS_25 _ (List.mem_of_getElem? (i := 13) rfl)
theorem k_25_14 : Cond.fieldLink RX1 135 "WellRights$Well" "power" "I" ∈ BIG := kS_25 _ (List.mem_of_getElem? (i := 14) rfl)
theorem k_25_15 : Cond.methodLink RX1 202 yX1_meanOfWorkingMeters ∈ BIG := kS_25 _ (List.mem_of_getElem? (i := 15) rfl)
theorem k_25_16 : Cond.instanceMethod yX1_meanOfWorkingMeters ∈ BIG := kS_25 _ (List.mem_of_getElem? (i := 16) rfl)
theorem k_25_17 : Cond.selects RX1 yX1_meanOfWorkingMeters yX1_meanOfWorkingMeters ∈ BIG := kS_25 _ (List.mem_of_getElem? (i := 17) rfl)
theorem k_25_18 : Cond.code yX1_meanOfWorkingMeters cX1_meanOfWorkingMeters 6 (some .int) ∈ BIG := kS_25 _ (List.mem_of_getElem? (i := 18) rfl)
theorem k_25_19 : Cond.methodLink RX1 113 yX1_settleRights ∈ BIG := kS_25 _ (List.mem_of_getElem? (i := 19) rfl)
theorem k_25_20 : Cond.instanceMethod yX1_settleRights ∈ BIG := kS_25 _ (List.mem_of_getElem? (i := 20) rfl)
theorem k_25_21 : Cond.selects RX1 yX1_settleRights yX1_settleRights ∈ BIG := kS_25 _ (List.mem_of_getElem? (i := 21) rfl)
theorem k_25_22 : Cond.code yX1_settleRights cX1_settleRights 4 none ∈ BIG := kS_25 _ (List.mem_of_getElem? (i := 22) rfl)
theorem k_25_23 : Cond.fieldLink RX1 205 "WellRights$Well" "right" "I" ∈ BIG := kS_25 _ (List.mem_of_getElem? (i := 23) rfl)
theorem k_26_0 : Cond.methodLink RX1 208 yX1_chargeAbove ∈ BIG := kS_26 _ (List.mem_of_getElem? (i := 0) rfl)
theorem k_26_1 : Cond.instanceMethod yX1_chargeAbove ∈ BIG := kS_26 _ (List.mem_of_getElem? (i := 1) rfl)
theorem k_26_2 : Cond.selects RX1 yX1_chargeAbove yX1_chargeAbove ∈ BIG := kS_26 _ (List.mem_of_getElem? (i := 2) rfl)
theorem k_26_3 : Cond.code yX1_chargeAbove cX1_chargeAbove 5 none ∈ BIG := kS_26 _ (List.mem_of_getElem? (i := 3) rfl)
theorem k_26_4 : Cond.methodLink RX1 150 Lib.Math.min.name ∈ BIG := kS_26 _ (List.mem_of_getElem? (i := 4) rfl)
theorem k_26_5 : Cond.fieldLink RX1 155 "WellRights$Well" "fines" "I" ∈ BIG := kS_26 _ (List.mem_of_getElem? (i := 5) rfl)
theorem k_26_6 : Cond.methodLink RX1 212 yX0_isIn ∈ BIG := kS_26 _ (List.mem_of_getElem? (i := 6) rfl)
theorem k_26_7 : Cond.methodLink RX1 116 yX1_forgetPower ∈ BIG := kS_26 _ (List.mem_of_getElem? (i := 7) rfl)
theorem k_26_8 : Cond.instanceMethod yX1_forgetPower ∈ BIG := kS_26 _ (List.mem_of_getElem? (i := 8) rfl)
theorem k_26_9 : Cond.selects RX1 yX1_forgetPower yX1_forgetPower ∈ BIG := kS_26 _ (List.mem_of_getElem? (i := 9) rfl)
theorem k_26_10 : Cond.code yX1_forgetPower cX1_forgetPower 2 none ∈ BIG := kS_26 _ (List.mem_of_getElem? (i := 10) rfl)
theorem k_26_11 : Cond.methodLink RX1 119 yJ6_bitCount_0f7a4 ∈ BIG := kS_26 _ (List.mem_of_getElem? (i := 11) rfl)
theorem k_26_12 : Cond.static yJ6_bitCount_0f7a4 ∈ BIG := kS_26 _ (List.mem_of_getElem? (i := 12) rfl)
theorem k_26_13 : Cond.code yJ6_bitCount_0f7a4 cJ6_bitCount_0f7a4 1 (some .int) ∈ BIG := kS_26 _ (List.mem_of_getElem? (i := 13) rfl)
theorem k_26_14 : Cond.constant RJ6 265 (1431655765) ∈ BIG := kS_26 _ (List.mem_of_getElem? (i := 14) rfl)
theorem k_26_15 : Cond.constant RJ6 266 (858993459) ∈ BIG := kS_26 _ (List.mem_of_getElem? (i := 15) rfl)
theorem k_26_16 : Cond.constant RJ6 267 (252645135) ∈ BIG := kS_26 _ (List.mem_of_getElem? (i := 16) rfl)
theorem k_26_17 : Cond.methodLink RL 103 yX2_year ∈ BIG := kS_26 _ (List.mem_of_getElem? (i := 17) rfl)
theorem k_26_18 : Cond.instanceMethod yX2_year ∈ BIG := kS_26 _ (List.mem_of_getElem? (i := 18) rfl)
theorem k_26_19 : Cond.selects RX2 yX2_year yX2_year ∈ BIG := kS_26 _ (List.mem_of_getElem? (i := 19) rfl)
theorem k_26_20 : Cond.code yX2_year cX2_year 3 (some .int) ∈ BIG := kS_26 _ (List.mem_of_getElem? (i := 20) rfl)
theorem k_26_21 : Cond.fieldLink RX2 107 "WellRightsModel" "years" "I" ∈ BIG := kS_26 _ (List.mem_of_getElem? (i := 21) rfl)
theorem k_26_22 : Cond.methodLink RX2 110 yX2_stops ∈ BIG := kS_26 _ (List.mem_of_getElem? (i := 22) rfl)
theorem k_26_23 : Cond.instanceMethod yX2_stops ∈ BIG := kS_26 _ (List.mem_of_getElem? (i := 23) rfl)
theorem k_27_0 : Cond.selects RX2 yX2_stops yX2_stops ∈ BIG := kS_27 _ (List.mem_of_getElem? (i := 0) rfl)
theorem k_27_1 : Cond.code yX2_stops cX2_stops 6 (some .int) ∈ BIG := kS_27 _ (List.mem_of_getElem? (i := 1) rfl)
theorem k_27_2 : Cond.methodLink RX2 98 yX2_levels ∈ BIG := kS_27 _ (List.mem_of_getElem? (i := 2) rfl)
theorem k_27_3 : Cond.instanceMethod yX2_levels ∈ BIG := kS_27 _ (List.mem_of_getElem? (i := 3) rfl)
theorem k_27_4 : Cond.selects RX2 yX2_levels yX2_levels ∈ BIG := kS_27 _ (List.mem_of_getElem? (i := 4) rfl)
theorem k_27_5 : Cond.code yX2_levels cX2_levels 3 none ∈ BIG := kS_27 _ (List.mem_of_getElem? (i := 5) rfl)
theorem k_27_6 : Cond.fieldLink RX2 91 "WellRightsModel" "ponds" "I" ∈ BIG := kS_27 _ (List.mem_of_getElem? (i := 6) rfl)
theorem k_27_7 : Cond.methodLink RX2 101 yX2_youngest ∈ BIG := kS_27 _ (List.mem_of_getElem? (i := 7) rfl)
theorem k_27_8 : Cond.instanceMethod yX2_youngest ∈ BIG := kS_27 _ (List.mem_of_getElem? (i := 8) rfl)
theorem k_27_9 : Cond.selects RX2 yX2_youngest yX2_youngest ∈ BIG := kS_27 _ (List.mem_of_getElem? (i := 9) rfl)
theorem k_27_10 : Cond.code yX2_youngest cX2_youngest 5 (some .int) ∈ BIG := kS_27 _ (List.mem_of_getElem? (i := 10) rfl)
theorem k_27_11 : Cond.methodLink RX2 94 yX2_isYounger ∈ BIG := kS_27 _ (List.mem_of_getElem? (i := 11) rfl)
theorem k_27_12 : Cond.instanceMethod yX2_isYounger ∈ BIG := kS_27 _ (List.mem_of_getElem? (i := 12) rfl)
theorem k_27_13 : Cond.selects RX2 yX2_isYounger yX2_isYounger ∈ BIG := kS_27 _ (List.mem_of_getElem? (i := 13) rfl)
theorem k_27_14 : Cond.code yX2_isYounger cX2_isYounger 3 (some .boolean) ∈ BIG := kS_27 _ (List.mem_of_getElem? (i := 14) rfl)
theorem k_27_15 : Cond.methodLink RX2 114 yX2_mean ∈ BIG := kS_27 _ (List.mem_of_getElem? (i := 15) rfl)
theorem k_27_16 : Cond.instanceMethod yX2_mean ∈ BIG := kS_27 _ (List.mem_of_getElem? (i := 16) rfl)
theorem k_27_17 : Cond.selects RX2 yX2_mean yX2_mean ∈ BIG := kS_27 _ (List.mem_of_getElem? (i := 17) rfl)
theorem k_27_18 : Cond.code yX2_mean cX2_mean 5 (some .int) ∈ BIG := kS_27 _ (List.mem_of_getElem? (i := 18) rfl)
theorem k_27_19 : Cond.methodLink RX2 117 yX2_pays ∈ BIG := kS_27 _ (List.mem_of_getElem? (i := 19) rfl)
theorem k_27_20 : Cond.instanceMethod yX2_pays ∈ BIG := kS_27 _ (List.mem_of_getElem? (i := 20) rfl)
theorem k_27_21 : Cond.selects RX2 yX2_pays yX2_pays ∈ BIG := kS_27 _ (List.mem_of_getElem? (i := 21) rfl)
theorem k_27_22 : Cond.code yX2_pays cX2_pays 4 none ∈ BIG := kS_27 _ (List.mem_of_getElem? (i := 22) rfl)
theorem k_27_23 : Cond.fieldLink RX2 104 "WellRightsModel" "fund" "I" ∈ BIG := kS_27 _ (List.mem_of_getElem? (i := 23) rfl)
theorem k_28_0 : Cond.methodLink RL 104 yX1_years ∈ BIG := kS_28 _ (List.mem_of_getElem? (i := 0) rfl)
theorem k_28_1 : Cond.instanceMethod yX1_years ∈ BIG := kS_28 _ (List.mem_of_getElem? (i := 1) rfl)
theorem k_28_2 : Cond.selects RX1 yX1_years yX1_years ∈ BIG := kS_28 _ (List.mem_of_getElem? (i := 2) rfl)
theorem k_28_3 : Cond.code yX1_years cX1_years 1 (some .int) ∈ BIG := kS_28 _ (List.mem_of_getElem? (i := 3) rfl)
theorem k_28_4 : Cond.methodLink RL 107 yX2_years ∈ BIG := kS_28 _ (List.mem_of_getElem? (i := 4) rfl)
theorem k_28_5 : Cond.instanceMethod yX2_years ∈ BIG := kS_28 _ (List.mem_of_getElem? (i := 5) rfl)
theorem k_28_6 : Cond.selects RX2 yX2_years yX2_years ∈ BIG := kS_28 _ (List.mem_of_getElem? (i := 6) rfl)
theorem k_28_7 : Cond.code yX2_years cX2_years 1 (some .int) ∈ BIG := kS_28 _ (List.mem_of_getElem? (i := 7) rfl)
theorem k_28_8 : Cond.methodLink RL 108 yX1_wouldStop ∈ BIG := kS_28 _ (List.mem_of_getElem? (i := 8) rfl)
theorem k_28_9 : Cond.instanceMethod yX1_wouldStop ∈ BIG := kS_28 _ (List.mem_of_getElem? (i := 9) rfl)
theorem k_28_10 : Cond.selects RX1 yX1_wouldStop yX1_wouldStop ∈ BIG := kS_28 _ (List.mem_of_getElem? (i := 10) rfl)
theorem k_28_11 : Cond.code yX1_wouldStop cX1_wouldStop 1 (some .int) ∈ BIG := kS_28 _ (List.mem_of_getElem? (i := 11) rfl)
theorem k_28_12 : Cond.methodLink RL 111 yX2_wouldStop ∈ BIG := kS_28 _ (List.mem_of_getElem? (i := 12) rfl)
theorem k_28_13 : Cond.instanceMethod yX2_wouldStop ∈ BIG := kS_28 _ (List.mem_of_getElem? (i := 13) rfl)
theorem k_28_14 : Cond.selects RX2 yX2_wouldStop yX2_wouldStop ∈ BIG := kS_28 _ (List.mem_of_getElem? (i := 14) rfl)
theorem k_28_15 : Cond.code yX2_wouldStop cX2_wouldStop 4 (some .int) ∈ BIG := kS_28 _ (List.mem_of_getElem? (i := 15) rfl)
theorem k_28_16 : Cond.methodLink RL 112 yL_drew ∈ BIG := kS_28 _ (List.mem_of_getElem? (i := 16) rfl)
theorem k_28_17 : Cond.static yL_drew ∈ BIG := kS_28 _ (List.mem_of_getElem? (i := 17) rfl)
theorem k_28_18 : Cond.codeWith yL_drew cL_drew 4 (some .int) [(0, 9, 12, 13)] ∈ BIG := kS_28 _ (List.mem_of_getElem? (i := 18) rfl)
theorem k_28_19 : Cond.methodLink RL 41 yX1_drew ∈ BIG := kS_28 _ (List.mem_of_getElem? (i := 19) rfl)
theorem k_28_20 : Cond.instanceMethod yX1_drew ∈ BIG := kS_28 _ (List.mem_of_getElem? (i := 20) rfl)
theorem k_28_21 : Cond.selects RX1 yX1_drew yX1_drew ∈ BIG := kS_28 _ (List.mem_of_getElem? (i := 21) rfl)
theorem k_28_22 : Cond.code yX1_drew cX1_drew 2 (some .int) ∈ BIG := kS_28 _ (List.mem_of_getElem? (i := 22) rfl)
theorem k_28_23 : Cond.methodLink RL 114 yX2_drew ∈ BIG := kS_28 _ (List.mem_of_getElem? (i := 23) rfl)
theorem k_29_0 : Cond.instanceMethod yX2_drew ∈ BIG := kS_29 _ (List.mem_of_getElem? (i := 0) rfl)
theorem k_29_1 : Cond.selects RX2 yX2_drew yX2_drew ∈ BIG := kS_29 _ (List.mem_of_getElem? (i := 1) rfl)
theorem k_29_2 : Cond.code yX2_drew cX2_drew 2 (some .int) ∈ BIG := kS_29 _ (List.mem_of_getElem? (i := 2) rfl)
theorem k_29_3 : Cond.methodLink RL 115 yL_told ∈ BIG := kS_29 _ (List.mem_of_getElem? (i := 3) rfl)
theorem k_29_4 : Cond.static yL_told ∈ BIG := kS_29 _ (List.mem_of_getElem? (i := 4) rfl)
theorem k_29_5 : Cond.codeWith yL_told cL_told 4 (some .int) [(0, 9, 12, 13)] ∈ BIG := kS_29 _ (List.mem_of_getElem? (i := 5) rfl)
theorem k_29_6 : Cond.methodLink RL 44 yX1_told ∈ BIG := kS_29 _ (List.mem_of_getElem? (i := 6) rfl)
theorem k_29_7 : Cond.instanceMethod yX1_told ∈ BIG := kS_29 _ (List.mem_of_getElem? (i := 7) rfl)
theorem k_29_8 : Cond.selects RX1 yX1_told yX1_told ∈ BIG := kS_29 _ (List.mem_of_getElem? (i := 8) rfl)
theorem k_29_9 : Cond.code yX1_told cX1_told 2 (some .int) ∈ BIG := kS_29 _ (List.mem_of_getElem? (i := 9) rfl)
theorem k_29_10 : Cond.methodLink RL 117 yX2_told ∈ BIG := kS_29 _ (List.mem_of_getElem? (i := 10) rfl)
theorem k_29_11 : Cond.instanceMethod yX2_told ∈ BIG := kS_29 _ (List.mem_of_getElem? (i := 11) rfl)
theorem k_29_12 : Cond.selects RX2 yX2_told yX2_told ∈ BIG := kS_29 _ (List.mem_of_getElem? (i := 12) rfl)
theorem k_29_13 : Cond.code yX2_told cX2_told 2 (some .int) ∈ BIG := kS_29 _ (List.mem_of_getElem? (i := 13) rfl)
theorem k_29_14 : Cond.methodLink RL 118 yL_toggleMeter ∈ BIG := kS_29 _ (List.mem_of_getElem? (i := 14) rfl)
theorem k_29_15 : Cond.static yL_toggleMeter ∈ BIG := kS_29 _ (List.mem_of_getElem? (i := 15) rfl)
theorem k_29_16 : Cond.codeWith yL_toggleMeter cL_toggleMeter 4 (some .int) [(0, 16, 19, 13)] ∈ BIG := kS_29 _ (List.mem_of_getElem? (i := 16) rfl)
theorem k_29_17 : Cond.methodLink RL 47 yX1_toggleMeter ∈ BIG := kS_29 _ (List.mem_of_getElem? (i := 17) rfl)
theorem k_29_18 : Cond.instanceMethod yX1_toggleMeter ∈ BIG := kS_29 _ (List.mem_of_getElem? (i := 18) rfl)
theorem k_29_19 : Cond.selects RX1 yX1_toggleMeter yX1_toggleMeter ∈ BIG := kS_29 _ (List.mem_of_getElem? (i := 19) rfl)
theorem k_29_20 : Cond.code yX1_toggleMeter cX1_toggleMeter 3 (some .boolean) ∈ BIG := kS_29 _ (List.mem_of_getElem? (i := 20) rfl)
theorem k_29_21 : Cond.methodLink RL 120 yX2_toggleMeter ∈ BIG := kS_29 _ (List.mem_of_getElem? (i := 21) rfl)
theorem k_29_22 : Cond.instanceMethod yX2_toggleMeter ∈ BIG := kS_29 _ (List.mem_of_getElem? (i := 22) rfl)
theorem k_29_23 : Cond.selects RX2 yX2_toggleMeter yX2_toggleMeter ∈ BIG := kS_29 _ (List.mem_of_getElem? (i := 23) rfl)
theorem k_30_0 : Cond.code yX2_toggleMeter cX2_toggleMeter 2 (some .boolean) ∈ BIG := kS_30 _ (List.mem_of_getElem? (i := 0) rfl)
theorem k_30_1 : Cond.methodLink RL 121 yL_power ∈ BIG := kS_30 _ (List.mem_of_getElem? (i := 1) rfl)
theorem k_30_2 : Cond.static yL_power ∈ BIG := kS_30 _ (List.mem_of_getElem? (i := 2) rfl)
theorem k_30_3 : Cond.codeWith yL_power cL_power 5 (some .int) [(0, 10, 13, 13), (0, 10, 17, 15)] ∈ BIG := kS_30 _ (List.mem_of_getElem? (i := 3) rfl)
theorem k_30_4 : Cond.methodLink RL 51 yX1_power ∈ BIG := kS_30 _ (List.mem_of_getElem? (i := 4) rfl)
theorem k_30_5 : Cond.instanceMethod yX1_power ∈ BIG := kS_30 _ (List.mem_of_getElem? (i := 5) rfl)
theorem k_30_6 : Cond.selects RX1 yX1_power yX1_power ∈ BIG := kS_30 _ (List.mem_of_getElem? (i := 6) rfl)
theorem k_30_7 : Cond.code yX1_power cX1_power 5 (some .int) ∈ BIG := kS_30 _ (List.mem_of_getElem? (i := 7) rfl)
theorem k_30_8 : Cond.methodLink RL 123 yX2_power ∈ BIG := kS_30 _ (List.mem_of_getElem? (i := 8) rfl)
theorem k_30_9 : Cond.instanceMethod yX2_power ∈ BIG := kS_30 _ (List.mem_of_getElem? (i := 9) rfl)
theorem k_30_10 : Cond.selects RX2 yX2_power yX2_power ∈ BIG := kS_30 _ (List.mem_of_getElem? (i := 10) rfl)
theorem k_30_11 : Cond.code yX2_power cX2_power 4 (some .int) ∈ BIG := kS_30 _ (List.mem_of_getElem? (i := 11) rfl)
theorem k_30_12 : Cond.methodLink RL 124 yL_bank ∈ BIG := kS_30 _ (List.mem_of_getElem? (i := 12) rfl)
theorem k_30_13 : Cond.static yL_bank ∈ BIG := kS_30 _ (List.mem_of_getElem? (i := 13) rfl)
theorem k_30_14 : Cond.codeWith yL_bank cL_bank 4 (some .int) [(0, 9, 12, 13)] ∈ BIG := kS_30 _ (List.mem_of_getElem? (i := 14) rfl)
theorem k_30_15 : Cond.methodLink RL 54 yX1_bank ∈ BIG := kS_30 _ (List.mem_of_getElem? (i := 15) rfl)
theorem k_30_16 : Cond.instanceMethod yX1_bank ∈ BIG := kS_30 _ (List.mem_of_getElem? (i := 16) rfl)
theorem k_30_17 : Cond.selects RX1 yX1_bank yX1_bank ∈ BIG := kS_30 _ (List.mem_of_getElem? (i := 17) rfl)
theorem k_30_18 : Cond.code yX1_bank cX1_bank 2 (some .int) ∈ BIG := kS_30 _ (List.mem_of_getElem? (i := 18) rfl)
theorem k_30_19 : Cond.methodLink RL 126 yX2_bank ∈ BIG := kS_30 _ (List.mem_of_getElem? (i := 19) rfl)
theorem k_30_20 : Cond.instanceMethod yX2_bank ∈ BIG := kS_30 _ (List.mem_of_getElem? (i := 20) rfl)
theorem k_30_21 : Cond.selects RX2 yX2_bank yX2_bank ∈ BIG := kS_30 _ (List.mem_of_getElem? (i := 21) rfl)
theorem k_30_22 : Cond.code yX2_bank cX2_bank 2 (some .int) ∈ BIG := kS_30 _ (List.mem_of_getElem? (i := 22) rfl)
theorem k_30_23 : Cond.methodLink RL 127 yL_lend ∈ BIG := kS_30 _ (List.mem_of_getElem? (i := 23) rfl)
theorem k_31_0 : Cond.static yL_lend ∈ BIG := kS_31 _ (List.mem_of_getElem? (i := 0) rfl)
theorem k_31_1 : Cond.codeWith yL_lend cL_lend 6 (some .int) [(0, 12, 15, 13), (0, 12, 19, 15), (0, 12, 23, 17)] ∈ BIG := kS_31 _ (List.mem_of_getElem? (i := 1) rfl)
theorem k_31_2 : Cond.methodLink RL 57 yX1_lend ∈ BIG := kS_31 _ (List.mem_of_getElem? (i := 2) rfl)
theorem k_31_3 : Cond.instanceMethod yX1_lend ∈ BIG := kS_31 _ (List.mem_of_getElem? (i := 3) rfl)
theorem k_31_4 : Cond.selects RX1 yX1_lend yX1_lend ∈ BIG := kS_31 _ (List.mem_of_getElem? (i := 4) rfl)
theorem k_31_5 : Cond.code yX1_lend cX1_lend 6 (some .int) ∈ BIG := kS_31 _ (List.mem_of_getElem? (i := 5) rfl)
theorem k_31_6 : Cond.fieldLink RX1 147 "WellRights$Well" "lentTo" "[I" ∈ BIG := kS_31 _ (List.mem_of_getElem? (i := 6) rfl)
theorem k_31_7 : Cond.methodLink RX1 141 yX1_requireDifferent ∈ BIG := kS_31 _ (List.mem_of_getElem? (i := 7) rfl)
theorem k_31_8 : Cond.static yX1_requireDifferent ∈ BIG := kS_31 _ (List.mem_of_getElem? (i := 8) rfl)
theorem k_31_9 : Cond.code yX1_requireDifferent cX1_requireDifferent 2 none ∈ BIG := kS_31 _ (List.mem_of_getElem? (i := 9) rfl)
theorem k_31_10 : Cond.methodLink RL 130 yX2_lend ∈ BIG := kS_31 _ (List.mem_of_getElem? (i := 10) rfl)
theorem k_31_11 : Cond.instanceMethod yX2_lend ∈ BIG := kS_31 _ (List.mem_of_getElem? (i := 11) rfl)
theorem k_31_12 : Cond.selects RX2 yX2_lend yX2_lend ∈ BIG := kS_31 _ (List.mem_of_getElem? (i := 12) rfl)
theorem k_31_13 : Cond.code yX2_lend cX2_lend 4 (some .int) ∈ BIG := kS_31 _ (List.mem_of_getElem? (i := 13) rfl)
theorem k_31_14 : Cond.methodLink RL 131 yL_callBack ∈ BIG := kS_31 _ (List.mem_of_getElem? (i := 14) rfl)
theorem k_31_15 : Cond.static yL_callBack ∈ BIG := kS_31 _ (List.mem_of_getElem? (i := 15) rfl)
theorem k_31_16 : Cond.codeWith yL_callBack cL_callBack 5 (some .int) [(0, 10, 13, 13), (0, 10, 17, 15)] ∈ BIG := kS_31 _ (List.mem_of_getElem? (i := 16) rfl)
theorem k_31_17 : Cond.methodLink RL 61 yX1_callBack ∈ BIG := kS_31 _ (List.mem_of_getElem? (i := 17) rfl)
theorem k_31_18 : Cond.instanceMethod yX1_callBack ∈ BIG := kS_31 _ (List.mem_of_getElem? (i := 18) rfl)
theorem k_31_19 : Cond.selects RX1 yX1_callBack yX1_callBack ∈ BIG := kS_31 _ (List.mem_of_getElem? (i := 19) rfl)
theorem k_31_20 : Cond.code yX1_callBack cX1_callBack 6 (some .int) ∈ BIG := kS_31 _ (List.mem_of_getElem? (i := 20) rfl)
theorem k_31_21 : Cond.methodLink RL 133 yX2_callBack ∈ BIG := kS_31 _ (List.mem_of_getElem? (i := 21) rfl)
theorem k_31_22 : Cond.instanceMethod yX2_callBack ∈ BIG := kS_31 _ (List.mem_of_getElem? (i := 22) rfl)
theorem k_31_23 : Cond.selects RX2 yX2_callBack yX2_callBack ∈ BIG := kS_31 _ (List.mem_of_getElem? (i := 23) rfl)
theorem k_32_0 : Cond.code yX2_callBack cX2_callBack 5 (some .int) ∈ BIG := kS_32 _ (List.mem_of_getElem? (i := 0) rfl)
theorem k_32_1 : Cond.methodLink RL 134 yL_fines ∈ BIG := kS_32 _ (List.mem_of_getElem? (i := 1) rfl)
theorem k_32_2 : Cond.static yL_fines ∈ BIG := kS_32 _ (List.mem_of_getElem? (i := 2) rfl)
theorem k_32_3 : Cond.codeWith yL_fines cL_fines 4 (some .int) [(0, 9, 12, 13)] ∈ BIG := kS_32 _ (List.mem_of_getElem? (i := 3) rfl)
theorem k_32_4 : Cond.methodLink RL 64 yX1_fines ∈ BIG := kS_32 _ (List.mem_of_getElem? (i := 4) rfl)
theorem k_32_5 : Cond.instanceMethod yX1_fines ∈ BIG := kS_32 _ (List.mem_of_getElem? (i := 5) rfl)
theorem k_32_6 : Cond.selects RX1 yX1_fines yX1_fines ∈ BIG := kS_32 _ (List.mem_of_getElem? (i := 6) rfl)
theorem k_32_7 : Cond.code yX1_fines cX1_fines 2 (some .int) ∈ BIG := kS_32 _ (List.mem_of_getElem? (i := 7) rfl)
theorem k_32_8 : Cond.methodLink RL 136 yX2_fines ∈ BIG := kS_32 _ (List.mem_of_getElem? (i := 8) rfl)
theorem k_32_9 : Cond.instanceMethod yX2_fines ∈ BIG := kS_32 _ (List.mem_of_getElem? (i := 9) rfl)
theorem k_32_10 : Cond.selects RX2 yX2_fines yX2_fines ∈ BIG := kS_32 _ (List.mem_of_getElem? (i := 10) rfl)
theorem k_32_11 : Cond.code yX2_fines cX2_fines 2 (some .int) ∈ BIG := kS_32 _ (List.mem_of_getElem? (i := 11) rfl)
theorem k_32_12 : Cond.methodLink RL 137 yX1_fund ∈ BIG := kS_32 _ (List.mem_of_getElem? (i := 12) rfl)
theorem k_32_13 : Cond.instanceMethod yX1_fund ∈ BIG := kS_32 _ (List.mem_of_getElem? (i := 13) rfl)
theorem k_32_14 : Cond.selects RX1 yX1_fund yX1_fund ∈ BIG := kS_32 _ (List.mem_of_getElem? (i := 14) rfl)
theorem k_32_15 : Cond.code yX1_fund cX1_fund 1 (some .int) ∈ BIG := kS_32 _ (List.mem_of_getElem? (i := 15) rfl)
theorem k_32_16 : Cond.methodLink RL 140 yX2_fund ∈ BIG := kS_32 _ (List.mem_of_getElem? (i := 16) rfl)
theorem k_32_17 : Cond.instanceMethod yX2_fund ∈ BIG := kS_32 _ (List.mem_of_getElem? (i := 17) rfl)
theorem k_32_18 : Cond.selects RX2 yX2_fund yX2_fund ∈ BIG := kS_32 _ (List.mem_of_getElem? (i := 18) rfl)
theorem k_32_19 : Cond.code yX2_fund cX2_fund 1 (some .int) ∈ BIG := kS_32 _ (List.mem_of_getElem? (i := 19) rfl)
theorem k_32_20 : Cond.methodLink RL 141 yL_build ∈ BIG := kS_32 _ (List.mem_of_getElem? (i := 20) rfl)
theorem k_32_21 : Cond.static yL_build ∈ BIG := kS_32 _ (List.mem_of_getElem? (i := 21) rfl)
theorem k_32_22 : Cond.codeWith yL_build cL_build 4 (some .int) [(0, 9, 12, 15), (0, 9, 15, 17)] ∈ BIG := kS_32 _ (List.mem_of_getElem? (i := 22) rfl)
theorem k_32_23 : Cond.methodLink RL 67 yX1_build ∈ BIG := kS_32 _ (List.mem_of_getElem? (i := 23) rfl)
theorem k_33_0 : Cond.instanceMethod yX1_build ∈ BIG := kS_33 _ (List.mem_of_getElem? (i := 0) rfl)
theorem k_33_1 : Cond.selects RX1 yX1_build yX1_build ∈ BIG := kS_33 _ (List.mem_of_getElem? (i := 1) rfl)
theorem k_33_2 : Cond.code yX1_build cX1_build 2 (some .int) ∈ BIG := kS_33 _ (List.mem_of_getElem? (i := 2) rfl)
theorem k_33_3 : Cond.methodLink RL 143 yX2_build ∈ BIG := kS_33 _ (List.mem_of_getElem? (i := 3) rfl)
theorem k_33_4 : Cond.instanceMethod yX2_build ∈ BIG := kS_33 _ (List.mem_of_getElem? (i := 4) rfl)
theorem k_33_5 : Cond.selects RX2 yX2_build yX2_build ∈ BIG := kS_33 _ (List.mem_of_getElem? (i := 5) rfl)
theorem k_33_6 : Cond.code yX2_build cX2_build 2 (some .int) ∈ BIG := kS_33 _ (List.mem_of_getElem? (i := 6) rfl)
theorem kx_ISE : ∀ w ∈ (vx_atS RX1 49 "java/lang/IllegalStateException" ["java/lang/RuntimeException", "java/lang/Exception"]).filter goodWord, w ∈ BIG := fun _ h => List.mem_append_left _ (List.mem_append_left _ (List.mem_append_right _ h))
theorem kx_IOB : ∀ w ∈ (vx_atS RX1 94 "java/lang/IndexOutOfBoundsException" ["java/lang/RuntimeException", "java/lang/Exception"]).filter goodWord, w ∈ BIG := fun _ h => List.mem_append_left _ (List.mem_append_right _ h)
theorem kx_IAE : ∀ w ∈ (vx_atS RX1 172 "java/lang/IllegalArgumentException" ["java/lang/RuntimeException", "java/lang/Exception"]).filter goodWord, w ∈ BIG := fun _ h => List.mem_append_right _ h
theorem km_max_s : Cond.static Lib.Math.max.name ∈ BIG := k_7_19
theorem km_max_c : Cond.code Lib.Math.max.name Lib.Math.max.code 2 (some .int) ∈ BIG := k_7_21
theorem km_min_s : Cond.static Lib.Math.min.name ∈ BIG := k_8_13
theorem km_min_c : Cond.code Lib.Math.min.name Lib.Math.min.code 2 (some .int) ∈ BIG := k_8_14
theorem km_abs_s : Cond.static Lib.Math.abs.name ∈ BIG := k_20_22
theorem km_abs_c : Cond.code Lib.Math.abs.name Lib.Math.abs.code 1 (some .int) ∈ BIG := k_20_23
theorem kt_IOB_c : Cond.classLink RX1 90 "java/lang/IndexOutOfBoundsException" ∈ BIG := k_4_8
theorem kt_IOB_i : Cond.initialized "java/lang/IndexOutOfBoundsException" ∈ BIG := k_4_9
theorem kt_IAE_c : Cond.classLink RX1 168 "java/lang/IllegalArgumentException" ∈ BIG := k_4_13
theorem kt_IAE_i : Cond.initialized "java/lang/IllegalArgumentException" ∈ BIG := k_4_14
theorem kt_ISE_c : Cond.classLink RX1 45 "java/lang/IllegalStateException" ∈ BIG := k_4_0
theorem kt_ISE_i : Cond.initialized "java/lang/IllegalStateException" ∈ BIG := k_4_1
theorem km_i : Cond.initialized "java/lang/Math" ∈ BIG := k_7_20
theorem km_oi : Cond.instanceMethod objectInit ∈ BIG := k_1_11
theorem km_oc : Cond.code objectInit ⟨#[0xb1]⟩ 1 none ∈ BIG := k_1_12
end
section
/-! 05: rows that touch the heap, returns, contracts and calls, throws. My own (the proofs of R_putf, R_new, the arrays' rows follow those of the kit's va_ rows). -/
theorem Rep.one {D : va_G} {h : Hp} {H : Heap} {a : Nat} {e : va_E} (hR : Rep D h H) (e0 : h a = some e) : va_P D vwCl [(a, e)] H := by
  intro k q hq
  cases k with
  | zero => simp at hq; subst hq; exact hR a e e0
  | succ k => simp at hq
theorem Rep.lt {D : va_G} {h : Hp} {H : Heap} {a : Nat} {e : va_E} (hR : Rep D h H) (e0 : h a = some e) : a < H.size := va_at.lt (hR a e e0)
theorem Rep.put {D : va_G} {h : Hp} {H H1 : Heap} {a : Nat} {e : va_E} (hR : Rep D h H) (he : va_at D vwCl (a, e) H1) (oq : ∀ q : Nat, q ≠ a → H1[q]? = H[q]?) : Rep D (hu h a e) H1 := by
  intro b f hb
  by_cases hba : b = a
  · subst hba
    rw [hu_s] at hb
    cases hb
    exact he
  · rw [hu_n hba] at hb
    exact va_at.kept (hR b f hb) (oq b hba)
theorem Rep.push {D : va_G} {h : Hp} {H H1 : Heap} {e : va_E} (hR : Rep D h H) (he : va_at D vwCl (H.size, e) H1) (o1 : ∀ q : Nat, q < H.size → H1[q]? = H[q]?) : Rep D (hu h H.size e) H1 := by
  intro b f hb
  by_cases hba : b = H.size
  · subst hba
    rw [hu_s] at hb
    cases hb
    exact he
  · rw [hu_n hba] at hb
    have := hR.lt hb
    exact va_at.kept (hR b f hb) (o1 b this)
theorem Rep.new {D : va_G} {h : Hp} {H : Heap} (hR : Rep D h H) : h H.size = none := by
  cases e : h H.size with
  | none => rfl
  | some x => exact absurd (hR.lt e) (Nat.lt_irrefl _)
theorem dom_put {A : Nat → Prop} {h : Hp} {a : Nat} {e0 e : va_E} (h2 : ∀ b, h b ≠ none → A b) (e1 : h a = some e0) : ∀ b, hu h a e b ≠ none → A b := by
  intro b hb
  by_cases hba : b = a
  · subst hba; exact h2 b (by rw [e1]; exact fun q => by cases q)
  · rw [hu_n hba] at hb; exact h2 b hb
theorem dom_new {A : Nat → Prop} {h : Hp} {a : Nat} {e : va_E} (h2 : ∀ b, h b ≠ none → A b) (ha : A a) : ∀ b, hu h a e b ≠ none → A b := by
  intro b hb
  by_cases hba : b = a
  · subst hba; exact ha
  · rw [hu_n hba] at hb; exact h2 b hb
section
variable {K : KT} {G : GT} {A : Nat → Prop} {own : String} {cc : ByteArray} {nL : Nat} {ret : Option FieldType} {rm : Room} {tb : List ExceptionTableEntry} {Q : State → Prop} {P : Hp → Prop} {lv : List (Option Value)} {k n pc : Nat} {st : List Value}
theorem R_getf (C : CX K G A own cc nL ret rm tb) {a ci i idx N : Nat} {fs : List Value} {Cn : String} {T : u_T} {v : Value} (d : decode cc pc = .ok (.getfield idx, 3)) (hg : ∀ h, P h → h a = some (ob ci fs)) (hc : vwCl[ci]? = some (Cn, T, N)) (hin : ∀ w ∈ u_ws Cn T N, w ∈ BIG) (hk : i < N)
    (hlink : Cond.fieldLink own idx (T i).1 (T i).2.1 (T i).2.2.1 ∈ BIG) (hv : fs[i]? = some v) (kk : WR K G A Q P lv k n (pc + 3) (v :: st)) : WR K G A Q P lv k n pc (.ref a :: st) :=
  fun h H locs ls h0 h1 h2 h3 h4 => va_get C.ex C.cd C.ts hin C.ow C.kn (h1.one (hg h h0)) 0 rfl hc i hk (C.ts _ hlink) (fun _ q => q) hv d (kk h H locs ls h0 h1 h2 h3 h4)
theorem R_getfS (C : CX K G A own cc nL ret rm tb) {a ci i idx N : Nat} {fs : List Value} {Cn ref : String} {T : u_T} {v : Value} (d : decode cc pc = .ok (.getfield idx, 3)) (hg : ∀ h, P h → h a = some (ob ci fs)) (hc : vwCl[ci]? = some (Cn, T, N)) (hin : ∀ w ∈ u_ws Cn T N, w ∈ BIG) (hk : i < N)
    (hlink : Cond.fieldLink own idx ref (T i).2.1 (T i).2.2.1 ∈ BIG) (hsame : Cond.sameField ref (T i).1 (T i).2.1 (T i).2.2.1 ∈ BIG) (hv : fs[i]? = some v) (kk : WR K G A Q P lv k n (pc + 3) (v :: st)) : WR K G A Q P lv k n pc (.ref a :: st) :=
  fun h H locs ls h0 h1 h2 h3 h4 => va_get C.ex C.cd C.ts hin C.ow C.kn (h1.one (hg h h0)) 0 rfl hc i hk (C.ts _ hlink) (fun x q => u_same (C.ts _ hsame) x q) hv d (kk h H locs ls h0 h1 h2 h3 h4)
theorem R_putf0 (C : CX K G A own cc nL ret rm tb) {P' : Hp → Prop} {a ci i idx N : Nat} {fs : List Value} {Cn ref : String} {T : u_T} {ty0 : Nat → FieldType} {v : Value} (d : decode cc pc = .ok (.putfield idx, 3)) (hg : ∀ h, P h → h a = some (ob ci fs)) (hc : vwCl[ci]? = some (Cn, T, N)) (hin : ∀ w ∈ u_ws Cn T N, w ∈ BIG)
    (hty : ∀ k, k < N → parseFieldDescriptor (T k).2.2.1 = some (ty0 k)) (hnm : ∀ a, a < N → ∀ b, b < N → a ≠ b → (T a).2.1 ≠ (T b).2.1) (hk : i < N)
    (hlink : (Cond.fieldLink own idx ref (T i).2.1 (T i).2.2.1).before K.args K.s = true) (hsame : ∀ x, K.s.fieldFound? (T i).1 (T i).2.1 (T i).2.2.1 = some x → K.s.fieldFound? ref (T i).2.1 (T i).2.2.1 = some x) (hfin : (T i).2.2.2 = false) (hn : narrow (ty0 i) v = v) (hfit : fits (ty0 i) v = true) (hl : i < fs.length)
    (hp : ∀ h, P h → P' (hu h a (ob ci (fs.set i v)))) (kk : WR K G A Q P' lv k n (pc + 3) st) : WR K G A Q P lv k n pc (v :: .ref a :: st) := by
  intro h H locs ls h0 h1 h2 h3 h4
  have he := hg h h0
  have hap := va_apart (own := own) C.ts hin ty0 hty hnm C.kn hc
  obtain ⟨r, g1, cell, q1, q2, q3, q4⟩ := h1 a _ he
  have hr : r = (Cn, T, N) := Option.some.inj (g1.symm.trans hc)
  subst hr
  obtain ⟨hS, hfc, kC, hkC, hkind⟩ := C.kn.1 ci _ hc
  obtain ⟨cf, kf, fi, f, hi, hsl⟩ := hS i hk
  have hlay := C.ts _ (hin _ (u_in_lay hk))
  unfold u_lay at hlay
  rw [if_neg (by rw [hfin]; decide)] at hlay
  have hst := (u_facts hfc hkC (u_lays C.ts hin hk) hi).1
  have h6 := u_store hfc hkC hkind hlay hi (hty i hk) hn hfit
  refine W.putK C.ex C.cd (f := f) ⟨C.ow, hlink, ⟨_, _, _, hsame _ hi⟩, hst⟩ (by rw [q2]; exact h6) q1 q3 (by rw [hsl]; exact k2_hasslot (q4 i hk)) rfl rfl d fun H' e1 e2 e3 => ?_
  rw [hsl] at e1 ⊢
  exact kk _ H' _ ls (hp h h0) (h1.put ⟨_, hc, t_OB.to (V := updV (vp_V fs) i v) ⟨_, e1, q2, q3, t_set q4 hap hk v⟩ (fun j _ => vp_updV_set hl v j)⟩ e3) (dom_put h2 he) (h3.put e2 e3 (h2 a (by rw [he]; exact fun q => by cases q))) h4
theorem R_putf (C : CX K G A own cc nL ret rm tb) {P' : Hp → Prop} {a ci i idx N : Nat} {fs : List Value} {Cn : String} {T : u_T} {ty0 : Nat → FieldType} {v : Value} (d : decode cc pc = .ok (.putfield idx, 3)) (hg : ∀ h, P h → h a = some (ob ci fs)) (hc : vwCl[ci]? = some (Cn, T, N)) (hin : ∀ w ∈ u_ws Cn T N, w ∈ BIG)
    (hty : ∀ k, k < N → parseFieldDescriptor (T k).2.2.1 = some (ty0 k)) (hnm : ∀ a, a < N → ∀ b, b < N → a ≠ b → (T a).2.1 ≠ (T b).2.1) (hk : i < N)
    (hlink : Cond.fieldLink own idx (T i).1 (T i).2.1 (T i).2.2.1 ∈ BIG) (hfin : (T i).2.2.2 = false) (hn : narrow (ty0 i) v = v) (hfit : fits (ty0 i) v = true) (hl : i < fs.length)
    (hp : ∀ h, P h → P' (hu h a (ob ci (fs.set i v)))) (kk : WR K G A Q P' lv k n (pc + 3) st) : WR K G A Q P lv k n pc (v :: .ref a :: st) :=
  R_putf0 C d hg hc hin hty hnm hk (C.ts _ hlink) (fun _ q => q) hfin hn hfit hl hp kk
theorem R_putfS (C : CX K G A own cc nL ret rm tb) {P' : Hp → Prop} {a ci i idx N : Nat} {fs : List Value} {Cn ref : String} {T : u_T} {ty0 : Nat → FieldType} {v : Value} (d : decode cc pc = .ok (.putfield idx, 3)) (hg : ∀ h, P h → h a = some (ob ci fs)) (hc : vwCl[ci]? = some (Cn, T, N)) (hin : ∀ w ∈ u_ws Cn T N, w ∈ BIG)
    (hty : ∀ k, k < N → parseFieldDescriptor (T k).2.2.1 = some (ty0 k)) (hnm : ∀ a, a < N → ∀ b, b < N → a ≠ b → (T a).2.1 ≠ (T b).2.1) (hk : i < N)
    (hlink : Cond.fieldLink own idx ref (T i).2.1 (T i).2.2.1 ∈ BIG) (hsame : Cond.sameField ref (T i).1 (T i).2.1 (T i).2.2.1 ∈ BIG) (hfin : (T i).2.2.2 = false) (hn : narrow (ty0 i) v = v) (hfit : fits (ty0 i) v = true) (hl : i < fs.length)
    (hp : ∀ h, P h → P' (hu h a (ob ci (fs.set i v)))) (kk : WR K G A Q P' lv k n (pc + 3) st) : WR K G A Q P lv k n pc (v :: .ref a :: st) :=
  R_putf0 C d hg hc hin hty hnm hk (C.ts _ hlink) (fun x q => u_same (C.ts _ hsame) x q) hfin hn hfit hl hp kk
/-- a final field, in its constructor -/
theorem R_putF (C : CX K G A own cc nL ret rm tb) {P' : Hp → Prop} {a ci i idx N : Nat} {fs : List Value} {Cn : String} {T : u_T} {ty0 : Nat → FieldType} {v : Value} (d : decode cc pc = .ok (.putfield idx, 3)) (hg : ∀ h, P h → h a = some (ob ci fs)) (hc : vwCl[ci]? = some (Cn, T, N)) (hin : ∀ w ∈ u_ws Cn T N, w ∈ BIG)
    (hty : ∀ k, k < N → parseFieldDescriptor (T k).2.2.1 = some (ty0 k)) (hnm : ∀ a, a < N → ∀ b, b < N → a ≠ b → (T a).2.1 ≠ (T b).2.1) (hk : i < N)
    (hlink : Cond.fieldLink own idx (T i).1 (T i).2.1 (T i).2.2.1 ∈ BIG) (hfin : (T i).2.2.2 = true) (hin2 : K.meth.name = "<init>") (hdecl : (T i).1 = own) (hn : narrow (ty0 i) v = v) (hfit : fits (ty0 i) v = true) (hl : i < fs.length)
    (hp : ∀ h, P h → P' (hu h a (ob ci (fs.set i v)))) (kk : WR K G A Q P' lv k n (pc + 3) st) : WR K G A Q P lv k n pc (v :: .ref a :: st) := by
  intro h H locs ls h0 h1 h2 h3 h4
  have he := hg h h0
  have hap := va_apart (own := own) C.ts hin ty0 hty hnm C.kn hc
  obtain ⟨r, g1, cell, q1, q2, q3, q4⟩ := h1 a _ he
  have hr : r = (Cn, T, N) := Option.some.inj (g1.symm.trans hc)
  subst hr
  obtain ⟨hS, hfc, kC, hkC, hkind⟩ := C.kn.1 ci _ hc
  obtain ⟨cf, kf, fi, f, hi, hsl⟩ := hS i hk
  have hlay := C.ts _ (hin _ (u_in_lay hk))
  unfold u_lay at hlay
  rw [if_pos hfin] at hlay
  have hst := (u_facts hfc hkC (u_lays C.ts hin hk) hi).1
  have hcf : K.m.cls = cf := by
    obtain ⟨_, _, c', _, _, _, -, -, hf', -, -, -, hown2, -⟩ := Cond.laysFinal_spec hlay
    have e1 : c' = cf := by have := hi.symm.trans hf'; simp at this; exact this.1.symm
    rw [hdecl] at hown2
    rw [← e1]; exact Option.some.inj (C.ow.symm.trans hown2)
  have h6 := u_fits hfc hkC hkind (Or.inr hlay) hi (hty i hk) hn hfit
  refine W.putFinK C.ex C.cd C.ow (C.ts _ hlink) hi hst hcf hin2 (by rw [q2]; exact h6) q1 q3 (by rw [hsl]; exact k2_hasslot (q4 i hk)) rfl rfl d fun H' e1 e2 e3 => ?_
  rw [hsl] at e1 ⊢
  exact kk _ H' _ ls (hp h h0) (h1.put ⟨_, hc, t_OB.to (V := updV (vp_V fs) i v) ⟨_, e1, q2, q3, t_set q4 hap hk v⟩ (fun j _ => vp_updV_set hl v j)⟩ e3) (dom_put h2 he) (h3.put e2 e3 (h2 a (by rw [he]; exact fun q => by cases q))) h4
theorem R_new (C : CX K G A own cc nL ret rm tb) {P' : Nat → Hp → Prop} {ci idx N : Nat} {fs : List Value} {Cn : String} {T : u_T} {ty0 : Nat → FieldType} (d : decode cc pc = .ok (.new idx, 3)) (hc : vwCl[ci]? = some (Cn, T, N)) (hin : ∀ w ∈ u_ws Cn T N, w ∈ BIG)
    (hty : ∀ k, k < N → parseFieldDescriptor (T k).2.2.1 = some (ty0 k)) (hcl : Cond.classLink own idx Cn ∈ BIG) (hinst : Cond.instantiable Cn N ∈ BIG) (hini : Cond.initialized Cn ∈ BIG) (hfs : ∀ j, j < N → defaultValue (ty0 j) = vp_V fs j) (hcells : k + 1 ≤ rm.cells) (hslots : n + N ≤ rm.slots)
    (hp : ∀ h q, P h → h q = none → P' q (hu h q (ob ci fs))) (kk : ∀ q, WR K G A Q (P' q) lv (k + 1) (n + N) (pc + 3) (.ref q :: st)) : WR K G A Q P lv k n pc st := by
  intro h H locs ls h0 h1 h2 h3 h4
  have hKn := C.kn.1 ci _ hc
  refine W.newcK C.ex C.cd C.ow (C.ts _ hcl) (C.ts _ hinst) (C.ts _ hini) rfl d (by rw [C.rom]; exact hcells) (by rw [C.rom]; exact hslots) hKn.2.1 rfl fun H1 kC hkC e1 z1 o1 => ?_
  exact kk H.size _ H1 _ ls (hp h H.size h0 h1.new) (h1.push ⟨_, hc, (u_born ty0 C.ts hin hKn hkC e1 hty).to hfs⟩ o1) (dom_new h2 (C.fr _ h3.1)) ⟨Nat.le_trans h3.1 (by omega), fun x g1 g2 => (o1 x (Nat.lt_of_lt_of_le g1 h3.1)).trans (h3.2.1 x g1 g2), h3.2.2⟩ h4
theorem R_newarr (C : CX K G A own cc nL ret rm tb) {P' : Nat → Hp → Prop} {t N : Nat} {ty : FieldType} {atype : ArrayType} {i : Int32} {a0 : vp_A} (d : decode cc pc = .ok (.newarray atype, 2)) (hty : newarray.typeOf atype = ty) (harr : Cond.arrayClass ty ∈ BIG) (ht : ∀ cy, (tyl cy)[t]? = some (cy t, ty)) (hprim : ∀ x, ty ≠ .object x) (ha : ∀ cA : ClassId, vp_cell cA a0 = arrV cA N (fun _ => defaultValue ty))
    (hi : i = nI N) (hN : N ≤ 1000) (hby : componentBytes ty ≤ 8) (hcells : k + 1 ≤ rm.cells) (hslots : n + N ≤ rm.slots)
    (hp : ∀ h q, P h → h q = none → P' q (hu h q (.inl (G.2.1 t, a0)))) (kk : ∀ q, WR K G A Q (P' q) lv (k + 1) (n + N) (pc + 2) (.ref q :: st)) : WR K G A Q P lv k n pc (.int i :: st) := by
  subst hty
  subst hi
  intro h H locs ls h0 h1 h2 h3 h4
  have hN2 : N < 2 ^ 31 := by omega
  refine va_newaK C.ex C.cd (C.ts _ harr) rfl d rfl (nI_pos hN2) (nI_clamp hN2) (Nat.le_trans (Nat.mul_le_mul hN hby) (by decide)) (by rw [C.rom]; exact hcells) (by rw [C.rom]; exact hslots) rfl fun H1 cA e1 z1 o1 hAr hNm => ?_
  have hra := (C.kn.2 t _ (ht G.2.1)).2
  have hcA : cA = G.2.1 t := by
    have h9 : K.s.vm.findClass ("[" ++ (newarray.typeOf atype).toString) = some (G.2.1 t) := by
      cases atype <;> exact hra
    exact Option.some.inj (hNm.symm.trans h9)
  subst hcA
  exact kk H.size _ H1 _ ls (hp h H.size h0 h1.new) (h1.push (show H1[H.size]? = some (vp_cell _ _) by rw [ha]; exact e1) o1) (dom_new h2 (C.fr _ h3.1)) ⟨Nat.le_trans h3.1 (by omega), fun x g1 g2 => (o1 x (Nat.lt_of_lt_of_le g1 h3.1)).trans (h3.2.1 x g1 g2), h3.2.2⟩ h4
theorem R_anew (C : CX K G A own cc nL ret rm tb) {P' : Nat → Hp → Prop} {N idx : Nat} {i : Int32} (d : decode cc pc = .ok (.anewarray idx, 3)) (hcl : Cond.classLink own idx "java/lang/Object" ∈ BIG) (hov : (Cond.arrayOver (.object "java/lang/Object")).before K.args K.s = true)
    (hi : i = nI N) (hN : N ≤ 1000) (hcells : k + 1 ≤ rm.cells) (hslots : n + N ≤ rm.slots)
    (hp : ∀ h q, P h → h q = none → P' q (hu h q (aO G N (fun _ => none)))) (kk : ∀ q, WR K G A Q (P' q) lv (k + 1) (n + N) (pc + 3) (.ref q :: st)) : WR K G A Q P lv k n pc (.int i :: st) := by
  subst hi
  intro h H locs ls h0 h1 h2 h3 h4
  have hN2 : N < 2 ^ 31 := by omega
  have hcl2 := nI_clamp hN2
  refine W.anew C.ex C.cd C.ow (C.ts _ hcl) hov rfl d rfl (nI_pos hN2) (by rw [hcl2]; omega) (by rw [C.rom]; exact hcells) (by rw [C.rom, hcl2]; exact hslots) fun cA kA comp f1 f2 f3 f4 => ?_
  rw [hcl2]
  obtain ⟨kA2, comp2, k1, k2, k3, k4⟩ := (C.kn.2 4 (G.2.1 4, .object "java/lang/Object") rfl).2
  have hcA : cA = G.2.1 4 := Option.some.inj (f1.symm.trans k4)
  subst hcA
  generalize hH1 : H.push ({ cls := G.2.1 4, slots := Array.replicate N .null, vm := .none } : Cell) = H1
  have z1 : H1.size = H.size + 1 := by rw [← hH1, Array.size_push]
  have e1 : H1[H.size]? = some (arrV (G.2.1 4) N (fun _ => .null)) := by rw [← hH1, Array.getElem?_push_size, ← arrV_new]
  have o1 : ∀ q : Nat, q < H.size → H1[q]? = H[q]? := fun q hq => by rw [← hH1, Array.getElem?_push, if_neg (Nat.ne_of_lt hq)]
  exact kk H.size _ H1 _ ls (hp h H.size h0 h1.new) (h1.push (show H1[H.size]? = some (vp_cell _ _) by rw [vp_cell_q]; exact e1) o1) (dom_new h2 (C.fr _ h3.1)) ⟨Nat.le_trans h3.1 (by omega), fun x g1 g2 => (o1 x (Nat.lt_of_lt_of_le g1 h3.1)).trans (h3.2.1 x g1 g2), h3.2.2⟩ h4
theorem R_alen (C : CX K G A own cc nL ret rm tb) {a t : Nat} {x : vp_A} {ty : FieldType} {v : Int32} (d : decode cc pc = .ok (.arraylength, 1)) (hg : ∀ h, P h → h a = some (.inl (G.2.1 t, x))) (ht : (tyl G.2.1)[t]? = some (G.2.1 t, ty)) (hv : Int32.ofNat x.1 = v) (kk : WR K G A Q P lv k n (pc + 1) (.int v :: st)) : WR K G A Q P lv k n pc (.ref a :: st) :=
  fun h H locs ls h0 h1 h2 h3 h4 => va_alen C.ex C.cd C.kn (h1.one (hg h h0)) 0 t rfl ht hv d (kk h H locs ls h0 h1 h2 h3 h4)
theorem R_iald (C : CX K G A own cc nL ret rm tb) {a N j : Nat} {f : Nat → Int32} {i v : Int32} (d : decode cc pc = .ok (.iaload, 1)) (hg : ∀ h, P h → h a = some (aI G N f)) (hi : i = nI j) (hj : j < N) (hN : N < 2 ^ 31) (hv : f j = v) (kk : WR K G A Q P lv k n (pc + 1) (.int v :: st)) : WR K G A Q P lv k n pc (.int i :: .ref a :: st) := by
  subst hi; subst hv
  have e := nI_clamp (Nat.lt_trans hj hN)
  exact fun h H locs ls h0 h1 h2 h3 h4 => va_iald C.ex C.cd C.kn (h1.one (hg h h0)) 0 0 rfl rfl (vp_in_nI hj hN) d (by rw [e]; exact kk h H locs ls h0 h1 h2 h3 h4)
theorem R_bald (C : CX K G A own cc nL ret rm tb) {a N j : Nat} {f : Nat → Int32} {i v : Int32} (d : decode cc pc = .ok (.baload, 1)) (hg : ∀ h, P h → h a = some (aB G N f)) (hi : i = nI j) (hj : j < N) (hN : N < 2 ^ 31) (hv : f j = v) (kk : WR K G A Q P lv k n (pc + 1) (.int v :: st)) : WR K G A Q P lv k n pc (.int i :: .ref a :: st) := by
  subst hi; subst hv
  have e := nI_clamp (Nat.lt_trans hj hN)
  exact fun h H locs ls h0 h1 h2 h3 h4 => va_bald C.ex C.cd C.kn (h1.one (hg h h0)) 0 1 rfl rfl (vp_in_nI hj hN) d (by rw [e]; exact kk h H locs ls h0 h1 h2 h3 h4)
theorem R_zald (C : CX K G A own cc nL ret rm tb) {a N j : Nat} {f : Nat → Int32} {i v : Int32} (d : decode cc pc = .ok (.baload, 1)) (hg : ∀ h, P h → h a = some (aZ G N f)) (hi : i = nI j) (hj : j < N) (hN : N < 2 ^ 31) (hv : f j = v) (kk : WR K G A Q P lv k n (pc + 1) (.int v :: st)) : WR K G A Q P lv k n pc (.int i :: .ref a :: st) := by
  subst hi; subst hv
  have e := nI_clamp (Nat.lt_trans hj hN)
  exact fun h H locs ls h0 h1 h2 h3 h4 => va_zald C.ex C.cd C.kn (h1.one (hg h h0)) 0 2 rfl rfl (vp_in_nI hj hN) d (by rw [e]; exact kk h H locs ls h0 h1 h2 h3 h4)
theorem R_lald (C : CX K G A own cc nL ret rm tb) {a N j : Nat} {f : Nat → Int64} {i : Int32} {v : Int64} (d : decode cc pc = .ok (.laload, 1)) (hg : ∀ h, P h → h a = some (aJ G N f)) (hi : i = nI j) (hj : j < N) (hN : N < 2 ^ 31) (hv : f j = v) (kk : WR K G A Q P lv k n (pc + 1) (.long v :: st)) : WR K G A Q P lv k n pc (.int i :: .ref a :: st) := by
  subst hi; subst hv
  have e := nI_clamp (Nat.lt_trans hj hN)
  exact fun h H locs ls h0 h1 h2 h3 h4 => va_lald C.ex C.cd C.kn (h1.one (hg h h0)) 0 3 rfl rfl (vp_in_nI hj hN) d (by rw [e]; exact kk h H locs ls h0 h1 h2 h3 h4)
theorem R_aald (C : CX K G A own cc nL ret rm tb) {a N j : Nat} {f : Nat → Option Nat} {i : Int32} {v : Value} (d : decode cc pc = .ok (.aaload, 1)) (hg : ∀ h, P h → h a = some (aO G N f)) (hi : i = nI j) (hj : j < N) (hN : N < 2 ^ 31) (hv : va_rf (f j) = v) (kk : WR K G A Q P lv k n (pc + 1) (v :: st)) : WR K G A Q P lv k n pc (.int i :: .ref a :: st) := by
  subst hi; subst hv
  have e := nI_clamp (Nat.lt_trans hj hN)
  exact fun h H locs ls h0 h1 h2 h3 h4 => va_aldq C.ex C.cd C.kn (h1.one (hg h h0)) 0 4 rfl rfl (vp_in_nI hj hN) d (by rw [e]; exact kk h H locs ls h0 h1 h2 h3 h4)
theorem R_iast (C : CX K G A own cc nL ret rm tb) {P' : Hp → Prop} {a N j : Nat} {f : Nat → Int32} {i x : Int32} (d : decode cc pc = .ok (.iastore, 1)) (hg : ∀ h, P h → h a = some (aI G N f)) (hi : i = nI j) (hj : j < N) (hN : N < 2 ^ 31)
    (hp : ∀ h, P h → P' (hu h a (aI G N (upd f j x)))) (kk : WR K G A Q P' lv k n (pc + 1) st) : WR K G A Q P lv k n pc (.int x :: .int i :: .ref a :: st) := by
  subst hi
  have e9 := nI_clamp (Nat.lt_trans hj hN)
  intro h H locs ls h0 h1 h2 h3 h4
  have he := hg h h0
  refine W.iast C.ex C.cd (h1 a _ he) ((C.kn.2 0 _ rfl).1 N (fun j => .int (f j))) (fun q => by cases q) (by show ¬ (nI j < 0 ∨ (arrV _ _ _).slots.size ≤ _); rw [arrV_size]; exact vp_in_nI hj hN) rfl rfl d fun H1 e z oq => ?_
  rw [e9] at e ⊢
  refine kk _ H1 _ ls (hp h h0) (h1.put ?_ oq) (dom_put h2 he) (h3.put z oq (h2 a (by rw [he]; exact fun q => by cases q))) h4
  show H1[a]? = some (vp_cell _ _)
  rw [e, vp_cell_i, vp_cell_i, arrV_store]
  congr 2
  funext q
  by_cases hq : q = j
  · subst hq
    simp [updV, upd]
  · simp [updV, upd, hq]
theorem R_bast (C : CX K G A own cc nL ret rm tb) {P' : Hp → Prop} {a N j : Nat} {f : Nat → Int32} {i x y : Int32} (d : decode cc pc = .ok (.bastore, 1)) (hg : ∀ h, P h → h a = some (aB G N f)) (hi : i = nI j) (hj : j < N) (hN : N < 2 ^ 31) (hy : vp_nar .byte x = y)
    (hp : ∀ h, P h → P' (hu h a (aB G N (upd f j y)))) (kk : WR K G A Q P' lv k n (pc + 1) st) : WR K G A Q P lv k n pc (.int x :: .int i :: .ref a :: st) := by
  subst hi; subst hy
  have e9 := nI_clamp (Nat.lt_trans hj hN)
  intro h H locs ls h0 h1 h2 h3 h4
  have he := hg h h0
  refine W.bast C.ex C.cd (h1 a _ he) ((C.kn.2 1 _ rfl).1 N (fun j => .int (f j))) (fun q => by cases q) (by show ¬ (nI j < 0 ∨ (arrV _ _ _).slots.size ≤ _); rw [arrV_size]; exact vp_in_nI hj hN) rfl rfl d fun H1 e z oq => ?_
  rw [e9] at e ⊢
  refine kk _ H1 _ ls (hp h h0) (h1.put ?_ oq) (dom_put h2 he) (h3.put z oq (h2 a (by rw [he]; exact fun q => by cases q))) h4
  show H1[a]? = some (vp_cell _ _)
  rw [e, vp_cell_i, vp_cell_i, arrV_store]
  congr 2
  funext q
  by_cases hq : q = j
  · subst hq
    simp [updV, upd, vp_nar]
    try rfl
  · simp [updV, upd, hq]
theorem R_zast (C : CX K G A own cc nL ret rm tb) {P' : Hp → Prop} {a N j : Nat} {f : Nat → Int32} {i x y : Int32} (d : decode cc pc = .ok (.bastore, 1)) (hg : ∀ h, P h → h a = some (aZ G N f)) (hi : i = nI j) (hj : j < N) (hN : N < 2 ^ 31) (hy : vp_nar .boolean x = y)
    (hp : ∀ h, P h → P' (hu h a (aZ G N (upd f j y)))) (kk : WR K G A Q P' lv k n (pc + 1) st) : WR K G A Q P lv k n pc (.int x :: .int i :: .ref a :: st) := by
  subst hi; subst hy
  have e9 := nI_clamp (Nat.lt_trans hj hN)
  intro h H locs ls h0 h1 h2 h3 h4
  have he := hg h h0
  refine W.zast C.ex C.cd (h1 a _ he) ((C.kn.2 2 _ rfl).1 N (fun j => .int (f j))) (fun q => by cases q) (by show ¬ (nI j < 0 ∨ (arrV _ _ _).slots.size ≤ _); rw [arrV_size]; exact vp_in_nI hj hN) rfl rfl d fun H1 e z oq => ?_
  rw [e9] at e ⊢
  refine kk _ H1 _ ls (hp h h0) (h1.put ?_ oq) (dom_put h2 he) (h3.put z oq (h2 a (by rw [he]; exact fun q => by cases q))) h4
  show H1[a]? = some (vp_cell _ _)
  rw [e, vp_cell_i, vp_cell_i, arrV_store]
  congr 2
  funext q
  by_cases hq : q = j
  · subst hq
    simp [updV, upd, vp_nar]
    try rfl
  · simp [updV, upd, hq]
theorem R_last (C : CX K G A own cc nL ret rm tb) {P' : Hp → Prop} {a N j : Nat} {f : Nat → Int64} {i : Int32} {x : Int64} (d : decode cc pc = .ok (.lastore, 1)) (hg : ∀ h, P h → h a = some (aJ G N f)) (hi : i = nI j) (hj : j < N) (hN : N < 2 ^ 31)
    (hp : ∀ h, P h → P' (hu h a (aJ G N (vp_updL f j x)))) (kk : WR K G A Q P' lv k n (pc + 1) st) : WR K G A Q P lv k n pc (.long x :: .int i :: .ref a :: st) := by
  subst hi
  have e9 := nI_clamp (Nat.lt_trans hj hN)
  intro h H locs ls h0 h1 h2 h3 h4
  have he := hg h h0
  refine W.last C.ex C.cd (h1 a _ he) ((C.kn.2 3 _ rfl).1 N (fun j => .long (f j))) (fun q => by cases q) (by show ¬ (nI j < 0 ∨ (arrV _ _ _).slots.size ≤ _); rw [arrV_size]; exact vp_in_nI hj hN) rfl rfl d fun H1 e z oq => ?_
  rw [e9] at e ⊢
  refine kk _ H1 _ ls (hp h h0) (h1.put ?_ oq) (dom_put h2 he) (h3.put z oq (h2 a (by rw [he]; exact fun q => by cases q))) h4
  show H1[a]? = some (vp_cell _ _)
  rw [e, vp_cell_l, vp_cell_l, arrV_store]
  congr 2
  funext q
  by_cases hq : q = j
  · subst hq
    simp [updV, vp_updL]
  · simp [updV, vp_updL, hq]
/-- an object of class ci laid into an Object[] -/
theorem R_aast (C : CX K G A own cc nL ret rm tb) {P' : Hp → Prop} {a N j v ci : Nat} {r : vw_C} {vs : List Value} {f : Nat → Option Nat} {i : Int32} (d : decode cc pc = .ok (.aastore, 1)) (hg : ∀ h, P h → h a = some (aO G N f)) (hv : ∀ h, P h → h v = some (ob ci vs)) (hc : vwCl[ci]? = some r) (hca : va_Nw (.castable r.1 "java/lang/Object") K.s) (hi : i = nI j) (hj : j < N) (hN : N < 2 ^ 31)
    (hp : ∀ h, P h → P' (hu h a (aO G N (va_up f j (some v))))) (kk : WR K G A Q P' lv k n (pc + 1) st) : WR K G A Q P lv k n pc (.ref v :: .int i :: .ref a :: st) := by
  subst hi
  have e9 := nI_clamp (Nat.lt_trans hj hN)
  intro h H locs ls h0 h1 h2 h3 h4
  have he := hg h h0
  obtain ⟨r', hr', cellV, g1, g2, g3, -⟩ := h1 v _ (hv h h0)
  have hcls := (C.kn.1 ci r hc).2
  obtain ⟨kA, comp, k1, k2, k3, -⟩ := (C.kn.2 4 (G.2.1 4, .object "java/lang/Object") rfl).2
  obtain ⟨kE, hkE, -⟩ := Vm.findClass_spec k3
  obtain ⟨c0, t1, f1, f2, f3⟩ := Cond.castable_spec (va_Nw.use (A := K.args) rfl hca)
  cases hcls.1.symm.trans f1
  cases k3.symm.trans f2
  obtain ⟨kC, hkC, -⟩ := hcls.2
  refine W.aast C.ex C.cd (h1 a _ he) (fun q h => by cases h) (fun h => by cases h) k1 k2 rfl hkE ⟨nI_pos (Nat.lt_trans hj hN), by show _ < (arrV _ _ _).slots.size; rw [arrV_size, e9]; exact hj⟩ g1 (fun q h => by rw [g3] at h; cases h) (by rw [g2]; exact hkC) (by rw [g2]; exact f3) rfl rfl d fun H1 e z oq => ?_
  rw [e9] at e ⊢
  refine kk _ H1 _ ls (hp h h0) (h1.put ?_ oq) (dom_put h2 he) (h3.put z oq (h2 a (by rw [he]; exact fun q => by cases q))) h4
  show H1[a]? = some (vp_cell _ _)
  rw [e, vp_cell_q, vp_cell_q, arrV_store]
  congr 2
  funext q
  by_cases hq : q = j
  · subst hq
    simp [updV, va_up, va_rf]
  · simp [updV, va_up, hq]
theorem R_gets (C : CX K G A own cc nL ret rm tb) {Cn nm ds : String} {v : Value} {idx : Nat} (d : decode cc pc = .ok (.getstatic idx, 3)) (hZ : va_Z Cn nm ds v A K.s K.s.heap) (hlink : Cond.fieldLink own idx Cn nm ds ∈ BIG) (kk : WR K G A Q P lv k n (pc + 3) (v :: st)) : WR K G A Q P lv k n pc st :=
  fun h H locs ls h0 h1 h2 h3 h4 => va_gets C.ex C.cd hZ h3 C.ow (C.ts _ hlink) (fun _ q => q) d (kk h H locs ls h0 h1 h2 h3 h4)
theorem R_ldcS (C : CX K G A own cc nL ret rm tb) {tx : String} {idx q : Nat} (d : decode cc pc = .ok (.ldc idx, 2)) (hZ : vk_R own idx tx q K.s) (kk : WR K G A Q P lv k n (pc + 2) (.ref q :: st)) : WR K G A Q P lv k n pc st :=
  fun h H locs ls h0 h1 h2 h3 h4 => va_ldcS C.ex C.cd C.ow hZ d (kk h H locs ls h0 h1 h2 h3 h4)
theorem R_cast (C : CX K G A own cc nL ret rm tb) {a ci idx : Nat} {fs : List Value} {Cn : String} {T : u_T} {N : Nat} (d : decode cc pc = .ok (.checkcast idx, 3)) (hg : ∀ h, P h → h a = some (ob ci fs)) (hc : vwCl[ci]? = some (Cn, T, N)) (hlink : Cond.classLink own idx Cn ∈ BIG) (kk : WR K G A Q P lv k n (pc + 3) (.ref a :: st)) : WR K G A Q P lv k n pc (.ref a :: st) :=
  fun h H locs ls h0 h1 h2 h3 h4 => va_castE C.ex C.cd C.ow (C.ts _ hlink) (va_recv C.kn (h1.one (hg h h0)) (q0 := 0) hc rfl) d (kk h H locs ls h0 h1 h2 h3 h4)
theorem R_objInit (C : CX K G A own cc nL ret rm tb) {a idx : Nat} (d : decode cc pc = .ok (.invokespecial idx, 3)) (hlink : Cond.methodLink own idx objectInit ∈ BIG) (hlen : lv.length = nL) (hR : 1 ≤ rm.frames ∧ (st.map fun v => v.category).sum + 12 ≤ rm.locals) (kk : WR K G A Q P lv k n (pc + 3) st) : WR K G A Q P lv k n pc (.ref a :: st) :=
  fun h H locs ls h0 h1 h2 h3 h4 => W.objInit C.ex C.cd C.ow (C.ts _ hlink) (C.ts _ km_oi) (C.ts _ km_oc) rfl (by show ls.size = _; rw [C.mxl, ← hlen]; exact h4.1) rfl d (by rw [C.rom]; exact hR.1) (by rw [C.rom]; show 2 * 0 + _ + 12 ≤ _; omega) (kk h H locs ls h0 h1 h2 h3 h4)
theorem R_mmax (C : CX K G A own cc nL ret rm tb) {idx : Nat} {x y : Int32} (d : decode cc pc = .ok (.invokestatic idx, 3)) (hlink : Cond.methodLink own idx Lib.Math.max.name ∈ BIG) (hlen : lv.length = nL) (hR : 1 ≤ rm.frames ∧ (st.map fun v => v.category).sum + 13 ≤ rm.locals) (hcs : k ≤ rm.cells ∧ n ≤ rm.slots) (kk : WR K G A Q P lv k n (pc + 3) (.int (if x < y then y else x) :: st)) : WR K G A Q P lv k n pc (.int y :: .int x :: st) :=
  fun h H locs ls h0 h1 h2 h3 h4 => va_mmax C.ex C.cd (by rw [C.mxl, h4.1, hlen]) C.ow (C.ts _ hlink) (C.ts _ km_max_s) (C.ts _ km_i) (C.ts _ km_max_c) (by rw [C.rom]; exact hR.1) (by rw [C.rom]; exact hR.2) (by rw [C.rom]; exact hcs.1) (by rw [C.rom]; exact hcs.2) d (kk h H locs ls h0 h1 h2 h3 h4)
theorem R_mmin (C : CX K G A own cc nL ret rm tb) {idx : Nat} {x y : Int32} (d : decode cc pc = .ok (.invokestatic idx, 3)) (hlink : Cond.methodLink own idx Lib.Math.min.name ∈ BIG) (hlen : lv.length = nL) (hR : 1 ≤ rm.frames ∧ (st.map fun v => v.category).sum + 13 ≤ rm.locals) (hcs : k ≤ rm.cells ∧ n ≤ rm.slots) (kk : WR K G A Q P lv k n (pc + 3) (.int (if y < x then y else x) :: st)) : WR K G A Q P lv k n pc (.int y :: .int x :: st) :=
  fun h H locs ls h0 h1 h2 h3 h4 => va_mmin C.ex C.cd (by rw [C.mxl, h4.1, hlen]) C.ow (C.ts _ hlink) (C.ts _ km_min_s) (C.ts _ km_i) (C.ts _ km_min_c) (by rw [C.rom]; exact hR.1) (by rw [C.rom]; exact hR.2) (by rw [C.rom]; exact hcs.1) (by rw [C.rom]; exact hcs.2) d (kk h H locs ls h0 h1 h2 h3 h4)
theorem R_mabs (C : CX K G A own cc nL ret rm tb) {idx : Nat} {x : Int32} (d : decode cc pc = .ok (.invokestatic idx, 3)) (hlink : Cond.methodLink own idx Lib.Math.abs.name ∈ BIG) (hlen : lv.length = nL) (hR : 1 ≤ rm.frames ∧ (st.map fun v => v.category).sum + 13 ≤ rm.locals) (hcs : k ≤ rm.cells ∧ n ≤ rm.slots) (kk : WR K G A Q P lv k n (pc + 3) (.int (if 0 ≤ x then x else 0 - x) :: st)) : WR K G A Q P lv k n pc (.int x :: st) :=
  fun h H locs ls h0 h1 h2 h3 h4 => va_mabs C.ex C.cd (by rw [C.mxl, h4.1, hlen]) C.ow (C.ts _ hlink) (C.ts _ km_abs_s) (C.ts _ km_i) (C.ts _ km_abs_c) (by rw [C.rom]; exact hR.1) (by rw [C.rom]; exact hR.2) (by rw [C.rom]; exact hcs.1) (by rw [C.rom]; exact hcs.2) d (kk h H locs ls h0 h1 h2 h3 h4)
end
/-- a method's room by its depth -/
def rmD (dp mc ms : Nat) : Room := { frames := 8 + dp, cells := mc, slots := ms, locals := 120 + 40 * dp }
def HR (G : GT) (h : Hp) (U : State) : Prop := Rep G.1 h U.heap ∧ va_K G.1 vwCl (tyl G.2.1) U ∧ ST G (AH h U.heap.size) U U.heap
def QV (G : GT) (h0 : Hp) (sz : Nat) (PV : Option Value → Hp → Prop) : Array Value → State → Outcome → State → Prop := fun _ st oc t => (∃ (v : Option Value) (h1 : Hp), oc = .returned v ∧ PV v h1 ∧ Rep G.1 h1 t.heap ∧ ∀ a, h1 a ≠ none → AH h0 sz a) ∧ va_F (AH h0 sz) st t
def XV (G : GT) (h0 : Hp) (sz : Nat) (PX : String → Hp → Prop) : String → State → State → Prop := fun E st t => (∃ h1 : Hp, PX E h1 ∧ Rep G.1 h1 t.heap ∧ ∀ a, h1 a ≠ none → AH h0 sz a) ∧ va_F (AH h0 sz) st t
abbrev PRE (G : GT) (h0 : Hp) (sz : Nat) (vs : List Value) : Array Value → State → Prop := va_Pc vs (fun U => U.heap.size = sz ∧ HR G h0 U)
/-- CONTRACT of a method that returns: from the heap h0 with the arguments vs; PV says its answer and its heap -/
def CN (l : Launch) (y : MethodName) (cc : ByteArray) (mL : Nat) (ret : Option FieldType) (dp mc ms : Nat) (vs : List Value) (G : GT) (h0 : Hp) (PV : Option Value → Hp → Prop) : Prop :=
  ∀ sz, Met l y (.code y cc mL ret :: BIG) (rmD dp mc ms) (PRE G h0 sz vs) (QV G h0 sz PV) mc ms (AH h0 sz)
/-- CONTRACT of a method that returns or throws -/
def CT (l : Launch) (y : MethodName) (cc : ByteArray) (mL : Nat) (ret : Option FieldType) (dp mc ms : Nat) (vs : List Value) (G : GT) (h0 : Hp) (PV : Option Value → Hp → Prop) (PX : String → Hp → Prop) : Prop :=
  ∀ sz, vx_Met l y (.code y cc mL ret :: BIG) (rmD dp mc ms) (PRE G h0 sz vs) (QV G h0 sz PV) (XV G h0 sz PX) mc ms (AH h0 sz)
def QM (K : KT) (G : GT) (h0 : Hp) (sz mc ms : Nat) (PV : Option Value → Hp → Prop) : State → Prop := MQ K.below (QV G h0 sz PV) K.args K.s mc ms (AH h0 sz)
def QE (K : KT) (G : GT) (h0 : Hp) (sz mc ms : Nat) (PV : Option Value → Hp → Prop) (PX : String → Hp → Prop) : State → Prop := vx_MQ K.below (QV G h0 sz PV) (XV G h0 sz PX) K.args K.s mc ms (AH h0 sz)
theorem PRE.blind {G : GT} {h0 : Hp} {sz : Nat} {vs : List Value} : FrameBlind (PRE G h0 sz vs) := by
  intro a U g mk q
  obtain ⟨q0, q1, q2, q3, q4⟩ := q
  exact ⟨q0, q1, q2, va_K.moved (u := U) (U := U.calling g mk a) (Vm.Alike.refl U.vm) q3, ST.same (s := U) (U := U.calling g mk a) rfl q4⟩
theorem wsGood {y : MethodName} {cc : ByteArray} {mL : Nat} {ret : Option FieldType} (h : Cond.code y cc mL ret ∈ BIG) : GoodIn BIG (.code y cc mL ret :: BIG) := fun w hw => (List.mem_cons.mp hw).elim (fun e => e ▸ gBIG _ h) (fun q => gBIG w q)
theorem CN.of {l : Launch} {y : MethodName} {cc : ByteArray} {mL : Nat} {ret : Option FieldType} {dp mc ms : Nat} {vs : List Value} {G : GT} {h0 : Hp} {PV : Option Value → Hp → Prop} (hl : l.stackTraces = false) (hy : plainName y.cls = true) (hc : vs.all (fun v => v.category == 1) = true) (hn : vs.length ≤ mL)
    (body : ∀ (K : KT) (sz : Nat), K.l = l → K.meth.name = y.name → CX K G (AH h0 sz) y.cls cc mL ret (rmD dp mc ms) [] → WR K G (AH h0 sz) (QM K G h0 sz mc ms PV) (Eq h0) (lv0 vs mL) 0 0 0 []) : CN l y cc mL ret dp mc ms vs G h0 PV := by
  intro sz
  have hc' : ∀ v ∈ vs, v.category = 1 := fun v hv => by simpa using List.all_eq_true.mp hc v hv
  refine Met.ofW (cc := cc) (maxL := mL) (ret := ret) hy rfl ?_
  intro p e s m args below meth c s₁ B hml hv
  obtain ⟨rfl, hsz, hRep, hK, hST⟩ := hv
  subst hsz
  have hts := atoms_spec (ws := .code y cc mL ret :: BIG) B.pre
  have htb : c.exceptionTable.toList = [] := by
    obtain ⟨meth9, c9, h1, h2, -, -, -, -, h7, -⟩ := Cond.code_spec B.named (hts _ List.mem_cons_self)
    cases Option.some.inj (h1.symm.trans B.method)
    cases Option.some.inj (h2.symm.trans (Stand.of_body B).code)
    rw [Array.isEmpty_iff.mp h7]
  have C : CX (p, l, e, rmD dp mc ms, s, m, vs.toArray, below, meth, c) G (AH h0 s.heap.size) y.cls cc mL ret (rmD dp mc ms) [] :=
    ⟨B.exec, B.bytes, hml, findClass_of_methodNamed B.named, fun w hw => hts w (List.mem_cons_of_mem _ hw), hK, hST, fun q hq => Or.inr hq, B.returns, B.notSynchronized, hl, rfl, htb⟩
  rw [lg_entry_eq]
  exact body (p, l, e, rmD dp mc ms, s, m, vs.toArray, below, meth, c) s.heap.size rfl (name_of_methodNamed B.named B.method).1 C h0 s.heap [] _ rfl hRep (fun a ha => Or.inl ha) va_S.rf (LV.start hc' hn)
theorem CT.of {l : Launch} {y : MethodName} {cc : ByteArray} {mL : Nat} {ret : Option FieldType} {dp mc ms : Nat} {vs : List Value} {G : GT} {h0 : Hp} {PV : Option Value → Hp → Prop} {PX : String → Hp → Prop} (hl : l.stackTraces = false) (hy : plainName y.cls = true) (hc : vs.all (fun v => v.category == 1) = true) (hn : vs.length ≤ mL)
    (body : ∀ (K : KT) (sz : Nat), K.l = l → CX K G (AH h0 sz) y.cls cc mL ret (rmD dp mc ms) [] → WR K G (AH h0 sz) (QE K G h0 sz mc ms PV PX) (Eq h0) (lv0 vs mL) 0 0 0 []) : CT l y cc mL ret dp mc ms vs G h0 PV PX := by
  intro sz
  have hc' : ∀ v ∈ vs, v.category = 1 := fun v hv => by simpa using List.all_eq_true.mp hc v hv
  refine vx_ofW (cc := cc) (maxL := mL) (ret := ret) hy rfl ?_
  intro p e s m args below meth c s₁ B hml hx hv
  obtain ⟨rfl, hsz, hRep, hK, hST⟩ := hv
  subst hsz
  have hts := atoms_spec (ws := .code y cc mL ret :: BIG) B.pre
  have htb : c.exceptionTable.toList = [] := List.eq_nil_iff_forall_not_mem.mpr (fun x q => hx x q)
  have C : CX (p, l, e, rmD dp mc ms, s, m, vs.toArray, below, meth, c) G (AH h0 s.heap.size) y.cls cc mL ret (rmD dp mc ms) [] :=
    ⟨B.exec, B.bytes, hml, findClass_of_methodNamed B.named, fun w hw => hts w (List.mem_cons_of_mem _ hw), hK, hST, fun q hq => Or.inr hq, B.returns, B.notSynchronized, hl, rfl, htb⟩
  rw [lg_entry_eq]
  exact body (p, l, e, rmD dp mc ms, s, m, vs.toArray, below, meth, c) s.heap.size rfl C h0 s.heap [] _ rfl hRep (fun a ha => Or.inl ha) va_S.rf (LV.start hc' hn)
end
section
/-! 06: returns, throws, calls over WR. My own. -/
section
variable {K : KT} {G : GT} {own : String} {cc : ByteArray} {nL : Nat} {ret : Option FieldType} {rm : Room} {tb : List ExceptionTableEntry} {P : Hp → Prop} {lv : List (Option Value)} {k n pc sz mc ms : Nat} {h0 : Hp} {PV : Option Value → Hp → Prop} {PX : String → Hp → Prop}
theorem R_iret (C : CX K G (AH h0 sz) own cc nL ret rm tb) {v : Int32} (d : decode cc pc = .ok (.ireturn, 1)) (hr : ret = some .int) (hk : k ≤ mc) (hn : n ≤ ms) (hp : ∀ h, P h → PV (some (.int v)) h) : WR K G (AH h0 sz) (QM K G h0 sz mc ms PV) P lv k n pc [.int v] :=
  fun h H locs ls h0 h1 h2 h3 h4 => W.widen hk hn (W.iret C.ex C.cd (C.rt.trans hr) (fun t ht hW => ⟨⟨_, h, rfl, hp h h0, by rw [ht]; exact h1, h2⟩, h3.F ht⟩) h3.2.2 d C.lk)
theorem R_zret (C : CX K G (AH h0 sz) own cc nL ret rm tb) {v : Int32} {ty : FieldType} (d : decode cc pc = .ok (.ireturn, 1)) (hr : ret = some ty) (hty : narrow ty (.int v) = .int v) (hk : k ≤ mc) (hn : n ≤ ms) (hp : ∀ h, P h → PV (some (.int v)) h) : WR K G (AH h0 sz) (QM K G h0 sz mc ms PV) P lv k n pc [.int v] :=
  fun h H locs ls h0 h1 h2 h3 h4 => W.widen hk hn (W.zret C.ex C.cd (C.rt.trans hr) hty (fun t ht hW => ⟨⟨_, h, rfl, hp h h0, by rw [ht]; exact h1, h2⟩, h3.F ht⟩) h3.2.2 d C.lk)
theorem R_vret (C : CX K G (AH h0 sz) own cc nL ret rm tb) (d : decode cc pc = .ok (.return_, 1)) (hr : ret = none) (hk : k ≤ mc) (hn : n ≤ ms) (hp : ∀ h, P h → PV none h) : WR K G (AH h0 sz) (QM K G h0 sz mc ms PV) P lv k n pc [] :=
  fun h H locs ls h0 h1 h2 h3 h4 => W.widen hk hn (W.vret C.ex C.cd (C.rt.trans hr) (fun t ht hW => ⟨⟨_, h, rfl, hp h h0, by rw [ht]; exact h1, h2⟩, h3.F ht⟩) h3.2.2 d C.lk)
theorem R_aret (C : CX K G (AH h0 sz) own cc nL ret rm tb) {v : Value} {ty : FieldType} (d : decode cc pc = .ok (.areturn, 1)) (hr : ret = some ty) (hty : (∃ n, ty = .object n) ∨ ∃ t, ty = .array t) (hv : v = .null ∨ ∃ a, v = .ref a) (hk : k ≤ mc) (hn : n ≤ ms) (hp : ∀ h, P h → PV (some v) h) : WR K G (AH h0 sz) (QM K G h0 sz mc ms PV) P lv k n pc [v] :=
  fun h H locs ls h0 h1 h2 h3 h4 => W.widen hk hn (W.aret C.ex C.cd (C.rt.trans hr) hty hv (fun t ht hW => ⟨⟨_, h, rfl, hp h h0, by rw [ht]; exact h1, h2⟩, h3.F ht⟩) h3.2.2 d C.lk)
/-- in a method that may throw, a plain return -/
theorem R_ok {A : Nat → Prop} {st : List Value} (kk : WR K G A (QM K G h0 sz mc ms PV) P lv k n pc st) : WR K G A (QE K G h0 sz mc ms PV PX) P lv k n pc st :=
  fun h H locs ls h0 h1 h2 h3 h4 => vx_ret (kk h H locs ls h0 h1 h2 h3 h4)
/-- an exception goes on to the caller -/
theorem X_out (C : CX K G (AH h0 sz) own cc nL ret rm []) {P1 : Hp → Prop} {E : String} {st : List Value} (hk : k ≤ mc) (hn : n ≤ ms) (hp : ∀ h, P1 h → PX E h) : WX K G (AH h0 sz) (QE K G h0 sz mc ms PV PX) P1 lv k n pc st E :=
  fun h H locs ls q ce h0 h1 h2 h3 h4 g1 g2 g3 => vx_out (by rw [C.tab]; exact fun x hx => by cases hx) C.lk g1 g2 g3 (fun t ht hW => ⟨⟨h, hp h h0, by rw [ht]; exact h1, h2⟩, h3.F ht⟩) h3.2.2 hk hn
end
theorem X_none {K : KT} {G : GT} {A : Nat → Prop} {Q : State → Prop} {lv : List (Option Value)} {k n pc : Nat} {st : List Value} {E : String} {P1 : Hp → Prop} (h9 : ∀ h, ¬ P1 h) : WX K G A Q P1 lv k n pc st E := fun h H locs ls q ce h0 => absurd h0 (h9 h)
section
variable {K : KT} {G : GT} {A : Nat → Prop} {own : String} {cc : ByteArray} {nL : Nat} {ret : Option FieldType} {rm : Room} {tb : List ExceptionTableEntry} {Q : State → Prop} {P : Hp → Prop} {lv : List (Option Value)} {k n pc : Nat} {st0 rest : List Value}
/-- the callee's start, from the caller's state -/
theorem pre_of (C : CX K G A own cc nL ret rm tb) {h : Hp} {H : Heap} {locs : List Loc} {vs : List Value} (h1 : Rep G.1 h H) (h2 : ∀ a, h a ≠ none → A a) (h3 : va_S A K.s.heap H locs) : ∀ U : State, U.heap = H → K.s.WarmedH U.vm → PRE G h H.size vs vs.toArray U := by
  intro U hU hW
  refine ⟨rfl, by rw [hU], by rw [hU]; exact h1, va_K.moved hW.alike C.kn, ?_⟩
  rw [hU]
  refine ST.warm hW ((C.st.kept h3.2.1).narrow (fun q hq => ?_))
  rcases hq with hq | hq
  · exact h2 q hq
  · exact C.fr q (Nat.le_trans h3.1 hq)
theorem sub_of (C : CX K G A own cc nL ret rm tb) {h : Hp} {H : Heap} {locs : List Loc} (h2 : ∀ a, h a ≠ none → A a) (h3 : va_S A K.s.heap H locs) : ∀ q, AH h H.size q → A q := fun q hq => hq.elim (h2 q) (fun z => C.fr q (Nat.le_trans h3.1 z))
/-- behind a call that may throw -/
theorem fin_T (C : CX K G A own cc nL ret rm tb) {h : Hp} {H : Heap} {locs : List Loc} {ls : Array Slot} {mc ms : Nat} {PV : Option Value → Hp → Prop} {PX : String → Hp → Prop} {a9 : Array Value} (h2 : ∀ a, h a ≠ none → A a) (h3 : va_S A K.s.heap H locs) (h4 : LV ls lv)
    (run : vx_Run K.p K.l K.e K.R K.s K.m K.args K.below K.meth K.c H locs k n mc ms (F0 K.m pc ls st0) rest (QV G h H.size PV a9) (XV G h H.size PX) (AH h H.size))
    (kx : ∀ E, WX K G A Q (PX E) lv (k + mc) (n + ms) pc rest E) (kk : ∀ v, WR K G A Q (PV v) lv (k + mc) (n + ms) (pc + 3) (v.toList ++ rest)) : W K.p K.l K.e K.R K.s K.m K.args K.below K.meth K.c H locs k n Q (F0 K.m pc ls st0) := by
  have hf := sub_of C h2 h3
  intro T hT X
  rcases run T hT X with ⟨v, st₀, t, T', L, e0, X', hL, e1, e2, ⟨⟨v', hh, hv, hp, hrep, hdom⟩, hF⟩, st⟩ | ⟨q, st₀, t, T', L, E, ce, e0, X', hL, e1, e2, ⟨⟨hh, hp, hrep, hdom⟩, hF⟩, hce, hcv, hcl, st⟩
  · cases hv
    obtain ⟨k1, k2, k3⟩ := vx_keep e0 e1 h3 (fun q _ hq => hf q hq) hf hL hF
    obtain ⟨t2, a1, b1⟩ := kk v hh T'.heap (locs ++ L) ls hp (by rw [e1]; exact hrep) (fun a ha => hf a (hdom a ha)) k3 h4 T' rfl X'
    exact ⟨t2, st t2 a1, b1⟩
  · obtain ⟨k1, k2, k3⟩ := vx_keep e0 e1 h3 (fun q _ hq => hf q hq) hf hL hF
    obtain ⟨t2, a1, b1⟩ := kx E hh T'.heap (locs ++ L) ls q ce hp (by rw [e1]; exact hrep) (fun a ha => hf a (hdom a ha)) k3 h4 (by rw [e1]; exact hce) hcv hcl T' rfl X'
    exact ⟨t2, st.trans a1, b1⟩
/-- behind a call that returns -/
theorem fin_N (C : CX K G A own cc nL ret rm tb) {h : Hp} {H : Heap} {locs : List Loc} {ls : Array Slot} {mc ms : Nat} {PV : Option Value → Hp → Prop} {a9 : Array Value} (h2 : ∀ a, h a ≠ none → A a) (h3 : va_S A K.s.heap H locs) (h4 : LV ls lv)
    (run : va_Run K.p K.l K.e K.R K.s K.m K.args K.below K.meth K.c H locs k n mc ms (F0 K.m pc ls st0) rest (QV G h H.size PV a9) (AH h H.size))
    (kk : ∀ v, WR K G A Q (PV v) lv (k + mc) (n + ms) (pc + 3) (v.toList ++ rest)) : W K.p K.l K.e K.R K.s K.m K.args K.below K.meth K.c H locs k n Q (F0 K.m pc ls st0) := by
  have hf := sub_of C h2 h3
  intro T hT X
  obtain ⟨v, st₀, t, T', L, e0, X', hL, e1, e2, ⟨⟨v', hh, hv, hp, hrep, hdom⟩, hF⟩, st⟩ := run T hT X
  cases hv
  obtain ⟨k1, k2, k3⟩ := vx_keep e0 e1 h3 (fun q _ hq => hf q hq) hf hL hF
  obtain ⟨t2, a1, b1⟩ := kk v hh T'.heap (locs ++ L) ls hp (by rw [e1]; exact hrep) (fun a ha => hf a (hdom a ha)) k3 h4 T' rfl X'
  exact ⟨t2, st t2 a1, b1⟩
/-- what a caller must have for a callee of depth dp -/
abbrev fitD (rm : Room) (k n dp mc ms mL : Nat) (rest : List Value) : Prop := (8 + dp + 1 ≤ rm.frames ∧ 8 + (mL + 11) + (120 + 40 * dp) ≤ rm.locals) ∧ (k + mc ≤ rm.cells ∧ n + ms ≤ rm.slots) ∧ (rest.map fun v => v.category).sum ≤ 8
abbrev sigD (y : MethodName) (j : Nat) : Prop := y.cls ≠ "java/lang/invoke/MethodHandle" ∧ y.cls ≠ "java/lang/invoke/VarHandle" ∧ (parseMethodDescriptor y.desc).map (fun d => d.parameters.length) = some j
/-- the receiver is an object of class ci -/
def isOb (P : Hp → Prop) (a : Nat) (cls : String) : Prop := ∀ h, P h → ∃ (ci : Nat) (fs : List Value) (T : u_T) (N : Nat), h a = some (ob ci fs) ∧ vwCl[ci]? = some (cls, T, N)
theorem isOb.recv (C : CX K G A own cc nL ret rm tb) {a : Nat} {cls : String} (hr : isOb P a cls) {h : Hp} {H : Heap} (h0 : P h) (h1 : Rep G.1 h H) : ∃ cellB : Cell, H[a]? = some cellB ∧ cellB.vm.isStatics = false ∧ K.s.vm.findClass cls = some cellB.cls := by
  obtain ⟨ci, fs, T, N, e1, e2⟩ := hr h h0
  exact va_recv C.kn (h1.one e1) (q0 := 0) e2 rfl
/-- a call by invokevirtual of a method that may throw -/
theorem R_callVT (C : CX K G A own cc nL ret rm tb) {y : MethodName} {cc' : ByteArray} {mL' : Nat} {ret' : Option FieldType} {dp mc ms a idx : Nat} {vs : List Value} {PV : Hp → Option Value → Hp → Prop} {PX : Hp → String → Hp → Prop} (d : decode cc pc = .ok (.invokevirtual idx, 3))
    (hM : ∀ h, P h → CT K.l y cc' mL' ret' dp mc ms (.ref a :: vs) G h (PV h) (PX h)) (hrecv : isOb P a y.cls)
    (hw : Cond.methodLink own idx y ∈ BIG ∧ Cond.instanceMethod y ∈ BIG ∧ Cond.selects y.cls y y ∈ BIG ∧ Cond.initialized y.cls ∈ BIG ∧ Cond.code y cc' mL' ret' ∈ BIG) (hd : sigD y vs.length) (hR : fitD rm k n dp mc ms mL' rest) (hlen : lv.length = nL) (hst : st0 = vs.reverse ++ .ref a :: rest)
    (kx : ∀ h, P h → ∀ E, WX K G A Q (PX h E) lv (k + mc) (n + ms) pc rest E) (kk : ∀ h, P h → ∀ v, WR K G A Q (PV h v) lv (k + mc) (n + ms) (pc + 3) (v.toList ++ rest)) : WR K G A Q P lv k n pc st0 := by
  intro h H locs ls h0 h1 h2 h3 h4
  have hR' := C.rom
  have cb : CallB K.R K.s K.args own idx y cc' mL' ret' (.code y cc' mL' ret' :: BIG) (rmD dp mc ms) mc ms vs.length := callB_of vs.length C.ts (wsGood hw.2.2.2.2) rfl rfl rfl (C.ts _ hw.2.2.2.1) (C.ts _ hw.1) hd (by rw [hR']; exact hR.1)
  exact fin_T C h2 h3 h4 (vx_runV (C := y.cls) (As := vs) (rest := rest) ⟨C.ex, C.cd, C.mxl, C.ow, C.ts⟩ (hM h h0 H.size) ⟨cb, C.ts _ hw.2.1, C.ts _ hw.2.2.1⟩ ⟨PRE.blind, hrecv.recv C h0 h1, pre_of C h1 h2 h3⟩ rfl rfl (h4.1.trans hlen) hst (lv_room hR.2.2) d (by rw [hR']; exact hR.2.1)) (kx h h0) (kk h h0)
theorem R_callVN (C : CX K G A own cc nL ret rm tb) {y : MethodName} {cc' : ByteArray} {mL' : Nat} {ret' : Option FieldType} {dp mc ms a idx : Nat} {vs : List Value} {PV : Hp → Option Value → Hp → Prop} (d : decode cc pc = .ok (.invokevirtual idx, 3))
    (hM : ∀ h, P h → CN K.l y cc' mL' ret' dp mc ms (.ref a :: vs) G h (PV h)) (hrecv : isOb P a y.cls)
    (hw : Cond.methodLink own idx y ∈ BIG ∧ Cond.instanceMethod y ∈ BIG ∧ Cond.selects y.cls y y ∈ BIG ∧ Cond.initialized y.cls ∈ BIG ∧ Cond.code y cc' mL' ret' ∈ BIG) (hd : sigD y vs.length) (hR : fitD rm k n dp mc ms mL' rest) (hlen : lv.length = nL) (hst : st0 = vs.reverse ++ .ref a :: rest)
    (kk : ∀ h, P h → ∀ v, WR K G A Q (PV h v) lv (k + mc) (n + ms) (pc + 3) (v.toList ++ rest)) : WR K G A Q P lv k n pc st0 := by
  intro h H locs ls h0 h1 h2 h3 h4
  have hR' := C.rom
  have cb : CallB K.R K.s K.args own idx y cc' mL' ret' (.code y cc' mL' ret' :: BIG) (rmD dp mc ms) mc ms vs.length := callB_of vs.length C.ts (wsGood hw.2.2.2.2) rfl rfl rfl (C.ts _ hw.2.2.2.1) (C.ts _ hw.1) hd (by rw [hR']; exact hR.1)
  exact fin_N C h2 h3 h4 (va_runV (C := y.cls) (As := vs) (rest := rest) ⟨C.ex, C.cd, C.mxl, C.ow, C.ts⟩ (hM h h0 H.size) ⟨cb, C.ts _ hw.2.1, C.ts _ hw.2.2.1⟩ ⟨PRE.blind, hrecv.recv C h0 h1, pre_of C h1 h2 h3⟩ rfl rfl (h4.1.trans hlen) hst (lv_room hR.2.2) d (by rw [hR']; exact hR.2.1)) (kk h h0)
/-- .. on a receiver whose cell is known otherwise -/
theorem R_callVK (C : CX K G A own cc nL ret rm tb) {y : MethodName} {cc' : ByteArray} {mL' : Nat} {ret' : Option FieldType} {dp mc ms a idx : Nat} {vs : List Value} {PV : Hp → Option Value → Hp → Prop} (d : decode cc pc = .ok (.invokevirtual idx, 3))
    (hM : ∀ h, P h → CN K.l y cc' mL' ret' dp mc ms (.ref a :: vs) G h (PV h)) (hrecv : ∀ H locs, va_S A K.s.heap H locs → ∃ cellB : Cell, H[a]? = some cellB ∧ cellB.vm.isStatics = false ∧ K.s.vm.findClass y.cls = some cellB.cls)
    (hw : Cond.methodLink own idx y ∈ BIG ∧ Cond.instanceMethod y ∈ BIG ∧ Cond.selects y.cls y y ∈ BIG ∧ Cond.initialized y.cls ∈ BIG ∧ Cond.code y cc' mL' ret' ∈ BIG) (hd : sigD y vs.length) (hR : fitD rm k n dp mc ms mL' rest) (hlen : lv.length = nL) (hst : st0 = vs.reverse ++ .ref a :: rest)
    (kk : ∀ h, P h → ∀ v, WR K G A Q (PV h v) lv (k + mc) (n + ms) (pc + 3) (v.toList ++ rest)) : WR K G A Q P lv k n pc st0 := by
  intro h H locs ls h0 h1 h2 h3 h4
  have hR' := C.rom
  have cb : CallB K.R K.s K.args own idx y cc' mL' ret' (.code y cc' mL' ret' :: BIG) (rmD dp mc ms) mc ms vs.length := callB_of vs.length C.ts (wsGood hw.2.2.2.2) rfl rfl rfl (C.ts _ hw.2.2.2.1) (C.ts _ hw.1) hd (by rw [hR']; exact hR.1)
  exact fin_N C h2 h3 h4 (va_runV (C := y.cls) (As := vs) (rest := rest) ⟨C.ex, C.cd, C.mxl, C.ow, C.ts⟩ (hM h h0 H.size) ⟨cb, C.ts _ hw.2.1, C.ts _ hw.2.2.1⟩ ⟨PRE.blind, hrecv H locs h3, pre_of C h1 h2 h3⟩ rfl rfl (h4.1.trans hlen) hst (lv_room hR.2.2) d (by rw [hR']; exact hR.2.1)) (kk h h0)
/-- a static call -/
theorem R_callST (C : CX K G A own cc nL ret rm tb) {y : MethodName} {cc' : ByteArray} {mL' : Nat} {ret' : Option FieldType} {dp mc ms idx : Nat} {vs : List Value} {PV : Hp → Option Value → Hp → Prop} {PX : Hp → String → Hp → Prop} (d : decode cc pc = .ok (.invokestatic idx, 3))
    (hM : ∀ h, P h → CT K.l y cc' mL' ret' dp mc ms vs G h (PV h) (PX h))
    (hw : Cond.methodLink own idx y ∈ BIG ∧ Cond.static y ∈ BIG ∧ Cond.initialized y.cls ∈ BIG ∧ Cond.code y cc' mL' ret' ∈ BIG) (hd : sigD y vs.length) (hR : fitD rm k n dp mc ms mL' rest) (hlen : lv.length = nL) (hst : st0 = vs.reverse ++ rest)
    (kx : ∀ h, P h → ∀ E, WX K G A Q (PX h E) lv (k + mc) (n + ms) pc rest E) (kk : ∀ h, P h → ∀ v, WR K G A Q (PV h v) lv (k + mc) (n + ms) (pc + 3) (v.toList ++ rest)) : WR K G A Q P lv k n pc st0 := by
  intro h H locs ls h0 h1 h2 h3 h4
  have hR' := C.rom
  have cb : CallB K.R K.s K.args own idx y cc' mL' ret' (.code y cc' mL' ret' :: BIG) (rmD dp mc ms) mc ms vs.length := callB_of vs.length C.ts (wsGood hw.2.2.2) rfl rfl rfl (C.ts _ hw.2.2.1) (C.ts _ hw.1) hd (by rw [hR']; exact hR.1)
  exact fin_T C h2 h3 h4 (vx_runS (As := vs) (rest := rest) ⟨C.ex, C.cd, C.mxl, C.ow, C.ts⟩ (hM h h0 H.size) ⟨cb, C.ts _ hw.2.1⟩ ⟨PRE.blind, pre_of C h1 h2 h3⟩ rfl rfl (h4.1.trans hlen) hst (lv_room hR.2.2) d (by rw [hR']; exact hR.2.1)) (kx h h0) (kk h h0)
theorem R_callSN (C : CX K G A own cc nL ret rm tb) {y : MethodName} {cc' : ByteArray} {mL' : Nat} {ret' : Option FieldType} {dp mc ms idx : Nat} {vs : List Value} {PV : Hp → Option Value → Hp → Prop} (d : decode cc pc = .ok (.invokestatic idx, 3))
    (hM : ∀ h, P h → CN K.l y cc' mL' ret' dp mc ms vs G h (PV h))
    (hw : Cond.methodLink own idx y ∈ BIG ∧ Cond.static y ∈ BIG ∧ Cond.initialized y.cls ∈ BIG ∧ Cond.code y cc' mL' ret' ∈ BIG) (hd : sigD y vs.length) (hR : fitD rm k n dp mc ms mL' rest) (hlen : lv.length = nL) (hst : st0 = vs.reverse ++ rest)
    (kk : ∀ h, P h → ∀ v, WR K G A Q (PV h v) lv (k + mc) (n + ms) (pc + 3) (v.toList ++ rest)) : WR K G A Q P lv k n pc st0 := by
  intro h H locs ls h0 h1 h2 h3 h4
  have hR' := C.rom
  have cb : CallB K.R K.s K.args own idx y cc' mL' ret' (.code y cc' mL' ret' :: BIG) (rmD dp mc ms) mc ms vs.length := callB_of vs.length C.ts (wsGood hw.2.2.2) rfl rfl rfl (C.ts _ hw.2.2.1) (C.ts _ hw.1) hd (by rw [hR']; exact hR.1)
  exact fin_N C h2 h3 h4 (va_runS (As := vs) (rest := rest) ⟨C.ex, C.cd, C.mxl, C.ow, C.ts⟩ (hM h h0 H.size) ⟨cb, C.ts _ hw.2.1⟩ ⟨PRE.blind, pre_of C h1 h2 h3⟩ rfl rfl (h4.1.trans hlen) hst (lv_room hR.2.2) d (by rw [hR']; exact hR.2.1)) (kk h h0)
/-- a constructor -/
theorem R_callI (C : CX K G A own cc nL ret rm tb) {y : MethodName} {cc' : ByteArray} {mL' : Nat} {dp mc ms a idx : Nat} {vs : List Value} {PV : Hp → Option Value → Hp → Prop} (d : decode cc pc = .ok (.invokespecial idx, 3))
    (hM : ∀ h, P h → CN K.l y cc' mL' none dp mc ms (.ref a :: vs) G h (PV h)) (hy : y.name = "<init>")
    (hw : Cond.methodLink own idx y ∈ BIG ∧ Cond.instanceMethod y ∈ BIG ∧ Cond.initialized y.cls ∈ BIG ∧ Cond.code y cc' mL' none ∈ BIG) (hd : sigD y vs.length) (hR : fitD rm k n dp mc ms mL' rest) (hlen : lv.length = nL) (hst : st0 = vs.reverse ++ .ref a :: rest)
    (kk : ∀ h, P h → ∀ v, WR K G A Q (PV h v) lv (k + mc) (n + ms) (pc + 3) (v.toList ++ rest)) : WR K G A Q P lv k n pc st0 := by
  intro h H locs ls h0 h1 h2 h3 h4
  have hR' := C.rom
  have cb : CallB K.R K.s K.args own idx y cc' mL' none (.code y cc' mL' none :: BIG) (rmD dp mc ms) mc ms vs.length := callB_of vs.length C.ts (wsGood hw.2.2.2) rfl rfl rfl (C.ts _ hw.2.2.1) (C.ts _ hw.1) hd (by rw [hR']; exact hR.1)
  exact fin_N C h2 h3 h4 (va_runI (As := vs) (rest := rest) ⟨C.ex, C.cd, C.mxl, C.ow, C.ts⟩ (hM h h0 H.size) ⟨cb, hy, C.ts _ hw.2.1⟩ ⟨PRE.blind, pre_of C h1 h2 h3⟩ rfl rfl (h4.1.trans hlen) hst (lv_room hR.2.2) d (by rw [hR']; exact hR.2.1)) (kk h h0)
end
/-! throws: 'throw new E("text")' in WellRights -/
def xnm : List String := ["java/lang/RuntimeException", "java/lang/Exception"]
section
variable {K : KT} {G : GT} {cc : ByteArray} {nL : Nat} {ret : Option FieldType} {rm : Room} {P : Hp → Prop} {lv : List (Option Value)} {k n pc sz mc ms : Nat} {h0 : Hp} {PV : Option Value → Hp → Prop} {PX : String → Hp → Prop} {st : List Value}
theorem R_throw (C : CX K G (AH h0 sz) RX1 cc nL ret rm []) {E tx : String} {ik is ic sa : Nat} (d0 : decode cc pc = .ok (.new ik, 3)) (d3 : decode cc (pc + 3) = .ok (.dup, 1)) (d4 : decode cc (pc + 4) = .ok (.ldc is, 2)) (d6 : decode cc (pc + 6) = .ok (.invokespecial ic, 3)) (d9 : decode cc (pc + 9) = .ok (.athrow, 1))
    (hfit : Bundle.fit E = true) (hnm : ∀ x ∈ xnm, Bundle.fit x = true) (hk : Cond.classLink RX1 ik E ∈ BIG) (hini : Cond.initialized E ∈ BIG) (hstr : vk_R RX1 is tx sa K.s) (ha1 : ∀ w ∈ (vx_atS RX1 ic E xnm).filter goodWord, w ∈ BIG) (ha2 : ∀ w ∈ (vx_atS RX1 ic E xnm).filter (fun w => !goodWord w), w ∈ [Cond.castable E E, .declares (Bundle.initS "java/lang/RuntimeException"), .declares (Bundle.initS "java/lang/Exception"), .declares (Bundle.initS Bundle.tN)]) (hca : va_Nw (.castable E E) K.s)
    (hg : (Cond.classLink RX1 ik E :: Cond.initialized E :: vx_atS RX1 ic E xnm).all vx_ot = true) (hlen : lv.length = nL) (hR : (5 < rm.frames ∧ (st.map fun v => v.category).sum + 82 ≤ rm.locals) ∧ k + 1 ≤ rm.cells ∧ n + 6 ≤ rm.slots) (hc : k + 1 ≤ mc ∧ n + 6 ≤ ms)
    (hp : ∀ h, P h → PX E h) : WR K G (AH h0 sz) (QE K G h0 sz mc ms PV PX) P lv k n pc st := by
  intro h H locs ls g0 h1 h2 h3 h4
  have hat : ∀ w ∈ vx_atS RX1 ic E xnm, w.before K.args K.s = true := vx_hat (fun w hw => C.ts _ (ha1 w hw)) ha2 (vx_c (va_Nw.use rfl hca) (vx_c (va_Nw.use rfl C.st.2.2.2.2.2.2.2.1.2.2.2.1) (vx_c (va_Nw.use rfl C.st.2.2.2.2.2.2.2.1.2.2.2.2.1) (vx_c (va_Nw.use rfl C.st.2.2.2.2.2.2.2.1.2.2.2.2.2.1) vx_n))))
  exact vx_throwS C.ex C.cd C.ntr C.ow hfit hnm (C.ts _ hk) (C.ts _ hini) hstr hat (List.all_eq_true.mp hg) C.st.2.2.2.2.1.2.1 C.st.2.2.2.2.1.2.2 h3 (by rw [h4.1, hlen, C.mxl]) d0 d3 d4 d6 d9 (by rw [C.tab]; exact fun x hx => by cases hx) (by rw [C.rom]; exact hR.1.1) (by rw [C.rom]; exact hR.1.2) (by rw [C.rom]; exact hR.2.1) (by rw [C.rom]; exact hR.2.2) C.lk
    (fun t hv hz hq => ⟨⟨h, hp h g0, fun a e he => va_at.kept (h1 a e he) (hq a (h1.lt he)), h2⟩, ⟨Nat.le_trans h3.1 hz, fun q z1 z2 => (hq q (Nat.lt_of_lt_of_le z1 h3.1)).trans (h3.2.1 q z1 z2)⟩⟩) h3.2.2 hc.1 hc.2
theorem xnm_fit : ∀ x ∈ xnm, Bundle.fit x = true := by decide +kernel
theorem R_thrIOB (C : CX K G (AH h0 sz) RX1 cc nL ret rm []) {tx : String} {is sa : Nat} (d0 : decode cc pc = .ok (.new 90, 3)) (d3 : decode cc (pc + 3) = .ok (.dup, 1)) (d4 : decode cc (pc + 4) = .ok (.ldc is, 2)) (d6 : decode cc (pc + 6) = .ok (.invokespecial 94, 3)) (d9 : decode cc (pc + 9) = .ok (.athrow, 1)) (hstr : vk_R RX1 is tx sa K.s) (hlen : lv.length = nL) (hR : (5 < rm.frames ∧ (st.map fun v => v.category).sum + 82 ≤ rm.locals) ∧ k + 1 ≤ rm.cells ∧ n + 6 ≤ rm.slots) (hc : k + 1 ≤ mc ∧ n + 6 ≤ ms)
    (hp : ∀ h, P h → PX eIOB h) : WR K G (AH h0 sz) (QE K G h0 sz mc ms PV PX) P lv k n pc st :=
  R_throw C d0 d3 d4 d6 d9 (by decide +kernel) xnm_fit kt_IOB_c kt_IOB_i hstr kx_IOB (by decide +kernel) C.st.2.2.2.2.2.2.2.1.2.1 (by decide +kernel) hlen hR hc hp
theorem R_thrIAE (C : CX K G (AH h0 sz) RX1 cc nL ret rm []) {tx : String} {is sa : Nat} (d0 : decode cc pc = .ok (.new 168, 3)) (d3 : decode cc (pc + 3) = .ok (.dup, 1)) (d4 : decode cc (pc + 4) = .ok (.ldc is, 2)) (d6 : decode cc (pc + 6) = .ok (.invokespecial 172, 3)) (d9 : decode cc (pc + 9) = .ok (.athrow, 1)) (hstr : vk_R RX1 is tx sa K.s) (hlen : lv.length = nL) (hR : (5 < rm.frames ∧ (st.map fun v => v.category).sum + 82 ≤ rm.locals) ∧ k + 1 ≤ rm.cells ∧ n + 6 ≤ rm.slots) (hc : k + 1 ≤ mc ∧ n + 6 ≤ ms)
    (hp : ∀ h, P h → PX eIAE h) : WR K G (AH h0 sz) (QE K G h0 sz mc ms PV PX) P lv k n pc st :=
  R_throw C d0 d3 d4 d6 d9 (by decide +kernel) xnm_fit kt_IAE_c kt_IAE_i hstr kx_IAE (by decide +kernel) C.st.2.2.2.2.2.2.2.1.2.2.1 (by decide +kernel) hlen hR hc hp
theorem R_thrISE (C : CX K G (AH h0 sz) RX1 cc nL ret rm []) {tx : String} {is sa : Nat} (d0 : decode cc pc = .ok (.new 45, 3)) (d3 : decode cc (pc + 3) = .ok (.dup, 1)) (d4 : decode cc (pc + 4) = .ok (.ldc is, 2)) (d6 : decode cc (pc + 6) = .ok (.invokespecial 49, 3)) (d9 : decode cc (pc + 9) = .ok (.athrow, 1)) (hstr : vk_R RX1 is tx sa K.s) (hlen : lv.length = nL) (hR : (5 < rm.frames ∧ (st.map fun v => v.category).sum + 82 ≤ rm.locals) ∧ k + 1 ≤ rm.cells ∧ n + 6 ≤ rm.slots) (hc : k + 1 ≤ mc ∧ n + 6 ≤ ms)
    (hp : ∀ h, P h → PX eISE h) : WR K G (AH h0 sz) (QE K G h0 sz mc ms PV PX) P lv k n pc st :=
  R_throw C d0 d3 d4 d6 d9 (by decide +kernel) xnm_fit kt_ISE_c kt_ISE_i hstr kx_ISE (by decide +kernel) C.st.2.2.2.2.2.2.2.1.1 (by decide +kernel) hlen hR hc hp
end
end
section
/-! 07: the state of the two systems, and their cells. My own. -/
def su (F : Nat → Nat → Int32) (f i : Nat) (v : Int32) : Nat → Nat → Int32 := fun g j => if g = f ∧ j = i then v else F g j
theorem su_s {F : Nat → Nat → Int32} {f i : Nat} {v : Int32} : su F f i v f i = v := if_pos ⟨rfl, rfl⟩
theorem su_f {F : Nat → Nat → Int32} {f g i : Nat} {v : Int32} (h : g ≠ f) : su F f i v g = F g := by funext j; exact if_neg (fun q => h q.1)
theorem su_i {F : Nat → Nat → Int32} {f g i j : Nat} {v : Int32} (h : j ≠ i) : su F f i v g j = F g j := if_neg (fun q => h q.2)
theorem su_u {F : Nat → Nat → Int32} {f i : Nat} {v : Int32} : su F f i v f = upd (F f) i v := by funext j; simp [su, upd]
/-- wells, ponds, registers: 0 layer 1 place 2 level 3 limit 4 age 5 right 6 planned 7 fails 8 power 9 bank 10 fines 11 drew 12 told (by well), 13 lent (8 * from + to), 14 recharge (by layer), 15 places of ponds, 16: 0 fund, 1 years -/
abbrev St : Type := Nat × Nat × (Nat → Nat → Int32)
/-- addresses, the class's state, the model's, the model's scratch (0: thrown; 1: stopped; 2: behind), the law's out -/
abbrev WT : Type := (Nat → Nat) × St × St × (Nat → Nat → Int32) × (Nat → Int64)
/-- a text's letters -/
def tdig (p : Nat) : List Nat := if p < 10 then [48 + p] else [48 + p / 10, 48 + p % 10]
def tx (l p i : Nat) : List Nat := [108, 97, 121, 101, 114] ++ tdig l ++ [64] ++ tdig p ++ [58] ++ tdig i
def txb (l p i : Nat) : Nat → Int32 := fun j => nI ((tx l p i).getD j 0)
abbrev wellFs (adr : Nat → Nat) (F : Nat → Nat → Int32) (i : Nat) : List Value :=
  [.int (nI i), .int (F 0 i), .int (F 1 i), .int (F 3 i), .int (F 4 i), .int (F 5 i), .ref (adr (40 + i)), .ref (adr (60 + i)), .int (F 2 i), .int (F 6 i), .int (F 11 i), .int (F 12 i), .int (1 - F 7 i), .int (F 8 i), .int (F 9 i), .int (F 10 i)]
/-- a well's row of what it lent -/
def lrow (F : Nat → Nat → Int32) (i : Nat) : Nat → Int32 := fun j => if j < 8 then F 13 (8 * i + j) else 0
def cellX (G : GT) (adr : Nat → Nat) (S : St) : Nat → Option va_E
  | 0 => some (ob 4 [.ref (adr 1), .ref (adr 3), .ref (adr 4), .int (nI S.2.1), .int (S.2.2 16 0), .int (S.2.2 16 1)])
  | 1 => some (ob 2 [.int (nI S.1), .ref (if S.1 = 0 then G.2.2 0 else adr 2), .int (nI S.1)])
  | 2 => if S.1 = 0 then none else some (aO G 10 (fun j => if j < S.1 then some (adr (30 + j)) else none))
  | 3 => some (aI G 3 (S.2.2 14))
  | 4 => some (aI G 5 (S.2.2 15))
  | _ => none
def cellM (G : GT) (adr : Nat → Nat) (S : St) (mu : Nat → Nat → Int32) (g : Nat → Int64) : Nat → Option va_E
  | 0 => some (ob 5 [.int (mu 0 0), .int (nI S.1), .ref (adr 6), .ref (adr 7), .ref (adr 8), .ref (adr 9), .ref (adr 10), .ref (adr 11), .ref (adr 12), .ref (adr 13), .ref (adr 14), .ref (adr 15), .ref (adr 16), .ref (adr 17), .ref (adr 18), .ref (adr 19), .ref (adr 20), .int (nI S.2.1), .ref (adr 21), .int (S.2.2 16 0), .int (S.2.2 16 1), .ref (adr 22), .ref (adr 23)])
  | 1 => some (aI G 8 (S.2.2 0))
  | 2 => some (aI G 8 (S.2.2 1))
  | 3 => some (aI G 8 (S.2.2 2))
  | 4 => some (aI G 8 (S.2.2 3))
  | 5 => some (aI G 8 (S.2.2 4))
  | 6 => some (aI G 8 (S.2.2 5))
  | 7 => some (aI G 8 (S.2.2 6))
  | 8 => some (aZ G 8 (S.2.2 7))
  | 9 => some (aI G 8 (S.2.2 8))
  | 10 => some (aI G 8 (S.2.2 9))
  | 11 => some (aI G 8 (S.2.2 10))
  | 12 => some (aI G 8 (S.2.2 11))
  | 13 => some (aI G 8 (S.2.2 12))
  | 14 => some (aI G 64 (S.2.2 13))
  | 15 => some (aI G 3 (S.2.2 14))
  | 16 => some (aI G 5 (S.2.2 15))
  | 17 => some (aZ G 8 (mu 1))
  | 18 => some (aI G 8 (mu 2))
  | 19 => some (aJ G 1 g)
  | _ => none
def cellW (G : GT) (adr : Nat → Nat) (S : St) (q : Nat) : Option va_E :=
  if q % 10 < S.1 then
    (match q / 10 with
    | 0 => some (ob 3 (wellFs adr S.2.2 (q % 10)))
    | 1 => some (ob 0 [.ref (adr (50 + q % 10)), .int 0, .int 0, .int 0])
    | 2 => some (aB G (tx (S.2.2 0 (q % 10)).toNatClampNeg (S.2.2 1 (q % 10)).toNatClampNeg (q % 10)).length (txb (S.2.2 0 (q % 10)).toNatClampNeg (S.2.2 1 (q % 10)).toNatClampNeg (q % 10)))
    | 3 => some (aI G 8 (lrow S.2.2 (q % 10)))
    | _ => none)
  else none
def cellOf (G : GT) (w : WT) (r : Nat) : Option va_E :=
  if r < 5 then cellX G w.1 w.2.1 r else if r < 30 then cellM G w.1 w.2.2.1 w.2.2.2.1 w.2.2.2.2 (r - 5) else cellW G w.1 w.2.1 (r - 30)
/-- the world: each part lies at its address, and no two at one -/
def Wd (G : GT) (w : WT) (h : Hp) : Prop := (∀ r e, cellOf G w r = some e → h (w.1 r) = some e) ∧ ∀ r r', cellOf G w r ≠ none → cellOf G w r' ≠ none → w.1 r = w.1 r' → r = r'
theorem Wd.at {G : GT} {w : WT} {r : Nat} {e : va_E} (he : cellOf G w r = some e) : ∀ h, Wd G w h → h (w.1 r) = some e := fun _ H => H.1 r e he
/-- one part is written: the state is another one -/
theorem Wd.put {G : GT} {w w' : WT} {r : Nat} {e0 e1 : va_E} (h0 : cellOf G w r = some e0) (h1 : cellOf G w' r = some e1) (h2 : ∀ q, q ≠ r → cellOf G w' q = cellOf G w q) (ha : w'.1 = w.1) : ∀ h, Wd G w h → Wd G w' (hu h (w.1 r) e1) := by
  intro h H
  have al : ∀ q, cellOf G w' q ≠ none → cellOf G w q ≠ none := by
    intro q hq
    by_cases e : q = r
    · subst e; rw [h0]; exact fun z => by cases z
    · rw [← h2 q e]; exact hq
  refine ⟨fun q e hq => ?_, fun q q' hq hq' he => H.2 q q' (al q hq) (al q' hq') (by rw [ha] at he; exact he)⟩
  by_cases e9 : q = r
  · subst e9
    rw [h1] at hq
    cases hq
    rw [ha]
    exact hu_s
  · have h3 : cellOf G w q = some e := by rw [← h2 q e9]; exact hq
    have h4 : w.1 q ≠ w.1 r := fun z => e9 (H.2 q r (by rw [h3]; exact fun z => by cases z) (by rw [h0]; exact fun z => by cases z) z)
    rw [ha, hu_n h4]
    exact H.1 q e h3
/-- a cell that is no part of the world is made or written -/
theorem Wd.other {G : GT} {w : WT} {h : Hp} {a : Nat} {e : va_E} (H : Wd G w h) (ha : ∀ r, cellOf G w r ≠ none → w.1 r ≠ a) : Wd G w (hu h a e) := by
  refine ⟨fun r x hr => ?_, H.2⟩
  rw [hu_n (ha r (by rw [hr]; exact fun z => by cases z))]
  exact H.1 r x hr
theorem Wd.fresh {G : GT} {w : WT} {h : Hp} {a : Nat} (H : Wd G w h) (ha : h a = none) : ∀ r, cellOf G w r ≠ none → w.1 r ≠ a := by
  intro r hr e
  cases hc : cellOf G w r with
  | none => exact hr hc
  | some x =>
    have := H.1 r x hc
    rw [e, ha] at this
    cases this
section
variable {G : GT} {adr : Nat → Nat} {n P nm Pm : Nat} {F Fm mu : Nat → Nat → Int32} {g : Nat → Int64} {Sc Sm : St}
theorem cX {r : Nat} {w : WT} (h : r < 5) : cellOf G w r = cellX G w.1 w.2.1 r := if_pos h
theorem cM {r : Nat} {w : WT} (h : r < 25) : cellOf G w (5 + r) = cellM G w.1 w.2.2.1 w.2.2.2.1 w.2.2.2.2 r := by
  rw [cellOf, if_neg (by omega), if_pos (by omega), Nat.add_sub_cancel_left]
theorem cW {i k : Nat} {w : WT} : cellOf G w (30 + (10 * k + i)) = cellW G w.1 w.2.1 (10 * k + i) := by
  rw [cellOf, if_neg (by omega), if_neg (by omega), Nat.add_sub_cancel_left]
theorem c_well {i : Nat} {w : WT} (hi : i < w.2.1.1) (h10 : i < 10) : cellOf G w (30 + i) = some (ob 3 (wellFs w.1 w.2.1.2.2 i)) := by
  have := cW (G := G) (i := i) (k := 0) (w := w)
  rw [Nat.mul_zero, Nat.zero_add] at this
  rw [this, cellW, Nat.mod_eq_of_lt h10, if_pos hi, Nat.div_eq_of_lt h10]
  rfl
theorem c_str {i : Nat} {w : WT} (hi : i < w.2.1.1) (h10 : i < 10) : cellOf G w (40 + i) = some (ob 0 [.ref (w.1 (50 + i)), .int 0, .int 0, .int 0]) := by
  have := cW (G := G) (i := i) (k := 1) (w := w)
  rw [show 30 + (10 * 1 + i) = 40 + i by omega] at this
  rw [this, cellW, show (10 * 1 + i) % 10 = i by omega, if_pos hi, show (10 * 1 + i) / 10 = 1 by omega]
  rfl
theorem c_byt {i : Nat} {w : WT} (hi : i < w.2.1.1) (h10 : i < 10) : cellOf G w (50 + i) = some (aB G (tx (w.2.1.2.2 0 i).toNatClampNeg (w.2.1.2.2 1 i).toNatClampNeg i).length (txb (w.2.1.2.2 0 i).toNatClampNeg (w.2.1.2.2 1 i).toNatClampNeg i)) := by
  have := cW (G := G) (i := i) (k := 2) (w := w)
  rw [show 30 + (10 * 2 + i) = 50 + i by omega] at this
  rw [this, cellW, show (10 * 2 + i) % 10 = i by omega, if_pos hi, show (10 * 2 + i) / 10 = 2 by omega]
  rfl
theorem c_lent {i : Nat} {w : WT} (hi : i < w.2.1.1) (h10 : i < 10) : cellOf G w (60 + i) = some (aI G 8 (lrow w.2.1.2.2 i)) := by
  have := cW (G := G) (i := i) (k := 3) (w := w)
  rw [show 30 + (10 * 3 + i) = 60 + i by omega] at this
  rw [this, cellW, show (10 * 3 + i) % 10 = i by omega, if_pos hi, show (10 * 3 + i) / 10 = 3 by omega]
  rfl
theorem lrow_su {F : Nat → Nat → Int32} {f i : Nat} {v : Int32} (hf : 13 ≠ f) : lrow (su F f i v) = lrow F := by
  funext a b
  unfold lrow
  rw [su_f hf]
/-- a register of the class's side that only wells hold -/
theorem pc_well {f i : Nat} {v : Int32} (hf : f ≠ 0 ∧ f ≠ 1 ∧ f < 13) (hi : i < n) (h10 : n ≤ 8) (w : WT) (hw : w = (adr, (n, P, F), Sm, mu, g)) : ∀ q, q ≠ 30 + i → cellOf G (adr, (n, P, su F f i v), Sm, mu, g) q = cellOf G w q := by
  subst hw
  intro q hq
  by_cases h5 : q < 5
  · rw [cX h5, cX h5]
    show cellX G adr (n, P, su F f i v) q = cellX G adr (n, P, F) q
    unfold cellX
    simp only [su_f (show 16 ≠ f by omega), su_f (show 14 ≠ f by omega), su_f (show 15 ≠ f by omega)]
  · by_cases h30 : q < 30
    · rw [cellOf, cellOf, if_neg h5, if_pos h30, if_neg h5, if_pos h30]
    · rw [cellOf, cellOf, if_neg h5, if_neg h30, if_neg h5, if_neg h30]
      show cellW G adr (n, P, su F f i v) (q - 30) = cellW G adr (n, P, F) (q - 30)
      unfold cellW
      by_cases e : (q - 30) % 10 < n
      · rw [if_pos e, if_pos e]
        simp only [lrow_su (show 13 ≠ f by omega), su_f (show 0 ≠ f by omega), su_f (show 1 ≠ f by omega)]
        by_cases e2 : (q - 30) % 10 = i
        · have e3 : (q - 30) / 10 ≠ 0 := by omega
          split
          · omega
          · rfl
          · rfl
          · rfl
          · rfl
        · simp only [wellFs, su_i e2]
      · rw [if_neg e, if_neg e]
theorem pc_lent {i j : Nat} {v : Int32} (hi : i < n) (hn : n ≤ 8) (hj : j < 8) : ∀ q, q ≠ 60 + i → cellOf G (adr, (n, P, su F 13 (8 * i + j) v), Sm, mu, g) q = cellOf G (adr, (n, P, F), Sm, mu, g) q := by
  intro q hq
  by_cases h5 : q < 5
  · rw [cX h5, cX h5]
    show cellX G adr (n, P, su F 13 (8 * i + j) v) q = cellX G adr (n, P, F) q
    unfold cellX
    simp only [su_f (show 16 ≠ 13 by omega), su_f (show 14 ≠ 13 by omega), su_f (show 15 ≠ 13 by omega)]
  · by_cases h30 : q < 30
    · rw [cellOf, cellOf, if_neg h5, if_pos h30, if_neg h5, if_pos h30]
    · rw [cellOf, cellOf, if_neg h5, if_neg h30, if_neg h5, if_neg h30]
      show cellW G adr (n, P, su F 13 (8 * i + j) v) (q - 30) = cellW G adr (n, P, F) (q - 30)
      unfold cellW
      by_cases e : (q - 30) % 10 < n
      · rw [if_pos e, if_pos e]
        simp only [wellFs, su_f (show 0 ≠ 13 by omega), su_f (show 1 ≠ 13 by omega), su_f (show 2 ≠ 13 by omega), su_f (show 3 ≠ 13 by omega), su_f (show 4 ≠ 13 by omega), su_f (show 5 ≠ 13 by omega), su_f (show 6 ≠ 13 by omega), su_f (show 7 ≠ 13 by omega), su_f (show 8 ≠ 13 by omega), su_f (show 9 ≠ 13 by omega), su_f (show 10 ≠ 13 by omega), su_f (show 11 ≠ 13 by omega), su_f (show 12 ≠ 13 by omega)]
        split
        · rfl
        · rfl
        · rfl
        · refine congrArg (fun z => some (aI G 8 z)) ?_
          funext z
          show (if z < 8 then su F 13 (8 * i + j) v 13 (8 * ((q - 30) % 10) + z) else 0) = (if z < 8 then F 13 (8 * ((q - 30) % 10) + z) else 0)
          by_cases hz : z < 8
          · rw [if_pos hz, if_pos hz]; exact su_i (by omega)
          · rw [if_neg hz, if_neg hz]
        · rfl
      · rw [if_neg e, if_neg e]
theorem pw_13 {i j : Nat} {v : Int32} (hi : i < n) (hn : n ≤ 8) (hj : j < 8) : ∀ h, Wd G (adr, (n, P, F), Sm, mu, g) h → Wd G (adr, (n, P, su F 13 (8 * i + j) v), Sm, mu, g) (hu h (adr (60 + i)) (aI G 8 (upd (lrow F i) j v))) := by
  refine Wd.put (r := 60 + i) (c_lent hi (by omega)) ((c_lent hi (by omega)).trans (congrArg (fun z => some (aI G 8 z)) ?_)) (pc_lent hi hn hj) rfl
  funext z
  show (if z < 8 then su F 13 (8 * i + j) v 13 (8 * i + z) else 0) = (if z = j then v else (if z < 8 then F 13 (8 * i + z) else 0))
  by_cases e : z = j
  · subst e; rw [if_pos hj, if_pos rfl]; exact su_s
  · rw [if_neg e]
    by_cases hz : z < 8
    · rw [if_pos hz, if_pos hz]; exact su_i (by omega)
    · rw [if_neg hz, if_neg hz]
/-- the class's scalars, and the rows of recharges and ponds -/
theorem pc_x {P' : Nat} {F' : Nat → Nat → Int32} {r : Nat} (hr : r < 5) (h13 : ∀ f, f < 14 → F' f = F f) (h1 : r = 0 ∨ (P' = P ∧ F' 16 = F 16)) (h3 : r = 3 ∨ F' 14 = F 14) (h4 : r = 4 ∨ F' 15 = F 15) : ∀ q, q ≠ r → cellOf G (adr, (n, P', F'), Sm, mu, g) q = cellOf G (adr, (n, P, F), Sm, mu, g) q := by
  intro q hq
  by_cases h5 : q < 5
  · rw [cX h5, cX h5]
    show cellX G adr (n, P', F') q = cellX G adr (n, P, F) q
    unfold cellX
    split
    · rcases h1 with h1 | ⟨h1, h2⟩
      · omega
      · simp only [h1, h2]
    · rfl
    · rfl
    · rcases h3 with h3 | h3
      · omega
      · simp only [h3]
    · rcases h4 with h4 | h4
      · omega
      · simp only [h4]
    · rfl
  · by_cases h30 : q < 30
    · rw [cellOf, cellOf, if_neg h5, if_pos h30, if_neg h5, if_pos h30]
    · rw [cellOf, cellOf, if_neg h5, if_neg h30, if_neg h5, if_neg h30]
      show cellW G adr (n, P', F') (q - 30) = cellW G adr (n, P, F) (q - 30)
      unfold cellW
      simp only [wellFs, show lrow F' = lrow F from by (funext a b; unfold lrow; rw [h13 13 (by omega)]), h13 0 (by omega), h13 1 (by omega), h13 2 (by omega), h13 3 (by omega), h13 4 (by omega), h13 5 (by omega), h13 6 (by omega), h13 7 (by omega), h13 8 (by omega), h13 9 (by omega), h13 10 (by omega), h13 11 (by omega), h13 12 (by omega), h13 13 (by omega)]
/-- the model's side: any change of its object, or of one array -/
theorem pm_x {n' P' : Nat} {F' mu' : Nat → Nat → Int32} {g' : Nat → Int64} {r : Nat} (hr : r < 20) (h0 : r = 0 ∨ (n' = n ∧ P' = P ∧ F' 16 = F 16 ∧ mu' 0 = mu 0)) (hf : ∀ f, f < 16 → r = f + 1 ∨ F' f = F f) (h1 : r = 17 ∨ mu' 1 = mu 1) (h2 : r = 18 ∨ mu' 2 = mu 2) (hg : r = 19 ∨ g' = g) :
    ∀ q, q ≠ 5 + r → cellOf G (adr, Sc, (n', P', F'), mu', g') q = cellOf G (adr, Sc, (n, P, F), mu, g) q := by
  intro q hq
  by_cases h5 : q < 5
  · rw [cX h5, cX h5]
  · by_cases h30 : q < 30
    · rw [cellOf, cellOf, if_neg h5, if_pos h30, if_neg h5, if_pos h30]
      show cellM G adr (n', P', F') mu' g' (q - 5) = cellM G adr (n, P, F) mu g (q - 5)
      have e : ∀ f, f < 16 → q - 5 = f + 1 → F' f = F f := fun f hf1 he => (hf f hf1).elim (fun z => by omega) id
      unfold cellM
      split
      · rcases h0 with h0 | ⟨a1, a2, a3, a4⟩
        · omega
        · simp only [a1, a2, a3, a4]
      · exact congrArg (fun z => some (aI G 8 z)) (e 0 (by omega) (by assumption))
      · exact congrArg (fun z => some (aI G 8 z)) (e 1 (by omega) (by assumption))
      · exact congrArg (fun z => some (aI G 8 z)) (e 2 (by omega) (by assumption))
      · exact congrArg (fun z => some (aI G 8 z)) (e 3 (by omega) (by assumption))
      · exact congrArg (fun z => some (aI G 8 z)) (e 4 (by omega) (by assumption))
      · exact congrArg (fun z => some (aI G 8 z)) (e 5 (by omega) (by assumption))
      · exact congrArg (fun z => some (aI G 8 z)) (e 6 (by omega) (by assumption))
      · exact congrArg (fun z => some (aZ G 8 z)) (e 7 (by omega) (by assumption))
      · exact congrArg (fun z => some (aI G 8 z)) (e 8 (by omega) (by assumption))
      · exact congrArg (fun z => some (aI G 8 z)) (e 9 (by omega) (by assumption))
      · exact congrArg (fun z => some (aI G 8 z)) (e 10 (by omega) (by assumption))
      · exact congrArg (fun z => some (aI G 8 z)) (e 11 (by omega) (by assumption))
      · exact congrArg (fun z => some (aI G 8 z)) (e 12 (by omega) (by assumption))
      · exact congrArg (fun z => some (aI G 64 z)) (e 13 (by omega) (by assumption))
      · exact congrArg (fun z => some (aI G 3 z)) (e 14 (by omega) (by assumption))
      · exact congrArg (fun z => some (aI G 5 z)) (e 15 (by omega) (by assumption))
      · rcases h1 with h1 | h1
        · omega
        · exact congrArg (fun z => some (aZ G 8 z)) h1
      · rcases h2 with h2 | h2
        · omega
        · exact congrArg (fun z => some (aI G 8 z)) h2
      · rcases hg with hg | hg
        · omega
        · rw [hg]
      · rfl
    · rw [cellOf, cellOf, if_neg h5, if_neg h30, if_neg h5, if_neg h30]
theorem pw_2 {i : Nat} {v : Int32} (hi : i < n) (hn : n ≤ 8) : ∀ h, Wd G (adr, (n, P, F), Sm, mu, g) h → Wd G (adr, (n, P, su F 2 i v), Sm, mu, g) (hu h (adr (30 + i)) (ob 3 ((wellFs adr F i).set 8 (.int v)))) :=
  Wd.put (r := 30 + i) (c_well hi (by omega)) ((c_well hi (by omega)).trans (by simp [wellFs, su])) (pc_well (by omega) hi hn _ rfl) rfl
theorem pw_6 {i : Nat} {v : Int32} (hi : i < n) (hn : n ≤ 8) : ∀ h, Wd G (adr, (n, P, F), Sm, mu, g) h → Wd G (adr, (n, P, su F 6 i v), Sm, mu, g) (hu h (adr (30 + i)) (ob 3 ((wellFs adr F i).set 9 (.int v)))) :=
  Wd.put (r := 30 + i) (c_well hi (by omega)) ((c_well hi (by omega)).trans (by simp [wellFs, su])) (pc_well (by omega) hi hn _ rfl) rfl
theorem pw_11 {i : Nat} {v : Int32} (hi : i < n) (hn : n ≤ 8) : ∀ h, Wd G (adr, (n, P, F), Sm, mu, g) h → Wd G (adr, (n, P, su F 11 i v), Sm, mu, g) (hu h (adr (30 + i)) (ob 3 ((wellFs adr F i).set 10 (.int v)))) :=
  Wd.put (r := 30 + i) (c_well hi (by omega)) ((c_well hi (by omega)).trans (by simp [wellFs, su])) (pc_well (by omega) hi hn _ rfl) rfl
theorem pw_12 {i : Nat} {v : Int32} (hi : i < n) (hn : n ≤ 8) : ∀ h, Wd G (adr, (n, P, F), Sm, mu, g) h → Wd G (adr, (n, P, su F 12 i v), Sm, mu, g) (hu h (adr (30 + i)) (ob 3 ((wellFs adr F i).set 11 (.int v)))) :=
  Wd.put (r := 30 + i) (c_well hi (by omega)) ((c_well hi (by omega)).trans (by simp [wellFs, su])) (pc_well (by omega) hi hn _ rfl) rfl
theorem pw_8 {i : Nat} {v : Int32} (hi : i < n) (hn : n ≤ 8) : ∀ h, Wd G (adr, (n, P, F), Sm, mu, g) h → Wd G (adr, (n, P, su F 8 i v), Sm, mu, g) (hu h (adr (30 + i)) (ob 3 ((wellFs adr F i).set 13 (.int v)))) :=
  Wd.put (r := 30 + i) (c_well hi (by omega)) ((c_well hi (by omega)).trans (by simp [wellFs, su])) (pc_well (by omega) hi hn _ rfl) rfl
theorem pw_9 {i : Nat} {v : Int32} (hi : i < n) (hn : n ≤ 8) : ∀ h, Wd G (adr, (n, P, F), Sm, mu, g) h → Wd G (adr, (n, P, su F 9 i v), Sm, mu, g) (hu h (adr (30 + i)) (ob 3 ((wellFs adr F i).set 14 (.int v)))) :=
  Wd.put (r := 30 + i) (c_well hi (by omega)) ((c_well hi (by omega)).trans (by simp [wellFs, su])) (pc_well (by omega) hi hn _ rfl) rfl
theorem pw_10 {i : Nat} {v : Int32} (hi : i < n) (hn : n ≤ 8) : ∀ h, Wd G (adr, (n, P, F), Sm, mu, g) h → Wd G (adr, (n, P, su F 10 i v), Sm, mu, g) (hu h (adr (30 + i)) (ob 3 ((wellFs adr F i).set 15 (.int v)))) :=
  Wd.put (r := 30 + i) (c_well hi (by omega)) ((c_well hi (by omega)).trans (by simp [wellFs, su])) (pc_well (by omega) hi hn _ rfl) rfl
theorem pw_7 {i : Nat} {v b : Int32} (hb : 1 - v = b) (hi : i < n) (hn : n ≤ 8) : ∀ h, Wd G (adr, (n, P, F), Sm, mu, g) h → Wd G (adr, (n, P, su F 7 i v), Sm, mu, g) (hu h (adr (30 + i)) (ob 3 ((wellFs adr F i).set 12 (.int b)))) := by
  subst hb
  exact Wd.put (r := 30 + i) (c_well hi (by omega)) ((c_well hi (by omega)).trans (by simp [wellFs, su])) (pc_well (by omega) hi hn _ rfl) rfl
theorem pm_0 {i : Nat} {v : Int32} : ∀ h, Wd G (adr, Sc, (n, P, F), mu, g) h → Wd G (adr, Sc, (n, P, su F 0 i v), mu, g) (hu h (adr 6) (aI G 8 (upd (F 0) i v))) :=
  Wd.put (r := 6) rfl (by rw [← su_u]; rfl) (pm_x (r := 1) (by omega) (Or.inr ⟨rfl, rfl, su_f (by omega), rfl⟩) (fun f hf => if e : f = 0 then Or.inl (by omega) else Or.inr (su_f e)) (Or.inr rfl) (Or.inr rfl) (Or.inr rfl)) rfl
theorem pm_1 {i : Nat} {v : Int32} : ∀ h, Wd G (adr, Sc, (n, P, F), mu, g) h → Wd G (adr, Sc, (n, P, su F 1 i v), mu, g) (hu h (adr 7) (aI G 8 (upd (F 1) i v))) :=
  Wd.put (r := 7) rfl (by rw [← su_u]; rfl) (pm_x (r := 2) (by omega) (Or.inr ⟨rfl, rfl, su_f (by omega), rfl⟩) (fun f hf => if e : f = 1 then Or.inl (by omega) else Or.inr (su_f e)) (Or.inr rfl) (Or.inr rfl) (Or.inr rfl)) rfl
theorem pm_2 {i : Nat} {v : Int32} : ∀ h, Wd G (adr, Sc, (n, P, F), mu, g) h → Wd G (adr, Sc, (n, P, su F 2 i v), mu, g) (hu h (adr 8) (aI G 8 (upd (F 2) i v))) :=
  Wd.put (r := 8) rfl (by rw [← su_u]; rfl) (pm_x (r := 3) (by omega) (Or.inr ⟨rfl, rfl, su_f (by omega), rfl⟩) (fun f hf => if e : f = 2 then Or.inl (by omega) else Or.inr (su_f e)) (Or.inr rfl) (Or.inr rfl) (Or.inr rfl)) rfl
theorem pm_3 {i : Nat} {v : Int32} : ∀ h, Wd G (adr, Sc, (n, P, F), mu, g) h → Wd G (adr, Sc, (n, P, su F 3 i v), mu, g) (hu h (adr 9) (aI G 8 (upd (F 3) i v))) :=
  Wd.put (r := 9) rfl (by rw [← su_u]; rfl) (pm_x (r := 4) (by omega) (Or.inr ⟨rfl, rfl, su_f (by omega), rfl⟩) (fun f hf => if e : f = 3 then Or.inl (by omega) else Or.inr (su_f e)) (Or.inr rfl) (Or.inr rfl) (Or.inr rfl)) rfl
theorem pm_4 {i : Nat} {v : Int32} : ∀ h, Wd G (adr, Sc, (n, P, F), mu, g) h → Wd G (adr, Sc, (n, P, su F 4 i v), mu, g) (hu h (adr 10) (aI G 8 (upd (F 4) i v))) :=
  Wd.put (r := 10) rfl (by rw [← su_u]; rfl) (pm_x (r := 5) (by omega) (Or.inr ⟨rfl, rfl, su_f (by omega), rfl⟩) (fun f hf => if e : f = 4 then Or.inl (by omega) else Or.inr (su_f e)) (Or.inr rfl) (Or.inr rfl) (Or.inr rfl)) rfl
theorem pm_5 {i : Nat} {v : Int32} : ∀ h, Wd G (adr, Sc, (n, P, F), mu, g) h → Wd G (adr, Sc, (n, P, su F 5 i v), mu, g) (hu h (adr 11) (aI G 8 (upd (F 5) i v))) :=
  Wd.put (r := 11) rfl (by rw [← su_u]; rfl) (pm_x (r := 6) (by omega) (Or.inr ⟨rfl, rfl, su_f (by omega), rfl⟩) (fun f hf => if e : f = 5 then Or.inl (by omega) else Or.inr (su_f e)) (Or.inr rfl) (Or.inr rfl) (Or.inr rfl)) rfl
theorem pm_6 {i : Nat} {v : Int32} : ∀ h, Wd G (adr, Sc, (n, P, F), mu, g) h → Wd G (adr, Sc, (n, P, su F 6 i v), mu, g) (hu h (adr 12) (aI G 8 (upd (F 6) i v))) :=
  Wd.put (r := 12) rfl (by rw [← su_u]; rfl) (pm_x (r := 7) (by omega) (Or.inr ⟨rfl, rfl, su_f (by omega), rfl⟩) (fun f hf => if e : f = 6 then Or.inl (by omega) else Or.inr (su_f e)) (Or.inr rfl) (Or.inr rfl) (Or.inr rfl)) rfl
theorem pm_7 {i : Nat} {v : Int32} : ∀ h, Wd G (adr, Sc, (n, P, F), mu, g) h → Wd G (adr, Sc, (n, P, su F 7 i v), mu, g) (hu h (adr 13) (aZ G 8 (upd (F 7) i v))) :=
  Wd.put (r := 13) rfl (by rw [← su_u]; rfl) (pm_x (r := 8) (by omega) (Or.inr ⟨rfl, rfl, su_f (by omega), rfl⟩) (fun f hf => if e : f = 7 then Or.inl (by omega) else Or.inr (su_f e)) (Or.inr rfl) (Or.inr rfl) (Or.inr rfl)) rfl
theorem pm_8 {i : Nat} {v : Int32} : ∀ h, Wd G (adr, Sc, (n, P, F), mu, g) h → Wd G (adr, Sc, (n, P, su F 8 i v), mu, g) (hu h (adr 14) (aI G 8 (upd (F 8) i v))) :=
  Wd.put (r := 14) rfl (by rw [← su_u]; rfl) (pm_x (r := 9) (by omega) (Or.inr ⟨rfl, rfl, su_f (by omega), rfl⟩) (fun f hf => if e : f = 8 then Or.inl (by omega) else Or.inr (su_f e)) (Or.inr rfl) (Or.inr rfl) (Or.inr rfl)) rfl
theorem pm_9 {i : Nat} {v : Int32} : ∀ h, Wd G (adr, Sc, (n, P, F), mu, g) h → Wd G (adr, Sc, (n, P, su F 9 i v), mu, g) (hu h (adr 15) (aI G 8 (upd (F 9) i v))) :=
  Wd.put (r := 15) rfl (by rw [← su_u]; rfl) (pm_x (r := 10) (by omega) (Or.inr ⟨rfl, rfl, su_f (by omega), rfl⟩) (fun f hf => if e : f = 9 then Or.inl (by omega) else Or.inr (su_f e)) (Or.inr rfl) (Or.inr rfl) (Or.inr rfl)) rfl
theorem pm_10 {i : Nat} {v : Int32} : ∀ h, Wd G (adr, Sc, (n, P, F), mu, g) h → Wd G (adr, Sc, (n, P, su F 10 i v), mu, g) (hu h (adr 16) (aI G 8 (upd (F 10) i v))) :=
  Wd.put (r := 16) rfl (by rw [← su_u]; rfl) (pm_x (r := 11) (by omega) (Or.inr ⟨rfl, rfl, su_f (by omega), rfl⟩) (fun f hf => if e : f = 10 then Or.inl (by omega) else Or.inr (su_f e)) (Or.inr rfl) (Or.inr rfl) (Or.inr rfl)) rfl
theorem pm_11 {i : Nat} {v : Int32} : ∀ h, Wd G (adr, Sc, (n, P, F), mu, g) h → Wd G (adr, Sc, (n, P, su F 11 i v), mu, g) (hu h (adr 17) (aI G 8 (upd (F 11) i v))) :=
  Wd.put (r := 17) rfl (by rw [← su_u]; rfl) (pm_x (r := 12) (by omega) (Or.inr ⟨rfl, rfl, su_f (by omega), rfl⟩) (fun f hf => if e : f = 11 then Or.inl (by omega) else Or.inr (su_f e)) (Or.inr rfl) (Or.inr rfl) (Or.inr rfl)) rfl
theorem pm_12 {i : Nat} {v : Int32} : ∀ h, Wd G (adr, Sc, (n, P, F), mu, g) h → Wd G (adr, Sc, (n, P, su F 12 i v), mu, g) (hu h (adr 18) (aI G 8 (upd (F 12) i v))) :=
  Wd.put (r := 18) rfl (by rw [← su_u]; rfl) (pm_x (r := 13) (by omega) (Or.inr ⟨rfl, rfl, su_f (by omega), rfl⟩) (fun f hf => if e : f = 12 then Or.inl (by omega) else Or.inr (su_f e)) (Or.inr rfl) (Or.inr rfl) (Or.inr rfl)) rfl
theorem pm_13 {i : Nat} {v : Int32} : ∀ h, Wd G (adr, Sc, (n, P, F), mu, g) h → Wd G (adr, Sc, (n, P, su F 13 i v), mu, g) (hu h (adr 19) (aI G 64 (upd (F 13) i v))) :=
  Wd.put (r := 19) rfl (by rw [← su_u]; rfl) (pm_x (r := 14) (by omega) (Or.inr ⟨rfl, rfl, su_f (by omega), rfl⟩) (fun f hf => if e : f = 13 then Or.inl (by omega) else Or.inr (su_f e)) (Or.inr rfl) (Or.inr rfl) (Or.inr rfl)) rfl
theorem pm_14 {i : Nat} {v : Int32} : ∀ h, Wd G (adr, Sc, (n, P, F), mu, g) h → Wd G (adr, Sc, (n, P, su F 14 i v), mu, g) (hu h (adr 20) (aI G 3 (upd (F 14) i v))) :=
  Wd.put (r := 20) rfl (by rw [← su_u]; rfl) (pm_x (r := 15) (by omega) (Or.inr ⟨rfl, rfl, su_f (by omega), rfl⟩) (fun f hf => if e : f = 14 then Or.inl (by omega) else Or.inr (su_f e)) (Or.inr rfl) (Or.inr rfl) (Or.inr rfl)) rfl
theorem pm_15 {i : Nat} {v : Int32} : ∀ h, Wd G (adr, Sc, (n, P, F), mu, g) h → Wd G (adr, Sc, (n, P, su F 15 i v), mu, g) (hu h (adr 21) (aI G 5 (upd (F 15) i v))) :=
  Wd.put (r := 21) rfl (by rw [← su_u]; rfl) (pm_x (r := 16) (by omega) (Or.inr ⟨rfl, rfl, su_f (by omega), rfl⟩) (fun f hf => if e : f = 15 then Or.inl (by omega) else Or.inr (su_f e)) (Or.inr rfl) (Or.inr rfl) (Or.inr rfl)) rfl
theorem pm_stop {i : Nat} {v : Int32} : ∀ h, Wd G (adr, Sc, (n, P, F), mu, g) h → Wd G (adr, Sc, (n, P, F), su mu 1 i v, g) (hu h (adr 22) (aZ G 8 (upd (mu 1) i v))) :=
  Wd.put (r := 22) rfl (by rw [← su_u]; rfl) (pm_x (r := 17) (by omega) (Or.inr ⟨rfl, rfl, rfl, su_f (by omega)⟩) (fun f hf => Or.inr rfl) (Or.inl rfl) (Or.inr (su_f (by omega))) (Or.inr rfl)) rfl
theorem pm_beh {i : Nat} {v : Int32} : ∀ h, Wd G (adr, Sc, (n, P, F), mu, g) h → Wd G (adr, Sc, (n, P, F), su mu 2 i v, g) (hu h (adr 23) (aI G 8 (upd (mu 2) i v))) :=
  Wd.put (r := 23) rfl (by rw [← su_u]; rfl) (pm_x (r := 18) (by omega) (Or.inr ⟨rfl, rfl, rfl, su_f (by omega)⟩) (fun f hf => Or.inr rfl) (Or.inr (su_f (by omega))) (Or.inl rfl) (Or.inr rfl)) rfl
theorem pm_out {x : Int64} : ∀ h, Wd G (adr, Sc, (n, P, F), mu, g) h → Wd G (adr, Sc, (n, P, F), mu, vp_updL g 0 x) (hu h (adr 24) (aJ G 1 (vp_updL g 0 x))) :=
  Wd.put (r := 24) rfl rfl (pm_x (r := 19) (by omega) (Or.inr ⟨rfl, rfl, rfl, rfl⟩) (fun f hf => Or.inr rfl) (Or.inr rfl) (Or.inr rfl) (Or.inl rfl)) rfl
abbrev modFs (adr : Nat → Nat) (n P : Nat) (F mu : Nat → Nat → Int32) : List Value := [.int (mu 0 0), .int (nI n), .ref (adr 6), .ref (adr 7), .ref (adr 8), .ref (adr 9), .ref (adr 10), .ref (adr 11), .ref (adr 12), .ref (adr 13), .ref (adr 14), .ref (adr 15), .ref (adr 16), .ref (adr 17), .ref (adr 18), .ref (adr 19), .ref (adr 20), .int (nI P), .ref (adr 21), .int (F 16 0), .int (F 16 1), .ref (adr 22), .ref (adr 23)]
theorem pm_thr {v : Int32} : ∀ h, Wd G (adr, Sc, (n, P, F), mu, g) h → Wd G (adr, Sc, (n, P, F), su mu 0 0 v, g) (hu h (adr 5) (ob 5 ((modFs adr n P F mu).set 0 (.int v)))) :=
  Wd.put (r := 5) rfl rfl (pm_x (r := 0) (by omega) (Or.inl rfl) (fun f hf => Or.inr rfl) (Or.inr (su_f (by omega))) (Or.inr (su_f (by omega))) (Or.inr rfl)) rfl
theorem pm_wells {v : Int32} {n' : Nat} (hv : v = nI n') : ∀ h, Wd G (adr, Sc, (n, P, F), mu, g) h → Wd G (adr, Sc, (n', P, F), mu, g) (hu h (adr 5) (ob 5 ((modFs adr n P F mu).set 1 (.int v)))) := by
  subst hv
  exact Wd.put (r := 5) rfl rfl (pm_x (r := 0) (by omega) (Or.inl rfl) (fun f hf => Or.inr rfl) (Or.inr rfl) (Or.inr rfl) (Or.inr rfl)) rfl
theorem pm_ponds {v : Int32} {P' : Nat} (hv : v = nI P') : ∀ h, Wd G (adr, Sc, (n, P, F), mu, g) h → Wd G (adr, Sc, (n, P', F), mu, g) (hu h (adr 5) (ob 5 ((modFs adr n P F mu).set 17 (.int v)))) := by
  subst hv
  exact Wd.put (r := 5) rfl rfl (pm_x (r := 0) (by omega) (Or.inl rfl) (fun f hf => Or.inr rfl) (Or.inr rfl) (Or.inr rfl) (Or.inr rfl)) rfl
theorem pm_fund {v : Int32} : ∀ h, Wd G (adr, Sc, (n, P, F), mu, g) h → Wd G (adr, Sc, (n, P, su F 16 0 v), mu, g) (hu h (adr 5) (ob 5 ((modFs adr n P F mu).set 19 (.int v)))) :=
  Wd.put (r := 5) rfl rfl (pm_x (r := 0) (by omega) (Or.inl rfl) (fun f hf => Or.inr (su_f (by omega))) (Or.inr rfl) (Or.inr rfl) (Or.inr rfl)) rfl
theorem pm_years {v : Int32} : ∀ h, Wd G (adr, Sc, (n, P, F), mu, g) h → Wd G (adr, Sc, (n, P, su F 16 1 v), mu, g) (hu h (adr 5) (ob 5 ((modFs adr n P F mu).set 20 (.int v)))) :=
  Wd.put (r := 5) rfl rfl (pm_x (r := 0) (by omega) (Or.inl rfl) (fun f hf => Or.inr (su_f (by omega))) (Or.inr rfl) (Or.inr rfl) (Or.inr rfl)) rfl
abbrev xFs (adr : Nat → Nat) (P : Nat) (F : Nat → Nat → Int32) : List Value := [.ref (adr 1), .ref (adr 3), .ref (adr 4), .int (nI P), .int (F 16 0), .int (F 16 1)]
theorem pc_ponds {v : Int32} {P' : Nat} (hv : v = nI P') : ∀ h, Wd G (adr, (n, P, F), Sm, mu, g) h → Wd G (adr, (n, P', F), Sm, mu, g) (hu h (adr 0) (ob 4 ((xFs adr P F).set 3 (.int v)))) := by
  subst hv
  exact Wd.put (r := 0) rfl rfl (pc_x (by omega) (fun f hf => rfl) (Or.inl rfl) (Or.inr rfl) (Or.inr rfl)) rfl
theorem pc_fund {v : Int32} : ∀ h, Wd G (adr, (n, P, F), Sm, mu, g) h → Wd G (adr, (n, P, su F 16 0 v), Sm, mu, g) (hu h (adr 0) (ob 4 ((xFs adr P F).set 4 (.int v)))) :=
  Wd.put (r := 0) rfl rfl (pc_x (by omega) (fun f hf => su_f (by omega)) (Or.inl rfl) (Or.inr (su_f (by omega))) (Or.inr (su_f (by omega)))) rfl
theorem pc_years {v : Int32} : ∀ h, Wd G (adr, (n, P, F), Sm, mu, g) h → Wd G (adr, (n, P, su F 16 1 v), Sm, mu, g) (hu h (adr 0) (ob 4 ((xFs adr P F).set 5 (.int v)))) :=
  Wd.put (r := 0) rfl rfl (pc_x (by omega) (fun f hf => su_f (by omega)) (Or.inl rfl) (Or.inr (su_f (by omega))) (Or.inr (su_f (by omega)))) rfl
theorem pc_rech {i : Nat} {v : Int32} : ∀ h, Wd G (adr, (n, P, F), Sm, mu, g) h → Wd G (adr, (n, P, su F 14 i v), Sm, mu, g) (hu h (adr 3) (aI G 3 (upd (F 14) i v))) :=
  Wd.put (r := 3) rfl (by rw [← su_u]; rfl) (pc_x (by omega) (fun f hf => su_f (by omega)) (Or.inr ⟨rfl, su_f (by omega)⟩) (Or.inl rfl) (Or.inr (su_f (by omega)))) rfl
theorem pc_pond {i : Nat} {v : Int32} : ∀ h, Wd G (adr, (n, P, F), Sm, mu, g) h → Wd G (adr, (n, P, su F 15 i v), Sm, mu, g) (hu h (adr 4) (aI G 5 (upd (F 15) i v))) :=
  Wd.put (r := 4) rfl (by rw [← su_u]; rfl) (pc_x (by omega) (fun f hf => su_f (by omega)) (Or.inr ⟨rfl, su_f (by omega)⟩) (Or.inr (su_f (by omega))) (Or.inl rfl)) rfl
end
end
section
/-! 08: the cells in clean words; what holds of a state. Written by wip/whole/gen (08) and by hand. -/
section
variable {G : GT} {adr : Nat → Nat} {n P : Nat} {F mu : Nat → Nat → Int32} {g : Nat → Int64} {Sc Sm : St}
theorem wc0 : ∀ h, Wd G (adr, (n, P, F), Sm, mu, g) h → h (adr 0) = some (ob 4 (xFs adr P F)) := Wd.at (r := 0) rfl
theorem wc1 : ∀ h, Wd G (adr, (n, P, F), Sm, mu, g) h → h (adr 1) = some (ob 2 [.int (nI n), .ref (if n = 0 then G.2.2 0 else adr 2), .int (nI n)]) := Wd.at (r := 1) rfl
theorem wc2 (h0 : n ≠ 0) : ∀ h, Wd G (adr, (n, P, F), Sm, mu, g) h → h (adr 2) = some (aO G 10 (fun j => if j < n then some (adr (30 + j)) else none)) := Wd.at (r := 2) (show cellX G adr (n, P, F) 2 = _ from if_neg h0)
theorem wc3 : ∀ h, Wd G (adr, (n, P, F), Sm, mu, g) h → h (adr 3) = some (aI G 3 (F 14)) := Wd.at (r := 3) rfl
theorem wc4 : ∀ h, Wd G (adr, (n, P, F), Sm, mu, g) h → h (adr 4) = some (aI G 5 (F 15)) := Wd.at (r := 4) rfl
theorem wcw {i : Nat} (hi : i < n) (hn : n ≤ 8) : ∀ h, Wd G (adr, (n, P, F), Sm, mu, g) h → h (adr (30 + i)) = some (ob 3 (wellFs adr F i)) := Wd.at (r := 30 + i) (c_well hi (by omega))
theorem wcs {i : Nat} (hi : i < n) (hn : n ≤ 8) : ∀ h, Wd G (adr, (n, P, F), Sm, mu, g) h → h (adr (40 + i)) = some (ob 0 [.ref (adr (50 + i)), .int 0, .int 0, .int 0]) := Wd.at (r := 40 + i) (c_str hi (by omega))
theorem wcb {i : Nat} (hi : i < n) (hn : n ≤ 8) : ∀ h, Wd G (adr, (n, P, F), Sm, mu, g) h → h (adr (50 + i)) = some (aB G (tx (F 0 i).toNatClampNeg (F 1 i).toNatClampNeg i).length (txb (F 0 i).toNatClampNeg (F 1 i).toNatClampNeg i)) := Wd.at (r := 50 + i) (c_byt hi (by omega))
theorem wcl {i : Nat} (hi : i < n) (hn : n ≤ 8) : ∀ h, Wd G (adr, (n, P, F), Sm, mu, g) h → h (adr (60 + i)) = some (aI G 8 (lrow F i)) := Wd.at (r := 60 + i) (c_lent hi (by omega))
theorem wm0 : ∀ h, Wd G (adr, Sc, (n, P, F), mu, g) h → h (adr 5) = some (ob 5 (modFs adr n P F mu)) := Wd.at (r := 5) rfl
theorem wm_0 : ∀ h, Wd G (adr, Sc, (n, P, F), mu, g) h → h (adr 6) = some (aI G 8 (F 0)) := Wd.at (r := 6) rfl
theorem wm_1 : ∀ h, Wd G (adr, Sc, (n, P, F), mu, g) h → h (adr 7) = some (aI G 8 (F 1)) := Wd.at (r := 7) rfl
theorem wm_2 : ∀ h, Wd G (adr, Sc, (n, P, F), mu, g) h → h (adr 8) = some (aI G 8 (F 2)) := Wd.at (r := 8) rfl
theorem wm_3 : ∀ h, Wd G (adr, Sc, (n, P, F), mu, g) h → h (adr 9) = some (aI G 8 (F 3)) := Wd.at (r := 9) rfl
theorem wm_4 : ∀ h, Wd G (adr, Sc, (n, P, F), mu, g) h → h (adr 10) = some (aI G 8 (F 4)) := Wd.at (r := 10) rfl
theorem wm_5 : ∀ h, Wd G (adr, Sc, (n, P, F), mu, g) h → h (adr 11) = some (aI G 8 (F 5)) := Wd.at (r := 11) rfl
theorem wm_6 : ∀ h, Wd G (adr, Sc, (n, P, F), mu, g) h → h (adr 12) = some (aI G 8 (F 6)) := Wd.at (r := 12) rfl
theorem wm_7 : ∀ h, Wd G (adr, Sc, (n, P, F), mu, g) h → h (adr 13) = some (aZ G 8 (F 7)) := Wd.at (r := 13) rfl
theorem wm_8 : ∀ h, Wd G (adr, Sc, (n, P, F), mu, g) h → h (adr 14) = some (aI G 8 (F 8)) := Wd.at (r := 14) rfl
theorem wm_9 : ∀ h, Wd G (adr, Sc, (n, P, F), mu, g) h → h (adr 15) = some (aI G 8 (F 9)) := Wd.at (r := 15) rfl
theorem wm_10 : ∀ h, Wd G (adr, Sc, (n, P, F), mu, g) h → h (adr 16) = some (aI G 8 (F 10)) := Wd.at (r := 16) rfl
theorem wm_11 : ∀ h, Wd G (adr, Sc, (n, P, F), mu, g) h → h (adr 17) = some (aI G 8 (F 11)) := Wd.at (r := 17) rfl
theorem wm_12 : ∀ h, Wd G (adr, Sc, (n, P, F), mu, g) h → h (adr 18) = some (aI G 8 (F 12)) := Wd.at (r := 18) rfl
theorem wm_13 : ∀ h, Wd G (adr, Sc, (n, P, F), mu, g) h → h (adr 19) = some (aI G 64 (F 13)) := Wd.at (r := 19) rfl
theorem wm_14 : ∀ h, Wd G (adr, Sc, (n, P, F), mu, g) h → h (adr 20) = some (aI G 3 (F 14)) := Wd.at (r := 20) rfl
theorem wm_15 : ∀ h, Wd G (adr, Sc, (n, P, F), mu, g) h → h (adr 21) = some (aI G 5 (F 15)) := Wd.at (r := 21) rfl
theorem wm_s : ∀ h, Wd G (adr, Sc, (n, P, F), mu, g) h → h (adr 22) = some (aZ G 8 (mu 1)) := Wd.at (r := 22) rfl
theorem wm_b : ∀ h, Wd G (adr, Sc, (n, P, F), mu, g) h → h (adr 23) = some (aI G 8 (mu 2)) := Wd.at (r := 23) rfl
theorem wm_g : ∀ h, Wd G (adr, Sc, (n, P, F), mu, g) h → h (adr 24) = some (aJ G 1 g) := Wd.at (r := 24) rfl
end
/-- an int between, as a natural -/
def Bt (x : Int32) (m : Nat) : Prop := ∃ j : Nat, j ≤ m ∧ x = nI j
/-- what holds of every state that calls reach -/
def Ok (n P : Nat) (F : Nat → Nat → Int32) : Prop :=
  n ≤ 8 ∧ P ≤ 5 ∧ Bt (F 16 1) 60 ∧ ∀ i, (i < n → Bt (F 0 i) 2 ∧ Bt (F 1 i) 99) ∧ Bt (F 5 i) 1000 ∧ Bt (F 6 i) 2000 ∧ Bt (F 7 i) 1 ∧ Bt (F 8 i) 1000 ∧ Bt (F 11 i) 2000 ∧ Bt (F 12 i) 3000
theorem inc1 {i : Nat} : nI i + Int32.ofInt 1 = nI (i + 1) := nI_1 i
theorem nI_lt_iff {a b : Nat} (ha : a < 2 ^ 31) (hb : b < 2 ^ 31) : nI a < nI b ↔ a < b := nI_ltI ha hb
theorem isOb_of {P : Hp → Prop} {a ci : Nat} {fs : List Value} {cls : String} {T : u_T} {N : Nat} (hg : ∀ h, P h → h a = some (ob ci fs)) (hc : vwCl[ci]? = some (cls, T, N)) : isOb P a cls := fun h hh => ⟨ci, fs, T, N, hg h hh, hc⟩

theorem sgn {y : MethodName} {nv : Nat} {vs : List Value} (h : vs.length = nv) (hd : sigD y nv) : sigD y vs.length := h ▸ hd
end
section
/-! 10: the methods of Well, on a well of the world. Written by wip/whole/gen/m10.py -/
/-- number i among the stopped, a mask -/
def mBit (i : Nat) : Int32 := 1 <<< (nI i &&& 31)
def mIn (S : Int32) (i : Nat) : Bool := decide (¬ S &&& mBit i = 0)
/-- i is older than j -/
abbrev spOld (F : Nat → Nat → Int32) (i j : Nat) : Prop := F 4 i < F 4 j ∨ (F 4 i = F 4 j ∧ nI i < nI j)
def spDrawM (F : Nat → Nat → Int32) (S : Int32) (i : Nat) : Int32 := if mIn S i = true then 0 else F 6 i
/-- the reach of a layer and a place on a well at a layer and a place, as the class reckons -/
def absI (x : Int32) : Int32 := if 0 ≤ x then x else 0 - x
def spReachC (lw pw lo po : Int32) : Int32 :=
  let r : Int32 := if (0 : Int32) < 100 - 10 * absI (pw - po) then 100 - 10 * absI (pw - po) else 0
  if absI (lw - lo) = 0 then r else if absI (lw - lo) = 1 then r / 2 else 0
section
variable {l : Launch} {G : GT} {adr : Nat → Nat} {n P : Nat} {F mu : Nat → Nat → Int32} {g : Nat → Int64} {Sm : St}
set_option maxHeartbeats 4000000 in
set_option maxRecDepth 100000 in
theorem mX0_bit (hl : l.stackTraces = false) {i : Nat} (hi : i < n) (hn : n ≤ 8) : ∀ h, Wd G (adr, (n, P, F), Sm, mu, g) h → CN l yX0_bit cX0_bit 1 (some .int) 0 0 0 [.ref (adr (30 + i))] G h (fun v h1 => v = some (.int (mBit i)) ∧ Wd G (adr, (n, P, F), Sm, mu, g) h1) := by
  intro h0 hw
  refine CN.of hl (by decide +kernel) rfl (Nat.le_of_ble_eq_true rfl) (fun K sz hKl hin C => ?_)
  have C : CX K G (AH h0 sz) RX0 cX0_bit 1 (some .int) (rmD 0 0 0) [] := C
  subst hKl
  refine WR.imp (P' := Wd G (adr, (n, P, F), Sm, mu, g)) (fun h e => e ▸ hw) ?_
  show WR K G _ _ _ [some (.ref (adr (30 + i)))] 0 0 0 []
  refine R_iconst (pc := 0) C dX0_bit_0 (v := 1) (by decide) ?_
  refine R_aload_n (pc := 1) C dX0_bit_1 rfl ?_
  refine R_getf (pc := 2) C dX0_bit_2 (i := 0) (wcw hi hn) rfl inlX0 (by decide) k_5_0 rfl ?_
  refine R_ishl (pc := 5) C dX0_bit_5 ?_
  exact R_iret (pc := 6) C dX0_bit_6 rfl (Nat.le_of_ble_eq_true rfl) (Nat.le_of_ble_eq_true rfl) (fun h hh => ⟨by rfl, hh⟩)
set_option maxHeartbeats 4000000 in
set_option maxRecDepth 100000 in
theorem mX0_isIn (hl : l.stackTraces = false) {i : Nat} {S : Int32} (hi : i < n) (hn : n ≤ 8) : ∀ h, Wd G (adr, (n, P, F), Sm, mu, g) h → CN l yX0_isIn cX0_isIn 2 (some .boolean) 1 0 0 [.ref (adr (30 + i)), .int S] G h (fun v h1 => v = some (.int (if mIn S i = true then 1 else 0)) ∧ Wd G (adr, (n, P, F), Sm, mu, g) h1) := by
  intro h0 hw
  refine CN.of hl (by decide +kernel) rfl (Nat.le_of_ble_eq_true rfl) (fun K sz hKl hin C => ?_)
  have C : CX K G (AH h0 sz) RX0 cX0_isIn 2 (some .boolean) (rmD 1 0 0) [] := C
  subst hKl
  refine WR.imp (P' := Wd G (adr, (n, P, F), Sm, mu, g)) (fun h e => e ▸ hw) ?_
  show WR K G _ _ _ [some (.ref (adr (30 + i))), some (.int S)] 0 0 0 []
  refine R_iload_n (pc := 0) C dX0_isIn_0 rfl ?_
  refine R_aload_n (pc := 1) C dX0_isIn_1 rfl ?_
  refine R_callVN (pc := 2) C dX0_isIn_2 (vs := []) (fun h hh => mX0_bit hl hi hn h hh) (isOb_of (wcw hi hn) rfl) ⟨k_24_14, k_24_15, k_24_16, k_4_4, k_24_17⟩ (sgn (nv := 0) rfl ⟨by decide +kernel, by decide +kernel, by decide +kernel⟩) ⟨⟨Nat.le_of_ble_eq_true rfl, Nat.le_of_ble_eq_true rfl⟩, ⟨Nat.le_of_ble_eq_true rfl, Nat.le_of_ble_eq_true rfl⟩, Nat.le_of_ble_eq_true rfl⟩ rfl rfl (fun h9 hh9 v9 => ?_)
  refine WR.pr (fun e9 => ?_)
  subst e9
  show WR K G _ _ _ _ 0 0 _ (.int _ :: _)
  refine R_iand (pc := 5) C dX0_isIn_5 ?_
  refine R_if_eq (pc := 6) C dX0_isIn_6 (tgt := 13) (by decide) (fun c6 => ?_) (fun c6 => ?_)
  · refine R_iconst (pc := 13) C dX0_isIn_13 (v := 0) (by decide) ?_
    exact R_zret (pc := 14) C dX0_isIn_14 rfl rfl (Nat.le_of_ble_eq_true rfl) (Nat.le_of_ble_eq_true rfl) (fun h hh => ⟨by simp [mIn, c6], hh⟩)
  · refine R_iconst (pc := 9) C dX0_isIn_9 (v := 1) (by decide) ?_
    refine R_goto (pc := 10) C dX0_isIn_10 (tgt := 14) (by decide) ?_
    exact R_zret (pc := 14) C dX0_isIn_14 rfl rfl (Nat.le_of_ble_eq_true rfl) (Nat.le_of_ble_eq_true rfl) (fun h hh => ⟨by simp [mIn, c6], hh⟩)
set_option maxHeartbeats 4000000 in
set_option maxRecDepth 100000 in
theorem mX0_isOlderThan (hl : l.stackTraces = false) {i j : Nat} (hi : i < n) (hj : j < n) (hn : n ≤ 8) : ∀ h, Wd G (adr, (n, P, F), Sm, mu, g) h → CN l yX0_isOlderThan cX0_isOlderThan 2 (some .boolean) 0 0 0 [.ref (adr (30 + i)), .ref (adr (30 + j))] G h (fun v h1 => v = some (.int (if spOld F i j then 1 else 0)) ∧ Wd G (adr, (n, P, F), Sm, mu, g) h1) := by
  intro h0 hw
  refine CN.of hl (by decide +kernel) rfl (Nat.le_of_ble_eq_true rfl) (fun K sz hKl hin C => ?_)
  have C : CX K G (AH h0 sz) RX0 cX0_isOlderThan 2 (some .boolean) (rmD 0 0 0) [] := C
  subst hKl
  refine WR.imp (P' := Wd G (adr, (n, P, F), Sm, mu, g)) (fun h e => e ▸ hw) ?_
  show WR K G _ _ _ [some (.ref (adr (30 + i))), some (.ref (adr (30 + j)))] 0 0 0 []
  refine R_aload_n (pc := 0) C dX0_isOlderThan_0 rfl ?_
  refine R_getf (pc := 1) C dX0_isOlderThan_1 (i := 4) (wcw hi hn) rfl inlX0 (by decide) k_5_5 rfl ?_
  refine R_aload_n (pc := 4) C dX0_isOlderThan_4 rfl ?_
  refine R_getf (pc := 5) C dX0_isOlderThan_5 (i := 4) (wcw hj hn) rfl inlX0 (by decide) k_5_5 rfl ?_
  refine R_icmp_lt (pc := 8) C dX0_isOlderThan_8 (tgt := 33) (by decide) (fun c8 => ?_) (fun c8 => ?_)
  · refine R_iconst (pc := 33) C dX0_isOlderThan_33 (v := 1) (by decide) ?_
    refine R_goto (pc := 34) C dX0_isOlderThan_34 (tgt := 38) (by decide) ?_
    exact R_zret (pc := 38) C dX0_isOlderThan_38 rfl rfl (Nat.le_of_ble_eq_true rfl) (Nat.le_of_ble_eq_true rfl) (fun h hh => ⟨by exact congrArg (fun z => some (Value.int z)) (if_pos (Or.inl c8)).symm, hh⟩)
  · refine R_aload_n (pc := 11) C dX0_isOlderThan_11 rfl ?_
    refine R_getf (pc := 12) C dX0_isOlderThan_12 (i := 4) (wcw hi hn) rfl inlX0 (by decide) k_5_5 rfl ?_
    refine R_aload_n (pc := 15) C dX0_isOlderThan_15 rfl ?_
    refine R_getf (pc := 16) C dX0_isOlderThan_16 (i := 4) (wcw hj hn) rfl inlX0 (by decide) k_5_5 rfl ?_
    refine R_icmp_ne (pc := 19) C dX0_isOlderThan_19 (tgt := 37) (by decide) (fun c19 => ?_) (fun c19 => ?_)
    · refine R_iconst (pc := 37) C dX0_isOlderThan_37 (v := 0) (by decide) ?_
      exact R_zret (pc := 38) C dX0_isOlderThan_38 rfl rfl (Nat.le_of_ble_eq_true rfl) (Nat.le_of_ble_eq_true rfl) (fun h hh => ⟨by exact congrArg (fun z => some (Value.int z)) (if_neg (fun q => q.elim c8 (fun z => c19 z.1))).symm, hh⟩)
    · refine R_aload_n (pc := 22) C dX0_isOlderThan_22 rfl ?_
      refine R_getf (pc := 23) C dX0_isOlderThan_23 (i := 0) (wcw hi hn) rfl inlX0 (by decide) k_5_0 rfl ?_
      refine R_aload_n (pc := 26) C dX0_isOlderThan_26 rfl ?_
      refine R_getf (pc := 27) C dX0_isOlderThan_27 (i := 0) (wcw hj hn) rfl inlX0 (by decide) k_5_0 rfl ?_
      refine R_icmp_ge (pc := 30) C dX0_isOlderThan_30 (tgt := 37) (by decide) (fun c30 => ?_) (fun c30 => ?_)
      · refine R_iconst (pc := 37) C dX0_isOlderThan_37 (v := 0) (by decide) ?_
        exact R_zret (pc := 38) C dX0_isOlderThan_38 rfl rfl (Nat.le_of_ble_eq_true rfl) (Nat.le_of_ble_eq_true rfl) (fun h hh => ⟨by exact congrArg (fun z => some (Value.int z)) (if_neg (fun q => q.elim c8 (fun z => absurd z.2 (Int32.not_lt.mpr c30)))).symm, hh⟩)
      · refine R_iconst (pc := 33) C dX0_isOlderThan_33 (v := 1) (by decide) ?_
        refine R_goto (pc := 34) C dX0_isOlderThan_34 (tgt := 38) (by decide) ?_
        exact R_zret (pc := 38) C dX0_isOlderThan_38 rfl rfl (Nat.le_of_ble_eq_true rfl) (Nat.le_of_ble_eq_true rfl) (fun h hh => ⟨by exact congrArg (fun z => some (Value.int z)) (if_pos (Or.inr ⟨c19, Int32.not_le.mp c30⟩)).symm, hh⟩)
set_option maxHeartbeats 4000000 in
set_option maxRecDepth 100000 in
theorem mX0_drawUnder (hl : l.stackTraces = false) {i : Nat} {S : Int32} (hi : i < n) (hn : n ≤ 8) : ∀ h, Wd G (adr, (n, P, F), Sm, mu, g) h → CN l yX0_drawUnder cX0_drawUnder 2 (some .int) 2 0 0 [.ref (adr (30 + i)), .int S] G h (fun v h1 => v = some (.int (spDrawM F S i)) ∧ Wd G (adr, (n, P, F), Sm, mu, g) h1) := by
  intro h0 hw
  refine CN.of hl (by decide +kernel) rfl (Nat.le_of_ble_eq_true rfl) (fun K sz hKl hin C => ?_)
  have C : CX K G (AH h0 sz) RX0 cX0_drawUnder 2 (some .int) (rmD 2 0 0) [] := C
  subst hKl
  refine WR.imp (P' := Wd G (adr, (n, P, F), Sm, mu, g)) (fun h e => e ▸ hw) ?_
  show WR K G _ _ _ [some (.ref (adr (30 + i))), some (.int S)] 0 0 0 []
  refine R_aload_n (pc := 0) C dX0_drawUnder_0 rfl ?_
  refine R_iload_n (pc := 1) C dX0_drawUnder_1 rfl ?_
  refine R_callVN (pc := 2) C dX0_drawUnder_2 (vs := [_]) (fun h hh => mX0_isIn hl hi hn h hh) (isOb_of (wcw hi hn) rfl) ⟨k_24_10, k_24_11, k_24_12, k_4_4, k_24_13⟩ (sgn (nv := 1) rfl ⟨by decide +kernel, by decide +kernel, by decide +kernel⟩) ⟨⟨Nat.le_of_ble_eq_true rfl, Nat.le_of_ble_eq_true rfl⟩, ⟨Nat.le_of_ble_eq_true rfl, Nat.le_of_ble_eq_true rfl⟩, Nat.le_of_ble_eq_true rfl⟩ rfl rfl (fun h9 hh9 v9 => ?_)
  refine WR.pr (fun e9 => ?_)
  subst e9
  show WR K G _ _ _ _ 0 0 _ (.int _ :: _)
  refine R_if_eq (pc := 5) C dX0_drawUnder_5 (tgt := 12) (by decide) (fun c5 => ?_) (fun c5 => ?_)
  · refine R_aload_n (pc := 12) C dX0_drawUnder_12 rfl ?_
    refine R_getf (pc := 13) C dX0_drawUnder_13 (i := 9) (wcw hi hn) rfl inlX0 (by decide) k_24_9 rfl ?_
    exact R_iret (pc := 16) C dX0_drawUnder_16 rfl (Nat.le_of_ble_eq_true rfl) (Nat.le_of_ble_eq_true rfl) (fun h hh => ⟨by revert c5; unfold spDrawM; cases mIn S i <;> simp, hh⟩)
  · refine R_iconst (pc := 8) C dX0_drawUnder_8 (v := 0) (by decide) ?_
    refine R_goto (pc := 9) C dX0_drawUnder_9 (tgt := 16) (by decide) ?_
    exact R_iret (pc := 16) C dX0_drawUnder_16 rfl (Nat.le_of_ble_eq_true rfl) (Nat.le_of_ble_eq_true rfl) (fun h hh => ⟨by revert c5; unfold spDrawM; cases mIn S i <;> simp, hh⟩)
set_option maxHeartbeats 4000000 in
set_option maxRecDepth 100000 in
theorem mX0_reachedFrom (hl : l.stackTraces = false) {i : Nat} {lo po : Int32} (hi : i < n) (hn : n ≤ 8) : ∀ h, Wd G (adr, (n, P, F), Sm, mu, g) h → CN l yX0_reachedFrom cX0_reachedFrom 5 (some .int) 0 0 0 [.ref (adr (30 + i)), .int lo, .int po] G h (fun v h1 => v = some (.int (spReachC (F 0 i) (F 1 i) lo po)) ∧ Wd G (adr, (n, P, F), Sm, mu, g) h1) := by
  intro h0 hw
  refine CN.of hl (by decide +kernel) rfl (Nat.le_of_ble_eq_true rfl) (fun K sz hKl hin C => ?_)
  have C : CX K G (AH h0 sz) RX0 cX0_reachedFrom 5 (some .int) (rmD 0 0 0) [] := C
  subst hKl
  refine WR.imp (P' := Wd G (adr, (n, P, F), Sm, mu, g)) (fun h e => e ▸ hw) ?_
  show WR K G _ _ _ [some (.ref (adr (30 + i))), some (.int lo), some (.int po), none, none] 0 0 0 []
  refine R_iconst (pc := 0) C dX0_reachedFrom_0 (v := 0) (by decide) ?_
  refine R_bipush (pc := 1) C dX0_reachedFrom_1 (v := 100) (by decide) ?_
  refine R_bipush (pc := 3) C dX0_reachedFrom_3 (v := 10) (by decide) ?_
  refine R_aload_n (pc := 5) C dX0_reachedFrom_5 rfl ?_
  refine R_getf (pc := 6) C dX0_reachedFrom_6 (i := 2) (wcw hi hn) rfl inlX0 (by decide) k_5_2 rfl ?_
  refine R_iload_n (pc := 9) C dX0_reachedFrom_9 rfl ?_
  refine R_isub (pc := 10) C dX0_reachedFrom_10 ?_
  refine R_mabs (pc := 11) C dX0_reachedFrom_11 k_20_21 rfl ⟨Nat.le_of_ble_eq_true rfl, Nat.le_of_ble_eq_true rfl⟩ ⟨Nat.le_of_ble_eq_true rfl, Nat.le_of_ble_eq_true rfl⟩ ?_
  refine R_imul (pc := 14) C dX0_reachedFrom_14 ?_
  refine R_isub (pc := 15) C dX0_reachedFrom_15 ?_
  refine R_mmax (pc := 16) C dX0_reachedFrom_16 k_21_0 rfl ⟨Nat.le_of_ble_eq_true rfl, Nat.le_of_ble_eq_true rfl⟩ ⟨Nat.le_of_ble_eq_true rfl, Nat.le_of_ble_eq_true rfl⟩ ?_
  refine R_istore_n (pc := 19) C dX0_reachedFrom_19 (Nat.le_of_ble_eq_true rfl) (lv' := [some (.ref _), some (.int _), some (.int _), some (.int _), none]) rfl ?_
  refine R_aload_n (pc := 20) C dX0_reachedFrom_20 rfl ?_
  refine R_getf (pc := 21) C dX0_reachedFrom_21 (i := 1) (wcw hi hn) rfl inlX0 (by decide) k_5_1 rfl ?_
  refine R_iload_n (pc := 24) C dX0_reachedFrom_24 rfl ?_
  refine R_isub (pc := 25) C dX0_reachedFrom_25 ?_
  refine R_mabs (pc := 26) C dX0_reachedFrom_26 k_20_21 rfl ⟨Nat.le_of_ble_eq_true rfl, Nat.le_of_ble_eq_true rfl⟩ ⟨Nat.le_of_ble_eq_true rfl, Nat.le_of_ble_eq_true rfl⟩ ?_
  refine R_istore (pc := 29) C dX0_reachedFrom_29 (Nat.le_of_ble_eq_true rfl) (lv' := [some (.ref _), some (.int _), some (.int _), some (.int _), some (.int _)]) rfl ?_
  refine R_iload (pc := 31) C dX0_reachedFrom_31 rfl ?_
  refine R_if_ne (pc := 33) C dX0_reachedFrom_33 (tgt := 38) (by decide) (fun c33 => ?_) (fun c33 => ?_)
  · refine R_iload (pc := 38) C dX0_reachedFrom_38 rfl ?_
    refine R_iconst (pc := 40) C dX0_reachedFrom_40 (v := 1) (by decide) ?_
    refine R_icmp_ne (pc := 41) C dX0_reachedFrom_41 (tgt := 50) (by decide) (fun c41 => ?_) (fun c41 => ?_)
    · refine R_iconst (pc := 50) C dX0_reachedFrom_50 (v := 0) (by decide) ?_
      exact R_iret (pc := 51) C dX0_reachedFrom_51 rfl (Nat.le_of_ble_eq_true rfl) (Nat.le_of_ble_eq_true rfl) (fun h hh => ⟨by simp only [spReachC, absI, *]; rfl, hh⟩)
    · refine R_iload_n (pc := 44) C dX0_reachedFrom_44 rfl ?_
      refine R_iconst (pc := 45) C dX0_reachedFrom_45 (v := 2) (by decide) ?_
      refine R_idiv (pc := 46) C dX0_reachedFrom_46 (by decide) ?_
      refine R_goto (pc := 47) C dX0_reachedFrom_47 (tgt := 51) (by decide) ?_
      exact R_iret (pc := 51) C dX0_reachedFrom_51 rfl (Nat.le_of_ble_eq_true rfl) (Nat.le_of_ble_eq_true rfl) (fun h hh => ⟨by simp only [spReachC, absI, *]; rfl, hh⟩)
  · refine R_iload_n (pc := 36) C dX0_reachedFrom_36 rfl ?_
    exact R_iret (pc := 37) C dX0_reachedFrom_37 rfl (Nat.le_of_ble_eq_true rfl) (Nat.le_of_ble_eq_true rfl) (fun h hh => ⟨by simp only [spReachC, absI, *]; rfl, hh⟩)
end
end
section
/-! 11: list.size, list.get, the checks of WellRights, wellAt. Written by wip/whole/gen/m11.py -/
section
variable {l : Launch} {G : GT} {adr : Nat → Nat} {n P : Nat} {F mu : Nat → Nat → Int32} {g : Nat → Int64} {Sm : St}
theorem wc1' (h0 : n ≠ 0) : ∀ h, Wd G (adr, (n, P, F), Sm, mu, g) h → h (adr 1) = some (ob 2 [.int (nI n), .ref (adr 2), .int (nI n)]) := fun h hw => (wc1 h hw).trans (by rw [if_neg h0])
theorem in_lt {x : Int32} {m : Nat} (hm : m < 2 ^ 31) (h1 : ¬ x < 0) (h2 : x < nI m) : ∃ i, i < m ∧ x = nI i := by
  rcases pk_ix x hm with h | h | h
  · exact absurd h h1
  · exact absurd h2 (Int32.not_lt.mpr h)
  · exact h
theorem in_neg {x : Int32} {m : Nat} (hm : m < 2 ^ 31) (h1 : x < 0) : ∀ i, i < m → x ≠ nI i := fun i hi e => absurd (e ▸ h1) (nI_pos (by omega))
theorem in_ge {x : Int32} {m : Nat} (hm : m < 2 ^ 31) (h1 : ¬ x < nI m) : ∀ i, i < m → x ≠ nI i := fun i hi e => h1 (e ▸ nI_lt hi hm)
theorem n31 {n : Nat} (hn : n ≤ 8) : n < 2 ^ 31 := by omega
set_option maxHeartbeats 4000000 in
set_option maxRecDepth 100000 in
theorem mJx4a65c_size_8abf5 (hl : l.stackTraces = false)   : ∀ h, Wd G (adr, (n, P, F), Sm, mu, g) h → CN l yJx4a65c_size_8abf5 cJx4a65c_size_8abf5 1 (some .int) 0 0 0 [.ref (adr 1)] G h (fun v h1 => v = some (.int (nI n)) ∧ Wd G (adr, (n, P, F), Sm, mu, g) h1) := by
  intro h0 hwd
  refine CN.of hl (by decide +kernel) rfl (Nat.le_of_ble_eq_true rfl) (fun K sz hKl hin C => ?_)
  have C : CX K G (AH h0 sz) RJx4a65c cJx4a65c_size_8abf5 1 (some .int) (rmD 0 0 0) [] := C
  subst hKl
  refine WR.imp (P' := Wd G (adr, (n, P, F), Sm, mu, g)) (fun h e => e ▸ hwd) ?_
  show WR K G _ _ _ [some (.ref (adr 1))] 0 0 0 []
  refine R_aload_n (pc := 0) C dJx4a65c_size_8abf5_0 rfl ?_
  refine R_getf (pc := 1) C dJx4a65c_size_8abf5_1 (i := 2) (wc1) rfl inlJx4a65c (by decide) k_4_19 rfl ?_
  exact R_iret (pc := 4) C dJx4a65c_size_8abf5_4 rfl (Nat.le_of_ble_eq_true rfl) (Nat.le_of_ble_eq_true rfl) (fun h hh => ⟨rfl, hh⟩)
set_option maxHeartbeats 4000000 in
set_option maxRecDepth 100000 in
theorem mJ3_checkIndex_8e157 (hl : l.stackTraces = false) {i m : Nat} (hi : i < m) (hm : m < 2 ^ 31) : ∀ h, CN l yJ3_checkIndex_8e157 cJ3_checkIndex_8e157 3 (some .int) 0 0 0 [.int (nI i), .int (nI m), .null] G h (fun v h1 => v = some (.int (nI i)) ∧ h1 = h) := by
  intro h0
  refine CN.of hl (by decide +kernel) rfl (Nat.le_of_ble_eq_true rfl) (fun K sz hKl hin C => ?_)
  have C : CX K G (AH h0 sz) RJ3 cJ3_checkIndex_8e157 3 (some .int) (rmD 0 0 0) [] := C
  subst hKl
  show WR K G _ _ _ [some (.int (nI i)), some (.int (nI m)), some (.null)] 0 0 0 []
  refine R_iload_n (pc := 0) C dJ3_checkIndex_8e157_0 rfl ?_
  refine R_if_lt (pc := 1) C dJ3_checkIndex_8e157_1 (tgt := 9) (by decide) (fun c1 => absurd c1 (nI_pos (by omega))) (fun c1 => ?_)
  refine R_iload_n (pc := 4) C dJ3_checkIndex_8e157_4 rfl ?_
  refine R_iload_n (pc := 5) C dJ3_checkIndex_8e157_5 rfl ?_
  refine R_icmp_lt (pc := 6) C dJ3_checkIndex_8e157_6 (tgt := 16) (by decide) (fun c6 => ?_) (fun c6 => absurd (nI_lt hi hm) c6)
  refine R_iload_n (pc := 16) C dJ3_checkIndex_8e157_16 rfl ?_
  exact R_iret (pc := 17) C dJ3_checkIndex_8e157_17 rfl (Nat.le_of_ble_eq_true rfl) (Nat.le_of_ble_eq_true rfl) (fun h hh => ⟨rfl, hh.symm⟩)
set_option maxHeartbeats 4000000 in
set_option maxRecDepth 100000 in
theorem mJ15_checkIndex_7cf53 (hl : l.stackTraces = false) {i m : Nat} (hi : i < m) (hm : m < 2 ^ 31) : ∀ h, CN l yJ15_checkIndex_7cf53 cJ15_checkIndex_7cf53 2 (some .int) 1 0 0 [.int (nI i), .int (nI m)] G h (fun v h1 => v = some (.int (nI i)) ∧ h1 = h) := by
  intro h0
  refine CN.of hl (by decide +kernel) rfl (Nat.le_of_ble_eq_true rfl) (fun K sz hKl hin C => ?_)
  have C : CX K G (AH h0 sz) RJ15 cJ15_checkIndex_7cf53 2 (some .int) (rmD 1 0 0) [] := C
  subst hKl
  show WR K G _ _ _ [some (.int (nI i)), some (.int (nI m))] 0 0 0 []
  refine R_iload_n (pc := 0) C dJ15_checkIndex_7cf53_0 rfl ?_
  refine R_iload_n (pc := 1) C dJ15_checkIndex_7cf53_1 rfl ?_
  refine R_null (pc := 2) C dJ15_checkIndex_7cf53_2 ?_
  refine R_callSN (pc := 3) C dJ15_checkIndex_7cf53_3 (vs := [_, _, _]) (fun h hh => mJ3_checkIndex_8e157 hl hi hm h) ⟨k_19_4, k_13_23, k_9_17, k_14_0⟩ (sgn (nv := 3) rfl ⟨by decide +kernel, by decide +kernel, by decide +kernel⟩) ⟨⟨Nat.le_of_ble_eq_true rfl, Nat.le_of_ble_eq_true rfl⟩, ⟨Nat.le_of_ble_eq_true rfl, Nat.le_of_ble_eq_true rfl⟩, Nat.le_of_ble_eq_true rfl⟩ rfl rfl (fun h9 hh9 v9 => ?_)
  refine WR.pr (fun e9 => ?_)
  subst e9
  refine WR.imp (P' := Eq h0) (fun h1 e1 => e1 ▸ hh9) ?_
  show WR K G _ _ _ _ _ _ _ (.int _ :: _)
  exact R_iret (pc := 6) C dJ15_checkIndex_7cf53_6 rfl (Nat.le_of_ble_eq_true rfl) (Nat.le_of_ble_eq_true rfl) (fun h hh => ⟨rfl, hh.symm⟩)
set_option maxHeartbeats 4000000 in
set_option maxRecDepth 100000 in
theorem mJx4a65c_elementData_915e3 (hl : l.stackTraces = false) {i : Nat} (hi : i < n) (hn : n ≤ 8) : ∀ h, Wd G (adr, (n, P, F), Sm, mu, g) h → CN l yJx4a65c_elementData_915e3 cJx4a65c_elementData_915e3 2 (some (.object "java/lang/Object")) 0 0 0 [.ref (adr 1), .int (nI i)] G h (fun v h1 => v = some (.ref (adr (30 + i))) ∧ Wd G (adr, (n, P, F), Sm, mu, g) h1) := by
  intro h0 hwd
  refine CN.of hl (by decide +kernel) rfl (Nat.le_of_ble_eq_true rfl) (fun K sz hKl hin C => ?_)
  have C : CX K G (AH h0 sz) RJx4a65c cJx4a65c_elementData_915e3 2 (some (.object "java/lang/Object")) (rmD 0 0 0) [] := C
  subst hKl
  refine WR.imp (P' := Wd G (adr, (n, P, F), Sm, mu, g)) (fun h e => e ▸ hwd) ?_
  show WR K G _ _ _ [some (.ref (adr 1)), some (.int (nI i))] 0 0 0 []
  have hne : n ≠ 0 := by omega
  refine R_aload_n (pc := 0) C dJx4a65c_elementData_915e3_0 rfl ?_
  refine R_getf (pc := 1) C dJx4a65c_elementData_915e3_1 (i := 1) (wc1' hne) rfl inlJx4a65c (by decide) k_2_3 rfl ?_
  refine R_iload_n (pc := 4) C dJx4a65c_elementData_915e3_4 rfl ?_
  refine R_aald (pc := 5) C dJx4a65c_elementData_915e3_5 (v := .ref (adr (30 + i))) (wc2 hne) rfl (show i < 10 by omega) (by decide) (by show va_rf (if i < n then some (adr (30 + i)) else none) = _; rw [if_pos hi]; rfl) ?_
  exact R_aret (pc := 6) C dJx4a65c_elementData_915e3_6 rfl (Or.inl ⟨_, rfl⟩) (Or.inr ⟨_, rfl⟩) (Nat.le_of_ble_eq_true rfl) (Nat.le_of_ble_eq_true rfl) (fun h hh => ⟨rfl, hh⟩)
set_option maxHeartbeats 4000000 in
set_option maxRecDepth 100000 in
theorem mJx4a65c_get_915e3 (hl : l.stackTraces = false) {i : Nat} (hi : i < n) (hn : n ≤ 8) : ∀ h, Wd G (adr, (n, P, F), Sm, mu, g) h → CN l yJx4a65c_get_915e3 cJx4a65c_get_915e3 2 (some (.object "java/lang/Object")) 2 0 0 [.ref (adr 1), .int (nI i)] G h (fun v h1 => v = some (.ref (adr (30 + i))) ∧ Wd G (adr, (n, P, F), Sm, mu, g) h1) := by
  intro h0 hwd
  refine CN.of hl (by decide +kernel) rfl (Nat.le_of_ble_eq_true rfl) (fun K sz hKl hin C => ?_)
  have C : CX K G (AH h0 sz) RJx4a65c cJx4a65c_get_915e3 2 (some (.object "java/lang/Object")) (rmD 2 0 0) [] := C
  subst hKl
  refine WR.imp (P' := Wd G (adr, (n, P, F), Sm, mu, g)) (fun h e => e ▸ hwd) ?_
  show WR K G _ _ _ [some (.ref (adr 1)), some (.int (nI i))] 0 0 0 []
  have hne : n ≠ 0 := by omega
  refine R_iload_n (pc := 0) C dJx4a65c_get_915e3_0 rfl ?_
  refine R_aload_n (pc := 1) C dJx4a65c_get_915e3_1 rfl ?_
  refine R_getf (pc := 2) C dJx4a65c_get_915e3_2 (i := 2) (wc1' hne) rfl inlJx4a65c (by decide) k_4_19 rfl ?_
  refine R_callSN (pc := 5) C dJx4a65c_get_915e3_5 (vs := [_, _]) (fun h hh => mJ15_checkIndex_7cf53 hl hi (n31 hn) h) ⟨k_19_0, k_19_1, k_19_2, k_19_3⟩ (sgn (nv := 2) rfl ⟨by decide +kernel, by decide +kernel, by decide +kernel⟩) ⟨⟨Nat.le_of_ble_eq_true rfl, Nat.le_of_ble_eq_true rfl⟩, ⟨Nat.le_of_ble_eq_true rfl, Nat.le_of_ble_eq_true rfl⟩, Nat.le_of_ble_eq_true rfl⟩ rfl rfl (fun h9 hh9 v9 => ?_)
  refine WR.pr (fun e9 => ?_)
  subst e9
  refine WR.imp (P' := Wd G (adr, (n, P, F), Sm, mu, g)) (fun h1 e1 => e1 ▸ hh9) ?_
  show WR K G _ _ _ _ _ _ _ (.int _ :: _)
  refine R_pop (pc := 8) C dJx4a65c_get_915e3_8 rfl ?_
  refine R_aload_n (pc := 9) C dJx4a65c_get_915e3_9 rfl ?_
  refine R_iload_n (pc := 10) C dJx4a65c_get_915e3_10 rfl ?_
  refine R_callVN (pc := 11) C dJx4a65c_get_915e3_11 (vs := [_]) (fun h hh => mJx4a65c_elementData_915e3 hl hi hn h hh) (isOb_of (wc1' hne) rfl) ⟨k_19_5, k_19_6, k_19_7, k_1_15, k_19_8⟩ (sgn (nv := 1) rfl ⟨by decide +kernel, by decide +kernel, by decide +kernel⟩) ⟨⟨Nat.le_of_ble_eq_true rfl, Nat.le_of_ble_eq_true rfl⟩, ⟨Nat.le_of_ble_eq_true rfl, Nat.le_of_ble_eq_true rfl⟩, Nat.le_of_ble_eq_true rfl⟩ rfl rfl (fun h9 hh9 v9 => ?_)
  refine WR.pr (fun e9 => ?_)
  subst e9
  show WR K G _ _ _ _ _ _ _ (.ref _ :: _)
  exact R_aret (pc := 14) C dJx4a65c_get_915e3_14 rfl (Or.inl ⟨_, rfl⟩) (Or.inr ⟨_, rfl⟩) (Nat.le_of_ble_eq_true rfl) (Nat.le_of_ble_eq_true rfl) (fun h hh => ⟨rfl, hh⟩)
set_option maxHeartbeats 4000000 in
set_option maxRecDepth 100000 in
theorem mX1_requireLayer (hl : l.stackTraces = false) {x : Int32}  : ∀ h, CT l yX1_requireLayer cX1_requireLayer 1 (none) 0 1 6 [.int x] G h (fun v h1 => v = none ∧ (∃ i, i < 3 ∧ x = nI i) ∧ h1 = h) (fun E h1 => E = eIOB ∧ (∀ i, i < 3 → x ≠ nI i) ∧ h1 = h) := by
  intro h0
  refine CT.of hl (by decide +kernel) rfl (Nat.le_of_ble_eq_true rfl) (fun K sz hKl C => ?_)
  have C : CX K G (AH h0 sz) RX1 cX1_requireLayer 1 (none) (rmD 0 1 6) [] := C
  subst hKl
  show WR K G _ _ _ [some (.int x)] 0 0 0 []
  refine R_iload_n (pc := 0) C dX1_requireLayer_0 rfl ?_
  refine R_if_lt (pc := 1) C dX1_requireLayer_1 (tgt := 9) (by decide) (fun c1 => ?_) (fun c1 => ?_)
  · exact R_thrIOB (pc := 9) C dX1_requireLayer_9 dX1_requireLayer_12 dX1_requireLayer_13 dX1_requireLayer_15 dX1_requireLayer_18 (C.st.2.2.2.2.2.2.1.2.2.2.2.1) rfl ⟨⟨Nat.le_of_ble_eq_true rfl, Nat.le_of_ble_eq_true rfl⟩, Nat.le_of_ble_eq_true rfl, Nat.le_of_ble_eq_true rfl⟩ ⟨Nat.le_of_ble_eq_true rfl, Nat.le_of_ble_eq_true rfl⟩ (fun h hh => ⟨rfl, in_neg (by omega) c1, hh.symm⟩)
  · refine R_iload_n (pc := 4) C dX1_requireLayer_4 rfl ?_
    refine R_iconst (pc := 5) C dX1_requireLayer_5 (v := 3) (by decide) ?_
    refine R_icmp_lt (pc := 6) C dX1_requireLayer_6 (tgt := 19) (by decide) (fun c6 => ?_) (fun c6 => ?_)
    · refine R_ok ?_
      exact R_vret (pc := 19) C dX1_requireLayer_19 rfl (Nat.le_of_ble_eq_true rfl) (Nat.le_of_ble_eq_true rfl) (fun h hh => ⟨rfl, in_lt (by omega) c1 c6, hh.symm⟩)
    · exact R_thrIOB (pc := 9) C dX1_requireLayer_9 dX1_requireLayer_12 dX1_requireLayer_13 dX1_requireLayer_15 dX1_requireLayer_18 (C.st.2.2.2.2.2.2.1.2.2.2.2.1) rfl ⟨⟨Nat.le_of_ble_eq_true rfl, Nat.le_of_ble_eq_true rfl⟩, Nat.le_of_ble_eq_true rfl, Nat.le_of_ble_eq_true rfl⟩ ⟨Nat.le_of_ble_eq_true rfl, Nat.le_of_ble_eq_true rfl⟩ (fun h hh => ⟨rfl, in_ge (m := 3) (by omega) c6, hh.symm⟩)
set_option maxHeartbeats 4000000 in
set_option maxRecDepth 100000 in
theorem mX1_requireWithin (hl : l.stackTraces = false) {x a b : Int32}  : ∀ h, CT l yX1_requireWithin cX1_requireWithin 3 (none) 0 1 6 [.int x, .int a, .int b] G h (fun v h1 => v = none ∧ (¬ x < a ∧ x ≤ b) ∧ h1 = h) (fun E h1 => E = eIAE ∧ ¬ (¬ x < a ∧ x ≤ b) ∧ h1 = h) := by
  intro h0
  refine CT.of hl (by decide +kernel) rfl (Nat.le_of_ble_eq_true rfl) (fun K sz hKl C => ?_)
  have C : CX K G (AH h0 sz) RX1 cX1_requireWithin 3 (none) (rmD 0 1 6) [] := C
  subst hKl
  show WR K G _ _ _ [some (.int x), some (.int a), some (.int b)] 0 0 0 []
  refine R_iload_n (pc := 0) C dX1_requireWithin_0 rfl ?_
  refine R_iload_n (pc := 1) C dX1_requireWithin_1 rfl ?_
  refine R_icmp_lt (pc := 2) C dX1_requireWithin_2 (tgt := 10) (by decide) (fun c2 => ?_) (fun c2 => ?_)
  · exact R_thrIAE (pc := 10) C dX1_requireWithin_10 dX1_requireWithin_13 dX1_requireWithin_14 dX1_requireWithin_16 dX1_requireWithin_19 (C.st.2.2.2.2.2.2.1.2.2.2.2.2.1) rfl ⟨⟨Nat.le_of_ble_eq_true rfl, Nat.le_of_ble_eq_true rfl⟩, Nat.le_of_ble_eq_true rfl, Nat.le_of_ble_eq_true rfl⟩ ⟨Nat.le_of_ble_eq_true rfl, Nat.le_of_ble_eq_true rfl⟩ (fun h hh => ⟨rfl, fun q => q.1 c2, hh.symm⟩)
  · refine R_iload_n (pc := 5) C dX1_requireWithin_5 rfl ?_
    refine R_iload_n (pc := 6) C dX1_requireWithin_6 rfl ?_
    refine R_icmp_le (pc := 7) C dX1_requireWithin_7 (tgt := 20) (by decide) (fun c7 => ?_) (fun c7 => ?_)
    · refine R_ok ?_
      exact R_vret (pc := 20) C dX1_requireWithin_20 rfl (Nat.le_of_ble_eq_true rfl) (Nat.le_of_ble_eq_true rfl) (fun h hh => ⟨rfl, ⟨c2, c7⟩, hh.symm⟩)
    · exact R_thrIAE (pc := 10) C dX1_requireWithin_10 dX1_requireWithin_13 dX1_requireWithin_14 dX1_requireWithin_16 dX1_requireWithin_19 (C.st.2.2.2.2.2.2.1.2.2.2.2.2.1) rfl ⟨⟨Nat.le_of_ble_eq_true rfl, Nat.le_of_ble_eq_true rfl⟩, Nat.le_of_ble_eq_true rfl, Nat.le_of_ble_eq_true rfl⟩ ⟨Nat.le_of_ble_eq_true rfl, Nat.le_of_ble_eq_true rfl⟩ (fun h hh => ⟨rfl, fun q => c7 q.2, hh.symm⟩)
set_option maxHeartbeats 4000000 in
set_option maxRecDepth 100000 in
theorem mX1_requireDifferent (hl : l.stackTraces = false) {x y : Int32}  : ∀ h, CT l yX1_requireDifferent cX1_requireDifferent 2 (none) 0 1 6 [.int x, .int y] G h (fun v h1 => v = none ∧ x ≠ y ∧ h1 = h) (fun E h1 => E = eIAE ∧ x = y ∧ h1 = h) := by
  intro h0
  refine CT.of hl (by decide +kernel) rfl (Nat.le_of_ble_eq_true rfl) (fun K sz hKl C => ?_)
  have C : CX K G (AH h0 sz) RX1 cX1_requireDifferent 2 (none) (rmD 0 1 6) [] := C
  subst hKl
  show WR K G _ _ _ [some (.int x), some (.int y)] 0 0 0 []
  refine R_iload_n (pc := 0) C dX1_requireDifferent_0 rfl ?_
  refine R_iload_n (pc := 1) C dX1_requireDifferent_1 rfl ?_
  refine R_icmp_ne (pc := 2) C dX1_requireDifferent_2 (tgt := 15) (by decide) (fun c2 => ?_) (fun c2 => ?_)
  · refine R_ok ?_
    exact R_vret (pc := 15) C dX1_requireDifferent_15 rfl (Nat.le_of_ble_eq_true rfl) (Nat.le_of_ble_eq_true rfl) (fun h hh => ⟨rfl, c2, hh.symm⟩)
  · exact R_thrIAE (pc := 5) C dX1_requireDifferent_5 dX1_requireDifferent_8 dX1_requireDifferent_9 dX1_requireDifferent_11 dX1_requireDifferent_14 (C.st.2.2.2.2.2.2.1.2.2.2.2.2.2.1) rfl ⟨⟨Nat.le_of_ble_eq_true rfl, Nat.le_of_ble_eq_true rfl⟩, Nat.le_of_ble_eq_true rfl, Nat.le_of_ble_eq_true rfl⟩ ⟨Nat.le_of_ble_eq_true rfl, Nat.le_of_ble_eq_true rfl⟩ (fun h hh => ⟨rfl, c2, hh.symm⟩)
set_option maxHeartbeats 4000000 in
set_option maxRecDepth 100000 in
theorem mX1_hundredths (hl : l.stackTraces = false) {x y : Int32}  : ∀ h, CN l yX1_hundredths cX1_hundredths 2 (some .int) 0 0 0 [.int x, .int y] G h (fun v h1 => v = some (.int (x * y / 100)) ∧ h1 = h) := by
  intro h0
  refine CN.of hl (by decide +kernel) rfl (Nat.le_of_ble_eq_true rfl) (fun K sz hKl hin C => ?_)
  have C : CX K G (AH h0 sz) RX1 cX1_hundredths 2 (some .int) (rmD 0 0 0) [] := C
  subst hKl
  show WR K G _ _ _ [some (.int x), some (.int y)] 0 0 0 []
  refine R_iload_n (pc := 0) C dX1_hundredths_0 rfl ?_
  refine R_iload_n (pc := 1) C dX1_hundredths_1 rfl ?_
  refine R_imul (pc := 2) C dX1_hundredths_2 ?_
  refine R_bipush (pc := 3) C dX1_hundredths_3 (v := 100) (by decide) ?_
  refine R_idiv (pc := 5) C dX1_hundredths_5 (by decide) ?_
  exact R_iret (pc := 6) C dX1_hundredths_6 rfl (Nat.le_of_ble_eq_true rfl) (Nat.le_of_ble_eq_true rfl) (fun h hh => ⟨rfl, hh.symm⟩)
set_option maxHeartbeats 4000000 in
set_option maxRecDepth 100000 in
theorem mX1_wellAt (hl : l.stackTraces = false) {x : Int32} (hn : n ≤ 8) : ∀ h, Wd G (adr, (n, P, F), Sm, mu, g) h → CT l yX1_wellAt cX1_wellAt 2 (some (.object "WellRights$Well")) 3 1 6 [.ref (adr 0), .int x] G h (fun v h1 => (∃ i, i < n ∧ x = nI i ∧ v = some (.ref (adr (30 + i)))) ∧ Wd G (adr, (n, P, F), Sm, mu, g) h1) (fun E h1 => (E = eIOB ∧ ∀ i, i < n → x ≠ nI i) ∧ Wd G (adr, (n, P, F), Sm, mu, g) h1) := by
  intro h0 hwd
  refine CT.of hl (by decide +kernel) rfl (Nat.le_of_ble_eq_true rfl) (fun K sz hKl C => ?_)
  have C : CX K G (AH h0 sz) RX1 cX1_wellAt 2 (some (.object "WellRights$Well")) (rmD 3 1 6) [] := C
  subst hKl
  refine WR.imp (P' := Wd G (adr, (n, P, F), Sm, mu, g)) (fun h e => e ▸ hwd) ?_
  show WR K G _ _ _ [some (.ref (adr 0)), some (.int x)] 0 0 0 []
  refine R_iload_n (pc := 0) C dX1_wellAt_0 rfl ?_
  refine R_if_lt (pc := 1) C dX1_wellAt_1 (tgt := 15) (by decide) (fun c1 => ?_) (fun c1 => ?_)
  · exact R_thrIOB (pc := 15) C dX1_wellAt_15 dX1_wellAt_18 dX1_wellAt_19 dX1_wellAt_21 dX1_wellAt_24 (C.st.2.2.2.2.2.2.1.2.2.2.1) rfl ⟨⟨Nat.le_of_ble_eq_true rfl, Nat.le_of_ble_eq_true rfl⟩, Nat.le_of_ble_eq_true rfl, Nat.le_of_ble_eq_true rfl⟩ ⟨Nat.le_of_ble_eq_true rfl, Nat.le_of_ble_eq_true rfl⟩ (fun h hh => ⟨⟨rfl, in_neg (n31 hn) c1⟩, hh⟩)
  · refine R_iload_n (pc := 4) C dX1_wellAt_4 rfl ?_
    refine R_aload_n (pc := 5) C dX1_wellAt_5 rfl ?_
    refine R_getf (pc := 6) C dX1_wellAt_6 (i := 0) (wc0) rfl inlX1 (by decide) k_1_16 rfl ?_
    refine R_callVN (pc := 9) C dX1_wellAt_9 (vs := []) (fun h hh => mJx4a65c_size_8abf5 hl h hh) (isOb_of (wc1) rfl) ⟨k_4_15, k_4_16, k_4_17, k_1_15, k_4_18⟩ (sgn (nv := 0) rfl ⟨by decide +kernel, by decide +kernel, by decide +kernel⟩) ⟨⟨Nat.le_of_ble_eq_true rfl, Nat.le_of_ble_eq_true rfl⟩, ⟨Nat.le_of_ble_eq_true rfl, Nat.le_of_ble_eq_true rfl⟩, Nat.le_of_ble_eq_true rfl⟩ rfl rfl (fun h9 hh9 v9 => ?_)
    refine WR.pr (fun e9 => ?_)
    subst e9
    show WR K G _ _ _ _ _ _ _ (.int _ :: _)
    refine R_icmp_lt (pc := 12) C dX1_wellAt_12 (tgt := 25) (by decide) (fun c12 => ?_) (fun c12 => ?_)
    · obtain ⟨i, hi, rfl⟩ := in_lt (n31 hn) c1 c12
      refine R_aload_n (pc := 25) C dX1_wellAt_25 rfl ?_
      refine R_getf (pc := 26) C dX1_wellAt_26 (i := 0) (wc0) rfl inlX1 (by decide) k_1_16 rfl ?_
      refine R_iload_n (pc := 29) C dX1_wellAt_29 rfl ?_
      refine R_callVN (pc := 30) C dX1_wellAt_30 (vs := [_]) (fun h hh => mJx4a65c_get_915e3 hl hi hn h hh) (isOb_of (wc1) rfl) ⟨k_18_20, k_18_21, k_18_22, k_1_15, k_18_23⟩ (sgn (nv := 1) rfl ⟨by decide +kernel, by decide +kernel, by decide +kernel⟩) ⟨⟨Nat.le_of_ble_eq_true rfl, Nat.le_of_ble_eq_true rfl⟩, ⟨Nat.le_of_ble_eq_true rfl, Nat.le_of_ble_eq_true rfl⟩, Nat.le_of_ble_eq_true rfl⟩ rfl rfl (fun h9 hh9 v9 => ?_)
      refine WR.pr (fun e9 => ?_)
      subst e9
      show WR K G _ _ _ _ _ _ _ (.ref _ :: _)
      refine R_cast (pc := 33) C dX1_wellAt_33 (wcw hi hn) rfl k_4_2 ?_
      refine R_ok ?_
      exact R_aret (pc := 36) C dX1_wellAt_36 rfl (Or.inl ⟨_, rfl⟩) (Or.inr ⟨_, rfl⟩) (Nat.le_of_ble_eq_true rfl) (Nat.le_of_ble_eq_true rfl) (fun h hh => ⟨⟨i, hi, rfl, rfl⟩, hh⟩)
    · exact R_thrIOB (pc := 15) C dX1_wellAt_15 dX1_wellAt_18 dX1_wellAt_19 dX1_wellAt_21 dX1_wellAt_24 (C.st.2.2.2.2.2.2.1.2.2.2.1) rfl ⟨⟨Nat.le_of_ble_eq_true rfl, Nat.le_of_ble_eq_true rfl⟩, Nat.le_of_ble_eq_true rfl, Nat.le_of_ble_eq_true rfl⟩ ⟨Nat.le_of_ble_eq_true rfl, Nat.le_of_ble_eq_true rfl⟩ (fun h hh => ⟨⟨rfl, in_ge (n31 hn) c12⟩, hh⟩)
end
end
section
/-! 12: what each call answers: code (0: none thrown), value, next state; by numbers alone. My own. -/
def qW (n : Nat) (x : Int32) : Bool := decide (¬ x < 0 ∧ x < nI n)
def qR (x a b : Int32) : Bool := decide (¬ x < a ∧ x ≤ b)
theorem qW_t {n i : Nat} (hn : n ≤ 8) (hi : i < n) : qW n (nI i) = true := decide_eq_true ⟨nI_pos (by omega), nI_lt hi (by omega)⟩
theorem qW_f {n : Nat} {x : Int32} (hn : n ≤ 8) (h : ∀ i, i < n → x ≠ nI i) : qW n x = false := by
  refine decide_eq_false (fun q => ?_)
  obtain ⟨i, hi, e⟩ := in_lt (m := n) (by omega) q.1 q.2
  exact h i hi e
theorem qW_e {n : Nat} {x : Int32} (hn : n ≤ 8) (h : qW n x = true) : ∃ i, i < n ∧ x = nI i := by
  have q := of_decide_eq_true h
  exact in_lt (m := n) (by omega) q.1 q.2
theorem qR_t {x a b : Int32} (h : ¬ x < a ∧ x ≤ b) : qR x a b = true := decide_eq_true h
theorem qR_f {x a b : Int32} (h : ¬ (¬ x < a ∧ x ≤ b)) : qR x a b = false := decide_eq_false h
theorem qR_e {x a b : Int32} (h : qR x a b = true) : ¬ x < a ∧ x ≤ b := of_decide_eq_true h
theorem qR_n {x a b : Int32} (h : qR x a b = false) : ¬ (¬ x < a ∧ x ≤ b) := of_decide_eq_false h
/-- an index as a natural -/
abbrev ix (x : Int32) : Nat := x.toNatClampNeg
theorem ix_nI {i : Nat} (h : i < 2 ^ 31) : ix (nI i) = i := nI_clamp h
/-- which exception the class throws for a code -/
def exA (E : String) (c : Int32) : Prop := (c = 1 ∧ E = eIOB) ∨ (c = 2 ∧ E = eIAE) ∨ (c = 3 ∧ E = eISE)
/-- the reach of i on j -/
abbrev spR (F : Nat → Nat → Int32) (i j : Nat) : Int32 := spReachC (F 0 j) (F 1 j) (F 0 i) (F 1 i)
def kAsk (n : Nat) (x : Int32) : Int32 := if qW n x = true then 0 else 1
def kPlan (n : Nat) (x a m : Int32) : Int32 := if qW n x = true then (if qR a 0 m = true then 0 else 2) else 1
def kRech (x a : Int32) : Int32 := if qR x 0 2 = true then (if qR a 0 1000 = true then 0 else 2) else 1
def kReach (n : Nat) (x y : Int32) : Int32 := if qW n x = true ∧ qW n y = true then 0 else 1
def kLend (n : Nat) (F : Nat → Nat → Int32) (x y a : Int32) : Int32 := if qW n x = true ∧ qW n y = true then (if x = y ∨ qR a 1 10000 = false then 2 else if F 9 (ix x) < a then 3 else 0) else 1
def kBack (n : Nat) (x y : Int32) : Int32 := if qW n x = true ∧ qW n y = true then (if x = y then 2 else 0) else 1
def kBuild (P : Nat) (F : Nat → Nat → Int32) (x : Int32) : Int32 := if qR x 0 99 = true then (if F 16 0 < 100 ∨ 5 ≤ P then 2 else 0) else 1
def minI (x y : Int32) : Int32 := if y < x then y else x
/-- lend and callBack: what happens to the registers -/
def fLend (F : Nat → Nat → Int32) (i j : Nat) (a : Int32) : Nat → Nat → Int32 := su (su (su F 9 i (F 9 i - a)) 9 j (F 9 j + a)) 13 (8 * i + j) (F 13 (8 * i + j) + a)
def fBack (F : Nat → Nat → Int32) (i j : Nat) (b : Int32) : Nat → Nat → Int32 := su (su (su F 13 (8 * i + j) (F 13 (8 * i + j) - b)) 9 j (F 9 j - b)) 9 i (F 9 i + b)
def fBuild (F : Nat → Nat → Int32) (P : Nat) (x : Int32) : Nat → Nat → Int32 := su (su F 16 0 (F 16 0 - 100)) 15 P x
theorem lrow_in {F : Nat → Nat → Int32} {i j : Nat} (hj : j < 8) : lrow F i j = F 13 (8 * i + j) := if_pos hj
section
variable {G : GT} {adr : Nat → Nat} {n P : Nat} {F mu : Nat → Nat → Int32} {g : Nat → Int64} {Sm : St}
theorem pe_2 {i : Nat} {v v0 : Int32} (e : v = v0) (hi : i < n) (hn : n ≤ 8) : ∀ h, Wd G (adr, (n, P, F), Sm, mu, g) h → Wd G (adr, (n, P, su F 2 i v0), Sm, mu, g) (hu h (adr (30 + i)) (ob 3 ((wellFs adr F i).set 8 (.int v)))) := by subst e; exact pw_2 hi hn
theorem pe_6 {i : Nat} {v v0 : Int32} (e : v = v0) (hi : i < n) (hn : n ≤ 8) : ∀ h, Wd G (adr, (n, P, F), Sm, mu, g) h → Wd G (adr, (n, P, su F 6 i v0), Sm, mu, g) (hu h (adr (30 + i)) (ob 3 ((wellFs adr F i).set 9 (.int v)))) := by subst e; exact pw_6 hi hn
theorem pe_11 {i : Nat} {v v0 : Int32} (e : v = v0) (hi : i < n) (hn : n ≤ 8) : ∀ h, Wd G (adr, (n, P, F), Sm, mu, g) h → Wd G (adr, (n, P, su F 11 i v0), Sm, mu, g) (hu h (adr (30 + i)) (ob 3 ((wellFs adr F i).set 10 (.int v)))) := by subst e; exact pw_11 hi hn
theorem pe_12 {i : Nat} {v v0 : Int32} (e : v = v0) (hi : i < n) (hn : n ≤ 8) : ∀ h, Wd G (adr, (n, P, F), Sm, mu, g) h → Wd G (adr, (n, P, su F 12 i v0), Sm, mu, g) (hu h (adr (30 + i)) (ob 3 ((wellFs adr F i).set 11 (.int v)))) := by subst e; exact pw_12 hi hn
theorem pe_8 {i : Nat} {v v0 : Int32} (e : v = v0) (hi : i < n) (hn : n ≤ 8) : ∀ h, Wd G (adr, (n, P, F), Sm, mu, g) h → Wd G (adr, (n, P, su F 8 i v0), Sm, mu, g) (hu h (adr (30 + i)) (ob 3 ((wellFs adr F i).set 13 (.int v)))) := by subst e; exact pw_8 hi hn
theorem pe_9 {i : Nat} {v v0 : Int32} (e : v = v0) (hi : i < n) (hn : n ≤ 8) : ∀ h, Wd G (adr, (n, P, F), Sm, mu, g) h → Wd G (adr, (n, P, su F 9 i v0), Sm, mu, g) (hu h (adr (30 + i)) (ob 3 ((wellFs adr F i).set 14 (.int v)))) := by subst e; exact pw_9 hi hn
theorem pe_10 {i : Nat} {v v0 : Int32} (e : v = v0) (hi : i < n) (hn : n ≤ 8) : ∀ h, Wd G (adr, (n, P, F), Sm, mu, g) h → Wd G (adr, (n, P, su F 10 i v0), Sm, mu, g) (hu h (adr (30 + i)) (ob 3 ((wellFs adr F i).set 15 (.int v)))) := by subst e; exact pw_10 hi hn
theorem pe_13 {i j : Nat} {v v0 : Int32} (e : v = v0) (hi : i < n) (hn : n ≤ 8) (hj : j < 8) : ∀ h, Wd G (adr, (n, P, F), Sm, mu, g) h → Wd G (adr, (n, P, su F 13 (8 * i + j) v0), Sm, mu, g) (hu h (adr (60 + i)) (aI G 8 (upd (lrow F i) j v))) := by subst e; exact pw_13 hi hn hj
end
end
section
/-! 13: the plain calls of WellRights. Written by wip/whole/gen/m13.py -/
theorem lay_t {i : Nat} (hi : i < 3) : qR (nI i) 0 2 = true := qR_t ⟨nI_pos (by omega), (nI_le (by omega) (by omega) : nI i ≤ nI 2)⟩
theorem lay_f {x : Int32} (h : ∀ i, i < 3 → x ≠ nI i) : ¬ (¬ x < 0 ∧ x ≤ 2) := by
  rintro ⟨h1, h2⟩
  obtain ⟨i, hi, e⟩ := in_lt (m := 3) (by omega) h1 (Int32.lt_of_le_of_lt h2 (by decide))
  exact h i hi e
theorem five_le {P : Nat} (hP : P ≤ 5) (h : ¬ nI P < 5) : 5 ≤ P := Nat.not_lt.mp (fun q => h (nI_lt (b := 5) q (by omega)))
section
variable {l : Launch} {G : GT} {adr : Nat → Nat} {n P : Nat} {F mu : Nat → Nat → Int32} {g : Nat → Int64} {Sm : St}
set_option maxHeartbeats 4000000 in
set_option maxRecDepth 100000 in
theorem mX1_level (hl : l.stackTraces = false) {x : Int32} (hn : n ≤ 8) : ∀ h, Wd G (adr, (n, P, F), Sm, mu, g) h → CT l yX1_level cX1_level 2 (some .int) 4 1 6 [.ref (adr 0), .int x] G h (fun v h1 => (kAsk n x = 0 ∧ v = some (.int (F 2 (ix x)))) ∧ Wd G (adr, (n, P, F), Sm, mu, g) h1) (fun E h1 => exA E (kAsk n x) ∧ Wd G (adr, (n, P, F), Sm, mu, g) h1) := by
  intro h0 hwd
  refine CT.of hl (by decide +kernel) rfl (Nat.le_of_ble_eq_true rfl) (fun K sz hKl C => ?_)
  have C : CX K G (AH h0 sz) RX1 cX1_level 2 (some .int) (rmD 4 1 6) [] := C
  subst hKl
  refine WR.imp (P' := Wd G (adr, (n, P, F), Sm, mu, g)) (fun h e => e ▸ hwd) ?_
  show WR K G _ _ _ [some (.ref (adr 0)), some (.int x)] 0 0 0 []
  refine R_aload_n (pc := 0) C dX1_level_0 rfl ?_
  refine R_iload_n (pc := 1) C dX1_level_1 rfl ?_
  refine R_callVT (pc := 2) C dX1_level_2 (vs := [_]) (fun h hh => mX1_wellAt hl hn h hh) (isOb_of (wc0) rfl) ⟨k_18_15, k_18_16, k_18_17, k_1_2, k_18_18⟩ (sgn (nv := 1) rfl ⟨by decide +kernel, by decide +kernel, by decide +kernel⟩) ⟨⟨Nat.le_of_ble_eq_true rfl, Nat.le_of_ble_eq_true rfl⟩, ⟨Nat.le_of_ble_eq_true rfl, Nat.le_of_ble_eq_true rfl⟩, Nat.le_of_ble_eq_true rfl⟩ rfl rfl (fun h9 hh9 E9 => ?_) (fun h9 hh9 v9 => ?_)
  · exact X_out C (Nat.le_of_ble_eq_true rfl) (Nat.le_of_ble_eq_true rfl) (fun h1 hh1 => ⟨Or.inl ⟨by simp [kAsk, qW_f hn hh1.1.2], hh1.1.1⟩, hh1.2⟩)
  refine WR.imp (P' := fun h1 => ∃ i, (i < n ∧ _ = nI i ∧ v9 = some (.ref (adr (30 + i)))) ∧ Wd G (adr, (n, P, F), Sm, mu, g) h1) (fun h1 q1 => by obtain ⟨⟨z, z1, z2, z3⟩, z4⟩ := q1; exact ⟨z, ⟨z1, z2, z3⟩, z4⟩) ?_
  refine WR.ex (fun i => WR.pr (fun e9 => ?_))
  obtain ⟨hi, ei, e9⟩ := e9
  subst e9
  show WR K G _ _ _ _ _ _ _ (.ref _ :: _)
  subst ei
  refine R_getf (pc := 5) C dX1_level_5 (i := 8) (wcw hi hn) rfl inlX0 (by decide) k_21_16 rfl ?_
  refine R_ok ?_
  exact R_iret (pc := 8) C dX1_level_8 rfl (Nat.le_of_ble_eq_true rfl) (Nat.le_of_ble_eq_true rfl) (fun h hh => ⟨⟨by simp [kAsk, qW_t hn hi], by rw [ix_nI (by omega)]⟩, hh⟩)
set_option maxHeartbeats 4000000 in
set_option maxRecDepth 100000 in
theorem mX1_drew (hl : l.stackTraces = false) {x : Int32} (hn : n ≤ 8) : ∀ h, Wd G (adr, (n, P, F), Sm, mu, g) h → CT l yX1_drew cX1_drew 2 (some .int) 4 1 6 [.ref (adr 0), .int x] G h (fun v h1 => (kAsk n x = 0 ∧ v = some (.int (F 11 (ix x)))) ∧ Wd G (adr, (n, P, F), Sm, mu, g) h1) (fun E h1 => exA E (kAsk n x) ∧ Wd G (adr, (n, P, F), Sm, mu, g) h1) := by
  intro h0 hwd
  refine CT.of hl (by decide +kernel) rfl (Nat.le_of_ble_eq_true rfl) (fun K sz hKl C => ?_)
  have C : CX K G (AH h0 sz) RX1 cX1_drew 2 (some .int) (rmD 4 1 6) [] := C
  subst hKl
  refine WR.imp (P' := Wd G (adr, (n, P, F), Sm, mu, g)) (fun h e => e ▸ hwd) ?_
  show WR K G _ _ _ [some (.ref (adr 0)), some (.int x)] 0 0 0 []
  refine R_aload_n (pc := 0) C dX1_drew_0 rfl ?_
  refine R_iload_n (pc := 1) C dX1_drew_1 rfl ?_
  refine R_callVT (pc := 2) C dX1_drew_2 (vs := [_]) (fun h hh => mX1_wellAt hl hn h hh) (isOb_of (wc0) rfl) ⟨k_18_15, k_18_16, k_18_17, k_1_2, k_18_18⟩ (sgn (nv := 1) rfl ⟨by decide +kernel, by decide +kernel, by decide +kernel⟩) ⟨⟨Nat.le_of_ble_eq_true rfl, Nat.le_of_ble_eq_true rfl⟩, ⟨Nat.le_of_ble_eq_true rfl, Nat.le_of_ble_eq_true rfl⟩, Nat.le_of_ble_eq_true rfl⟩ rfl rfl (fun h9 hh9 E9 => ?_) (fun h9 hh9 v9 => ?_)
  · exact X_out C (Nat.le_of_ble_eq_true rfl) (Nat.le_of_ble_eq_true rfl) (fun h1 hh1 => ⟨Or.inl ⟨by simp [kAsk, qW_f hn hh1.1.2], hh1.1.1⟩, hh1.2⟩)
  refine WR.imp (P' := fun h1 => ∃ i, (i < n ∧ _ = nI i ∧ v9 = some (.ref (adr (30 + i)))) ∧ Wd G (adr, (n, P, F), Sm, mu, g) h1) (fun h1 q1 => by obtain ⟨⟨z, z1, z2, z3⟩, z4⟩ := q1; exact ⟨z, ⟨z1, z2, z3⟩, z4⟩) ?_
  refine WR.ex (fun i => WR.pr (fun e9 => ?_))
  obtain ⟨hi, ei, e9⟩ := e9
  subst e9
  show WR K G _ _ _ _ _ _ _ (.ref _ :: _)
  subst ei
  refine R_getf (pc := 5) C dX1_drew_5 (i := 10) (wcw hi hn) rfl inlX0 (by decide) k_25_7 rfl ?_
  refine R_ok ?_
  exact R_iret (pc := 8) C dX1_drew_8 rfl (Nat.le_of_ble_eq_true rfl) (Nat.le_of_ble_eq_true rfl) (fun h hh => ⟨⟨by simp [kAsk, qW_t hn hi], by rw [ix_nI (by omega)]⟩, hh⟩)
set_option maxHeartbeats 4000000 in
set_option maxRecDepth 100000 in
theorem mX1_told (hl : l.stackTraces = false) {x : Int32} (hn : n ≤ 8) : ∀ h, Wd G (adr, (n, P, F), Sm, mu, g) h → CT l yX1_told cX1_told 2 (some .int) 4 1 6 [.ref (adr 0), .int x] G h (fun v h1 => (kAsk n x = 0 ∧ v = some (.int (F 12 (ix x)))) ∧ Wd G (adr, (n, P, F), Sm, mu, g) h1) (fun E h1 => exA E (kAsk n x) ∧ Wd G (adr, (n, P, F), Sm, mu, g) h1) := by
  intro h0 hwd
  refine CT.of hl (by decide +kernel) rfl (Nat.le_of_ble_eq_true rfl) (fun K sz hKl C => ?_)
  have C : CX K G (AH h0 sz) RX1 cX1_told 2 (some .int) (rmD 4 1 6) [] := C
  subst hKl
  refine WR.imp (P' := Wd G (adr, (n, P, F), Sm, mu, g)) (fun h e => e ▸ hwd) ?_
  show WR K G _ _ _ [some (.ref (adr 0)), some (.int x)] 0 0 0 []
  refine R_aload_n (pc := 0) C dX1_told_0 rfl ?_
  refine R_iload_n (pc := 1) C dX1_told_1 rfl ?_
  refine R_callVT (pc := 2) C dX1_told_2 (vs := [_]) (fun h hh => mX1_wellAt hl hn h hh) (isOb_of (wc0) rfl) ⟨k_18_15, k_18_16, k_18_17, k_1_2, k_18_18⟩ (sgn (nv := 1) rfl ⟨by decide +kernel, by decide +kernel, by decide +kernel⟩) ⟨⟨Nat.le_of_ble_eq_true rfl, Nat.le_of_ble_eq_true rfl⟩, ⟨Nat.le_of_ble_eq_true rfl, Nat.le_of_ble_eq_true rfl⟩, Nat.le_of_ble_eq_true rfl⟩ rfl rfl (fun h9 hh9 E9 => ?_) (fun h9 hh9 v9 => ?_)
  · exact X_out C (Nat.le_of_ble_eq_true rfl) (Nat.le_of_ble_eq_true rfl) (fun h1 hh1 => ⟨Or.inl ⟨by simp [kAsk, qW_f hn hh1.1.2], hh1.1.1⟩, hh1.2⟩)
  refine WR.imp (P' := fun h1 => ∃ i, (i < n ∧ _ = nI i ∧ v9 = some (.ref (adr (30 + i)))) ∧ Wd G (adr, (n, P, F), Sm, mu, g) h1) (fun h1 q1 => by obtain ⟨⟨z, z1, z2, z3⟩, z4⟩ := q1; exact ⟨z, ⟨z1, z2, z3⟩, z4⟩) ?_
  refine WR.ex (fun i => WR.pr (fun e9 => ?_))
  obtain ⟨hi, ei, e9⟩ := e9
  subst e9
  show WR K G _ _ _ _ _ _ _ (.ref _ :: _)
  subst ei
  refine R_getf (pc := 5) C dX1_told_5 (i := 11) (wcw hi hn) rfl inlX0 (by decide) k_25_13 rfl ?_
  refine R_ok ?_
  exact R_iret (pc := 8) C dX1_told_8 rfl (Nat.le_of_ble_eq_true rfl) (Nat.le_of_ble_eq_true rfl) (fun h hh => ⟨⟨by simp [kAsk, qW_t hn hi], by rw [ix_nI (by omega)]⟩, hh⟩)
set_option maxHeartbeats 4000000 in
set_option maxRecDepth 100000 in
theorem mX1_bank (hl : l.stackTraces = false) {x : Int32} (hn : n ≤ 8) : ∀ h, Wd G (adr, (n, P, F), Sm, mu, g) h → CT l yX1_bank cX1_bank 2 (some .int) 4 1 6 [.ref (adr 0), .int x] G h (fun v h1 => (kAsk n x = 0 ∧ v = some (.int (F 9 (ix x)))) ∧ Wd G (adr, (n, P, F), Sm, mu, g) h1) (fun E h1 => exA E (kAsk n x) ∧ Wd G (adr, (n, P, F), Sm, mu, g) h1) := by
  intro h0 hwd
  refine CT.of hl (by decide +kernel) rfl (Nat.le_of_ble_eq_true rfl) (fun K sz hKl C => ?_)
  have C : CX K G (AH h0 sz) RX1 cX1_bank 2 (some .int) (rmD 4 1 6) [] := C
  subst hKl
  refine WR.imp (P' := Wd G (adr, (n, P, F), Sm, mu, g)) (fun h e => e ▸ hwd) ?_
  show WR K G _ _ _ [some (.ref (adr 0)), some (.int x)] 0 0 0 []
  refine R_aload_n (pc := 0) C dX1_bank_0 rfl ?_
  refine R_iload_n (pc := 1) C dX1_bank_1 rfl ?_
  refine R_callVT (pc := 2) C dX1_bank_2 (vs := [_]) (fun h hh => mX1_wellAt hl hn h hh) (isOb_of (wc0) rfl) ⟨k_18_15, k_18_16, k_18_17, k_1_2, k_18_18⟩ (sgn (nv := 1) rfl ⟨by decide +kernel, by decide +kernel, by decide +kernel⟩) ⟨⟨Nat.le_of_ble_eq_true rfl, Nat.le_of_ble_eq_true rfl⟩, ⟨Nat.le_of_ble_eq_true rfl, Nat.le_of_ble_eq_true rfl⟩, Nat.le_of_ble_eq_true rfl⟩ rfl rfl (fun h9 hh9 E9 => ?_) (fun h9 hh9 v9 => ?_)
  · exact X_out C (Nat.le_of_ble_eq_true rfl) (Nat.le_of_ble_eq_true rfl) (fun h1 hh1 => ⟨Or.inl ⟨by simp [kAsk, qW_f hn hh1.1.2], hh1.1.1⟩, hh1.2⟩)
  refine WR.imp (P' := fun h1 => ∃ i, (i < n ∧ _ = nI i ∧ v9 = some (.ref (adr (30 + i)))) ∧ Wd G (adr, (n, P, F), Sm, mu, g) h1) (fun h1 q1 => by obtain ⟨⟨z, z1, z2, z3⟩, z4⟩ := q1; exact ⟨z, ⟨z1, z2, z3⟩, z4⟩) ?_
  refine WR.ex (fun i => WR.pr (fun e9 => ?_))
  obtain ⟨hi, ei, e9⟩ := e9
  subst e9
  show WR K G _ _ _ _ _ _ _ (.ref _ :: _)
  subst ei
  refine R_getf (pc := 5) C dX1_bank_5 (i := 14) (wcw hi hn) rfl inlX0 (by decide) k_23_12 rfl ?_
  refine R_ok ?_
  exact R_iret (pc := 8) C dX1_bank_8 rfl (Nat.le_of_ble_eq_true rfl) (Nat.le_of_ble_eq_true rfl) (fun h hh => ⟨⟨by simp [kAsk, qW_t hn hi], by rw [ix_nI (by omega)]⟩, hh⟩)
set_option maxHeartbeats 4000000 in
set_option maxRecDepth 100000 in
theorem mX1_fines (hl : l.stackTraces = false) {x : Int32} (hn : n ≤ 8) : ∀ h, Wd G (adr, (n, P, F), Sm, mu, g) h → CT l yX1_fines cX1_fines 2 (some .int) 4 1 6 [.ref (adr 0), .int x] G h (fun v h1 => (kAsk n x = 0 ∧ v = some (.int (F 10 (ix x)))) ∧ Wd G (adr, (n, P, F), Sm, mu, g) h1) (fun E h1 => exA E (kAsk n x) ∧ Wd G (adr, (n, P, F), Sm, mu, g) h1) := by
  intro h0 hwd
  refine CT.of hl (by decide +kernel) rfl (Nat.le_of_ble_eq_true rfl) (fun K sz hKl C => ?_)
  have C : CX K G (AH h0 sz) RX1 cX1_fines 2 (some .int) (rmD 4 1 6) [] := C
  subst hKl
  refine WR.imp (P' := Wd G (adr, (n, P, F), Sm, mu, g)) (fun h e => e ▸ hwd) ?_
  show WR K G _ _ _ [some (.ref (adr 0)), some (.int x)] 0 0 0 []
  refine R_aload_n (pc := 0) C dX1_fines_0 rfl ?_
  refine R_iload_n (pc := 1) C dX1_fines_1 rfl ?_
  refine R_callVT (pc := 2) C dX1_fines_2 (vs := [_]) (fun h hh => mX1_wellAt hl hn h hh) (isOb_of (wc0) rfl) ⟨k_18_15, k_18_16, k_18_17, k_1_2, k_18_18⟩ (sgn (nv := 1) rfl ⟨by decide +kernel, by decide +kernel, by decide +kernel⟩) ⟨⟨Nat.le_of_ble_eq_true rfl, Nat.le_of_ble_eq_true rfl⟩, ⟨Nat.le_of_ble_eq_true rfl, Nat.le_of_ble_eq_true rfl⟩, Nat.le_of_ble_eq_true rfl⟩ rfl rfl (fun h9 hh9 E9 => ?_) (fun h9 hh9 v9 => ?_)
  · exact X_out C (Nat.le_of_ble_eq_true rfl) (Nat.le_of_ble_eq_true rfl) (fun h1 hh1 => ⟨Or.inl ⟨by simp [kAsk, qW_f hn hh1.1.2], hh1.1.1⟩, hh1.2⟩)
  refine WR.imp (P' := fun h1 => ∃ i, (i < n ∧ _ = nI i ∧ v9 = some (.ref (adr (30 + i)))) ∧ Wd G (adr, (n, P, F), Sm, mu, g) h1) (fun h1 q1 => by obtain ⟨⟨z, z1, z2, z3⟩, z4⟩ := q1; exact ⟨z, ⟨z1, z2, z3⟩, z4⟩) ?_
  refine WR.ex (fun i => WR.pr (fun e9 => ?_))
  obtain ⟨hi, ei, e9⟩ := e9
  subst e9
  show WR K G _ _ _ _ _ _ _ (.ref _ :: _)
  subst ei
  refine R_getf (pc := 5) C dX1_fines_5 (i := 15) (wcw hi hn) rfl inlX0 (by decide) k_26_5 rfl ?_
  refine R_ok ?_
  exact R_iret (pc := 8) C dX1_fines_8 rfl (Nat.le_of_ble_eq_true rfl) (Nat.le_of_ble_eq_true rfl) (fun h hh => ⟨⟨by simp [kAsk, qW_t hn hi], by rw [ix_nI (by omega)]⟩, hh⟩)
set_option maxHeartbeats 4000000 in
set_option maxRecDepth 100000 in
theorem mX1_plan (hl : l.stackTraces = false) {x a : Int32} (hn : n ≤ 8) : ∀ h, Wd G (adr, (n, P, F), Sm, mu, g) h → CT l yX1_plan cX1_plan 5 (some .int) 4 2 12 [.ref (adr 0), .int x, .int a] G h (fun v h1 => (kPlan n x a 2000 = 0 ∧ v = some (.int (F 6 (ix x)))) ∧ Wd G (adr, (n, P, su F 6 (ix x) a), Sm, mu, g) h1) (fun E h1 => exA E (kPlan n x a 2000) ∧ Wd G (adr, (n, P, F), Sm, mu, g) h1) := by
  intro h0 hwd
  refine CT.of hl (by decide +kernel) rfl (Nat.le_of_ble_eq_true rfl) (fun K sz hKl C => ?_)
  have C : CX K G (AH h0 sz) RX1 cX1_plan 5 (some .int) (rmD 4 2 12) [] := C
  subst hKl
  refine WR.imp (P' := Wd G (adr, (n, P, F), Sm, mu, g)) (fun h e => e ▸ hwd) ?_
  show WR K G _ _ _ [some (.ref (adr 0)), some (.int x), some (.int a), none, none] 0 0 0 []
  refine R_aload_n (pc := 0) C dX1_plan_0 rfl ?_
  refine R_iload_n (pc := 1) C dX1_plan_1 rfl ?_
  refine R_callVT (pc := 2) C dX1_plan_2 (vs := [_]) (fun h hh => mX1_wellAt hl hn h hh) (isOb_of (wc0) rfl) ⟨k_18_15, k_18_16, k_18_17, k_1_2, k_18_18⟩ (sgn (nv := 1) rfl ⟨by decide +kernel, by decide +kernel, by decide +kernel⟩) ⟨⟨Nat.le_of_ble_eq_true rfl, Nat.le_of_ble_eq_true rfl⟩, ⟨Nat.le_of_ble_eq_true rfl, Nat.le_of_ble_eq_true rfl⟩, Nat.le_of_ble_eq_true rfl⟩ rfl rfl (fun h9 hh9 E9 => ?_) (fun h9 hh9 v9 => ?_)
  · exact X_out C (Nat.le_of_ble_eq_true rfl) (Nat.le_of_ble_eq_true rfl) (fun h1 hh1 => ⟨Or.inl ⟨by simp [kPlan, qW_f hn hh1.1.2], hh1.1.1⟩, hh1.2⟩)
  refine WR.imp (P' := fun h1 => ∃ i, (i < n ∧ _ = nI i ∧ v9 = some (.ref (adr (30 + i)))) ∧ Wd G (adr, (n, P, F), Sm, mu, g) h1) (fun h1 q1 => by obtain ⟨⟨z, z1, z2, z3⟩, z4⟩ := q1; exact ⟨z, ⟨z1, z2, z3⟩, z4⟩) ?_
  refine WR.ex (fun i => WR.pr (fun e9 => ?_))
  obtain ⟨hi, ei, e9⟩ := e9
  subst e9
  show WR K G _ _ _ _ _ _ _ (.ref _ :: _)
  subst ei
  refine R_astore_n (pc := 5) C dX1_plan_5 (Nat.le_of_ble_eq_true rfl) (lv' := [some (.ref _), some (.int _), some (.int _), some (.ref _), none]) rfl ?_
  refine R_iload_n (pc := 6) C dX1_plan_6 rfl ?_
  refine R_iconst (pc := 7) C dX1_plan_7 (v := 0) (by decide) ?_
  refine R_sipush (pc := 8) C dX1_plan_8 (v := 2000) (by decide) ?_
  refine R_callST (pc := 11) C dX1_plan_11 (vs := [_, _, _]) (fun h hh => mX1_requireWithin hl h) ⟨k_4_10, k_4_11, k_1_2, k_4_12⟩ (sgn (nv := 3) rfl ⟨by decide +kernel, by decide +kernel, by decide +kernel⟩) ⟨⟨Nat.le_of_ble_eq_true rfl, Nat.le_of_ble_eq_true rfl⟩, ⟨Nat.le_of_ble_eq_true rfl, Nat.le_of_ble_eq_true rfl⟩, Nat.le_of_ble_eq_true rfl⟩ rfl rfl (fun h9 hh9 E9 => ?_) (fun h9 hh9 v9 => ?_)
  · exact X_out C (Nat.le_of_ble_eq_true rfl) (Nat.le_of_ble_eq_true rfl) (fun h1 hh1 => ⟨Or.inr (Or.inl ⟨by simp [kPlan, qW_t hn hi, qR_f hh1.2.1], hh1.1⟩), hh1.2.2 ▸ hh9⟩)
  refine WR.pr (fun e9 => ?_)
  subst e9
  refine WR.pr (fun hr => ?_)
  refine WR.imp (P' := Wd G (adr, (n, P, F), Sm, mu, g)) (fun h1 e1 => e1 ▸ hh9) ?_
  show WR K G _ _ _ _ _ _ _ _
  refine R_aload_n (pc := 14) C dX1_plan_14 rfl ?_
  refine R_getf (pc := 15) C dX1_plan_15 (i := 9) (wcw hi hn) rfl inlX0 (by decide) k_18_14 rfl ?_
  refine R_istore (pc := 18) C dX1_plan_18 (Nat.le_of_ble_eq_true rfl) (lv' := [some (.ref _), some (.int _), some (.int _), some (.ref _), some (.int _)]) rfl ?_
  refine R_aload_n (pc := 20) C dX1_plan_20 rfl ?_
  refine R_iload_n (pc := 21) C dX1_plan_21 rfl ?_
  refine R_putf (pc := 22) C dX1_plan_22 (i := 9) (wcw hi hn) rfl inlX0 tyX0_ok nmX0 (by decide) k_18_14 rfl rfl rfl (Nat.le_of_ble_eq_true rfl) (pw_6 hi hn) ?_
  refine R_iload (pc := 25) C dX1_plan_25 rfl ?_
  refine R_ok ?_
  exact R_iret (pc := 27) C dX1_plan_27 rfl (Nat.le_of_ble_eq_true rfl) (Nat.le_of_ble_eq_true rfl) (fun h hh => ⟨⟨by simp [kPlan, qW_t hn hi, qR_t hr], by rw [ix_nI (by omega)]⟩, by rw [ix_nI (by omega)]; exact hh⟩)
set_option maxHeartbeats 4000000 in
set_option maxRecDepth 100000 in
theorem mX1_power (hl : l.stackTraces = false) {x a : Int32} (hn : n ≤ 8) : ∀ h, Wd G (adr, (n, P, F), Sm, mu, g) h → CT l yX1_power cX1_power 5 (some .int) 4 2 12 [.ref (adr 0), .int x, .int a] G h (fun v h1 => (kPlan n x a 1000 = 0 ∧ v = some (.int (F 8 (ix x)))) ∧ Wd G (adr, (n, P, su F 8 (ix x) a), Sm, mu, g) h1) (fun E h1 => exA E (kPlan n x a 1000) ∧ Wd G (adr, (n, P, F), Sm, mu, g) h1) := by
  intro h0 hwd
  refine CT.of hl (by decide +kernel) rfl (Nat.le_of_ble_eq_true rfl) (fun K sz hKl C => ?_)
  have C : CX K G (AH h0 sz) RX1 cX1_power 5 (some .int) (rmD 4 2 12) [] := C
  subst hKl
  refine WR.imp (P' := Wd G (adr, (n, P, F), Sm, mu, g)) (fun h e => e ▸ hwd) ?_
  show WR K G _ _ _ [some (.ref (adr 0)), some (.int x), some (.int a), none, none] 0 0 0 []
  refine R_aload_n (pc := 0) C dX1_power_0 rfl ?_
  refine R_iload_n (pc := 1) C dX1_power_1 rfl ?_
  refine R_callVT (pc := 2) C dX1_power_2 (vs := [_]) (fun h hh => mX1_wellAt hl hn h hh) (isOb_of (wc0) rfl) ⟨k_18_15, k_18_16, k_18_17, k_1_2, k_18_18⟩ (sgn (nv := 1) rfl ⟨by decide +kernel, by decide +kernel, by decide +kernel⟩) ⟨⟨Nat.le_of_ble_eq_true rfl, Nat.le_of_ble_eq_true rfl⟩, ⟨Nat.le_of_ble_eq_true rfl, Nat.le_of_ble_eq_true rfl⟩, Nat.le_of_ble_eq_true rfl⟩ rfl rfl (fun h9 hh9 E9 => ?_) (fun h9 hh9 v9 => ?_)
  · exact X_out C (Nat.le_of_ble_eq_true rfl) (Nat.le_of_ble_eq_true rfl) (fun h1 hh1 => ⟨Or.inl ⟨by simp [kPlan, qW_f hn hh1.1.2], hh1.1.1⟩, hh1.2⟩)
  refine WR.imp (P' := fun h1 => ∃ i, (i < n ∧ _ = nI i ∧ v9 = some (.ref (adr (30 + i)))) ∧ Wd G (adr, (n, P, F), Sm, mu, g) h1) (fun h1 q1 => by obtain ⟨⟨z, z1, z2, z3⟩, z4⟩ := q1; exact ⟨z, ⟨z1, z2, z3⟩, z4⟩) ?_
  refine WR.ex (fun i => WR.pr (fun e9 => ?_))
  obtain ⟨hi, ei, e9⟩ := e9
  subst e9
  show WR K G _ _ _ _ _ _ _ (.ref _ :: _)
  subst ei
  refine R_astore_n (pc := 5) C dX1_power_5 (Nat.le_of_ble_eq_true rfl) (lv' := [some (.ref _), some (.int _), some (.int _), some (.ref _), none]) rfl ?_
  refine R_iload_n (pc := 6) C dX1_power_6 rfl ?_
  refine R_iconst (pc := 7) C dX1_power_7 (v := 0) (by decide) ?_
  refine R_sipush (pc := 8) C dX1_power_8 (v := 1000) (by decide) ?_
  refine R_callST (pc := 11) C dX1_power_11 (vs := [_, _, _]) (fun h hh => mX1_requireWithin hl h) ⟨k_4_10, k_4_11, k_1_2, k_4_12⟩ (sgn (nv := 3) rfl ⟨by decide +kernel, by decide +kernel, by decide +kernel⟩) ⟨⟨Nat.le_of_ble_eq_true rfl, Nat.le_of_ble_eq_true rfl⟩, ⟨Nat.le_of_ble_eq_true rfl, Nat.le_of_ble_eq_true rfl⟩, Nat.le_of_ble_eq_true rfl⟩ rfl rfl (fun h9 hh9 E9 => ?_) (fun h9 hh9 v9 => ?_)
  · exact X_out C (Nat.le_of_ble_eq_true rfl) (Nat.le_of_ble_eq_true rfl) (fun h1 hh1 => ⟨Or.inr (Or.inl ⟨by simp [kPlan, qW_t hn hi, qR_f hh1.2.1], hh1.1⟩), hh1.2.2 ▸ hh9⟩)
  refine WR.pr (fun e9 => ?_)
  subst e9
  refine WR.pr (fun hr => ?_)
  refine WR.imp (P' := Wd G (adr, (n, P, F), Sm, mu, g)) (fun h1 e1 => e1 ▸ hh9) ?_
  show WR K G _ _ _ _ _ _ _ _
  refine R_aload_n (pc := 14) C dX1_power_14 rfl ?_
  refine R_getf (pc := 15) C dX1_power_15 (i := 13) (wcw hi hn) rfl inlX0 (by decide) k_25_14 rfl ?_
  refine R_istore (pc := 18) C dX1_power_18 (Nat.le_of_ble_eq_true rfl) (lv' := [some (.ref _), some (.int _), some (.int _), some (.ref _), some (.int _)]) rfl ?_
  refine R_aload_n (pc := 20) C dX1_power_20 rfl ?_
  refine R_iload_n (pc := 21) C dX1_power_21 rfl ?_
  refine R_putf (pc := 22) C dX1_power_22 (i := 13) (wcw hi hn) rfl inlX0 tyX0_ok nmX0 (by decide) k_25_14 rfl rfl rfl (Nat.le_of_ble_eq_true rfl) (pw_8 hi hn) ?_
  refine R_iload (pc := 25) C dX1_power_25 rfl ?_
  refine R_ok ?_
  exact R_iret (pc := 27) C dX1_power_27 rfl (Nat.le_of_ble_eq_true rfl) (Nat.le_of_ble_eq_true rfl) (fun h hh => ⟨⟨by simp [kPlan, qW_t hn hi, qR_t hr], by rw [ix_nI (by omega)]⟩, by rw [ix_nI (by omega)]; exact hh⟩)
set_option maxHeartbeats 4000000 in
set_option maxRecDepth 100000 in
theorem mX1_setRecharge (hl : l.stackTraces = false) {x a : Int32}  : ∀ h, Wd G (adr, (n, P, F), Sm, mu, g) h → CT l yX1_setRecharge cX1_setRecharge 4 (some .int) 4 2 12 [.ref (adr 0), .int x, .int a] G h (fun v h1 => (kRech x a = 0 ∧ v = some (.int (F 14 (ix x)))) ∧ Wd G (adr, (n, P, su F 14 (ix x) a), Sm, mu, g) h1) (fun E h1 => exA E (kRech x a) ∧ Wd G (adr, (n, P, F), Sm, mu, g) h1) := by
  intro h0 hwd
  refine CT.of hl (by decide +kernel) rfl (Nat.le_of_ble_eq_true rfl) (fun K sz hKl C => ?_)
  have C : CX K G (AH h0 sz) RX1 cX1_setRecharge 4 (some .int) (rmD 4 2 12) [] := C
  subst hKl
  refine WR.imp (P' := Wd G (adr, (n, P, F), Sm, mu, g)) (fun h e => e ▸ hwd) ?_
  show WR K G _ _ _ [some (.ref (adr 0)), some (.int x), some (.int a), none] 0 0 0 []
  refine R_iload_n (pc := 0) C dX1_setRecharge_0 rfl ?_
  refine R_callST (pc := 1) C dX1_setRecharge_1 (vs := [_]) (fun h hh => mX1_requireLayer hl h) ⟨k_4_5, k_4_6, k_1_2, k_4_7⟩ (sgn (nv := 1) rfl ⟨by decide +kernel, by decide +kernel, by decide +kernel⟩) ⟨⟨Nat.le_of_ble_eq_true rfl, Nat.le_of_ble_eq_true rfl⟩, ⟨Nat.le_of_ble_eq_true rfl, Nat.le_of_ble_eq_true rfl⟩, Nat.le_of_ble_eq_true rfl⟩ rfl rfl (fun h9 hh9 E9 => ?_) (fun h9 hh9 v9 => ?_)
  · exact X_out C (Nat.le_of_ble_eq_true rfl) (Nat.le_of_ble_eq_true rfl) (fun h1 hh1 => ⟨Or.inl ⟨by simp [kRech, qR_f (fun q => (lay_f hh1.2.1) q)], hh1.1⟩, hh1.2.2 ▸ hh9⟩)
  refine WR.pr (fun e9 => ?_)
  subst e9
  refine WR.pr (fun hl3 => ?_)
  refine WR.imp (P' := Wd G (adr, (n, P, F), Sm, mu, g)) (fun h1 e1 => e1 ▸ hh9) ?_
  show WR K G _ _ _ _ _ _ _ _
  obtain ⟨i, hi, rfl⟩ := hl3
  refine R_iload_n (pc := 4) C dX1_setRecharge_4 rfl ?_
  refine R_iconst (pc := 5) C dX1_setRecharge_5 (v := 0) (by decide) ?_
  refine R_sipush (pc := 6) C dX1_setRecharge_6 (v := 1000) (by decide) ?_
  refine R_callST (pc := 9) C dX1_setRecharge_9 (vs := [_, _, _]) (fun h hh => mX1_requireWithin hl h) ⟨k_4_10, k_4_11, k_1_2, k_4_12⟩ (sgn (nv := 3) rfl ⟨by decide +kernel, by decide +kernel, by decide +kernel⟩) ⟨⟨Nat.le_of_ble_eq_true rfl, Nat.le_of_ble_eq_true rfl⟩, ⟨Nat.le_of_ble_eq_true rfl, Nat.le_of_ble_eq_true rfl⟩, Nat.le_of_ble_eq_true rfl⟩ rfl rfl (fun h9 hh9 E9 => ?_) (fun h9 hh9 v9 => ?_)
  · exact X_out C (Nat.le_of_ble_eq_true rfl) (Nat.le_of_ble_eq_true rfl) (fun h1 hh1 => ⟨Or.inr (Or.inl ⟨by simp [kRech, lay_t hi, qR_f hh1.2.1], hh1.1⟩), hh1.2.2 ▸ hh9⟩)
  refine WR.pr (fun e9 => ?_)
  subst e9
  refine WR.pr (fun hr => ?_)
  refine WR.imp (P' := Wd G (adr, (n, P, F), Sm, mu, g)) (fun h1 e1 => e1 ▸ hh9) ?_
  show WR K G _ _ _ _ _ _ _ _
  refine R_aload_n (pc := 12) C dX1_setRecharge_12 rfl ?_
  refine R_getf (pc := 13) C dX1_setRecharge_13 (i := 1) (wc0) rfl inlX1 (by decide) k_1_18 rfl ?_
  refine R_iload_n (pc := 16) C dX1_setRecharge_16 rfl ?_
  refine R_iald (pc := 17) C dX1_setRecharge_17 (wc3) (rfl) (by omega) (by decide) rfl ?_
  refine R_istore_n (pc := 18) C dX1_setRecharge_18 (Nat.le_of_ble_eq_true rfl) (lv' := [some (.ref _), some (.int _), some (.int _), some (.int _)]) rfl ?_
  refine R_aload_n (pc := 19) C dX1_setRecharge_19 rfl ?_
  refine R_getf (pc := 20) C dX1_setRecharge_20 (i := 1) (wc0) rfl inlX1 (by decide) k_1_18 rfl ?_
  refine R_iload_n (pc := 23) C dX1_setRecharge_23 rfl ?_
  refine R_iload_n (pc := 24) C dX1_setRecharge_24 rfl ?_
  refine R_iast (pc := 25) C dX1_setRecharge_25 (wc3) (rfl) (by omega) (by decide) (pc_rech) ?_
  refine R_iload_n (pc := 26) C dX1_setRecharge_26 rfl ?_
  refine R_ok ?_
  exact R_iret (pc := 27) C dX1_setRecharge_27 rfl (Nat.le_of_ble_eq_true rfl) (Nat.le_of_ble_eq_true rfl) (fun h hh => ⟨⟨by simp [kRech, lay_t hi, qR_t hr], by rw [ix_nI (by omega)]⟩, by rw [ix_nI (by omega)]; exact hh⟩)
set_option maxHeartbeats 4000000 in
set_option maxRecDepth 100000 in
theorem mX1_reach (hl : l.stackTraces = false) {x y : Int32} (hn : n ≤ 8) : ∀ h, Wd G (adr, (n, P, F), Sm, mu, g) h → CT l yX1_reach cX1_reach 5 (some .int) 4 2 12 [.ref (adr 0), .int x, .int y] G h (fun v h1 => (kReach n x y = 0 ∧ v = some (.int (spR F (ix x) (ix y)))) ∧ Wd G (adr, (n, P, F), Sm, mu, g) h1) (fun E h1 => exA E (kReach n x y) ∧ Wd G (adr, (n, P, F), Sm, mu, g) h1) := by
  intro h0 hwd
  refine CT.of hl (by decide +kernel) rfl (Nat.le_of_ble_eq_true rfl) (fun K sz hKl C => ?_)
  have C : CX K G (AH h0 sz) RX1 cX1_reach 5 (some .int) (rmD 4 2 12) [] := C
  subst hKl
  refine WR.imp (P' := Wd G (adr, (n, P, F), Sm, mu, g)) (fun h e => e ▸ hwd) ?_
  show WR K G _ _ _ [some (.ref (adr 0)), some (.int x), some (.int y), none, none] 0 0 0 []
  refine R_aload_n (pc := 0) C dX1_reach_0 rfl ?_
  refine R_iload_n (pc := 1) C dX1_reach_1 rfl ?_
  refine R_callVT (pc := 2) C dX1_reach_2 (vs := [_]) (fun h hh => mX1_wellAt hl hn h hh) (isOb_of (wc0) rfl) ⟨k_18_15, k_18_16, k_18_17, k_1_2, k_18_18⟩ (sgn (nv := 1) rfl ⟨by decide +kernel, by decide +kernel, by decide +kernel⟩) ⟨⟨Nat.le_of_ble_eq_true rfl, Nat.le_of_ble_eq_true rfl⟩, ⟨Nat.le_of_ble_eq_true rfl, Nat.le_of_ble_eq_true rfl⟩, Nat.le_of_ble_eq_true rfl⟩ rfl rfl (fun h9 hh9 E9 => ?_) (fun h9 hh9 v9 => ?_)
  · exact X_out C (Nat.le_of_ble_eq_true rfl) (Nat.le_of_ble_eq_true rfl) (fun h1 hh1 => ⟨Or.inl ⟨by simp [kReach, qW_f hn hh1.1.2], hh1.1.1⟩, hh1.2⟩)
  refine WR.imp (P' := fun h1 => ∃ i, (i < n ∧ _ = nI i ∧ v9 = some (.ref (adr (30 + i)))) ∧ Wd G (adr, (n, P, F), Sm, mu, g) h1) (fun h1 q1 => by obtain ⟨⟨z, z1, z2, z3⟩, z4⟩ := q1; exact ⟨z, ⟨z1, z2, z3⟩, z4⟩) ?_
  refine WR.ex (fun i => WR.pr (fun e9 => ?_))
  obtain ⟨hi, ei, e9⟩ := e9
  subst e9
  show WR K G _ _ _ _ _ _ _ (.ref _ :: _)
  subst ei
  refine R_astore_n (pc := 5) C dX1_reach_5 (Nat.le_of_ble_eq_true rfl) (lv' := [some (.ref _), some (.int _), some (.int _), some (.ref _), none]) rfl ?_
  refine R_aload_n (pc := 6) C dX1_reach_6 rfl ?_
  refine R_iload_n (pc := 7) C dX1_reach_7 rfl ?_
  refine R_callVT (pc := 8) C dX1_reach_8 (vs := [_]) (fun h hh => mX1_wellAt hl hn h hh) (isOb_of (wc0) rfl) ⟨k_18_15, k_18_16, k_18_17, k_1_2, k_18_18⟩ (sgn (nv := 1) rfl ⟨by decide +kernel, by decide +kernel, by decide +kernel⟩) ⟨⟨Nat.le_of_ble_eq_true rfl, Nat.le_of_ble_eq_true rfl⟩, ⟨Nat.le_of_ble_eq_true rfl, Nat.le_of_ble_eq_true rfl⟩, Nat.le_of_ble_eq_true rfl⟩ rfl rfl (fun h9 hh9 E9 => ?_) (fun h9 hh9 v9 => ?_)
  · exact X_out C (Nat.le_of_ble_eq_true rfl) (Nat.le_of_ble_eq_true rfl) (fun h1 hh1 => ⟨Or.inl ⟨by simp [kReach, qW_f hn hh1.1.2], hh1.1.1⟩, hh1.2⟩)
  refine WR.imp (P' := fun h1 => ∃ j, (j < n ∧ _ = nI j ∧ v9 = some (.ref (adr (30 + j)))) ∧ Wd G (adr, (n, P, F), Sm, mu, g) h1) (fun h1 q1 => by obtain ⟨⟨z, z1, z2, z3⟩, z4⟩ := q1; exact ⟨z, ⟨z1, z2, z3⟩, z4⟩) ?_
  refine WR.ex (fun j => WR.pr (fun e9 => ?_))
  obtain ⟨hj, ej, e9⟩ := e9
  subst e9
  show WR K G _ _ _ _ _ _ _ (.ref _ :: _)
  subst ej
  refine R_astore (pc := 11) C dX1_reach_11 (Nat.le_of_ble_eq_true rfl) (lv' := [some (.ref _), some (.int _), some (.int _), some (.ref _), some (.ref _)]) rfl ?_
  refine R_aload (pc := 13) C dX1_reach_13 rfl ?_
  refine R_aload_n (pc := 15) C dX1_reach_15 rfl ?_
  refine R_getf (pc := 16) C dX1_reach_16 (i := 1) (wcw hi hn) rfl inlX0 (by decide) k_20_15 rfl ?_
  refine R_aload_n (pc := 19) C dX1_reach_19 rfl ?_
  refine R_getf (pc := 20) C dX1_reach_20 (i := 2) (wcw hi hn) rfl inlX0 (by decide) k_20_16 rfl ?_
  refine R_callVN (pc := 23) C dX1_reach_23 (vs := [_, _]) (fun h hh => mX0_reachedFrom hl hj hn h hh) (isOb_of (wcw hj hn) rfl) ⟨k_20_17, k_20_18, k_20_19, k_4_4, k_20_20⟩ (sgn (nv := 2) rfl ⟨by decide +kernel, by decide +kernel, by decide +kernel⟩) ⟨⟨Nat.le_of_ble_eq_true rfl, Nat.le_of_ble_eq_true rfl⟩, ⟨Nat.le_of_ble_eq_true rfl, Nat.le_of_ble_eq_true rfl⟩, Nat.le_of_ble_eq_true rfl⟩ rfl rfl (fun h9 hh9 v9 => ?_)
  refine WR.pr (fun e9 => ?_)
  subst e9
  show WR K G _ _ _ _ _ _ _ (.int _ :: _)
  refine R_ok ?_
  exact R_iret (pc := 26) C dX1_reach_26 rfl (Nat.le_of_ble_eq_true rfl) (Nat.le_of_ble_eq_true rfl) (fun h hh => ⟨⟨by simp [kReach, qW_t hn hi, qW_t hn hj], by rw [ix_nI (by omega), ix_nI (by omega)]⟩, hh⟩)
set_option maxHeartbeats 4000000 in
set_option maxRecDepth 100000 in
theorem mX1_years (hl : l.stackTraces = false)   : ∀ h, Wd G (adr, (n, P, F), Sm, mu, g) h → CN l yX1_years cX1_years 1 (some .int) 0 0 0 [.ref (adr 0)] G h (fun v h1 => v = some (.int (F 16 1)) ∧ Wd G (adr, (n, P, F), Sm, mu, g) h1) := by
  intro h0 hwd
  refine CN.of hl (by decide +kernel) rfl (Nat.le_of_ble_eq_true rfl) (fun K sz hKl hin C => ?_)
  have C : CX K G (AH h0 sz) RX1 cX1_years 1 (some .int) (rmD 0 0 0) [] := C
  subst hKl
  refine WR.imp (P' := Wd G (adr, (n, P, F), Sm, mu, g)) (fun h e => e ▸ hwd) ?_
  show WR K G _ _ _ [some (.ref (adr 0))] 0 0 0 []
  refine R_aload_n (pc := 0) C dX1_years_0 rfl ?_
  refine R_getf (pc := 1) C dX1_years_1 (i := 5) (wc0) rfl inlX1 (by decide) k_1_22 rfl ?_
  exact R_iret (pc := 4) C dX1_years_4 rfl (Nat.le_of_ble_eq_true rfl) (Nat.le_of_ble_eq_true rfl) (fun h hh => ⟨rfl, hh⟩)
set_option maxHeartbeats 4000000 in
set_option maxRecDepth 100000 in
theorem mX1_fund (hl : l.stackTraces = false)   : ∀ h, Wd G (adr, (n, P, F), Sm, mu, g) h → CN l yX1_fund cX1_fund 1 (some .int) 0 0 0 [.ref (adr 0)] G h (fun v h1 => v = some (.int (F 16 0)) ∧ Wd G (adr, (n, P, F), Sm, mu, g) h1) := by
  intro h0 hwd
  refine CN.of hl (by decide +kernel) rfl (Nat.le_of_ble_eq_true rfl) (fun K sz hKl hin C => ?_)
  have C : CX K G (AH h0 sz) RX1 cX1_fund 1 (some .int) (rmD 0 0 0) [] := C
  subst hKl
  refine WR.imp (P' := Wd G (adr, (n, P, F), Sm, mu, g)) (fun h e => e ▸ hwd) ?_
  show WR K G _ _ _ [some (.ref (adr 0))] 0 0 0 []
  refine R_aload_n (pc := 0) C dX1_fund_0 rfl ?_
  refine R_getf (pc := 1) C dX1_fund_1 (i := 4) (wc0) rfl inlX1 (by decide) k_1_21 rfl ?_
  exact R_iret (pc := 4) C dX1_fund_4 rfl (Nat.le_of_ble_eq_true rfl) (Nat.le_of_ble_eq_true rfl) (fun h hh => ⟨rfl, hh⟩)
set_option maxHeartbeats 4000000 in
set_option maxRecDepth 100000 in
theorem mX1_toggleMeter (hl : l.stackTraces = false) {x : Int32} (hn : n ≤ 8) (hf7 : ∀ i, i < n → F 7 i = 0 ∨ F 7 i = 1) : ∀ h, Wd G (adr, (n, P, F), Sm, mu, g) h → CT l yX1_toggleMeter cX1_toggleMeter 3 (some .boolean) 4 1 6 [.ref (adr 0), .int x] G h (fun v h1 => (kAsk n x = 0 ∧ v = some (.int (F 7 (ix x)))) ∧ Wd G (adr, (n, P, su F 7 (ix x) (1 - F 7 (ix x))), Sm, mu, g) h1) (fun E h1 => exA E (kAsk n x) ∧ Wd G (adr, (n, P, F), Sm, mu, g) h1) := by
  intro h0 hwd
  refine CT.of hl (by decide +kernel) rfl (Nat.le_of_ble_eq_true rfl) (fun K sz hKl C => ?_)
  have C : CX K G (AH h0 sz) RX1 cX1_toggleMeter 3 (some .boolean) (rmD 4 1 6) [] := C
  subst hKl
  refine WR.imp (P' := Wd G (adr, (n, P, F), Sm, mu, g)) (fun h e => e ▸ hwd) ?_
  show WR K G _ _ _ [some (.ref (adr 0)), some (.int x), none] 0 0 0 []
  refine R_aload_n (pc := 0) C dX1_toggleMeter_0 rfl ?_
  refine R_iload_n (pc := 1) C dX1_toggleMeter_1 rfl ?_
  refine R_callVT (pc := 2) C dX1_toggleMeter_2 (vs := [_]) (fun h hh => mX1_wellAt hl hn h hh) (isOb_of (wc0) rfl) ⟨k_18_15, k_18_16, k_18_17, k_1_2, k_18_18⟩ (sgn (nv := 1) rfl ⟨by decide +kernel, by decide +kernel, by decide +kernel⟩) ⟨⟨Nat.le_of_ble_eq_true rfl, Nat.le_of_ble_eq_true rfl⟩, ⟨Nat.le_of_ble_eq_true rfl, Nat.le_of_ble_eq_true rfl⟩, Nat.le_of_ble_eq_true rfl⟩ rfl rfl (fun h9 hh9 E9 => ?_) (fun h9 hh9 v9 => ?_)
  · exact X_out C (Nat.le_of_ble_eq_true rfl) (Nat.le_of_ble_eq_true rfl) (fun h1 hh1 => ⟨Or.inl ⟨by simp [kAsk, qW_f hn hh1.1.2], hh1.1.1⟩, hh1.2⟩)
  refine WR.imp (P' := fun h1 => ∃ i, (i < n ∧ _ = nI i ∧ v9 = some (.ref (adr (30 + i)))) ∧ Wd G (adr, (n, P, F), Sm, mu, g) h1) (fun h1 q1 => by obtain ⟨⟨z, z1, z2, z3⟩, z4⟩ := q1; exact ⟨z, ⟨z1, z2, z3⟩, z4⟩) ?_
  refine WR.ex (fun i => WR.pr (fun e9 => ?_))
  obtain ⟨hi, ei, e9⟩ := e9
  subst e9
  show WR K G _ _ _ _ _ _ _ (.ref _ :: _)
  subst ei
  refine R_astore_n (pc := 5) C dX1_toggleMeter_5 (Nat.le_of_ble_eq_true rfl) (lv' := [some (.ref _), some (.int _), some (.ref _)]) rfl ?_
  refine R_aload_n (pc := 6) C dX1_toggleMeter_6 rfl ?_
  refine R_aload_n (pc := 7) C dX1_toggleMeter_7 rfl ?_
  refine R_getf (pc := 8) C dX1_toggleMeter_8 (i := 12) (wcw hi hn) rfl inlX0 (by decide) k_25_12 rfl ?_
  refine R_if_ne (pc := 11) C dX1_toggleMeter_11 (tgt := 18) (by decide) (fun c11 => ?_) (fun c11 => ?_)
  · refine R_iconst (pc := 18) C dX1_toggleMeter_18 (v := 0) (by decide) ?_
    refine R_putf (pc := 19) C dX1_toggleMeter_19 (i := 12) (wcw hi hn) rfl inlX0 tyX0_ok nmX0 (by decide) k_25_12 rfl rfl rfl (Nat.le_of_ble_eq_true rfl) (pw_7 (v := 1 - F 7 i) (by rcases hf7 i hi with q | q <;> rw [q] at c11 ⊢ <;> revert c11 <;> decide) hi hn) ?_
    refine R_aload_n (pc := 22) C dX1_toggleMeter_22 rfl ?_
    refine R_getf (pc := 23) C dX1_toggleMeter_23 (i := 12) (wcw hi hn) rfl inlX0 (by decide) k_25_12 rfl ?_
    refine R_ok ?_
    exact R_zret (pc := 26) C dX1_toggleMeter_26 rfl (by rw [su_s]; rcases hf7 i hi with q | q <;> rw [q] <;> rfl) (Nat.le_of_ble_eq_true rfl) (Nat.le_of_ble_eq_true rfl) (fun h hh => ⟨⟨by simp [kAsk, qW_t hn hi], by rw [ix_nI (by omega), su_s]; rcases hf7 i hi with q | q <;> rw [q] <;> rfl⟩, by rw [ix_nI (by omega)]; exact hh⟩)
  · refine R_iconst (pc := 14) C dX1_toggleMeter_14 (v := 1) (by decide) ?_
    refine R_goto (pc := 15) C dX1_toggleMeter_15 (tgt := 19) (by decide) ?_
    refine R_putf (pc := 19) C dX1_toggleMeter_19 (i := 12) (wcw hi hn) rfl inlX0 tyX0_ok nmX0 (by decide) k_25_12 rfl rfl rfl (Nat.le_of_ble_eq_true rfl) (pw_7 (v := 1 - F 7 i) (by rcases hf7 i hi with q | q <;> rw [q] at c11 ⊢ <;> revert c11 <;> decide) hi hn) ?_
    refine R_aload_n (pc := 22) C dX1_toggleMeter_22 rfl ?_
    refine R_getf (pc := 23) C dX1_toggleMeter_23 (i := 12) (wcw hi hn) rfl inlX0 (by decide) k_25_12 rfl ?_
    refine R_ok ?_
    exact R_zret (pc := 26) C dX1_toggleMeter_26 rfl (by rw [su_s]; rcases hf7 i hi with q | q <;> rw [q] <;> rfl) (Nat.le_of_ble_eq_true rfl) (Nat.le_of_ble_eq_true rfl) (fun h hh => ⟨⟨by simp [kAsk, qW_t hn hi], by rw [ix_nI (by omega), su_s]; rcases hf7 i hi with q | q <;> rw [q] <;> rfl⟩, by rw [ix_nI (by omega)]; exact hh⟩)
set_option maxHeartbeats 4000000 in
set_option maxRecDepth 100000 in
theorem mX1_build (hl : l.stackTraces = false) {x : Int32} (hP : P ≤ 5) : ∀ h, Wd G (adr, (n, P, F), Sm, mu, g) h → CT l yX1_build cX1_build 2 (some .int) 4 2 12 [.ref (adr 0), .int x] G h (fun v h1 => (kBuild P F x = 0 ∧ v = some (.int (nI (P + 1)))) ∧ Wd G (adr, (n, P + 1, fBuild F P x), Sm, mu, g) h1) (fun E h1 => ((kBuild P F x = 1 ∧ E = eIAE) ∨ (kBuild P F x = 2 ∧ E = eISE)) ∧ Wd G (adr, (n, P, F), Sm, mu, g) h1) := by
  intro h0 hwd
  refine CT.of hl (by decide +kernel) rfl (Nat.le_of_ble_eq_true rfl) (fun K sz hKl C => ?_)
  have C : CX K G (AH h0 sz) RX1 cX1_build 2 (some .int) (rmD 4 2 12) [] := C
  subst hKl
  refine WR.imp (P' := Wd G (adr, (n, P, F), Sm, mu, g)) (fun h e => e ▸ hwd) ?_
  show WR K G _ _ _ [some (.ref (adr 0)), some (.int x)] 0 0 0 []
  refine R_iload_n (pc := 0) C dX1_build_0 rfl ?_
  refine R_iconst (pc := 1) C dX1_build_1 (v := 0) (by decide) ?_
  refine R_bipush (pc := 2) C dX1_build_2 (v := 99) (by decide) ?_
  refine R_callST (pc := 4) C dX1_build_4 (vs := [_, _, _]) (fun h hh => mX1_requireWithin hl h) ⟨k_4_10, k_4_11, k_1_2, k_4_12⟩ (sgn (nv := 3) rfl ⟨by decide +kernel, by decide +kernel, by decide +kernel⟩) ⟨⟨Nat.le_of_ble_eq_true rfl, Nat.le_of_ble_eq_true rfl⟩, ⟨Nat.le_of_ble_eq_true rfl, Nat.le_of_ble_eq_true rfl⟩, Nat.le_of_ble_eq_true rfl⟩ rfl rfl (fun h9 hh9 E9 => ?_) (fun h9 hh9 v9 => ?_)
  · exact X_out C (Nat.le_of_ble_eq_true rfl) (Nat.le_of_ble_eq_true rfl) (fun h1 hh1 => ⟨Or.inl ⟨by simp [kBuild, qR_f hh1.2.1], hh1.1⟩, hh1.2.2 ▸ hh9⟩)
  refine WR.pr (fun e9 => ?_)
  subst e9
  refine WR.pr (fun hr => ?_)
  refine WR.imp (P' := Wd G (adr, (n, P, F), Sm, mu, g)) (fun h1 e1 => e1 ▸ hh9) ?_
  show WR K G _ _ _ _ _ _ _ _
  refine R_aload_n (pc := 7) C dX1_build_7 rfl ?_
  refine R_getf (pc := 8) C dX1_build_8 (i := 4) (wc0) rfl inlX1 (by decide) k_1_21 rfl ?_
  refine R_bipush (pc := 11) C dX1_build_11 (v := 100) (by decide) ?_
  refine R_icmp_lt (pc := 13) C dX1_build_13 (tgt := 24) (by decide) (fun c13 => ?_) (fun c13 => ?_)
  · exact R_thrISE (pc := 24) C dX1_build_24 dX1_build_27 dX1_build_28 dX1_build_30 dX1_build_33 (C.st.2.2.2.2.2.2.1.2.2.1) rfl ⟨⟨Nat.le_of_ble_eq_true rfl, Nat.le_of_ble_eq_true rfl⟩, Nat.le_of_ble_eq_true rfl, Nat.le_of_ble_eq_true rfl⟩ ⟨Nat.le_of_ble_eq_true rfl, Nat.le_of_ble_eq_true rfl⟩ (fun h hh => ⟨Or.inr ⟨by simp [kBuild, qR_t hr, c13], rfl⟩, hh⟩)
  · refine R_aload_n (pc := 16) C dX1_build_16 rfl ?_
    refine R_getf (pc := 17) C dX1_build_17 (i := 3) (wc0) rfl inlX1 (by decide) k_1_20 rfl ?_
    refine R_iconst (pc := 20) C dX1_build_20 (v := 5) (by decide) ?_
    refine R_icmp_lt (pc := 21) C dX1_build_21 (tgt := 34) (by decide) (fun c21 => ?_) (fun c21 => ?_)
    · have hP5 : P < 5 := (nI_ltI (by omega) (by omega)).mp (show nI P < nI 5 from c21)
      refine R_aload_n (pc := 34) C dX1_build_34 rfl ?_
      refine R_dup (pc := 35) C dX1_build_35 rfl ?_
      refine R_getf (pc := 36) C dX1_build_36 (i := 4) (wc0) rfl inlX1 (by decide) k_1_21 rfl ?_
      refine R_bipush (pc := 39) C dX1_build_39 (v := 100) (by decide) ?_
      refine R_isub (pc := 41) C dX1_build_41 ?_
      refine R_putf (pc := 42) C dX1_build_42 (i := 4) (wc0) rfl inlX1 tyX1_ok nmX1 (by decide) k_1_21 rfl rfl rfl (Nat.le_of_ble_eq_true rfl) (pc_fund) ?_
      refine R_aload_n (pc := 45) C dX1_build_45 rfl ?_
      refine R_getf (pc := 46) C dX1_build_46 (i := 2) (wc0) rfl inlX1 (by decide) k_1_19 rfl ?_
      refine R_aload_n (pc := 49) C dX1_build_49 rfl ?_
      refine R_getf (pc := 50) C dX1_build_50 (i := 3) (wc0) rfl inlX1 (by decide) k_1_20 rfl ?_
      refine R_iload_n (pc := 53) C dX1_build_53 rfl ?_
      refine R_iast (pc := 54) C dX1_build_54 (wc4) (rfl) (hP5) (by decide) (pc_pond) ?_
      refine R_aload_n (pc := 55) C dX1_build_55 rfl ?_
      refine R_dup (pc := 56) C dX1_build_56 rfl ?_
      refine R_getf (pc := 57) C dX1_build_57 (i := 3) (wc0) rfl inlX1 (by decide) k_1_20 rfl ?_
      refine R_iconst (pc := 60) C dX1_build_60 (v := 1) (by decide) ?_
      refine R_iadd (pc := 61) C dX1_build_61 ?_
      refine R_putf (pc := 62) C dX1_build_62 (i := 3) (wc0) rfl inlX1 tyX1_ok nmX1 (by decide) k_1_20 rfl rfl rfl (Nat.le_of_ble_eq_true rfl) (pc_ponds (nI_1 P)) ?_
      refine R_aload_n (pc := 65) C dX1_build_65 rfl ?_
      refine R_getf (pc := 66) C dX1_build_66 (i := 3) (wc0) rfl inlX1 (by decide) k_1_20 rfl ?_
      refine R_ok ?_
      exact R_iret (pc := 69) C dX1_build_69 rfl (Nat.le_of_ble_eq_true rfl) (Nat.le_of_ble_eq_true rfl) (fun h hh => ⟨⟨by simp [kBuild, qR_t hr, c13, show ¬ 5 ≤ P by omega], rfl⟩, hh⟩)
    · exact R_thrISE (pc := 24) C dX1_build_24 dX1_build_27 dX1_build_28 dX1_build_30 dX1_build_33 (C.st.2.2.2.2.2.2.1.2.2.1) rfl ⟨⟨Nat.le_of_ble_eq_true rfl, Nat.le_of_ble_eq_true rfl⟩, Nat.le_of_ble_eq_true rfl, Nat.le_of_ble_eq_true rfl⟩ ⟨Nat.le_of_ble_eq_true rfl, Nat.le_of_ble_eq_true rfl⟩ (fun h hh => ⟨Or.inr ⟨by simp [kBuild, qR_t hr, five_le hP c21], rfl⟩, hh⟩)
set_option maxHeartbeats 4000000 in
set_option maxRecDepth 100000 in
theorem mX1_lend (hl : l.stackTraces = false) {x y a : Int32} (hn : n ≤ 8) : ∀ h, Wd G (adr, (n, P, F), Sm, mu, g) h → CT l yX1_lend cX1_lend 6 (some .int) 4 5 30 [.ref (adr 0), .int x, .int y, .int a] G h (fun v h1 => (kLend n F x y a = 0 ∧ v = some (.int (F 13 (8 * ix x + ix y) + a))) ∧ Wd G (adr, (n, P, fLend F (ix x) (ix y) a), Sm, mu, g) h1) (fun E h1 => exA E (kLend n F x y a) ∧ Wd G (adr, (n, P, F), Sm, mu, g) h1) := by
  intro h0 hwd
  refine CT.of hl (by decide +kernel) rfl (Nat.le_of_ble_eq_true rfl) (fun K sz hKl C => ?_)
  have C : CX K G (AH h0 sz) RX1 cX1_lend 6 (some .int) (rmD 4 5 30) [] := C
  subst hKl
  refine WR.imp (P' := Wd G (adr, (n, P, F), Sm, mu, g)) (fun h e => e ▸ hwd) ?_
  show WR K G _ _ _ [some (.ref (adr 0)), some (.int x), some (.int y), some (.int a), none, none] 0 0 0 []
  refine R_aload_n (pc := 0) C dX1_lend_0 rfl ?_
  refine R_iload_n (pc := 1) C dX1_lend_1 rfl ?_
  refine R_callVT (pc := 2) C dX1_lend_2 (vs := [_]) (fun h hh => mX1_wellAt hl hn h hh) (isOb_of (wc0) rfl) ⟨k_18_15, k_18_16, k_18_17, k_1_2, k_18_18⟩ (sgn (nv := 1) rfl ⟨by decide +kernel, by decide +kernel, by decide +kernel⟩) ⟨⟨Nat.le_of_ble_eq_true rfl, Nat.le_of_ble_eq_true rfl⟩, ⟨Nat.le_of_ble_eq_true rfl, Nat.le_of_ble_eq_true rfl⟩, Nat.le_of_ble_eq_true rfl⟩ rfl rfl (fun h9 hh9 E9 => ?_) (fun h9 hh9 v9 => ?_)
  · exact X_out C (Nat.le_of_ble_eq_true rfl) (Nat.le_of_ble_eq_true rfl) (fun h1 hh1 => ⟨Or.inl ⟨by simp [kLend, qW_f hn hh1.1.2], hh1.1.1⟩, hh1.2⟩)
  refine WR.imp (P' := fun h1 => ∃ i, (i < n ∧ _ = nI i ∧ v9 = some (.ref (adr (30 + i)))) ∧ Wd G (adr, (n, P, F), Sm, mu, g) h1) (fun h1 q1 => by obtain ⟨⟨z, z1, z2, z3⟩, z4⟩ := q1; exact ⟨z, ⟨z1, z2, z3⟩, z4⟩) ?_
  refine WR.ex (fun i => WR.pr (fun e9 => ?_))
  obtain ⟨hi, ei, e9⟩ := e9
  subst e9
  show WR K G _ _ _ _ _ _ _ (.ref _ :: _)
  subst ei
  refine R_astore (pc := 5) C dX1_lend_5 (Nat.le_of_ble_eq_true rfl) (lv' := [some (.ref _), some (.int _), some (.int _), some (.int _), some (.ref _), none]) rfl ?_
  refine R_aload_n (pc := 7) C dX1_lend_7 rfl ?_
  refine R_iload_n (pc := 8) C dX1_lend_8 rfl ?_
  refine R_callVT (pc := 9) C dX1_lend_9 (vs := [_]) (fun h hh => mX1_wellAt hl hn h hh) (isOb_of (wc0) rfl) ⟨k_18_15, k_18_16, k_18_17, k_1_2, k_18_18⟩ (sgn (nv := 1) rfl ⟨by decide +kernel, by decide +kernel, by decide +kernel⟩) ⟨⟨Nat.le_of_ble_eq_true rfl, Nat.le_of_ble_eq_true rfl⟩, ⟨Nat.le_of_ble_eq_true rfl, Nat.le_of_ble_eq_true rfl⟩, Nat.le_of_ble_eq_true rfl⟩ rfl rfl (fun h9 hh9 E9 => ?_) (fun h9 hh9 v9 => ?_)
  · exact X_out C (Nat.le_of_ble_eq_true rfl) (Nat.le_of_ble_eq_true rfl) (fun h1 hh1 => ⟨Or.inl ⟨by simp [kLend, qW_f hn hh1.1.2], hh1.1.1⟩, hh1.2⟩)
  refine WR.imp (P' := fun h1 => ∃ j, (j < n ∧ _ = nI j ∧ v9 = some (.ref (adr (30 + j)))) ∧ Wd G (adr, (n, P, F), Sm, mu, g) h1) (fun h1 q1 => by obtain ⟨⟨z, z1, z2, z3⟩, z4⟩ := q1; exact ⟨z, ⟨z1, z2, z3⟩, z4⟩) ?_
  refine WR.ex (fun j => WR.pr (fun e9 => ?_))
  obtain ⟨hj, ej, e9⟩ := e9
  subst e9
  show WR K G _ _ _ _ _ _ _ (.ref _ :: _)
  subst ej
  refine R_astore (pc := 12) C dX1_lend_12 (Nat.le_of_ble_eq_true rfl) (lv' := [some (.ref _), some (.int _), some (.int _), some (.int _), some (.ref _), some (.ref _)]) rfl ?_
  refine R_iload_n (pc := 14) C dX1_lend_14 rfl ?_
  refine R_iload_n (pc := 15) C dX1_lend_15 rfl ?_
  refine R_callST (pc := 16) C dX1_lend_16 (vs := [_, _]) (fun h hh => mX1_requireDifferent hl h) ⟨k_31_7, k_31_8, k_1_2, k_31_9⟩ (sgn (nv := 2) rfl ⟨by decide +kernel, by decide +kernel, by decide +kernel⟩) ⟨⟨Nat.le_of_ble_eq_true rfl, Nat.le_of_ble_eq_true rfl⟩, ⟨Nat.le_of_ble_eq_true rfl, Nat.le_of_ble_eq_true rfl⟩, Nat.le_of_ble_eq_true rfl⟩ rfl rfl (fun h9 hh9 E9 => ?_) (fun h9 hh9 v9 => ?_)
  · exact X_out C (Nat.le_of_ble_eq_true rfl) (Nat.le_of_ble_eq_true rfl) (fun h1 hh1 => ⟨Or.inr (Or.inl ⟨by simp [kLend, qW_t hn hi, qW_t hn hj, hh1.2.1], hh1.1⟩), hh1.2.2 ▸ hh9⟩)
  refine WR.pr (fun e9 => ?_)
  subst e9
  refine WR.pr (fun hd => ?_)
  refine WR.imp (P' := Wd G (adr, (n, P, F), Sm, mu, g)) (fun h1 e1 => e1 ▸ hh9) ?_
  show WR K G _ _ _ _ _ _ _ _
  refine R_iload_n (pc := 19) C dX1_lend_19 rfl ?_
  refine R_iconst (pc := 20) C dX1_lend_20 (v := 1) (by decide) ?_
  refine R_sipush (pc := 21) C dX1_lend_21 (v := 10000) (by decide) ?_
  refine R_callST (pc := 24) C dX1_lend_24 (vs := [_, _, _]) (fun h hh => mX1_requireWithin hl h) ⟨k_4_10, k_4_11, k_1_2, k_4_12⟩ (sgn (nv := 3) rfl ⟨by decide +kernel, by decide +kernel, by decide +kernel⟩) ⟨⟨Nat.le_of_ble_eq_true rfl, Nat.le_of_ble_eq_true rfl⟩, ⟨Nat.le_of_ble_eq_true rfl, Nat.le_of_ble_eq_true rfl⟩, Nat.le_of_ble_eq_true rfl⟩ rfl rfl (fun h9 hh9 E9 => ?_) (fun h9 hh9 v9 => ?_)
  · exact X_out C (Nat.le_of_ble_eq_true rfl) (Nat.le_of_ble_eq_true rfl) (fun h1 hh1 => ⟨Or.inr (Or.inl ⟨by simp [kLend, qW_t hn hi, qW_t hn hj, qR_f hh1.2.1], hh1.1⟩), hh1.2.2 ▸ hh9⟩)
  refine WR.pr (fun e9 => ?_)
  subst e9
  refine WR.pr (fun hr => ?_)
  refine WR.imp (P' := Wd G (adr, (n, P, F), Sm, mu, g)) (fun h1 e1 => e1 ▸ hh9) ?_
  show WR K G _ _ _ _ _ _ _ _
  refine R_aload (pc := 27) C dX1_lend_27 rfl ?_
  refine R_getf (pc := 29) C dX1_lend_29 (i := 14) (wcw hi hn) rfl inlX0 (by decide) k_23_12 rfl ?_
  refine R_iload_n (pc := 32) C dX1_lend_32 rfl ?_
  refine R_icmp_ge (pc := 33) C dX1_lend_33 (tgt := 46) (by decide) (fun c33 => ?_) (fun c33 => ?_)
  · have hji : j ≠ i := fun q => hd (by rw [q])
    refine R_aload (pc := 46) C dX1_lend_46 rfl ?_
    refine R_dup (pc := 48) C dX1_lend_48 rfl ?_
    refine R_getf (pc := 49) C dX1_lend_49 (i := 14) (wcw hi hn) rfl inlX0 (by decide) k_23_12 rfl ?_
    refine R_iload_n (pc := 52) C dX1_lend_52 rfl ?_
    refine R_isub (pc := 53) C dX1_lend_53 ?_
    refine R_putf (pc := 54) C dX1_lend_54 (i := 14) (wcw hi hn) rfl inlX0 tyX0_ok nmX0 (by decide) k_23_12 rfl rfl rfl (Nat.le_of_ble_eq_true rfl) (pw_9 hi hn) ?_
    refine R_aload (pc := 57) C dX1_lend_57 rfl ?_
    refine R_dup (pc := 59) C dX1_lend_59 rfl ?_
    refine R_getf (pc := 60) C dX1_lend_60 (i := 14) (wcw hj hn) rfl inlX0 (by decide) k_23_12 rfl ?_
    refine R_iload_n (pc := 63) C dX1_lend_63 rfl ?_
    refine R_iadd (pc := 64) C dX1_lend_64 ?_
    refine R_putf (pc := 65) C dX1_lend_65 (i := 14) (wcw hj hn) rfl inlX0 tyX0_ok nmX0 (by decide) k_23_12 rfl rfl rfl (Nat.le_of_ble_eq_true rfl) (pe_9 (v0 := F 9 j + a) (by rw [su_i hji]) hj hn) ?_
    refine R_aload (pc := 68) C dX1_lend_68 rfl ?_
    refine R_getf (pc := 70) C dX1_lend_70 (i := 7) (wcw hi hn) rfl inlX0 (by decide) k_31_6 rfl ?_
    refine R_iload_n (pc := 73) C dX1_lend_73 rfl ?_
    refine R_dup2 (pc := 74) C dX1_lend_74 rfl rfl ?_
    refine R_iald (pc := 75) C dX1_lend_75 (wcl hi hn) (rfl) (by omega) (by decide) rfl ?_
    refine R_iload_n (pc := 76) C dX1_lend_76 rfl ?_
    refine R_iadd (pc := 77) C dX1_lend_77 ?_
    refine R_iast (pc := 78) C dX1_lend_78 (wcl hi hn) (rfl) (by omega) (by decide) (pe_13 (v0 := F 13 (8 * i + j) + a) (by rw [lrow_in (by omega), su_f (by omega), su_f (by omega)]) hi hn (by omega)) ?_
    refine R_aload (pc := 79) C dX1_lend_79 rfl ?_
    refine R_getf (pc := 81) C dX1_lend_81 (i := 7) (wcw hi hn) rfl inlX0 (by decide) k_31_6 rfl ?_
    refine R_iload_n (pc := 84) C dX1_lend_84 rfl ?_
    refine R_iald (pc := 85) C dX1_lend_85 (wcl hi hn) (rfl) (by omega) (by decide) rfl ?_
    refine R_ok ?_
    exact R_iret (pc := 86) C dX1_lend_86 rfl (Nat.le_of_ble_eq_true rfl) (Nat.le_of_ble_eq_true rfl) (fun h hh => ⟨⟨by simp [kLend, qW_t hn hi, qW_t hn hj, hd, qR_t hr, ix_nI (n31 (Nat.le_trans (Nat.le_of_lt hi) hn)), Int32.not_lt.mpr c33], by rw [ix_nI (by omega), ix_nI (by omega), lrow_in (by omega), su_s]⟩, by rw [ix_nI (by omega), ix_nI (by omega)]; exact hh⟩)
  · exact R_thrISE (pc := 36) C dX1_lend_36 dX1_lend_39 dX1_lend_40 dX1_lend_42 dX1_lend_45 (C.st.2.2.2.2.2.2.1.2.1) rfl ⟨⟨Nat.le_of_ble_eq_true rfl, Nat.le_of_ble_eq_true rfl⟩, Nat.le_of_ble_eq_true rfl, Nat.le_of_ble_eq_true rfl⟩ ⟨Nat.le_of_ble_eq_true rfl, Nat.le_of_ble_eq_true rfl⟩ (fun h hh => ⟨Or.inr (Or.inr ⟨by simp [kLend, qW_t hn hi, qW_t hn hj, hd, qR_t hr, ix_nI (n31 (Nat.le_trans (Nat.le_of_lt hi) hn)), Int32.not_le.mp c33], rfl⟩), hh⟩)
set_option maxHeartbeats 4000000 in
set_option maxRecDepth 100000 in
theorem mX1_callBack (hl : l.stackTraces = false) {x y : Int32} (hn : n ≤ 8) : ∀ h, Wd G (adr, (n, P, F), Sm, mu, g) h → CT l yX1_callBack cX1_callBack 6 (some .int) 4 5 30 [.ref (adr 0), .int x, .int y] G h (fun v h1 => (kBack n x y = 0 ∧ v = some (.int (minI (F 13 (8 * ix x + ix y)) (F 9 (ix y))))) ∧ Wd G (adr, (n, P, fBack F (ix x) (ix y) (minI (F 13 (8 * ix x + ix y)) (F 9 (ix y)))), Sm, mu, g) h1) (fun E h1 => exA E (kBack n x y) ∧ Wd G (adr, (n, P, F), Sm, mu, g) h1) := by
  intro h0 hwd
  refine CT.of hl (by decide +kernel) rfl (Nat.le_of_ble_eq_true rfl) (fun K sz hKl C => ?_)
  have C : CX K G (AH h0 sz) RX1 cX1_callBack 6 (some .int) (rmD 4 5 30) [] := C
  subst hKl
  refine WR.imp (P' := Wd G (adr, (n, P, F), Sm, mu, g)) (fun h e => e ▸ hwd) ?_
  show WR K G _ _ _ [some (.ref (adr 0)), some (.int x), some (.int y), none, none, none] 0 0 0 []
  refine R_aload_n (pc := 0) C dX1_callBack_0 rfl ?_
  refine R_iload_n (pc := 1) C dX1_callBack_1 rfl ?_
  refine R_callVT (pc := 2) C dX1_callBack_2 (vs := [_]) (fun h hh => mX1_wellAt hl hn h hh) (isOb_of (wc0) rfl) ⟨k_18_15, k_18_16, k_18_17, k_1_2, k_18_18⟩ (sgn (nv := 1) rfl ⟨by decide +kernel, by decide +kernel, by decide +kernel⟩) ⟨⟨Nat.le_of_ble_eq_true rfl, Nat.le_of_ble_eq_true rfl⟩, ⟨Nat.le_of_ble_eq_true rfl, Nat.le_of_ble_eq_true rfl⟩, Nat.le_of_ble_eq_true rfl⟩ rfl rfl (fun h9 hh9 E9 => ?_) (fun h9 hh9 v9 => ?_)
  · exact X_out C (Nat.le_of_ble_eq_true rfl) (Nat.le_of_ble_eq_true rfl) (fun h1 hh1 => ⟨Or.inl ⟨by simp [kBack, qW_f hn hh1.1.2], hh1.1.1⟩, hh1.2⟩)
  refine WR.imp (P' := fun h1 => ∃ i, (i < n ∧ _ = nI i ∧ v9 = some (.ref (adr (30 + i)))) ∧ Wd G (adr, (n, P, F), Sm, mu, g) h1) (fun h1 q1 => by obtain ⟨⟨z, z1, z2, z3⟩, z4⟩ := q1; exact ⟨z, ⟨z1, z2, z3⟩, z4⟩) ?_
  refine WR.ex (fun i => WR.pr (fun e9 => ?_))
  obtain ⟨hi, ei, e9⟩ := e9
  subst e9
  show WR K G _ _ _ _ _ _ _ (.ref _ :: _)
  subst ei
  refine R_astore_n (pc := 5) C dX1_callBack_5 (Nat.le_of_ble_eq_true rfl) (lv' := [some (.ref _), some (.int _), some (.int _), some (.ref _), none, none]) rfl ?_
  refine R_aload_n (pc := 6) C dX1_callBack_6 rfl ?_
  refine R_iload_n (pc := 7) C dX1_callBack_7 rfl ?_
  refine R_callVT (pc := 8) C dX1_callBack_8 (vs := [_]) (fun h hh => mX1_wellAt hl hn h hh) (isOb_of (wc0) rfl) ⟨k_18_15, k_18_16, k_18_17, k_1_2, k_18_18⟩ (sgn (nv := 1) rfl ⟨by decide +kernel, by decide +kernel, by decide +kernel⟩) ⟨⟨Nat.le_of_ble_eq_true rfl, Nat.le_of_ble_eq_true rfl⟩, ⟨Nat.le_of_ble_eq_true rfl, Nat.le_of_ble_eq_true rfl⟩, Nat.le_of_ble_eq_true rfl⟩ rfl rfl (fun h9 hh9 E9 => ?_) (fun h9 hh9 v9 => ?_)
  · exact X_out C (Nat.le_of_ble_eq_true rfl) (Nat.le_of_ble_eq_true rfl) (fun h1 hh1 => ⟨Or.inl ⟨by simp [kBack, qW_f hn hh1.1.2], hh1.1.1⟩, hh1.2⟩)
  refine WR.imp (P' := fun h1 => ∃ j, (j < n ∧ _ = nI j ∧ v9 = some (.ref (adr (30 + j)))) ∧ Wd G (adr, (n, P, F), Sm, mu, g) h1) (fun h1 q1 => by obtain ⟨⟨z, z1, z2, z3⟩, z4⟩ := q1; exact ⟨z, ⟨z1, z2, z3⟩, z4⟩) ?_
  refine WR.ex (fun j => WR.pr (fun e9 => ?_))
  obtain ⟨hj, ej, e9⟩ := e9
  subst e9
  show WR K G _ _ _ _ _ _ _ (.ref _ :: _)
  subst ej
  refine R_astore (pc := 11) C dX1_callBack_11 (Nat.le_of_ble_eq_true rfl) (lv' := [some (.ref _), some (.int _), some (.int _), some (.ref _), some (.ref _), none]) rfl ?_
  refine R_iload_n (pc := 13) C dX1_callBack_13 rfl ?_
  refine R_iload_n (pc := 14) C dX1_callBack_14 rfl ?_
  refine R_callST (pc := 15) C dX1_callBack_15 (vs := [_, _]) (fun h hh => mX1_requireDifferent hl h) ⟨k_31_7, k_31_8, k_1_2, k_31_9⟩ (sgn (nv := 2) rfl ⟨by decide +kernel, by decide +kernel, by decide +kernel⟩) ⟨⟨Nat.le_of_ble_eq_true rfl, Nat.le_of_ble_eq_true rfl⟩, ⟨Nat.le_of_ble_eq_true rfl, Nat.le_of_ble_eq_true rfl⟩, Nat.le_of_ble_eq_true rfl⟩ rfl rfl (fun h9 hh9 E9 => ?_) (fun h9 hh9 v9 => ?_)
  · exact X_out C (Nat.le_of_ble_eq_true rfl) (Nat.le_of_ble_eq_true rfl) (fun h1 hh1 => ⟨Or.inr (Or.inl ⟨by simp [kBack, qW_t hn hi, qW_t hn hj, hh1.2.1], hh1.1⟩), hh1.2.2 ▸ hh9⟩)
  refine WR.pr (fun e9 => ?_)
  subst e9
  refine WR.pr (fun hd => ?_)
  refine WR.imp (P' := Wd G (adr, (n, P, F), Sm, mu, g)) (fun h1 e1 => e1 ▸ hh9) ?_
  show WR K G _ _ _ _ _ _ _ _
  refine R_aload_n (pc := 18) C dX1_callBack_18 rfl ?_
  refine R_getf (pc := 19) C dX1_callBack_19 (i := 7) (wcw hi hn) rfl inlX0 (by decide) k_31_6 rfl ?_
  refine R_iload_n (pc := 22) C dX1_callBack_22 rfl ?_
  refine R_iald (pc := 23) C dX1_callBack_23 (wcl hi hn) (rfl) (by omega) (by decide) rfl ?_
  refine R_aload (pc := 24) C dX1_callBack_24 rfl ?_
  refine R_getf (pc := 26) C dX1_callBack_26 (i := 14) (wcw hj hn) rfl inlX0 (by decide) k_23_12 rfl ?_
  refine R_mmin (pc := 29) C dX1_callBack_29 k_26_4 rfl ⟨Nat.le_of_ble_eq_true rfl, Nat.le_of_ble_eq_true rfl⟩ ⟨Nat.le_of_ble_eq_true rfl, Nat.le_of_ble_eq_true rfl⟩ ?_
  refine R_topi (fun b hb => ?_)
  rw [lrow_in (by omega)] at hb
  have hji : j ≠ i := fun q => hd (by rw [q])
  refine R_istore (pc := 32) C dX1_callBack_32 (Nat.le_of_ble_eq_true rfl) (lv' := [some (.ref _), some (.int _), some (.int _), some (.ref _), some (.ref _), some (.int _)]) rfl ?_
  refine R_aload_n (pc := 34) C dX1_callBack_34 rfl ?_
  refine R_getf (pc := 35) C dX1_callBack_35 (i := 7) (wcw hi hn) rfl inlX0 (by decide) k_31_6 rfl ?_
  refine R_iload_n (pc := 38) C dX1_callBack_38 rfl ?_
  refine R_dup2 (pc := 39) C dX1_callBack_39 rfl rfl ?_
  refine R_iald (pc := 40) C dX1_callBack_40 (wcl hi hn) (rfl) (by omega) (by decide) rfl ?_
  refine R_iload (pc := 41) C dX1_callBack_41 rfl ?_
  refine R_isub (pc := 43) C dX1_callBack_43 ?_
  refine R_iast (pc := 44) C dX1_callBack_44 (wcl hi hn) (rfl) (by omega) (by decide) (pe_13 (v0 := F 13 (8 * i + j) - b) (by rw [lrow_in (by omega)]) hi hn (by omega)) ?_
  refine R_aload (pc := 45) C dX1_callBack_45 rfl ?_
  refine R_dup (pc := 47) C dX1_callBack_47 rfl ?_
  refine R_getf (pc := 48) C dX1_callBack_48 (i := 14) (wcw hj hn) rfl inlX0 (by decide) k_23_12 rfl ?_
  refine R_iload (pc := 51) C dX1_callBack_51 rfl ?_
  refine R_isub (pc := 53) C dX1_callBack_53 ?_
  refine R_putf (pc := 54) C dX1_callBack_54 (i := 14) (wcw hj hn) rfl inlX0 tyX0_ok nmX0 (by decide) k_23_12 rfl rfl rfl (Nat.le_of_ble_eq_true rfl) (pe_9 (v0 := F 9 j - b) (by rw [su_f (by omega)]) hj hn) ?_
  refine R_aload_n (pc := 57) C dX1_callBack_57 rfl ?_
  refine R_dup (pc := 58) C dX1_callBack_58 rfl ?_
  refine R_getf (pc := 59) C dX1_callBack_59 (i := 14) (wcw hi hn) rfl inlX0 (by decide) k_23_12 rfl ?_
  refine R_iload (pc := 62) C dX1_callBack_62 rfl ?_
  refine R_iadd (pc := 64) C dX1_callBack_64 ?_
  refine R_putf (pc := 65) C dX1_callBack_65 (i := 14) (wcw hi hn) rfl inlX0 tyX0_ok nmX0 (by decide) k_23_12 rfl rfl rfl (Nat.le_of_ble_eq_true rfl) (pe_9 (v0 := F 9 i + b) (by rw [su_i hji.symm, su_f (by omega)]) hi hn) ?_
  refine R_iload (pc := 68) C dX1_callBack_68 rfl ?_
  refine R_ok ?_
  exact R_iret (pc := 70) C dX1_callBack_70 rfl (Nat.le_of_ble_eq_true rfl) (Nat.le_of_ble_eq_true rfl) (fun h hh => ⟨⟨by simp [kBack, qW_t hn hi, qW_t hn hj, hd], by rw [ix_nI (by omega), ix_nI (by omega), hb]; rfl⟩, by rw [ix_nI (by omega), ix_nI (by omega), show minI (F 13 (8 * i + j)) (F 9 j) = b from hb.symm]; exact hh⟩)
end
end
section
/-! 14: who is stopped, and what a year does, by numbers alone. My own. -/
def lvle (a b : List (Option Value)) : Prop := a.length = b.length ∧ ∀ (i : Nat) (v : Value), a[i]? = some (some v) → b[i]? = some (some v)
theorem ls_e : lvle [] [] := ⟨rfl, fun i v h => by simp at h⟩
theorem ls_n {a b : List (Option Value)} {x : Option Value} (h : lvle a b) : lvle (none :: a) (x :: b) := by
  refine ⟨by simp [h.1], fun i v hi => ?_⟩
  cases i with
  | zero => simp at hi
  | succ i => rw [List.getElem?_cons_succ] at hi ⊢; exact h.2 i v hi
theorem ls_s {a b : List (Option Value)} {x : Option Value} (h : lvle a b) : lvle (x :: a) (x :: b) := by
  refine ⟨by simp [h.1], fun i v hi => ?_⟩
  cases i with
  | zero => rw [List.getElem?_cons_zero] at hi ⊢; exact hi
  | succ i => rw [List.getElem?_cons_succ] at hi ⊢; exact h.2 i v hi
theorem WR.ls {K : KT} {G : GT} {A : Nat → Prop} {Q : State → Prop} {P : Hp → Prop} {lv lv' : List (Option Value)} {k n pc : Nat} {st : List Value} (h : lvle lv' lv) (kk : WR K G A Q P lv' k n pc st) : WR K G A Q P lv k n pc st := WR.lv h.1 h.2 kk
/-! masks -/
def mk8 (b0 b1 b2 b3 b4 b5 b6 b7 : Bool) : Int32 :=
  (if b0 = true then mBit 0 else 0) ||| (if b1 = true then mBit 1 else 0) ||| (if b2 = true then mBit 2 else 0) ||| (if b3 = true then mBit 3 else 0) ||| (if b4 = true then mBit 4 else 0) ||| (if b5 = true then mBit 5 else 0) ||| (if b6 = true then mBit 6 else 0) ||| (if b7 = true then mBit 7 else 0)
def mk (D : Nat → Bool) : Int32 := mk8 (D 0) (D 1) (D 2) (D 3) (D 4) (D 5) (D 6) (D 7)
theorem mk8_in : ∀ b0 b1 b2 b3 b4 b5 b6 b7 : Bool, mIn (mk8 b0 b1 b2 b3 b4 b5 b6 b7) 0 = b0 ∧ mIn (mk8 b0 b1 b2 b3 b4 b5 b6 b7) 1 = b1 ∧ mIn (mk8 b0 b1 b2 b3 b4 b5 b6 b7) 2 = b2 ∧ mIn (mk8 b0 b1 b2 b3 b4 b5 b6 b7) 3 = b3 ∧ mIn (mk8 b0 b1 b2 b3 b4 b5 b6 b7) 4 = b4 ∧ mIn (mk8 b0 b1 b2 b3 b4 b5 b6 b7) 5 = b5 ∧ mIn (mk8 b0 b1 b2 b3 b4 b5 b6 b7) 6 = b6 ∧ mIn (mk8 b0 b1 b2 b3 b4 b5 b6 b7) 7 = b7 := by decide +kernel
theorem mk8_or : ∀ b0 b1 b2 b3 b4 b5 b6 b7 : Bool, mk8 b0 b1 b2 b3 b4 b5 b6 b7 ||| mBit 0 = mk8 true b1 b2 b3 b4 b5 b6 b7 ∧ mk8 b0 b1 b2 b3 b4 b5 b6 b7 ||| mBit 1 = mk8 b0 true b2 b3 b4 b5 b6 b7 ∧ mk8 b0 b1 b2 b3 b4 b5 b6 b7 ||| mBit 2 = mk8 b0 b1 true b3 b4 b5 b6 b7 ∧ mk8 b0 b1 b2 b3 b4 b5 b6 b7 ||| mBit 3 = mk8 b0 b1 b2 true b4 b5 b6 b7 ∧ mk8 b0 b1 b2 b3 b4 b5 b6 b7 ||| mBit 4 = mk8 b0 b1 b2 b3 true b5 b6 b7 ∧ mk8 b0 b1 b2 b3 b4 b5 b6 b7 ||| mBit 5 = mk8 b0 b1 b2 b3 b4 true b6 b7 ∧ mk8 b0 b1 b2 b3 b4 b5 b6 b7 ||| mBit 6 = mk8 b0 b1 b2 b3 b4 b5 true b7 ∧ mk8 b0 b1 b2 b3 b4 b5 b6 b7 ||| mBit 7 = mk8 b0 b1 b2 b3 b4 b5 b6 true := by decide +kernel
theorem mk_in {D : Nat → Bool} {i : Nat} (hi : i < 8) : mIn (mk D) i = D i := by
  obtain ⟨h0, h1, h2, h3, h4, h5, h6, h7⟩ := mk8_in (D 0) (D 1) (D 2) (D 3) (D 4) (D 5) (D 6) (D 7)
  have e : i = 0 ∨ i = 1 ∨ i = 2 ∨ i = 3 ∨ i = 4 ∨ i = 5 ∨ i = 6 ∨ i = 7 := by omega
  rcases e with rfl | rfl | rfl | rfl | rfl | rfl | rfl | rfl
  · exact h0
  · exact h1
  · exact h2
  · exact h3
  · exact h4
  · exact h5
  · exact h6
  · exact h7
/-- one more -/
def Dp (D : Nat → Bool) (y : Nat) : Nat → Bool := fun j => if j = y then true else D j
theorem mk_or {D : Nat → Bool} {y : Nat} (hy : y < 8) : mk D ||| mBit y = mk (Dp D y) := by
  obtain ⟨h0, h1, h2, h3, h4, h5, h6, h7⟩ := mk8_or (D 0) (D 1) (D 2) (D 3) (D 4) (D 5) (D 6) (D 7)
  have e : y = 0 ∨ y = 1 ∨ y = 2 ∨ y = 3 ∨ y = 4 ∨ y = 5 ∨ y = 6 ∨ y = 7 := by omega
  rcases e with rfl | rfl | rfl | rfl | rfl | rfl | rfl | rfl
  · exact h0
  · exact h1
  · exact h2
  · exact h3
  · exact h4
  · exact h5
  · exact h6
  · exact h7
/-! levels behind -/
def drw (F : Nat → Nat → Int32) (D : Nat → Bool) (d : Nat) : Int32 := if D d = true then 0 else F 6 d
theorem drw_m {F : Nat → Nat → Int32} {D : Nat → Bool} {d : Nat} (hd : d < 8) : spDrawM F (mk D) d = drw F D d := by unfold spDrawM drw; rw [mk_in hd]
def bhP (F : Nat → Nat → Int32) (w : Nat) (a : Int32) : Nat → Int32
  | 0 => a
  | p + 1 => bhP F w a p + 20 * spReachC (F 0 w) (F 1 w) 0 (F 15 p) / 100
def bhD (F : Nat → Nat → Int32) (D : Nat → Bool) (w : Nat) (a : Int32) : Nat → Int32
  | 0 => a
  | d + 1 => bhD F D w a d - drw F D d * spR F d w / 100
def bh (n P : Nat) (F : Nat → Nat → Int32) (D : Nat → Bool) (w : Nat) : Int32 := bhD F D w (bhP F w (F 2 w + F 14 (ix (F 0 w))) P) n
/-! the youngest that draws on w, the oldest that is short -/
abbrev yC (F : Nat → Nat → Int32) (D : Nat → Bool) (w d : Nat) : Prop := spOld F w d ∧ 0 < drw F D d ∧ 0 < spR F d w
def yS (F : Nat → Nat → Int32) (D : Nat → Bool) (w : Nat) (b : Option Nat) (d : Nat) : Option Nat :=
  if yC F D w d then (match b with | none => some d | some y => if spOld F y d then some d else some y) else b
def yng (F : Nat → Nat → Int32) (D : Nat → Bool) (w : Nat) : Nat → Option Nat
  | 0 => none
  | d + 1 => yS F D w (yng F D w d) d
theorem yS_skip {F : Nat → Nat → Int32} {D : Nat → Bool} {w d : Nat} {b : Option Nat} (h : ¬ yC F D w d) : yS F D w b d = b := if_neg h
theorem yS_none {F : Nat → Nat → Int32} {D : Nat → Bool} {w d : Nat} (h : yC F D w d) : yS F D w none d = some d := if_pos h
theorem yS_take {F : Nat → Nat → Int32} {D : Nat → Bool} {w d y : Nat} (h : yC F D w d) (h2 : spOld F y d) : yS F D w (some y) d = some d := (if_pos h).trans (if_pos h2)
theorem yS_keep {F : Nat → Nat → Int32} {D : Nat → Bool} {w d y : Nat} (h : yC F D w d) (h2 : ¬ spOld F y d) : yS F D w (some y) d = some y := (if_pos h).trans (if_neg h2)
theorem yng_lt {F : Nat → Nat → Int32} {D : Nat → Bool} {w : Nat} : ∀ {m y : Nat}, yng F D w m = some y → y < m ∧ yC F D w y
  | 0, y, h => by cases h
  | m + 1, y, h => by
    rw [yng] at h
    by_cases c : yC F D w m
    · cases e : yng F D w m with
      | none =>
        rw [e, yS_none c] at h
        cases h
        exact ⟨Nat.lt_succ_self _, c⟩
      | some z =>
        rw [e] at h
        by_cases c2 : spOld F z m
        · rw [yS_take c c2] at h
          cases h
          exact ⟨Nat.lt_succ_self _, c⟩
        · rw [yS_keep c c2] at h
          cases h
          have := yng_lt e
          exact ⟨by omega, this.2⟩
    · rw [yS_skip c] at h
      have := yng_lt h
      exact ⟨by omega, this.2⟩
def oS (n P : Nat) (F : Nat → Nat → Int32) (D : Nat → Bool) (b : Option (Nat × Nat)) (w : Nat) : Option (Nat × Nat) :=
  if bh n P F D w < F 3 w then
    (match b with
    | none => (yng F D w n).map (fun y => (w, y))
    | some z => if spOld F w z.1 then (match yng F D w n with | none => some z | some y => some (w, y)) else some z)
  else b
def oN (n P : Nat) (F : Nat → Nat → Int32) (D : Nat → Bool) : Nat → Option (Nat × Nat)
  | 0 => none
  | w + 1 => oS n P F D (oN n P F D w) w
/-- the next to stop -/
def spNx (n P : Nat) (F : Nat → Nat → Int32) (D : Nat → Bool) : Option Nat := (oN n P F D n).map (fun z => z.2)
def Dn (n P : Nat) (F : Nat → Nat → Int32) : Nat → (Nat → Bool)
  | 0 => fun _ => false
  | k + 1 => match spNx n P F (Dn n P F k) with | none => Dn n P F k | some y => Dp (Dn n P F k) y
/-- who is stopped -/
def spSt (n P : Nat) (F : Nat → Nat → Int32) : Nat → Bool := Dn n P F 8
theorem oN_y {n P : Nat} {F : Nat → Nat → Int32} {D : Nat → Bool} : ∀ {m : Nat} {z : Nat × Nat}, oN n P F D m = some z → z.1 < m ∧ yng F D z.1 n = some z.2
  | 0, z, h => by cases h
  | m + 1, z, h => by
    have h : oS n P F D (oN n P F D m) m = some z := h
    unfold oS at h
    by_cases c : bh n P F D m < F 3 m
    · rw [if_pos c] at h
      cases e : oN n P F D m with
      | none =>
        rw [e] at h
        cases e2 : yng F D m n with
        | none => rw [e2] at h; cases h
        | some y => rw [e2] at h; cases h; exact ⟨Nat.lt_succ_self _, e2⟩
      | some u =>
        rw [e] at h
        have hu := oN_y e
        simp only at h
        by_cases c2 : spOld F m u.1
        · rw [if_pos c2] at h
          cases e2 : yng F D m n with
          | none => rw [e2] at h; cases h; exact ⟨by omega, hu.2⟩
          | some y => rw [e2] at h; cases h; exact ⟨Nat.lt_succ_self _, e2⟩
        · rw [if_neg c2] at h; cases h; exact ⟨by omega, hu.2⟩
    · rw [if_neg c] at h
      have := oN_y h
      exact ⟨by omega, this.2⟩
theorem spNx_y {n P : Nat} {F : Nat → Nat → Int32} {D : Nat → Bool} {y : Nat} (h : spNx n P F D = some y) : y < n ∧ D y = false := by
  unfold spNx at h
  cases e : oN n P F D n with
  | none => rw [e] at h; cases h
  | some z =>
    rw [e] at h
    cases h
    obtain ⟨h1, h2⟩ := yng_lt (oN_y e).2
    refine ⟨h1, ?_⟩
    cases e3 : D z.2 with
    | false => rfl
    | true =>
      have h4 := h2.2.1
      unfold drw at h4
      rw [if_pos e3] at h4
      exact absurd h4 (by decide)
/-- how many of the first m -/
def cnt (D : Nat → Bool) : Nat → Nat
  | 0 => 0
  | m + 1 => cnt D m + (if D m = true then 1 else 0)
theorem cnt_le (D : Nat → Bool) : ∀ m, cnt D m ≤ m
  | 0 => Nat.le_refl _
  | m + 1 => by
    have := cnt_le D m
    rw [cnt]
    split <;> omega
theorem cnt_all {D : Nat → Bool} : ∀ {m : Nat}, cnt D m = m → ∀ j, j < m → D j = true
  | 0, _, j, hj => absurd hj (Nat.not_lt_zero _)
  | m + 1, h, j, hj => by
    rw [cnt] at h
    have h1 := cnt_le D m
    by_cases c : D m = true
    · rw [if_pos c] at h
      by_cases e : j = m
      · subst e; exact c
      · exact cnt_all (m := m) (by omega) j (by omega)
    · rw [if_neg c] at h; omega
theorem cnt_Dp {D : Nat → Bool} {y : Nat} (h : D y = false) : ∀ m, cnt (Dp D y) m = cnt D m + (if y < m then 1 else 0)
  | 0 => rfl
  | m + 1 => by
    rw [cnt, cnt, cnt_Dp h m]
    by_cases e : m = y
    · subst e
      rw [if_neg (Nat.lt_irrefl _), if_pos (Nat.lt_succ_self _), if_pos (show Dp D m m = true from if_pos rfl), if_neg (by rw [h]; decide)]
    · rw [show Dp D y m = D m from if_neg e]
      by_cases c : y < m
      · rw [if_pos c, if_pos (Nat.lt_succ_of_lt c)]; omega
      · rw [if_neg c, if_neg (show ¬ y < m + 1 by omega)]; omega
theorem Dn_stop {n P : Nat} {F : Nat → Nat → Int32} {k : Nat} (h : spNx n P F (Dn n P F k) = none) : ∀ j, Dn n P F (k + j) = Dn n P F k
  | 0 => rfl
  | j + 1 => by
    rw [show k + (j + 1) = (k + j) + 1 from rfl, Dn, Dn_stop h j, h]
theorem Dn_go {n P : Nat} {F : Nat → Nat → Int32} {k y : Nat} (h : spNx n P F (Dn n P F k) = some y) : Dn n P F (k + 1) = Dp (Dn n P F k) y := by
  rw [Dn, h]
/-- k rounds, none of them the last: k are stopped -/
theorem Dn_cnt {n P : Nat} {F : Nat → Nat → Int32} (hn : n ≤ 8) : ∀ {k : Nat}, (∀ j, j < k → spNx n P F (Dn n P F j) ≠ none) → cnt (Dn n P F k) 8 = k
  | 0, _ => by rw [Dn]; decide
  | k + 1, h => by
    have ih := Dn_cnt hn (k := k) (fun j hj => h j (by omega))
    cases e : spNx n P F (Dn n P F k) with
    | none => exact absurd e (h k (Nat.lt_succ_self _))
    | some y =>
      have hy := spNx_y e
      rw [Dn_go e, cnt_Dp hy.2, ih, if_pos (by omega)]
theorem Dn_le {n P : Nat} {F : Nat → Nat → Int32} (hn : n ≤ 8) {k : Nat} (h : ∀ j, j < k → spNx n P F (Dn n P F j) ≠ none) : k ≤ 8 := by
  have := Dn_cnt hn h
  have := cnt_le (Dn n P F k) 8
  omega
/-- where the rounds end, it is who is stopped -/
theorem Dn_end {n P : Nat} {F : Nat → Nat → Int32} (hn : n ≤ 8) {k : Nat} (h : ∀ j, j < k → spNx n P F (Dn n P F j) ≠ none) (he : spNx n P F (Dn n P F k) = none) : Dn n P F k = spSt n P F := by
  have hk := Dn_le hn h
  have := Dn_stop he (8 - k)
  rw [show k + (8 - k) = 8 by omega] at this
  exact this.symm
/-- behind eight rounds nothing is left to do -/
theorem Dn_8 {n P : Nat} {F : Nat → Nat → Int32} (hn : n ≤ 8) (h : ∀ j, j < 8 → spNx n P F (Dn n P F j) ≠ none) : spNx n P F (Dn n P F 8) = none := by
  cases e : spNx n P F (Dn n P F 8) with
  | none => rfl
  | some y =>
    have hy := spNx_y e
    have := cnt_all (Dn_cnt hn h) y (by omega)
    rw [hy.2] at this
    cases this
end
section
/-! 15: who is stopped: levelBehind, youngestDrawerOn, nextToStop, whoIsStopped. Written by wip/whole/gen/m15.py -/
section
variable {l : Launch} {G : GT} {adr : Nat → Nat} {n P : Nat} {F mu : Nat → Nat → Int32} {g : Nat → Int64} {Sm : St}
theorem le_nI {a b : Nat} (ha : a < 100) (hb : b < 100) (h : nI a ≤ nI b) : a ≤ b := (nI_leI (by omega) (by omega)).mp h
theorem gt_nI {a b : Nat} (ha : a < 100) (hb : b < 100) (h : ¬ nI a ≤ nI b) : b < a := by
  by_cases c : b < a
  · exact c
  · exact absurd ((nI_leI (by omega) (by omega)).mpr (by omega : a ≤ b)) h
theorem if01 {c : Prop} [Decidable c] (h : (if c then (1 : Int32) else 0) = 0) : ¬ c := fun q => by rw [if_pos q] at h; exact absurd h (by decide)
theorem if01' {c : Prop} [Decidable c] (h : ¬ (if c then (1 : Int32) else 0) = 0) : c := by
  by_cases q : c
  · exact q
  · exact absurd (if_neg q) h
set_option maxHeartbeats 4000000 in
set_option maxRecDepth 100000 in
theorem mX1_levelBehind (hl : l.stackTraces = false) {w : Nat} {D : Nat → Bool} (hw : w < n) (hn : n ≤ 8) (hP : P ≤ 5) (hlay : ∃ a, a < 3 ∧ F 0 w = nI a) : ∀ h, Wd G (adr, (n, P, F), Sm, mu, g) h → CN l yX1_levelBehind cX1_levelBehind 6 (some .int) 4 0 0 [.ref (adr 0), .ref (adr (30 + w)), .int (mk D)] G h (fun v h1 => v = some (.int (bh n P F D w)) ∧ Wd G (adr, (n, P, F), Sm, mu, g) h1) := by
  intro h0 hwd
  refine CN.of hl (by decide +kernel) rfl (Nat.le_of_ble_eq_true rfl) (fun K sz hKl hin C => ?_)
  have C : CX K G (AH h0 sz) RX1 cX1_levelBehind 6 (some .int) (rmD 4 0 0) [] := C
  subst hKl
  refine WR.imp (P' := Wd G (adr, (n, P, F), Sm, mu, g)) (fun h e => e ▸ hwd) ?_
  show WR K G _ _ _ [some (.ref (adr 0)), some (.ref (adr (30 + w))), some (.int (mk D)), none, none, none] 0 0 0 []
  obtain ⟨a, ha, hla⟩ := hlay
  have hix : F 14 a = F 14 (ix (F 0 w)) := by rw [hla, ix_nI (by omega)]
  refine R_aload_n (pc := 0) C dX1_levelBehind_0 rfl ?_
  refine R_getf (pc := 1) C dX1_levelBehind_1 (i := 8) (wcw hw hn) rfl inlX0 (by decide) k_21_16 rfl ?_
  refine R_aload_n (pc := 4) C dX1_levelBehind_4 rfl ?_
  refine R_getf (pc := 5) C dX1_levelBehind_5 (i := 1) (wc0) rfl inlX1 (by decide) k_1_18 rfl ?_
  refine R_aload_n (pc := 8) C dX1_levelBehind_8 rfl ?_
  refine R_getf (pc := 9) C dX1_levelBehind_9 (i := 1) (wcw hw hn) rfl inlX0 (by decide) k_20_15 rfl ?_
  refine R_iald (pc := 12) C dX1_levelBehind_12 (wc3) (hla) (ha) (by decide) rfl ?_
  refine R_iadd (pc := 13) C dX1_levelBehind_13 ?_
  refine R_istore_n (pc := 14) C dX1_levelBehind_14 (Nat.le_of_ble_eq_true rfl) (lv' := [some (.ref _), some (.ref _), some (.int _), some (.int _), none, none]) rfl ?_
  refine R_iconst (pc := 15) C dX1_levelBehind_15 (v := 0) (by decide) ?_
  refine R_istore (pc := 16) C dX1_levelBehind_16 (Nat.le_of_ble_eq_true rfl) (lv' := [some (.ref _), some (.ref _), some (.int _), some (.int _), some (.int _), none]) rfl ?_
  have LP18 : ∀ (m q : Nat) (b : Int32), P < m + q → q ≤ P → b = bhP F w (F 2 w + F 14 (ix (F 0 w))) q → WR K G (AH h0 sz) (QM K G h0 sz 0 0 (fun v h1 => v = some (.int (bh n P F D w)) ∧ Wd G (adr, (n, P, F), Sm, mu, g) h1)) (Wd G (adr, (n, P, F), Sm, mu, g)) [some (.ref (adr 0)), some (.ref (adr (30 + w))), some (.int (mk D)), some (.int b), some (.int (nI q)), none] 0 0 18 [] := by
    intro m
    induction m with
    | zero => intro q b h1 h2; exact absurd h1 (by omega)
    | succ m ih =>
      intro q b h1 h2 hb
      refine R_iload (pc := 18) C dX1_levelBehind_18 rfl ?_
      refine R_aload_n (pc := 20) C dX1_levelBehind_20 rfl ?_
      refine R_getf (pc := 21) C dX1_levelBehind_21 (i := 3) (wc0) rfl inlX1 (by decide) k_1_20 rfl ?_
      refine R_icmp_ge (pc := 24) C dX1_levelBehind_24 (tgt := 53) (by decide) (fun c24 => ?_) (fun c24 => ?_)
      · have eq : P = q := Nat.le_antisymm (le_nI (by omega) (by omega) c24) h2
        subst eq
        refine R_iconst (pc := 53) C dX1_levelBehind_53 (v := 0) (by decide) ?_
        refine R_istore (pc := 54) C dX1_levelBehind_54 (Nat.le_of_ble_eq_true rfl) (lv' := [some (.ref _), some (.ref _), some (.int _), some (.int _), some (.int _), none]) rfl ?_
        have LP56 : ∀ (m d : Nat) (b : Int32), n < m + d → d ≤ n → b = bhD F D w (bhP F w (F 2 w + F 14 (ix (F 0 w))) P) d → WR K G (AH h0 sz) (QM K G h0 sz 0 0 (fun v h1 => v = some (.int (bh n P F D w)) ∧ Wd G (adr, (n, P, F), Sm, mu, g) h1)) (Wd G (adr, (n, P, F), Sm, mu, g)) [some (.ref (adr 0)), some (.ref (adr (30 + w))), some (.int (mk D)), some (.int b), some (.int (nI d)), none] 0 0 56 [] := by
          intro m
          induction m with
          | zero => intro d b h1 h2; exact absurd h1 (by omega)
          | succ m ih =>
            intro d b h1 h2 hb
            refine R_iload (pc := 56) C dX1_levelBehind_56 rfl ?_
            refine R_aload_n (pc := 58) C dX1_levelBehind_58 rfl ?_
            refine R_getf (pc := 59) C dX1_levelBehind_59 (i := 0) (wc0) rfl inlX1 (by decide) k_1_16 rfl ?_
            refine R_callVN (pc := 62) C dX1_levelBehind_62 (vs := []) (fun h hh => mJx4a65c_size_8abf5 hl h hh) (isOb_of (wc1) rfl) ⟨k_4_15, k_4_16, k_4_17, k_1_15, k_4_18⟩ (sgn (nv := 0) rfl ⟨by decide +kernel, by decide +kernel, by decide +kernel⟩) ⟨⟨Nat.le_of_ble_eq_true rfl, Nat.le_of_ble_eq_true rfl⟩, ⟨Nat.le_of_ble_eq_true rfl, Nat.le_of_ble_eq_true rfl⟩, Nat.le_of_ble_eq_true rfl⟩ rfl rfl (fun h9 hh9 v9 => ?_)
            refine WR.pr (fun e9 => ?_)
            subst e9
            show WR K G _ _ _ _ _ _ _ (.int _ :: _)
            refine R_icmp_ge (pc := 65) C dX1_levelBehind_65 (tgt := 114) (by decide) (fun c65 => ?_) (fun c65 => ?_)
            · have ed : n = d := Nat.le_antisymm (le_nI (by omega) (by omega) c65) h2
              subst ed
              refine R_iload_n (pc := 114) C dX1_levelBehind_114 rfl ?_
              exact R_iret (pc := 115) C dX1_levelBehind_115 rfl (Nat.le_of_ble_eq_true rfl) (Nat.le_of_ble_eq_true rfl) (fun h hh => ⟨by rw [hb]; rfl, hh⟩)
            · have hd : d < n := gt_nI (by omega) (by omega) c65
              refine R_aload_n (pc := 68) C dX1_levelBehind_68 rfl ?_
              refine R_getf (pc := 69) C dX1_levelBehind_69 (i := 0) (wc0) rfl inlX1 (by decide) k_1_16 rfl ?_
              refine R_iload (pc := 72) C dX1_levelBehind_72 rfl ?_
              refine R_callVN (pc := 74) C dX1_levelBehind_74 (vs := [_]) (fun h hh => mJx4a65c_get_915e3 hl hd hn h hh) (isOb_of (wc1) rfl) ⟨k_18_20, k_18_21, k_18_22, k_1_15, k_18_23⟩ (sgn (nv := 1) rfl ⟨by decide +kernel, by decide +kernel, by decide +kernel⟩) ⟨⟨Nat.le_of_ble_eq_true rfl, Nat.le_of_ble_eq_true rfl⟩, ⟨Nat.le_of_ble_eq_true rfl, Nat.le_of_ble_eq_true rfl⟩, Nat.le_of_ble_eq_true rfl⟩ rfl rfl (fun h9 hh9 v9 => ?_)
              refine WR.pr (fun e9 => ?_)
              subst e9
              show WR K G _ _ _ _ _ _ _ (.ref _ :: _)
              refine R_cast (pc := 77) C dX1_levelBehind_77 (wcw hd hn) rfl k_4_2 ?_
              refine R_astore (pc := 80) C dX1_levelBehind_80 (Nat.le_of_ble_eq_true rfl) (lv' := [some (.ref _), some (.ref _), some (.int _), some (.int _), some (.int _), some (.ref _)]) rfl ?_
              refine R_iload_n (pc := 82) C dX1_levelBehind_82 rfl ?_
              refine R_aload (pc := 83) C dX1_levelBehind_83 rfl ?_
              refine R_iload_n (pc := 85) C dX1_levelBehind_85 rfl ?_
              refine R_callVN (pc := 86) C dX1_levelBehind_86 (vs := [_]) (fun h hh => mX0_drawUnder hl hd hn h hh) (isOb_of (wcw hd hn) rfl) ⟨k_24_5, k_24_6, k_24_7, k_4_4, k_24_8⟩ (sgn (nv := 1) rfl ⟨by decide +kernel, by decide +kernel, by decide +kernel⟩) ⟨⟨Nat.le_of_ble_eq_true rfl, Nat.le_of_ble_eq_true rfl⟩, ⟨Nat.le_of_ble_eq_true rfl, Nat.le_of_ble_eq_true rfl⟩, Nat.le_of_ble_eq_true rfl⟩ rfl rfl (fun h9 hh9 v9 => ?_)
              refine WR.pr (fun e9 => ?_)
              subst e9
              show WR K G _ _ _ _ _ _ _ (.int _ :: _)
              refine R_aload_n (pc := 89) C dX1_levelBehind_89 rfl ?_
              refine R_aload (pc := 90) C dX1_levelBehind_90 rfl ?_
              refine R_getf (pc := 92) C dX1_levelBehind_92 (i := 1) (wcw hd hn) rfl inlX0 (by decide) k_20_15 rfl ?_
              refine R_aload (pc := 95) C dX1_levelBehind_95 rfl ?_
              refine R_getf (pc := 97) C dX1_levelBehind_97 (i := 2) (wcw hd hn) rfl inlX0 (by decide) k_20_16 rfl ?_
              refine R_callVN (pc := 100) C dX1_levelBehind_100 (vs := [_, _]) (fun h hh => mX0_reachedFrom hl hw hn h hh) (isOb_of (wcw hw hn) rfl) ⟨k_20_17, k_20_18, k_20_19, k_4_4, k_20_20⟩ (sgn (nv := 2) rfl ⟨by decide +kernel, by decide +kernel, by decide +kernel⟩) ⟨⟨Nat.le_of_ble_eq_true rfl, Nat.le_of_ble_eq_true rfl⟩, ⟨Nat.le_of_ble_eq_true rfl, Nat.le_of_ble_eq_true rfl⟩, Nat.le_of_ble_eq_true rfl⟩ rfl rfl (fun h9 hh9 v9 => ?_)
              refine WR.pr (fun e9 => ?_)
              subst e9
              show WR K G _ _ _ _ _ _ _ (.int _ :: _)
              refine R_callSN (pc := 103) C dX1_levelBehind_103 (vs := [_, _]) (fun h hh => mX1_hundredths hl h) ⟨k_24_2, k_24_3, k_1_2, k_24_4⟩ (sgn (nv := 2) rfl ⟨by decide +kernel, by decide +kernel, by decide +kernel⟩) ⟨⟨Nat.le_of_ble_eq_true rfl, Nat.le_of_ble_eq_true rfl⟩, ⟨Nat.le_of_ble_eq_true rfl, Nat.le_of_ble_eq_true rfl⟩, Nat.le_of_ble_eq_true rfl⟩ rfl rfl (fun h9 hh9 v9 => ?_)
              refine WR.pr (fun e9 => ?_)
              subst e9
              refine WR.imp (P' := Wd G (adr, (n, P, F), Sm, mu, g)) (fun h1 e1 => e1 ▸ hh9) ?_
              show WR K G _ _ _ _ _ _ _ (.int _ :: _)
              refine R_isub (pc := 106) C dX1_levelBehind_106 ?_
              refine R_istore_n (pc := 107) C dX1_levelBehind_107 (Nat.le_of_ble_eq_true rfl) (lv' := [some (.ref _), some (.ref _), some (.int _), some (.int _), some (.int _), some (.ref _)]) rfl ?_
              refine R_iinc (pc := 108) C dX1_levelBehind_108 rfl (inc1) (lv' := [some (.ref _), some (.ref _), some (.int _), some (.int _), some (.int _), some (.ref _)]) rfl ?_
              refine R_goto (pc := 111) C dX1_levelBehind_111 (tgt := 56) (by decide) ?_
              refine WR.ls (lv' := [some (.ref _), some (.ref _), some (.int _), some (.int _), some (.int _), none]) (ls_s (ls_s (ls_s (ls_s (ls_s (ls_n ls_e)))))) ?_
              exact ih (d + 1) _ (by omega) (by omega) (by rw [bhD, hb, drw_m (by omega)])
        exact LP56 (n + 1) 0 _ (by omega) (by omega) hb
      · have hq : q < P := gt_nI (by omega) (by omega) c24
        refine R_iload_n (pc := 27) C dX1_levelBehind_27 rfl ?_
        refine R_bipush (pc := 28) C dX1_levelBehind_28 (v := 20) (by decide) ?_
        refine R_aload_n (pc := 30) C dX1_levelBehind_30 rfl ?_
        refine R_iconst (pc := 31) C dX1_levelBehind_31 (v := 0) (by decide) ?_
        refine R_aload_n (pc := 32) C dX1_levelBehind_32 rfl ?_
        refine R_getf (pc := 33) C dX1_levelBehind_33 (i := 2) (wc0) rfl inlX1 (by decide) k_1_19 rfl ?_
        refine R_iload (pc := 36) C dX1_levelBehind_36 rfl ?_
        refine R_iald (pc := 38) C dX1_levelBehind_38 (wc4) (rfl) (by omega) (by decide) rfl ?_
        refine R_callVN (pc := 39) C dX1_levelBehind_39 (vs := [_, _]) (fun h hh => mX0_reachedFrom hl hw hn h hh) (isOb_of (wcw hw hn) rfl) ⟨k_20_17, k_20_18, k_20_19, k_4_4, k_20_20⟩ (sgn (nv := 2) rfl ⟨by decide +kernel, by decide +kernel, by decide +kernel⟩) ⟨⟨Nat.le_of_ble_eq_true rfl, Nat.le_of_ble_eq_true rfl⟩, ⟨Nat.le_of_ble_eq_true rfl, Nat.le_of_ble_eq_true rfl⟩, Nat.le_of_ble_eq_true rfl⟩ rfl rfl (fun h9 hh9 v9 => ?_)
        refine WR.pr (fun e9 => ?_)
        subst e9
        show WR K G _ _ _ _ _ _ _ (.int _ :: _)
        refine R_callSN (pc := 42) C dX1_levelBehind_42 (vs := [_, _]) (fun h hh => mX1_hundredths hl h) ⟨k_24_2, k_24_3, k_1_2, k_24_4⟩ (sgn (nv := 2) rfl ⟨by decide +kernel, by decide +kernel, by decide +kernel⟩) ⟨⟨Nat.le_of_ble_eq_true rfl, Nat.le_of_ble_eq_true rfl⟩, ⟨Nat.le_of_ble_eq_true rfl, Nat.le_of_ble_eq_true rfl⟩, Nat.le_of_ble_eq_true rfl⟩ rfl rfl (fun h9 hh9 v9 => ?_)
        refine WR.pr (fun e9 => ?_)
        subst e9
        refine WR.imp (P' := Wd G (adr, (n, P, F), Sm, mu, g)) (fun h1 e1 => e1 ▸ hh9) ?_
        show WR K G _ _ _ _ _ _ _ (.int _ :: _)
        refine R_iadd (pc := 45) C dX1_levelBehind_45 ?_
        refine R_istore_n (pc := 46) C dX1_levelBehind_46 (Nat.le_of_ble_eq_true rfl) (lv' := [some (.ref _), some (.ref _), some (.int _), some (.int _), some (.int _), none]) rfl ?_
        refine R_iinc (pc := 47) C dX1_levelBehind_47 rfl (inc1) (lv' := [some (.ref _), some (.ref _), some (.int _), some (.int _), some (.int _), none]) rfl ?_
        refine R_goto (pc := 50) C dX1_levelBehind_50 (tgt := 18) (by decide) ?_
        exact ih (q + 1) _ (by omega) (by omega) (by rw [bhP, hb])
  exact LP18 (P + 1) 0 _ (by omega) (by omega) (by rw [bhP, hix])
end
end
