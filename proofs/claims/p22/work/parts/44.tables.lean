/-! 44: methods with an exception table: contracts, catching, calls. My own. -/
/-- CONTRACT of a method with handlers, that returns -/
def CW (l : Launch) (y : MethodName) (cc : ByteArray) (mL : Nat) (ret : Option FieldType) (hh : List (Nat × Nat × Nat × Nat)) (dp mc ms : Nat) (vs : List Value) (G : GT) (h0 : Hp) (PV : Option Value → Hp → Prop) : Prop :=
  ∀ sz, vx_Met l y (.codeWith y cc mL ret hh :: BIG) (rmD dp mc ms) (PRE G h0 sz vs) (QV G h0 sz PV) (XV G h0 sz (fun _ _ => False)) mc ms (AH h0 sz)
theorem wsGoodW {y : MethodName} {cc : ByteArray} {mL : Nat} {ret : Option FieldType} {hh : List (Nat × Nat × Nat × Nat)} (h : Cond.codeWith y cc mL ret hh ∈ BIG) : GoodIn BIG (.codeWith y cc mL ret hh :: BIG) := fun w hw => (List.mem_cons.mp hw).elim (fun e => e ▸ gBIG _ h) (fun q => gBIG w q)
theorem CW.of {l : Launch} {y : MethodName} {cc : ByteArray} {mL : Nat} {ret : Option FieldType} {hh : List (Nat × Nat × Nat × Nat)} {dp mc ms : Nat} {vs : List Value} {G : GT} {h0 : Hp} {PV : Option Value → Hp → Prop} (hl : l.stackTraces = false) (hy : plainName y.cls = true) (hc : vs.all (fun v => v.category == 1) = true) (hn : vs.length ≤ mL)
    (body : ∀ (K : KT) (sz : Nat), K.l = l → CX K G (AH h0 sz) y.cls cc mL ret (rmD dp mc ms) (tableOf hh) → WR K G (AH h0 sz) (QE K G h0 sz mc ms PV (fun _ _ => False)) (Eq h0) (lv0 vs mL) 0 0 0 []) : CW l y cc mL ret hh dp mc ms vs G h0 PV := by
  intro sz
  have hc' : ∀ v ∈ vs, v.category = 1 := fun v hv => by simpa using List.all_eq_true.mp hc v hv
  refine vx_ofWH (cc := cc) (maxL := mL) (ret := ret) (hh := hh) hy rfl ?_
  intro p e s m args below meth c s₁ B hml hv
  obtain ⟨rfl, hsz, hRep, hK, hST⟩ := hv
  subst hsz
  have hts := atoms_spec (ws := .codeWith y cc mL ret hh :: BIG) B.pre
  have htb : c.exceptionTable.toList = tableOf hh := vx_table (x := y) B (hts _ List.mem_cons_self)
  have C : CX (p, l, e, rmD dp mc ms, s, m, vs.toArray, below, meth, c) G (AH h0 s.heap.size) y.cls cc mL ret (rmD dp mc ms) (tableOf hh) :=
    ⟨B.exec, B.bytes, hml, findClass_of_methodNamed B.named, fun w hw => hts w (List.mem_cons_of_mem _ hw), hK, hST, fun q hq => Or.inr hq, B.returns, B.notSynchronized, hl, rfl, htb⟩
  rw [lg_entry_eq]
  exact body (p, l, e, rmD dp mc ms, s, m, vs.toArray, below, meth, c) s.heap.size rfl C h0 s.heap [] _ rfl hRep (fun a ha => Or.inl ha) va_S.rf (LV.start hc' hn)
section
variable {K : KT} {G : GT} {A : Nat → Prop} {own : String} {cc : ByteArray} {nL : Nat} {ret : Option FieldType} {rm : Room} {tb : List ExceptionTableEntry} {Q : State → Prop} {P : Hp → Prop} {lv : List (Option Value)} {k n pc : Nat} {st : List Value}
/-- caught here -/
theorem X_catch (C : CX K G A own cc nL ret rm tb) {E nm : String} (pre : List ExceptionTableEntry) (x : ExceptionTableEntry) (suf : List ExceptionTableEntry) (hs : tb = pre ++ x :: suf)
    (hpass : ∀ z ∈ pre, covers z pc = false ∨ (z.catchType ≠ 0 ∧ ∃ nm : String, Cond.classLink own z.catchType nm ∈ BIG ∧ va_Nc E nm K.s)) (hx : covers x pc = true) (h0 : x.catchType ≠ 0) (hlink : Cond.classLink own x.catchType nm ∈ BIG) (hcast : va_Nw (.castable E nm) K.s)
    (kk : ∀ q, WR K G A Q P lv k n x.handlerPc [.ref q]) : WX K G A Q P lv k n pc st E :=
  fun h H locs ls q ce hp h1 h2 h3 h4 g1 g2 g3 => vx_catch C.ow pre x suf (C.tab.trans hs) (fun z hz => (hpass z hz).elim Or.inl (fun ⟨a, b, c, d⟩ => Or.inr ⟨a, b, C.ts _ c, d⟩)) hx h0 (C.ts _ hlink) (va_Nw.use (A := K.args) rfl hcast) g1 g2 g3 (kk q h H locs ls hp h1 h2 h3 h4)
theorem R_callSW (C : CX K G A own cc nL ret rm tb) {y : MethodName} {cc' : ByteArray} {mL' : Nat} {ret' : Option FieldType} {hh : List (Nat × Nat × Nat × Nat)} {dp mc ms idx : Nat} {vs st0 rest : List Value} {PV : Hp → Option Value → Hp → Prop} (d : decode cc pc = .ok (.invokestatic idx, 3))
    (hM : ∀ h, P h → CW K.l y cc' mL' ret' hh dp mc ms vs G h (PV h))
    (hw : Cond.methodLink own idx y ∈ BIG ∧ Cond.static y ∈ BIG ∧ Cond.initialized y.cls ∈ BIG ∧ Cond.codeWith y cc' mL' ret' hh ∈ BIG) (hd : sigD y vs.length) (hR : fitD rm k n dp mc ms mL' rest) (hlen : lv.length = nL) (hst : st0 = vs.reverse ++ rest)
    (kk : ∀ h, P h → ∀ v, WR K G A Q (PV h v) lv (k + mc) (n + ms) (pc + 3) (v.toList ++ rest)) : WR K G A Q P lv k n pc st0 := by
  intro h H locs ls h0 h1 h2 h3 h4
  have hR' := C.rom
  have cw : vx_CSW K.R K.s K.args own idx y cc' mL' ret' hh (.codeWith y cc' mL' ret' hh :: BIG) (rmD dp mc ms) mc ms vs.length :=
    ⟨⟨rfl, rfl, by rw [hR']; exact hR.1.1, by rw [hR']; exact hR.1.2, pay_in C.ts (wsGoodW hw.2.2.2), List.mem_cons_self⟩, C.ts _ hw.2.2.2, C.ts _ hw.2.2.1, ⟨hd.1, hd.2.1⟩, fun sig h => by
      have h2 := hd.2.2
      rw [h] at h2
      exact (Option.some.inj h2).symm, C.ts _ hw.1, C.ts _ hw.2.1⟩
  exact fin_T C h2 h3 h4 (vx_runSX (As := vs) (rest := rest) ⟨C.ex, C.cd, C.mxl, C.ow, C.ts⟩ (hM h h0 H.size) cw ⟨PRE.blind, pre_of C h1 h2 h3⟩ rfl rfl (h4.1.trans hlen) hst (lv_room hR.2.2) d (by rw [hR']; exact hR.2.1)) (fun E => X_none (fun _ z => z)) (kk h h0)
end
