/-! 30: rows for the texts: fields and arrays that never change, System.arraycopy, super calls, calls of inherited methods. My own (the proof of R_acp follows those of the kit's va_copyi and vk_copyt). -/
theorem nn32 {z : Int32} (hz : ¬ z < 0) : z.toInt = (z.toNatClampNeg : Int) := by
  have hz0 : (0 : Int) ≤ z.toInt := by
    have := Int32.not_lt.mp hz
    simpa using Int32.le_iff_toInt_le.mp this
  show z.toInt = ((z.toInt.toNat : Nat) : Int)
  omega
section
variable {K : KT} {G : GT} {A : Nat → Prop} {own : String} {cc : ByteArray} {nL : Nat} {ret : Option FieldType} {rm : Room} {tb : List ExceptionTableEntry} {Q : State → Prop} {P : Hp → Prop} {lv : List (Option Value)} {k n pc : Nat} {st : List Value}
theorem R_getfK (C : CX K G A own cc nL ret rm tb) {o nm ds : String} {v : Value} {idx q : Nat} (d : decode cc pc = .ok (.getfield idx, 3)) (hE : va_OF o nm ds v q A K.s K.s.heap) (hlink : Cond.fieldLink own idx o nm ds ∈ BIG) (kk : WR K G A Q P lv k n (pc + 3) (v :: st)) : WR K G A Q P lv k n pc (.ref q :: st) :=
  fun h H locs ls h0 h1 h2 h3 h4 => vk_getf C.ex C.cd hE h3 C.ow (C.ts _ hlink) (fun _ q => q) d (kk h H locs ls h0 h1 h2 h3 h4)
theorem R_tlen (C : CX K G A own cc nL ret rm tb) {ty : FieldType} {q N : Nat} {f : Nat → Value} {v : Int32} (d : decode cc pc = .ok (.arraylength, 1)) (hT : va_T ty q N f A K.s K.s.heap) (hv : Int32.ofNat N = v) (kk : WR K G A Q P lv k n (pc + 1) (.int v :: st)) : WR K G A Q P lv k n pc (.ref q :: st) :=
  fun h H locs ls h0 h1 h2 h3 h4 => va_tlen C.ex C.cd hT h3 hv d (kk h H locs ls h0 h1 h2 h3 h4)
theorem R_tbal (C : CX K G A own cc nL ret rm tb) {q N j : Nat} {f : Nat → Int32} {i v : Int32} (d : decode cc pc = .ok (.baload, 1)) (hT : va_T .byte q N (fun j => .int (f j)) A K.s K.s.heap) (hi : i = nI j) (hj : j < N) (hN : N < 2 ^ 31) (hv : f j = v) (kk : WR K G A Q P lv k n (pc + 1) (.int v :: st)) : WR K G A Q P lv k n pc (.int i :: .ref q :: st) := by
  subst hi
  have e9 := nI_clamp (Nat.lt_trans hj hN)
  exact fun h H locs ls h0 h1 h2 h3 h4 => va_tb C.ex C.cd hT h3 (vp_in_nI hj hN) (by rw [e9, hv]) d (kk h H locs ls h0 h1 h2 h3 h4)
/-- System.arraycopy between arrays of one element type, whose cells are known -/
theorem R_acp (C : CX K G A own cc nL ret rm tb) {P' : Hp → Prop} {a0 a N0 N1 sp dp m idx : Nat} {f g : Nat → Int32} {x1 x2 x3 : Int32} (d : decode cc pc = .ok (.invokestatic idx, 3)) (hlink : Cond.methodLink own idx arraycopyName ∈ BIG)
    (hg0 : ∀ h H locs, P h → Rep G.1 h H → va_S A K.s.heap H locs → ∃ scr : Cell, H[a0]? = some scr ∧ K.s.isArrayOf scr .byte ∧ scr.vm ≠ .unknown ∧ N0 ≤ scr.slots.size ∧ ∀ j : Nat, j < N0 → scr.slots[j]? = some (.int (f j))) (hg1 : ∀ h, P h → h a = some (aB G N1 g)) (e1 : x1 = nI sp) (e2 : x2 = nI dp) (e3 : x3 = nI m) (hN : N0 < 2 ^ 31 ∧ N1 < 2 ^ 31) (h4 : sp + m ≤ N0) (h5 : dp + m ≤ N1) (hfit : ∀ i, i < m → fits .byte (.int (f (sp + i))) = true)
    (hlen : lv.length = nL) (hR : 1 ≤ rm.frames ∧ (st.map fun v => v.category).sum + 40 ≤ rm.locals) (hp : ∀ h, P h → P' (hu h a (aB G N1 (va_cpy f g sp dp m)))) (kk : WR K G A Q P' lv k n (pc + 3) st) : WR K G A Q P lv k n pc (.int x3 :: .int x2 :: .ref a :: .int x1 :: .ref a0 :: st) := by
  have c1 : x1.toNatClampNeg = sp := by rw [e1]; exact nI_clamp (by omega)
  have c2 : x2.toNatClampNeg = dp := by rw [e2]; exact nI_clamp (by omega)
  have c3 : x3.toNatClampNeg = m := by rw [e3]; exact nI_clamp (by omega)
  have n1 : ¬ x1 < 0 := by rw [e1]; exact nI_pos (by omega)
  have n2 : ¬ x2 < 0 := by rw [e2]; exact nI_pos (by omega)
  have n3 : ¬ x3 < 0 := by rw [e3]; exact nI_pos (by omega)
  intro h H locs ls h0 h1 h2 h3 h9
  obtain ⟨scr, hs1, ⟨hs6, k0, hk0, cm0, hkk0⟩, hs3, hs4, hs5⟩ := hg0 h H locs h0 h1 h3
  have he := hg1 h h0
  have hc1 : H[a]? = some (vp_cell (G.2.1 1) (N1, .inl g)) := h1 a _ he
  obtain ⟨-, k1, hk1, cm1, hkk1⟩ := (C.kn.2 1 _ rfl).1 N1 (fun j => .int (g j))
  intro T hT X
  obtain ⟨vm', X', step⟩ := X.arraycopy C.ex C.ow (C.ts _ hlink) (C.ts _ k_7_19) (C.ts _ k_7_20) (C.ts _ k_7_21) (src := a0) (dst := a) (cs := scr) (cd := vp_cell (G.2.1 1) (N1, .inl g)) (srcPos := x1) (destPos := x2) (n := x3) (by rw [hT]; exact hs1) (by rw [hT]; exact hc1)
    hs6 (fun _ h => by cases h) hs3 (fun h => by cases h) hk0 hk1 hkk0 hkk1 (by simp [refKind]) n1 n2 n3
    (by rw [nn32 n1, nn32 n3]; omega)
    (by rw [nn32 n2, nn32 n3]; show ¬ _ > ((arrV (G.2.1 1) N1 (fun j => .int (g j))).slots.size : Int); rw [arrV_size]; omega)
    (fun vm₁ _ i hi => by
      rw [c3] at hi
      have e : scr.slots.getD (x1.toNatClampNeg + i) .null = .int (f (sp + i)) := by
        rw [Array.getD_eq_getD_getElem?, c1, hs5 _ (by omega)]
        rfl
      refine ⟨?_, ?_⟩
      · rw [e]
        exact hfit i hi
      · rw [e]
        exact trivial)
    (g := F0 K.m pc ls (.int x3 :: .int x2 :: .ref a :: .int x1 :: .ref a0 :: st)) rfl (by show ls.size = _; rw [C.mxl, ← hlen]; exact h9.1) (rest := st) rfl (by rw [C.cd]; exact d) (by rw [C.rom]; exact hR.1) (by rw [C.rom]; have hw : nativeFrameWords "java/lang/System" "arraycopy" 5 + 11 ≤ 40 := (by decide); have := hR.2; show 2 * 0 + _ + _ ≤ _; omega)
  have e1' : copied scr (vp_cell (G.2.1 1) (N1, .inl g)) x1 x2 x3 = vp_cell (G.2.1 1) (N1, .inl (va_cpy f g sp dp m)) := by
    have := va_copiedX (fun z => .int z) scr (G.2.1 1) f g (n1 := N1) (sp := sp) (dp := dp) (n := m) (n0 := N0) hs5 h4
    unfold copied
    rw [c1, c2, c3]
    exact this
  rw [e1'] at X' step
  have hl : a < H.size := (Array.getElem?_eq_some_iff.mp hc1).1
  have hheap : ((T.setVm vm').setCell a (vp_cell (G.2.1 1) (N1, .inl (va_cpy f g sp dp m)))).heap = H.setIfInBounds a (vp_cell (G.2.1 1) (N1, .inl (va_cpy f g sp dp m))) := by rw [← hT]; rfl
  have oq : ∀ q : Nat, q ≠ a → (H.setIfInBounds a (vp_cell (G.2.1 1) (N1, .inl (va_cpy f g sp dp m))))[q]? = H[q]? := fun q hq => by simp [Array.getElem?_setIfInBounds, Ne.symm hq]
  have hA : A a := h2 a (by rw [he]; exact fun q => by cases q)
  obtain ⟨t, a1, b1⟩ := kk (hu h a (aB G N1 (va_cpy f g sp dp m))) _ _ ls (hp h h0) (h1.put (show (H.setIfInBounds a _)[a]? = some _ by simp [Array.getElem?_setIfInBounds, hl]) oq) (dom_put h2 he) ⟨by simp; exact h3.1, fun q g1 g2 => by
      rw [oq q (fun e => g2 (by rw [e]; exact hA))]
      exact h3.2.1 q g1 g2, fun q hq => by
      rcases List.mem_append.mp hq with h | h
      · exact h3.2.2 q h
      · obtain ⟨z, -, hz⟩ := List.mem_map.mp h
        rw [← hz]
        exact hA⟩ h9 _ hheap X'
  exact ⟨t, step t a1, b1⟩
theorem src_T {q N : Nat} {f : Nat → Int32} (hX : va_T .byte q N (fun j => .int (f j)) A K.s K.s.heap) : ∀ h H locs, P h → Rep G.1 h H → va_S A K.s.heap H locs → ∃ scr : Cell, H[q]? = some scr ∧ K.s.isArrayOf scr .byte ∧ scr.vm ≠ .unknown ∧ N ≤ scr.slots.size ∧ ∀ j : Nat, j < N → scr.slots[j]? = some (.int (f j)) := by
  intro h H locs _ _ hS
  obtain ⟨scr, hs1, hs2, hs3, hs4, -, hs5, hs7⟩ := hX
  exact ⟨scr, by rw [hS.2.1 q (Array.getElem?_eq_some_iff.mp hs1).1 hs7]; exact hs1, hs2, hs3, hs4, hs5⟩
theorem src_B (C : CX K G A own cc nL ret rm tb) {q N : Nat} {f : Nat → Int32} (hg : ∀ h, P h → h q = some (aB G N f)) : ∀ h H locs, P h → Rep G.1 h H → va_S A K.s.heap H locs → ∃ scr : Cell, H[q]? = some scr ∧ K.s.isArrayOf scr .byte ∧ scr.vm ≠ .unknown ∧ N ≤ scr.slots.size ∧ ∀ j : Nat, j < N → scr.slots[j]? = some (.int (f j)) := by
  intro h H locs h0 h1 _
  have hc : H[q]? = some (vp_cell (G.2.1 1) (N, .inl f)) := h1 q _ (hg h h0)
  refine ⟨_, hc, (C.kn.2 1 _ rfl).1 N (fun j => .int (f j)), (fun q => by cases q), ?_, fun j hj => ?_⟩
  · show N ≤ (arrV (G.2.1 1) N (fun j => .int (f j))).slots.size
    rw [arrV_size]; exact Nat.le_refl _
  · show (arrV (G.2.1 1) N (fun j => .int (f j))).slots[j]? = _
    rw [arrV_read _ _ hj]
/-- a call of what the receiver's class inherits or overrides -/
theorem R_callVU (C : CX K G A own cc nL ret rm tb) {x y : MethodName} {cls : String} {cc' cx : ByteArray} {mL' mx : Nat} {ret' rx : Option FieldType} {dp mc ms a idx : Nat} {vs st0 rest : List Value} {PV : Hp → Option Value → Hp → Prop} (d : decode cc pc = .ok (.invokevirtual idx, 3))
    (hM : ∀ h, P h → CN K.l y cc' mL' ret' dp mc ms (.ref a :: vs) G h (PV h)) (hrecv : isOb P a cls)
    (hw : Cond.methodLink own idx x ∈ BIG ∧ Cond.sameMethod x.cls x.cls x.name x.desc ∈ BIG ∧ Cond.selects cls x y ∈ BIG ∧ Cond.instanceMethod y ∈ BIG ∧ Cond.initialized y.cls ∈ BIG ∧ Cond.code y cc' mL' ret' ∈ BIG) (hx : Cond.instanceMethod x ∈ BIG ∧ Cond.code x cx mx rx ∈ BIG) (hd : sigD x vs.length) (hR : fitD rm k n dp mc ms mL' rest) (hlen : lv.length = nL) (hst : st0 = vs.reverse ++ .ref a :: rest)
    (kk : ∀ h, P h → ∀ v, WR K G A Q (PV h v) lv (k + mc) (n + ms) (pc + 3) (v.toList ++ rest)) : WR K G A Q P lv k n pc st0 := by
  intro h H locs ls h0 h1 h2 h3 h4
  have hR' := C.rom
  have hG : GoodIn BIG (.code y cc' mL' ret' :: BIG) := wsGood hw.2.2.2.2.2
  have cw : va_CU K.R K.s K.args own cls x.cls idx x y cc' mL' ret' (.code y cc' mL' ret' :: BIG) (rmD dp mc ms) mc ms vs.length :=
    ⟨⟨rfl, rfl, by rw [hR']; exact hR.1.1, by rw [hR']; exact hR.1.2, pay_in C.ts hG, List.mem_cons_self⟩, C.ts _ hw.2.2.2.2.2, C.ts _ hw.2.2.2.2.1, ⟨hd.1, hd.2.1⟩, fun sig h => by
      have h2 := hd.2.2
      rw [h] at h2
      exact (Option.some.inj h2).symm, C.ts _ hw.1, C.ts _ hw.2.1, va_Decl.of (C.ts _ hx.1) (C.ts _ hx.2), C.ts _ hw.2.2.1, C.ts _ hw.2.2.2.1⟩
  exact fin_N C h2 h3 h4 (va_runU (As := vs) (rest := rest) ⟨C.ex, C.cd, C.mxl, C.ow, C.ts⟩ (hM h h0 H.size) cw ⟨PRE.blind, hrecv.recv C h0 h1, pre_of C h1 h2 h3⟩ rfl rfl (h4.1.trans hlen) hst (lv_room hR.2.2) d (by rw [hR']; exact hR.2.1)) (kk h h0)
/-- super.m(..) -/
theorem R_callSU (C : CX K G A own cc nL ret rm tb) {y : MethodName} {cc' : ByteArray} {mL' : Nat} {ret' : Option FieldType} {dp mc ms a idx ci N : Nat} {T : u_T} {fs : List Value} {Cn : String} {vs st0 rest : List Value} {PV : Hp → Option Value → Hp → Prop} (d : decode cc pc = .ok (.invokespecial idx, 3))
    (hM : ∀ h, P h → CN K.l y cc' mL' ret' dp mc ms (.ref a :: vs) G h (PV h)) (hg : ∀ h, P h → h a = some (ob ci fs)) (hc : vwCl[ci]? = some (Cn, T, N))
    (hw : Cond.methodLink own idx y ∈ BIG ∧ Cond.sameMethod y.cls y.cls y.name y.desc ∈ BIG ∧ Cond.superclass own y.cls ∈ BIG ∧ Cond.instanceMethod y ∈ BIG ∧ Cond.initialized y.cls ∈ BIG ∧ Cond.code y cc' mL' ret' ∈ BIG) (hd : y.name ≠ "<init>" ∧ (parseMethodDescriptor y.desc).map (fun d => d.parameters.length) = some vs.length) (hR : fitD rm k n dp mc ms mL' rest) (hlen : lv.length = nL) (hst : st0 = vs.reverse ++ .ref a :: rest)
    (kk : ∀ h, P h → ∀ v, WR K G A Q (PV h v) lv (k + mc) (n + ms) (pc + 3) (v.toList ++ rest)) : WR K G A Q P lv k n pc st0 := by
  intro h H locs ls h0 h1 h2 h3 h4
  have hR' := C.rom
  have hG : GoodIn BIG (.code y cc' mL' ret' :: BIG) := wsGood hw.2.2.2.2.2
  have cw : va_CS K.R K.s K.args own idx y cc' mL' ret' (.code y cc' mL' ret' :: BIG) (rmD dp mc ms) mc ms vs.length :=
    ⟨⟨rfl, rfl, by rw [hR']; exact hR.1.1, by rw [hR']; exact hR.1.2, pay_in C.ts hG, List.mem_cons_self⟩, C.ts _ hw.1, C.ts _ hw.2.1, C.ts _ hw.2.2.1, C.ts _ hw.2.2.2.1, C.ts _ hw.2.2.2.2.1, C.ts _ hw.2.2.2.2.2, hd.1, fun sig h => by
      have h2 := hd.2
      rw [h] at h2
      exact (Option.some.inj h2).symm⟩
  have hrecv : isOb P a Cn := isOb_of hg hc
  exact fin_N C h2 h3 h4 (va_runSU (As := vs) (rest := rest) (C.kn.1 ci _ hc).2 ⟨C.ex, C.cd, C.mxl, C.ow, C.ts⟩ (hM h h0 H.size) cw ⟨PRE.blind, hrecv.recv C h0 h1, pre_of C h1 h2 h3⟩ rfl rfl (h4.1.trans hlen) hst (lv_room hR.2.2) d (by rw [hR']; exact hR.2.1)) (kk h h0)
end
