/-! 05: rows that touch the heap, returns, contracts and calls, throws. My own (the proofs of R_putf, R_new, the arrays' rows follow those of the kit's va_ rows). -/
theorem Rep.one {D : va_G} {h : Hp} {H : Heap} {a : Nat} {e : va_E} (hR : Rep D h H) (e0 : h a = some e) : va_P D vwCl [(a, e)] H := by
  intro k q hq
  cases k with
  | zero => simp at hq; subst hq; exact hR a e e0
  | succ k => simp at hq
theorem Rep.lt {D : va_G} {h : Hp} {H : Heap} {a : Nat} {e : va_E} (hR : Rep D h H) (e0 : h a = some e) : a < H.size := va_at.lt (hR a e e0)
theorem Rep.put {D : va_G} {h : Hp} {H H1 : Heap} {a : Nat} {e : va_E} (hR : Rep D h H) (he : va_at D vwCl (a, e) H1) (oq : ∀ q : Nat, q ≠ a → H1[q]? = H[q]?) : Rep D (hu h a e) H1 := by
  intro b f hb
  by_cases hba : b = a
  · subst hba
    rw [hu_s] at hb
    cases hb
    exact he
  · rw [hu_n hba] at hb
    exact va_at.kept (hR b f hb) (oq b hba)
theorem Rep.push {D : va_G} {h : Hp} {H H1 : Heap} {e : va_E} (hR : Rep D h H) (he : va_at D vwCl (H.size, e) H1) (o1 : ∀ q : Nat, q < H.size → H1[q]? = H[q]?) : Rep D (hu h H.size e) H1 := by
  intro b f hb
  by_cases hba : b = H.size
  · subst hba
    rw [hu_s] at hb
    cases hb
    exact he
  · rw [hu_n hba] at hb
    have := hR.lt hb
    exact va_at.kept (hR b f hb) (o1 b this)
theorem Rep.new {D : va_G} {h : Hp} {H : Heap} (hR : Rep D h H) : h H.size = none := by
  cases e : h H.size with
  | none => rfl
  | some x => exact absurd (hR.lt e) (Nat.lt_irrefl _)
theorem dom_put {A : Nat → Prop} {h : Hp} {a : Nat} {e0 e : va_E} (h2 : ∀ b, h b ≠ none → A b) (e1 : h a = some e0) : ∀ b, hu h a e b ≠ none → A b := by
  intro b hb
  by_cases hba : b = a
  · subst hba; exact h2 b (by rw [e1]; exact fun q => by cases q)
  · rw [hu_n hba] at hb; exact h2 b hb
theorem dom_new {A : Nat → Prop} {h : Hp} {a : Nat} {e : va_E} (h2 : ∀ b, h b ≠ none → A b) (ha : A a) : ∀ b, hu h a e b ≠ none → A b := by
  intro b hb
  by_cases hba : b = a
  · subst hba; exact ha
  · rw [hu_n hba] at hb; exact h2 b hb
section
variable {K : KT} {G : GT} {A : Nat → Prop} {own : String} {cc : ByteArray} {nL : Nat} {ret : Option FieldType} {rm : Room} {tb : List ExceptionTableEntry} {Q : State → Prop} {P : Hp → Prop} {lv : List (Option Value)} {k n pc : Nat} {st : List Value}
theorem R_getf (C : CX K G A own cc nL ret rm tb) {a ci i idx N : Nat} {fs : List Value} {Cn : String} {T : u_T} {v : Value} (d : decode cc pc = .ok (.getfield idx, 3)) (hg : ∀ h, P h → h a = some (ob ci fs)) (hc : vwCl[ci]? = some (Cn, T, N)) (hin : ∀ w ∈ u_ws Cn T N, w ∈ BIG) (hk : i < N)
    (hlink : Cond.fieldLink own idx (T i).1 (T i).2.1 (T i).2.2.1 ∈ BIG) (hv : fs[i]? = some v) (kk : WR K G A Q P lv k n (pc + 3) (v :: st)) : WR K G A Q P lv k n pc (.ref a :: st) :=
  fun h H locs ls h0 h1 h2 h3 h4 => va_get C.ex C.cd C.ts hin C.ow C.kn (h1.one (hg h h0)) 0 rfl hc i hk (C.ts _ hlink) (fun _ q => q) hv d (kk h H locs ls h0 h1 h2 h3 h4)
theorem R_getfS (C : CX K G A own cc nL ret rm tb) {a ci i idx N : Nat} {fs : List Value} {Cn ref : String} {T : u_T} {v : Value} (d : decode cc pc = .ok (.getfield idx, 3)) (hg : ∀ h, P h → h a = some (ob ci fs)) (hc : vwCl[ci]? = some (Cn, T, N)) (hin : ∀ w ∈ u_ws Cn T N, w ∈ BIG) (hk : i < N)
    (hlink : Cond.fieldLink own idx ref (T i).2.1 (T i).2.2.1 ∈ BIG) (hsame : Cond.sameField ref (T i).1 (T i).2.1 (T i).2.2.1 ∈ BIG) (hv : fs[i]? = some v) (kk : WR K G A Q P lv k n (pc + 3) (v :: st)) : WR K G A Q P lv k n pc (.ref a :: st) :=
  fun h H locs ls h0 h1 h2 h3 h4 => va_get C.ex C.cd C.ts hin C.ow C.kn (h1.one (hg h h0)) 0 rfl hc i hk (C.ts _ hlink) (fun x q => u_same (C.ts _ hsame) x q) hv d (kk h H locs ls h0 h1 h2 h3 h4)
theorem R_putf0 (C : CX K G A own cc nL ret rm tb) {P' : Hp → Prop} {a ci i idx N : Nat} {fs : List Value} {Cn ref : String} {T : u_T} {ty0 : Nat → FieldType} {v : Value} (d : decode cc pc = .ok (.putfield idx, 3)) (hg : ∀ h, P h → h a = some (ob ci fs)) (hc : vwCl[ci]? = some (Cn, T, N)) (hin : ∀ w ∈ u_ws Cn T N, w ∈ BIG)
    (hty : ∀ k, k < N → parseFieldDescriptor (T k).2.2.1 = some (ty0 k)) (hnm : ∀ a, a < N → ∀ b, b < N → a ≠ b → (T a).2.1 ≠ (T b).2.1) (hk : i < N)
    (hlink : (Cond.fieldLink own idx ref (T i).2.1 (T i).2.2.1).before K.args K.s = true) (hsame : ∀ x, K.s.fieldFound? (T i).1 (T i).2.1 (T i).2.2.1 = some x → K.s.fieldFound? ref (T i).2.1 (T i).2.2.1 = some x) (hfin : (T i).2.2.2 = false) (hn : narrow (ty0 i) v = v) (hfit : fits (ty0 i) v = true) (hl : i < fs.length)
    (hp : ∀ h, P h → P' (hu h a (ob ci (fs.set i v)))) (kk : WR K G A Q P' lv k n (pc + 3) st) : WR K G A Q P lv k n pc (v :: .ref a :: st) := by
  intro h H locs ls h0 h1 h2 h3 h4
  have he := hg h h0
  have hap := va_apart (own := own) C.ts hin ty0 hty hnm C.kn hc
  obtain ⟨r, g1, cell, q1, q2, q3, q4⟩ := h1 a _ he
  have hr : r = (Cn, T, N) := Option.some.inj (g1.symm.trans hc)
  subst hr
  obtain ⟨hS, hfc, kC, hkC, hkind⟩ := C.kn.1 ci _ hc
  obtain ⟨cf, kf, fi, f, hi, hsl⟩ := hS i hk
  have hlay := C.ts _ (hin _ (u_in_lay hk))
  unfold u_lay at hlay
  rw [if_neg (by rw [hfin]; decide)] at hlay
  have hst := (u_facts hfc hkC (u_lays C.ts hin hk) hi).1
  have h6 := u_store hfc hkC hkind hlay hi (hty i hk) hn hfit
  refine W.putK C.ex C.cd (f := f) ⟨C.ow, hlink, ⟨_, _, _, hsame _ hi⟩, hst⟩ (by rw [q2]; exact h6) q1 q3 (by rw [hsl]; exact k2_hasslot (q4 i hk)) rfl rfl d fun H' e1 e2 e3 => ?_
  rw [hsl] at e1 ⊢
  exact kk _ H' _ ls (hp h h0) (h1.put ⟨_, hc, t_OB.to (V := updV (vp_V fs) i v) ⟨_, e1, q2, q3, t_set q4 hap hk v⟩ (fun j _ => vp_updV_set hl v j)⟩ e3) (dom_put h2 he) (h3.put e2 e3 (h2 a (by rw [he]; exact fun q => by cases q))) h4
theorem R_putf (C : CX K G A own cc nL ret rm tb) {P' : Hp → Prop} {a ci i idx N : Nat} {fs : List Value} {Cn : String} {T : u_T} {ty0 : Nat → FieldType} {v : Value} (d : decode cc pc = .ok (.putfield idx, 3)) (hg : ∀ h, P h → h a = some (ob ci fs)) (hc : vwCl[ci]? = some (Cn, T, N)) (hin : ∀ w ∈ u_ws Cn T N, w ∈ BIG)
    (hty : ∀ k, k < N → parseFieldDescriptor (T k).2.2.1 = some (ty0 k)) (hnm : ∀ a, a < N → ∀ b, b < N → a ≠ b → (T a).2.1 ≠ (T b).2.1) (hk : i < N)
    (hlink : Cond.fieldLink own idx (T i).1 (T i).2.1 (T i).2.2.1 ∈ BIG) (hfin : (T i).2.2.2 = false) (hn : narrow (ty0 i) v = v) (hfit : fits (ty0 i) v = true) (hl : i < fs.length)
    (hp : ∀ h, P h → P' (hu h a (ob ci (fs.set i v)))) (kk : WR K G A Q P' lv k n (pc + 3) st) : WR K G A Q P lv k n pc (v :: .ref a :: st) :=
  R_putf0 C d hg hc hin hty hnm hk (C.ts _ hlink) (fun _ q => q) hfin hn hfit hl hp kk
theorem R_putfS (C : CX K G A own cc nL ret rm tb) {P' : Hp → Prop} {a ci i idx N : Nat} {fs : List Value} {Cn ref : String} {T : u_T} {ty0 : Nat → FieldType} {v : Value} (d : decode cc pc = .ok (.putfield idx, 3)) (hg : ∀ h, P h → h a = some (ob ci fs)) (hc : vwCl[ci]? = some (Cn, T, N)) (hin : ∀ w ∈ u_ws Cn T N, w ∈ BIG)
    (hty : ∀ k, k < N → parseFieldDescriptor (T k).2.2.1 = some (ty0 k)) (hnm : ∀ a, a < N → ∀ b, b < N → a ≠ b → (T a).2.1 ≠ (T b).2.1) (hk : i < N)
    (hlink : Cond.fieldLink own idx ref (T i).2.1 (T i).2.2.1 ∈ BIG) (hsame : Cond.sameField ref (T i).1 (T i).2.1 (T i).2.2.1 ∈ BIG) (hfin : (T i).2.2.2 = false) (hn : narrow (ty0 i) v = v) (hfit : fits (ty0 i) v = true) (hl : i < fs.length)
    (hp : ∀ h, P h → P' (hu h a (ob ci (fs.set i v)))) (kk : WR K G A Q P' lv k n (pc + 3) st) : WR K G A Q P lv k n pc (v :: .ref a :: st) :=
  R_putf0 C d hg hc hin hty hnm hk (C.ts _ hlink) (fun x q => u_same (C.ts _ hsame) x q) hfin hn hfit hl hp kk
/-- a final field, in its constructor -/
theorem R_putF (C : CX K G A own cc nL ret rm tb) {P' : Hp → Prop} {a ci i idx N : Nat} {fs : List Value} {Cn : String} {T : u_T} {ty0 : Nat → FieldType} {v : Value} (d : decode cc pc = .ok (.putfield idx, 3)) (hg : ∀ h, P h → h a = some (ob ci fs)) (hc : vwCl[ci]? = some (Cn, T, N)) (hin : ∀ w ∈ u_ws Cn T N, w ∈ BIG)
    (hty : ∀ k, k < N → parseFieldDescriptor (T k).2.2.1 = some (ty0 k)) (hnm : ∀ a, a < N → ∀ b, b < N → a ≠ b → (T a).2.1 ≠ (T b).2.1) (hk : i < N)
    (hlink : Cond.fieldLink own idx (T i).1 (T i).2.1 (T i).2.2.1 ∈ BIG) (hfin : (T i).2.2.2 = true) (hin2 : K.meth.name = "<init>") (hdecl : (T i).1 = own) (hn : narrow (ty0 i) v = v) (hfit : fits (ty0 i) v = true) (hl : i < fs.length)
    (hp : ∀ h, P h → P' (hu h a (ob ci (fs.set i v)))) (kk : WR K G A Q P' lv k n (pc + 3) st) : WR K G A Q P lv k n pc (v :: .ref a :: st) := by
  intro h H locs ls h0 h1 h2 h3 h4
  have he := hg h h0
  have hap := va_apart (own := own) C.ts hin ty0 hty hnm C.kn hc
  obtain ⟨r, g1, cell, q1, q2, q3, q4⟩ := h1 a _ he
  have hr : r = (Cn, T, N) := Option.some.inj (g1.symm.trans hc)
  subst hr
  obtain ⟨hS, hfc, kC, hkC, hkind⟩ := C.kn.1 ci _ hc
  obtain ⟨cf, kf, fi, f, hi, hsl⟩ := hS i hk
  have hlay := C.ts _ (hin _ (u_in_lay hk))
  unfold u_lay at hlay
  rw [if_pos hfin] at hlay
  have hst := (u_facts hfc hkC (u_lays C.ts hin hk) hi).1
  have hcf : K.m.cls = cf := by
    obtain ⟨_, _, c', _, _, _, -, -, hf', -, -, -, hown2, -⟩ := Cond.laysFinal_spec hlay
    have e1 : c' = cf := by have := hi.symm.trans hf'; simp at this; exact this.1.symm
    rw [hdecl] at hown2
    rw [← e1]; exact Option.some.inj (C.ow.symm.trans hown2)
  have h6 := u_fits hfc hkC hkind (Or.inr hlay) hi (hty i hk) hn hfit
  refine W.putFinK C.ex C.cd C.ow (C.ts _ hlink) hi hst hcf hin2 (by rw [q2]; exact h6) q1 q3 (by rw [hsl]; exact k2_hasslot (q4 i hk)) rfl rfl d fun H' e1 e2 e3 => ?_
  rw [hsl] at e1 ⊢
  exact kk _ H' _ ls (hp h h0) (h1.put ⟨_, hc, t_OB.to (V := updV (vp_V fs) i v) ⟨_, e1, q2, q3, t_set q4 hap hk v⟩ (fun j _ => vp_updV_set hl v j)⟩ e3) (dom_put h2 he) (h3.put e2 e3 (h2 a (by rw [he]; exact fun q => by cases q))) h4
theorem R_new (C : CX K G A own cc nL ret rm tb) {P' : Nat → Hp → Prop} {ci idx N : Nat} {fs : List Value} {Cn : String} {T : u_T} {ty0 : Nat → FieldType} (d : decode cc pc = .ok (.new idx, 3)) (hc : vwCl[ci]? = some (Cn, T, N)) (hin : ∀ w ∈ u_ws Cn T N, w ∈ BIG)
    (hty : ∀ k, k < N → parseFieldDescriptor (T k).2.2.1 = some (ty0 k)) (hcl : Cond.classLink own idx Cn ∈ BIG) (hinst : Cond.instantiable Cn N ∈ BIG) (hini : Cond.initialized Cn ∈ BIG) (hfs : ∀ j, j < N → defaultValue (ty0 j) = vp_V fs j) (hcells : k + 1 ≤ rm.cells) (hslots : n + N ≤ rm.slots)
    (hp : ∀ h q, P h → h q = none → P' q (hu h q (ob ci fs))) (kk : ∀ q, WR K G A Q (P' q) lv (k + 1) (n + N) (pc + 3) (.ref q :: st)) : WR K G A Q P lv k n pc st := by
  intro h H locs ls h0 h1 h2 h3 h4
  have hKn := C.kn.1 ci _ hc
  refine W.newcK C.ex C.cd C.ow (C.ts _ hcl) (C.ts _ hinst) (C.ts _ hini) rfl d (by rw [C.rom]; exact hcells) (by rw [C.rom]; exact hslots) hKn.2.1 rfl fun H1 kC hkC e1 z1 o1 => ?_
  exact kk H.size _ H1 _ ls (hp h H.size h0 h1.new) (h1.push ⟨_, hc, (u_born ty0 C.ts hin hKn hkC e1 hty).to hfs⟩ o1) (dom_new h2 (C.fr _ h3.1)) ⟨Nat.le_trans h3.1 (by omega), fun x g1 g2 => (o1 x (Nat.lt_of_lt_of_le g1 h3.1)).trans (h3.2.1 x g1 g2), h3.2.2⟩ h4
theorem R_newarr (C : CX K G A own cc nL ret rm tb) {P' : Nat → Hp → Prop} {t N : Nat} {ty : FieldType} {atype : ArrayType} {i : Int32} {a0 : vp_A} (d : decode cc pc = .ok (.newarray atype, 2)) (hty : newarray.typeOf atype = ty) (harr : Cond.arrayClass ty ∈ BIG) (ht : ∀ cy, (tyl cy)[t]? = some (cy t, ty)) (hprim : ∀ x, ty ≠ .object x) (ha : ∀ cA : ClassId, vp_cell cA a0 = arrV cA N (fun _ => defaultValue ty))
    (hi : i = nI N) (hN : N ≤ 1000) (hby : componentBytes ty ≤ 8) (hcells : k + 1 ≤ rm.cells) (hslots : n + N ≤ rm.slots)
    (hp : ∀ h q, P h → h q = none → P' q (hu h q (.inl (G.2.1 t, a0)))) (kk : ∀ q, WR K G A Q (P' q) lv (k + 1) (n + N) (pc + 2) (.ref q :: st)) : WR K G A Q P lv k n pc (.int i :: st) := by
  subst hty
  subst hi
  intro h H locs ls h0 h1 h2 h3 h4
  have hN2 : N < 2 ^ 31 := by omega
  refine va_newaK C.ex C.cd (C.ts _ harr) rfl d rfl (nI_pos hN2) (nI_clamp hN2) (Nat.le_trans (Nat.mul_le_mul hN hby) (by decide)) (by rw [C.rom]; exact hcells) (by rw [C.rom]; exact hslots) rfl fun H1 cA e1 z1 o1 hAr hNm => ?_
  have hra := (C.kn.2 t _ (ht G.2.1)).2
  have hcA : cA = G.2.1 t := by
    have h9 : K.s.vm.findClass ("[" ++ (newarray.typeOf atype).toString) = some (G.2.1 t) := by
      cases atype <;> exact hra
    exact Option.some.inj (hNm.symm.trans h9)
  subst hcA
  exact kk H.size _ H1 _ ls (hp h H.size h0 h1.new) (h1.push (show H1[H.size]? = some (vp_cell _ _) by rw [ha]; exact e1) o1) (dom_new h2 (C.fr _ h3.1)) ⟨Nat.le_trans h3.1 (by omega), fun x g1 g2 => (o1 x (Nat.lt_of_lt_of_le g1 h3.1)).trans (h3.2.1 x g1 g2), h3.2.2⟩ h4
theorem R_anew (C : CX K G A own cc nL ret rm tb) {P' : Nat → Hp → Prop} {N idx : Nat} {i : Int32} (d : decode cc pc = .ok (.anewarray idx, 3)) (hcl : Cond.classLink own idx "java/lang/Object" ∈ BIG) (hov : (Cond.arrayOver (.object "java/lang/Object")).before K.args K.s = true)
    (hi : i = nI N) (hN : N ≤ 1000) (hcells : k + 1 ≤ rm.cells) (hslots : n + N ≤ rm.slots)
    (hp : ∀ h q, P h → h q = none → P' q (hu h q (aO G N (fun _ => none)))) (kk : ∀ q, WR K G A Q (P' q) lv (k + 1) (n + N) (pc + 3) (.ref q :: st)) : WR K G A Q P lv k n pc (.int i :: st) := by
  subst hi
  intro h H locs ls h0 h1 h2 h3 h4
  have hN2 : N < 2 ^ 31 := by omega
  have hcl2 := nI_clamp hN2
  refine W.anew C.ex C.cd C.ow (C.ts _ hcl) hov rfl d rfl (nI_pos hN2) (by rw [hcl2]; omega) (by rw [C.rom]; exact hcells) (by rw [C.rom, hcl2]; exact hslots) fun cA kA comp f1 f2 f3 f4 => ?_
  rw [hcl2]
  obtain ⟨kA2, comp2, k1, k2, k3, k4⟩ := (C.kn.2 4 (G.2.1 4, .object "java/lang/Object") rfl).2
  have hcA : cA = G.2.1 4 := Option.some.inj (f1.symm.trans k4)
  subst hcA
  generalize hH1 : H.push ({ cls := G.2.1 4, slots := Array.replicate N .null, vm := .none } : Cell) = H1
  have z1 : H1.size = H.size + 1 := by rw [← hH1, Array.size_push]
  have e1 : H1[H.size]? = some (arrV (G.2.1 4) N (fun _ => .null)) := by rw [← hH1, Array.getElem?_push_size, ← arrV_new]
  have o1 : ∀ q : Nat, q < H.size → H1[q]? = H[q]? := fun q hq => by rw [← hH1, Array.getElem?_push, if_neg (Nat.ne_of_lt hq)]
  exact kk H.size _ H1 _ ls (hp h H.size h0 h1.new) (h1.push (show H1[H.size]? = some (vp_cell _ _) by rw [vp_cell_q]; exact e1) o1) (dom_new h2 (C.fr _ h3.1)) ⟨Nat.le_trans h3.1 (by omega), fun x g1 g2 => (o1 x (Nat.lt_of_lt_of_le g1 h3.1)).trans (h3.2.1 x g1 g2), h3.2.2⟩ h4
theorem R_alen (C : CX K G A own cc nL ret rm tb) {a t : Nat} {x : vp_A} {ty : FieldType} {v : Int32} (d : decode cc pc = .ok (.arraylength, 1)) (hg : ∀ h, P h → h a = some (.inl (G.2.1 t, x))) (ht : (tyl G.2.1)[t]? = some (G.2.1 t, ty)) (hv : Int32.ofNat x.1 = v) (kk : WR K G A Q P lv k n (pc + 1) (.int v :: st)) : WR K G A Q P lv k n pc (.ref a :: st) :=
  fun h H locs ls h0 h1 h2 h3 h4 => va_alen C.ex C.cd C.kn (h1.one (hg h h0)) 0 t rfl ht hv d (kk h H locs ls h0 h1 h2 h3 h4)
theorem R_iald (C : CX K G A own cc nL ret rm tb) {a N j : Nat} {f : Nat → Int32} {i v : Int32} (d : decode cc pc = .ok (.iaload, 1)) (hg : ∀ h, P h → h a = some (aI G N f)) (hi : i = nI j) (hj : j < N) (hN : N < 2 ^ 31) (hv : f j = v) (kk : WR K G A Q P lv k n (pc + 1) (.int v :: st)) : WR K G A Q P lv k n pc (.int i :: .ref a :: st) := by
  subst hi; subst hv
  have e := nI_clamp (Nat.lt_trans hj hN)
  exact fun h H locs ls h0 h1 h2 h3 h4 => va_iald C.ex C.cd C.kn (h1.one (hg h h0)) 0 0 rfl rfl (vp_in_nI hj hN) d (by rw [e]; exact kk h H locs ls h0 h1 h2 h3 h4)
theorem R_bald (C : CX K G A own cc nL ret rm tb) {a N j : Nat} {f : Nat → Int32} {i v : Int32} (d : decode cc pc = .ok (.baload, 1)) (hg : ∀ h, P h → h a = some (aB G N f)) (hi : i = nI j) (hj : j < N) (hN : N < 2 ^ 31) (hv : f j = v) (kk : WR K G A Q P lv k n (pc + 1) (.int v :: st)) : WR K G A Q P lv k n pc (.int i :: .ref a :: st) := by
  subst hi; subst hv
  have e := nI_clamp (Nat.lt_trans hj hN)
  exact fun h H locs ls h0 h1 h2 h3 h4 => va_bald C.ex C.cd C.kn (h1.one (hg h h0)) 0 1 rfl rfl (vp_in_nI hj hN) d (by rw [e]; exact kk h H locs ls h0 h1 h2 h3 h4)
theorem R_aald (C : CX K G A own cc nL ret rm tb) {a N j : Nat} {f : Nat → Option Nat} {i : Int32} {v : Value} (d : decode cc pc = .ok (.aaload, 1)) (hg : ∀ h, P h → h a = some (aO G N f)) (hi : i = nI j) (hj : j < N) (hN : N < 2 ^ 31) (hv : va_rf (f j) = v) (kk : WR K G A Q P lv k n (pc + 1) (v :: st)) : WR K G A Q P lv k n pc (.int i :: .ref a :: st) := by
  subst hi; subst hv
  have e := nI_clamp (Nat.lt_trans hj hN)
  exact fun h H locs ls h0 h1 h2 h3 h4 => va_aldq C.ex C.cd C.kn (h1.one (hg h h0)) 0 4 rfl rfl (vp_in_nI hj hN) d (by rw [e]; exact kk h H locs ls h0 h1 h2 h3 h4)
theorem R_iast (C : CX K G A own cc nL ret rm tb) {P' : Hp → Prop} {a N j : Nat} {f : Nat → Int32} {i x : Int32} (d : decode cc pc = .ok (.iastore, 1)) (hg : ∀ h, P h → h a = some (aI G N f)) (hi : i = nI j) (hj : j < N) (hN : N < 2 ^ 31)
    (hp : ∀ h, P h → P' (hu h a (aI G N (upd f j x)))) (kk : WR K G A Q P' lv k n (pc + 1) st) : WR K G A Q P lv k n pc (.int x :: .int i :: .ref a :: st) := by
  subst hi
  have e9 := nI_clamp (Nat.lt_trans hj hN)
  intro h H locs ls h0 h1 h2 h3 h4
  have he := hg h h0
  refine W.iast C.ex C.cd (h1 a _ he) ((C.kn.2 0 _ rfl).1 N (fun j => .int (f j))) (fun q => by cases q) (by show ¬ (nI j < 0 ∨ (arrV _ _ _).slots.size ≤ _); rw [arrV_size]; exact vp_in_nI hj hN) rfl rfl d fun H1 e z oq => ?_
  rw [e9] at e ⊢
  refine kk _ H1 _ ls (hp h h0) (h1.put ?_ oq) (dom_put h2 he) (h3.put z oq (h2 a (by rw [he]; exact fun q => by cases q))) h4
  show H1[a]? = some (vp_cell _ _)
  rw [e, vp_cell_i, vp_cell_i, arrV_store]
  congr 2
  funext q
  by_cases hq : q = j
  · subst hq
    simp [updV, upd]
  · simp [updV, upd, hq]
theorem R_bast (C : CX K G A own cc nL ret rm tb) {P' : Hp → Prop} {a N j : Nat} {f : Nat → Int32} {i x y : Int32} (d : decode cc pc = .ok (.bastore, 1)) (hg : ∀ h, P h → h a = some (aB G N f)) (hi : i = nI j) (hj : j < N) (hN : N < 2 ^ 31) (hy : vp_nar .byte x = y)
    (hp : ∀ h, P h → P' (hu h a (aB G N (upd f j y)))) (kk : WR K G A Q P' lv k n (pc + 1) st) : WR K G A Q P lv k n pc (.int x :: .int i :: .ref a :: st) := by
  subst hi; subst hy
  have e9 := nI_clamp (Nat.lt_trans hj hN)
  intro h H locs ls h0 h1 h2 h3 h4
  have he := hg h h0
  refine W.bast C.ex C.cd (h1 a _ he) ((C.kn.2 1 _ rfl).1 N (fun j => .int (f j))) (fun q => by cases q) (by show ¬ (nI j < 0 ∨ (arrV _ _ _).slots.size ≤ _); rw [arrV_size]; exact vp_in_nI hj hN) rfl rfl d fun H1 e z oq => ?_
  rw [e9] at e ⊢
  refine kk _ H1 _ ls (hp h h0) (h1.put ?_ oq) (dom_put h2 he) (h3.put z oq (h2 a (by rw [he]; exact fun q => by cases q))) h4
  show H1[a]? = some (vp_cell _ _)
  rw [e, vp_cell_i, vp_cell_i, arrV_store]
  congr 2
  funext q
  by_cases hq : q = j
  · subst hq
    simp [updV, upd, vp_nar]
    try rfl
  · simp [updV, upd, hq]
/-- an object of class ci laid into an Object[] -/
theorem R_aast (C : CX K G A own cc nL ret rm tb) {P' : Hp → Prop} {a N j v ci : Nat} {r : vw_C} {vs : List Value} {f : Nat → Option Nat} {i : Int32} (d : decode cc pc = .ok (.aastore, 1)) (hg : ∀ h, P h → h a = some (aO G N f)) (hv : ∀ h, P h → h v = some (ob ci vs)) (hc : vwCl[ci]? = some r) (hca : va_Nw (.castable r.1 "java/lang/Object") K.s) (hi : i = nI j) (hj : j < N) (hN : N < 2 ^ 31)
    (hp : ∀ h, P h → P' (hu h a (aO G N (va_up f j (some v))))) (kk : WR K G A Q P' lv k n (pc + 1) st) : WR K G A Q P lv k n pc (.ref v :: .int i :: .ref a :: st) := by
  subst hi
  have e9 := nI_clamp (Nat.lt_trans hj hN)
  intro h H locs ls h0 h1 h2 h3 h4
  have he := hg h h0
  obtain ⟨r', hr', cellV, g1, g2, g3, -⟩ := h1 v _ (hv h h0)
  have hcls := (C.kn.1 ci r hc).2
  obtain ⟨kA, comp, k1, k2, k3, -⟩ := (C.kn.2 4 (G.2.1 4, .object "java/lang/Object") rfl).2
  obtain ⟨kE, hkE, -⟩ := Vm.findClass_spec k3
  obtain ⟨c0, t1, f1, f2, f3⟩ := Cond.castable_spec (va_Nw.use (A := K.args) rfl hca)
  cases hcls.1.symm.trans f1
  cases k3.symm.trans f2
  obtain ⟨kC, hkC, -⟩ := hcls.2
  refine W.aast C.ex C.cd (h1 a _ he) (fun q h => by cases h) (fun h => by cases h) k1 k2 rfl hkE ⟨nI_pos (Nat.lt_trans hj hN), by show _ < (arrV _ _ _).slots.size; rw [arrV_size, e9]; exact hj⟩ g1 (fun q h => by rw [g3] at h; cases h) (by rw [g2]; exact hkC) (by rw [g2]; exact f3) rfl rfl d fun H1 e z oq => ?_
  rw [e9] at e ⊢
  refine kk _ H1 _ ls (hp h h0) (h1.put ?_ oq) (dom_put h2 he) (h3.put z oq (h2 a (by rw [he]; exact fun q => by cases q))) h4
  show H1[a]? = some (vp_cell _ _)
  rw [e, vp_cell_q, vp_cell_q, arrV_store]
  congr 2
  funext q
  by_cases hq : q = j
  · subst hq
    simp [updV, va_up, va_rf]
  · simp [updV, va_up, hq]
theorem R_gets (C : CX K G A own cc nL ret rm tb) {Cn nm ds : String} {v : Value} {idx : Nat} (d : decode cc pc = .ok (.getstatic idx, 3)) (hZ : va_Z Cn nm ds v A K.s K.s.heap) (hlink : Cond.fieldLink own idx Cn nm ds ∈ BIG) (kk : WR K G A Q P lv k n (pc + 3) (v :: st)) : WR K G A Q P lv k n pc st :=
  fun h H locs ls h0 h1 h2 h3 h4 => va_gets C.ex C.cd hZ h3 C.ow (C.ts _ hlink) (fun _ q => q) d (kk h H locs ls h0 h1 h2 h3 h4)
theorem R_ldcS (C : CX K G A own cc nL ret rm tb) {tx : String} {idx q : Nat} (d : decode cc pc = .ok (.ldc idx, 2)) (hZ : vk_R own idx tx q K.s) (kk : WR K G A Q P lv k n (pc + 2) (.ref q :: st)) : WR K G A Q P lv k n pc st :=
  fun h H locs ls h0 h1 h2 h3 h4 => va_ldcS C.ex C.cd C.ow hZ d (kk h H locs ls h0 h1 h2 h3 h4)
theorem R_cast (C : CX K G A own cc nL ret rm tb) {a ci idx : Nat} {fs : List Value} {Cn : String} {T : u_T} {N : Nat} (d : decode cc pc = .ok (.checkcast idx, 3)) (hg : ∀ h, P h → h a = some (ob ci fs)) (hc : vwCl[ci]? = some (Cn, T, N)) (hlink : Cond.classLink own idx Cn ∈ BIG) (kk : WR K G A Q P lv k n (pc + 3) (.ref a :: st)) : WR K G A Q P lv k n pc (.ref a :: st) :=
  fun h H locs ls h0 h1 h2 h3 h4 => va_castE C.ex C.cd C.ow (C.ts _ hlink) (va_recv C.kn (h1.one (hg h h0)) (q0 := 0) hc rfl) d (kk h H locs ls h0 h1 h2 h3 h4)
theorem R_objInit (C : CX K G A own cc nL ret rm tb) {a idx : Nat} (d : decode cc pc = .ok (.invokespecial idx, 3)) (hlink : Cond.methodLink own idx objectInit ∈ BIG) (hlen : lv.length = nL) (hR : 1 ≤ rm.frames ∧ (st.map fun v => v.category).sum + 12 ≤ rm.locals) (kk : WR K G A Q P lv k n (pc + 3) st) : WR K G A Q P lv k n pc (.ref a :: st) :=
  fun h H locs ls h0 h1 h2 h3 h4 => W.objInit C.ex C.cd C.ow (C.ts _ hlink) (C.ts _ km_oi) (C.ts _ km_oc) rfl (by show ls.size = _; rw [C.mxl, ← hlen]; exact h4.1) rfl d (by rw [C.rom]; exact hR.1) (by rw [C.rom]; show 2 * 0 + _ + 12 ≤ _; omega) (kk h H locs ls h0 h1 h2 h3 h4)
theorem R_mmax (C : CX K G A own cc nL ret rm tb) {idx : Nat} {x y : Int32} (d : decode cc pc = .ok (.invokestatic idx, 3)) (hlink : Cond.methodLink own idx Lib.Math.max.name ∈ BIG) (hlen : lv.length = nL) (hR : 1 ≤ rm.frames ∧ (st.map fun v => v.category).sum + 13 ≤ rm.locals) (hcs : k ≤ rm.cells ∧ n ≤ rm.slots) (kk : WR K G A Q P lv k n (pc + 3) (.int (if x < y then y else x) :: st)) : WR K G A Q P lv k n pc (.int y :: .int x :: st) :=
  fun h H locs ls h0 h1 h2 h3 h4 => va_mmax C.ex C.cd (by rw [C.mxl, h4.1, hlen]) C.ow (C.ts _ hlink) (C.ts _ km_max_s) (C.ts _ km_i) (C.ts _ km_max_c) (by rw [C.rom]; exact hR.1) (by rw [C.rom]; exact hR.2) (by rw [C.rom]; exact hcs.1) (by rw [C.rom]; exact hcs.2) d (kk h H locs ls h0 h1 h2 h3 h4)
theorem R_mmin (C : CX K G A own cc nL ret rm tb) {idx : Nat} {x y : Int32} (d : decode cc pc = .ok (.invokestatic idx, 3)) (hlink : Cond.methodLink own idx Lib.Math.min.name ∈ BIG) (hlen : lv.length = nL) (hR : 1 ≤ rm.frames ∧ (st.map fun v => v.category).sum + 13 ≤ rm.locals) (hcs : k ≤ rm.cells ∧ n ≤ rm.slots) (kk : WR K G A Q P lv k n (pc + 3) (.int (if y < x then y else x) :: st)) : WR K G A Q P lv k n pc (.int y :: .int x :: st) :=
  fun h H locs ls h0 h1 h2 h3 h4 => va_mmin C.ex C.cd (by rw [C.mxl, h4.1, hlen]) C.ow (C.ts _ hlink) (C.ts _ km_min_s) (C.ts _ km_i) (C.ts _ km_min_c) (by rw [C.rom]; exact hR.1) (by rw [C.rom]; exact hR.2) (by rw [C.rom]; exact hcs.1) (by rw [C.rom]; exact hcs.2) d (kk h H locs ls h0 h1 h2 h3 h4)
theorem R_mabs (C : CX K G A own cc nL ret rm tb) {idx : Nat} {x : Int32} (d : decode cc pc = .ok (.invokestatic idx, 3)) (hlink : Cond.methodLink own idx Lib.Math.abs.name ∈ BIG) (hlen : lv.length = nL) (hR : 1 ≤ rm.frames ∧ (st.map fun v => v.category).sum + 13 ≤ rm.locals) (hcs : k ≤ rm.cells ∧ n ≤ rm.slots) (kk : WR K G A Q P lv k n (pc + 3) (.int (if 0 ≤ x then x else 0 - x) :: st)) : WR K G A Q P lv k n pc (.int x :: st) :=
  fun h H locs ls h0 h1 h2 h3 h4 => va_mabs C.ex C.cd (by rw [C.mxl, h4.1, hlen]) C.ow (C.ts _ hlink) (C.ts _ km_abs_s) (C.ts _ km_i) (C.ts _ km_abs_c) (by rw [C.rom]; exact hR.1) (by rw [C.rom]; exact hR.2) (by rw [C.rom]; exact hcs.1) (by rw [C.rom]; exact hcs.2) d (kk h H locs ls h0 h1 h2 h3 h4)
end
/-- a method's room by its depth -/
def rmD (dp mc ms : Nat) : Room := { frames := 6 + dp, cells := mc, slots := ms, locals := 120 + 40 * dp }
def HR (G : GT) (h : Hp) (U : State) : Prop := Rep G.1 h U.heap ∧ va_K G.1 vwCl (tyl G.2.1) U ∧ ST G (AH h U.heap.size) U U.heap
def QV (G : GT) (h0 : Hp) (sz : Nat) (PV : Option Value → Hp → Prop) : Array Value → State → Outcome → State → Prop := fun _ st oc t => (∃ (v : Option Value) (h1 : Hp), oc = .returned v ∧ PV v h1 ∧ Rep G.1 h1 t.heap ∧ ∀ a, h1 a ≠ none → AH h0 sz a) ∧ va_F (AH h0 sz) st t
def XV (G : GT) (h0 : Hp) (sz : Nat) (PX : String → Hp → Prop) : String → State → State → Prop := fun E st t => (∃ h1 : Hp, PX E h1 ∧ Rep G.1 h1 t.heap ∧ ∀ a, h1 a ≠ none → AH h0 sz a) ∧ va_F (AH h0 sz) st t
abbrev PRE (G : GT) (h0 : Hp) (sz : Nat) (vs : List Value) : Array Value → State → Prop := va_Pc vs (fun U => U.heap.size = sz ∧ HR G h0 U)
/-- CONTRACT of a method that returns: from the heap h0 with the arguments vs; PV says its answer and its heap -/
def CN (l : Launch) (y : MethodName) (cc : ByteArray) (mL : Nat) (ret : Option FieldType) (dp mc ms : Nat) (vs : List Value) (G : GT) (h0 : Hp) (PV : Option Value → Hp → Prop) : Prop :=
  ∀ sz, Met l y (.code y cc mL ret :: BIG) (rmD dp mc ms) (PRE G h0 sz vs) (QV G h0 sz PV) mc ms (AH h0 sz)
/-- CONTRACT of a method that returns or throws -/
def CT (l : Launch) (y : MethodName) (cc : ByteArray) (mL : Nat) (ret : Option FieldType) (dp mc ms : Nat) (vs : List Value) (G : GT) (h0 : Hp) (PV : Option Value → Hp → Prop) (PX : String → Hp → Prop) : Prop :=
  ∀ sz, vx_Met l y (.code y cc mL ret :: BIG) (rmD dp mc ms) (PRE G h0 sz vs) (QV G h0 sz PV) (XV G h0 sz PX) mc ms (AH h0 sz)
def QM (K : KT) (G : GT) (h0 : Hp) (sz mc ms : Nat) (PV : Option Value → Hp → Prop) : State → Prop := MQ K.below (QV G h0 sz PV) K.args K.s mc ms (AH h0 sz)
def QE (K : KT) (G : GT) (h0 : Hp) (sz mc ms : Nat) (PV : Option Value → Hp → Prop) (PX : String → Hp → Prop) : State → Prop := vx_MQ K.below (QV G h0 sz PV) (XV G h0 sz PX) K.args K.s mc ms (AH h0 sz)
theorem PRE.blind {G : GT} {h0 : Hp} {sz : Nat} {vs : List Value} : FrameBlind (PRE G h0 sz vs) := by
  intro a U g mk q
  obtain ⟨q0, q1, q2, q3, q4⟩ := q
  exact ⟨q0, q1, q2, va_K.moved (u := U) (U := U.calling g mk a) (Vm.Alike.refl U.vm) q3, ST.same (s := U) (U := U.calling g mk a) rfl q4⟩
theorem wsGood {y : MethodName} {cc : ByteArray} {mL : Nat} {ret : Option FieldType} (h : Cond.code y cc mL ret ∈ BIG) : GoodIn BIG (.code y cc mL ret :: BIG) := fun w hw => (List.mem_cons.mp hw).elim (fun e => e ▸ gBIG _ h) (fun q => gBIG w q)
theorem CN.of {l : Launch} {y : MethodName} {cc : ByteArray} {mL : Nat} {ret : Option FieldType} {dp mc ms : Nat} {vs : List Value} {G : GT} {h0 : Hp} {PV : Option Value → Hp → Prop} (hl : l.stackTraces = false) (hy : plainName y.cls = true) (hc : vs.all (fun v => v.category == 1) = true) (hn : vs.length ≤ mL)
    (body : ∀ (K : KT) (sz : Nat), K.l = l → K.meth.name = y.name → CX K G (AH h0 sz) y.cls cc mL ret (rmD dp mc ms) [] → WR K G (AH h0 sz) (QM K G h0 sz mc ms PV) (Eq h0) (lv0 vs mL) 0 0 0 []) : CN l y cc mL ret dp mc ms vs G h0 PV := by
  intro sz
  have hc' : ∀ v ∈ vs, v.category = 1 := fun v hv => by simpa using List.all_eq_true.mp hc v hv
  refine Met.ofW (cc := cc) (maxL := mL) (ret := ret) hy rfl ?_
  intro p e s m args below meth c s₁ B hml hv
  obtain ⟨rfl, hsz, hRep, hK, hST⟩ := hv
  subst hsz
  have hts := atoms_spec (ws := .code y cc mL ret :: BIG) B.pre
  have htb : c.exceptionTable.toList = [] := by
    obtain ⟨meth9, c9, h1, h2, -, -, -, -, h7, -⟩ := Cond.code_spec B.named (hts _ List.mem_cons_self)
    cases Option.some.inj (h1.symm.trans B.method)
    cases Option.some.inj (h2.symm.trans (Stand.of_body B).code)
    rw [Array.isEmpty_iff.mp h7]
  have C : CX (p, l, e, rmD dp mc ms, s, m, vs.toArray, below, meth, c) G (AH h0 s.heap.size) y.cls cc mL ret (rmD dp mc ms) [] :=
    ⟨B.exec, B.bytes, hml, findClass_of_methodNamed B.named, fun w hw => hts w (List.mem_cons_of_mem _ hw), hK, hST, fun q hq => Or.inr hq, B.returns, B.notSynchronized, hl, rfl, htb⟩
  rw [lg_entry_eq]
  exact body (p, l, e, rmD dp mc ms, s, m, vs.toArray, below, meth, c) s.heap.size rfl (name_of_methodNamed B.named B.method).1 C h0 s.heap [] _ rfl hRep (fun a ha => Or.inl ha) va_S.rf (LV.start hc' hn)
theorem CT.of {l : Launch} {y : MethodName} {cc : ByteArray} {mL : Nat} {ret : Option FieldType} {dp mc ms : Nat} {vs : List Value} {G : GT} {h0 : Hp} {PV : Option Value → Hp → Prop} {PX : String → Hp → Prop} (hl : l.stackTraces = false) (hy : plainName y.cls = true) (hc : vs.all (fun v => v.category == 1) = true) (hn : vs.length ≤ mL)
    (body : ∀ (K : KT) (sz : Nat), K.l = l → CX K G (AH h0 sz) y.cls cc mL ret (rmD dp mc ms) [] → WR K G (AH h0 sz) (QE K G h0 sz mc ms PV PX) (Eq h0) (lv0 vs mL) 0 0 0 []) : CT l y cc mL ret dp mc ms vs G h0 PV PX := by
  intro sz
  have hc' : ∀ v ∈ vs, v.category = 1 := fun v hv => by simpa using List.all_eq_true.mp hc v hv
  refine vx_ofW (cc := cc) (maxL := mL) (ret := ret) hy rfl ?_
  intro p e s m args below meth c s₁ B hml hx hv
  obtain ⟨rfl, hsz, hRep, hK, hST⟩ := hv
  subst hsz
  have hts := atoms_spec (ws := .code y cc mL ret :: BIG) B.pre
  have htb : c.exceptionTable.toList = [] := List.eq_nil_iff_forall_not_mem.mpr (fun x q => hx x q)
  have C : CX (p, l, e, rmD dp mc ms, s, m, vs.toArray, below, meth, c) G (AH h0 s.heap.size) y.cls cc mL ret (rmD dp mc ms) [] :=
    ⟨B.exec, B.bytes, hml, findClass_of_methodNamed B.named, fun w hw => hts w (List.mem_cons_of_mem _ hw), hK, hST, fun q hq => Or.inr hq, B.returns, B.notSynchronized, hl, rfl, htb⟩
  rw [lg_entry_eq]
  exact body (p, l, e, rmD dp mc ms, s, m, vs.toArray, below, meth, c) s.heap.size rfl C h0 s.heap [] _ rfl hRep (fun a ha => Or.inl ha) va_S.rf (LV.start hc' hn)
