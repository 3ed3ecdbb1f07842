/-! 49: rows for the law's body: its argument, that never changes. My own. -/
section
variable {K : KT} {G : GT} {A : Nat → Prop} {own : String} {cc : ByteArray} {nL : Nat} {ret : Option FieldType} {rm : Room} {tb : List ExceptionTableEntry} {Q : State → Prop} {P : Hp → Prop} {lv : List (Option Value)} {k n pc : Nat} {st : List Value}
theorem R_tial (C : CX K G A own cc nL ret rm tb) {q N j : Nat} {f : Nat → Int32} {i v : Int32} (d : decode cc pc = .ok (.iaload, 1)) (hT : va_T .int q N (fun j => .int (f j)) A K.s K.s.heap) (hi : i = nI j) (hj : j < N) (hN : N < 2 ^ 31) (hv : f j = v) (kk : WR K G A Q P lv k n (pc + 1) (.int v :: st)) : WR K G A Q P lv k n pc (.int i :: .ref q :: st) := by
  subst hi
  have e9 := nI_clamp (Nat.lt_trans hj hN)
  exact fun h H locs ls h0 h1 h2 h3 h4 => va_ti C.ex C.cd hT h3 (vp_in_nI hj hN) (by rw [e9, hv]) d (kk h H locs ls h0 h1 h2 h3 h4)
end
