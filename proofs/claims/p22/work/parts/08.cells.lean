/-! 08: the cells in clean words; what holds of a state. My own. -/
section
variable {G : GT} {adr : Nat → Nat} {n P : Nat} {F mu : Nat → Nat → Int32} {g : Nat → Int64} {Sc Sm : St}
theorem wc0 : ∀ h, Wd G (adr, (n, P, F), Sm, mu, g) h → h (adr 0) = some (ob 4 (xFs adr P F)) := Wd.at (r := 0) rfl
theorem wc1 : ∀ h, Wd G (adr, (n, P, F), Sm, mu, g) h → h (adr 1) = some (ob 2 [.int (nI n), .ref (if n = 0 then G.2.2 0 else adr 2), .int (nI n)]) := Wd.at (r := 1) rfl
theorem wc2 (h0 : n ≠ 0) : ∀ h, Wd G (adr, (n, P, F), Sm, mu, g) h → h (adr 2) = some (aO G 10 (fun j => if j < n then some (adr (30 + j)) else none)) := Wd.at (r := 2) (show cellX G adr (n, P, F) 2 = _ from if_neg h0)
theorem wc3 : ∀ h, Wd G (adr, (n, P, F), Sm, mu, g) h → h (adr 3) = some (aI G 3 (F 14)) := Wd.at (r := 3) rfl
theorem wc4 : ∀ h, Wd G (adr, (n, P, F), Sm, mu, g) h → h (adr 4) = some (aI G 5 (F 15)) := Wd.at (r := 4) rfl
theorem wcw {i : Nat} (hi : i < n) (hn : n ≤ 8) : ∀ h, Wd G (adr, (n, P, F), Sm, mu, g) h → h (adr (30 + i)) = some (ob 3 (wellFs adr F i)) := Wd.at (r := 30 + i) (c_well hi (by omega))
theorem wcs {i : Nat} (hi : i < n) (hn : n ≤ 8) : ∀ h, Wd G (adr, (n, P, F), Sm, mu, g) h → h (adr (40 + i)) = some (ob 0 [.ref (adr (50 + i)), .int 0, .int 0, .int 0]) := Wd.at (r := 40 + i) (c_str hi (by omega))
theorem wcb {i : Nat} (hi : i < n) (hn : n ≤ 8) : ∀ h, Wd G (adr, (n, P, F), Sm, mu, g) h → h (adr (50 + i)) = some (aB G (tx (F 0 i).toNatClampNeg (F 1 i).toNatClampNeg i).length (txb (F 0 i).toNatClampNeg (F 1 i).toNatClampNeg i)) := Wd.at (r := 50 + i) (c_byt hi (by omega))
theorem wcl {i : Nat} (hi : i < n) (hn : n ≤ 8) : ∀ h, Wd G (adr, (n, P, F), Sm, mu, g) h → h (adr (60 + i)) = some (aI G 8 (lrow F i)) := Wd.at (r := 60 + i) (c_lent hi (by omega))
theorem wmw : ∀ h, Wd G (adr, Sc, (n, P, F), mu, g) h → h (adr 5) = some (aI G 45 (wRow F)) := Wd.at (r := 5) rfl
theorem wmb : ∀ h, Wd G (adr, Sc, (n, P, F), mu, g) h → h (adr 6) = some (aI G 20 (bRow F)) := Wd.at (r := 6) rfl
theorem wml : ∀ h, Wd G (adr, Sc, (n, P, F), mu, g) h → h (adr 7) = some (aI G 25 (oRow F)) := Wd.at (r := 7) rfl
theorem wmr : ∀ h, Wd G (adr, Sc, (n, P, F), mu, g) h → h (adr 8) = some (aI G 5 (mu 1)) := Wd.at (r := 8) rfl
theorem wmh : ∀ h, Wd G (adr, Sc, (n, P, F), mu, g) h → h (adr 9) = some (aI G 5 (mu 2)) := Wd.at (r := 9) rfl
theorem wmq : ∀ h, Wd G (adr, Sc, (n, P, F), mu, g) h → h (adr 10) = some (aI G 12 (qRow n P F)) := Wd.at (r := 10) rfl
end
/-- an int between, as a natural -/
def Bt (x : Int32) (m : Nat) : Prop := ∃ j : Nat, j ≤ m ∧ x = nI j
/-- what holds of every state that calls reach -/
def Ok (n P : Nat) (F : Nat → Nat → Int32) : Prop :=
  n ≤ 8 ∧ P ≤ 5 ∧ Bt (F 16 1) 60 ∧ ∀ i, (i < n → Bt (F 0 i) 2 ∧ Bt (F 1 i) 99) ∧ Bt (F 5 i) 1000 ∧ Bt (F 6 i) 2000 ∧ Bt (F 7 i) 1 ∧ Bt (F 8 i) 1000 ∧ Bt (F 11 i) 2000 ∧ Bt (F 12 i) 3000
theorem inc1 {i : Nat} : nI i + Int32.ofInt 1 = nI (i + 1) := nI_1 i
theorem nI_lt_iff {a b : Nat} (ha : a < 2 ^ 31) (hb : b < 2 ^ 31) : nI a < nI b ↔ a < b := nI_ltI ha hb
theorem isOb_of {P : Hp → Prop} {a ci : Nat} {fs : List Value} {cls : String} {T : u_T} {N : Nat} (hg : ∀ h, P h → h a = some (ob ci fs)) (hc : vwCl[ci]? = some (cls, T, N)) : isOb P a cls := fun h hh => ⟨ci, fs, T, N, hg h hh, hc⟩

theorem sgn {y : MethodName} {nv : Nat} {vs : List Value} (h : vs.length = nv) (hd : sigD y nv) : sigD y vs.length := h ▸ hd
