/-! 07: the state of the two systems, and their cells. My own. -/
def su (F : Nat → Nat → Int32) (f i : Nat) (v : Int32) : Nat → Nat → Int32 := fun g j => if g = f ∧ j = i then v else F g j
theorem su_s {F : Nat → Nat → Int32} {f i : Nat} {v : Int32} : su F f i v f i = v := if_pos ⟨rfl, rfl⟩
theorem su_f {F : Nat → Nat → Int32} {f g i : Nat} {v : Int32} (h : g ≠ f) : su F f i v g = F g := by funext j; exact if_neg (fun q => h q.1)
theorem su_i {F : Nat → Nat → Int32} {f g i j : Nat} {v : Int32} (h : j ≠ i) : su F f i v g j = F g j := if_neg (fun q => h q.2)
theorem su_u {F : Nat → Nat → Int32} {f i : Nat} {v : Int32} : su F f i v f = upd (F f) i v := by funext j; simp [su, upd]
/-- wells, ponds, registers: 0 layer 1 place 2 level 3 limit 4 age 5 right 6 planned 7 fails 8 power 9 bank 10 fines 11 drew 12 told (by well), 13 lent (8 * from + to), 14 recharge (by layer), 15 places of ponds, 16: 0 fund, 1 years -/
abbrev St : Type := Nat × Nat × (Nat → Nat → Int32)
/-- addresses, the class's state, the law's own, the law's scratch (1: ranks; 2: behind); the last is not used -/
abbrev WT : Type := (Nat → Nat) × St × St × (Nat → Nat → Int32) × (Nat → Int64)
/-- a text's letters -/
def tdig (p : Nat) : List Nat := if p < 10 then [48 + p] else [48 + p / 10, 48 + p % 10]
def tx (l p i : Nat) : List Nat := [108, 97, 121, 101, 114] ++ tdig l ++ [64] ++ tdig p ++ [58] ++ tdig i
def txb (l p i : Nat) : Nat → Int32 := fun j => nI ((tx l p i).getD j 0)
abbrev wellFs (adr : Nat → Nat) (F : Nat → Nat → Int32) (i : Nat) : List Value :=
  [.int (nI i), .int (F 0 i), .int (F 1 i), .int (F 3 i), .int (F 4 i), .int (F 5 i), .ref (adr (40 + i)), .ref (adr (60 + i)), .int (F 2 i), .int (F 6 i), .int (F 11 i), .int (F 12 i), .int (1 - F 7 i), .int (F 8 i), .int (F 9 i), .int (F 10 i)]
/-- a well's row of what it lent -/
def lrow (F : Nat → Nat → Int32) (i : Nat) : Nat → Int32 := fun j => if j < 8 then F 13 (8 * i + j) else 0
def cellX (G : GT) (adr : Nat → Nat) (S : St) : Nat → Option va_E
  | 0 => some (ob 4 [.ref (adr 1), .ref (adr 3), .ref (adr 4), .int (nI S.2.1), .int (S.2.2 16 0), .int (S.2.2 16 1)])
  | 1 => some (ob 2 [.int (nI S.1), .ref (if S.1 = 0 then G.2.2 0 else adr 2), .int (nI S.1)])
  | 2 => if S.1 = 0 then none else some (aO G 10 (fun j => if j < S.1 then some (adr (30 + j)) else none))
  | 3 => some (aI G 3 (S.2.2 14))
  | 4 => some (aI G 5 (S.2.2 15))
  | _ => none
/-- the law's rows: 9 ints a well, 4 ints a bank, what was lent, ranks, levels behind, the scalars with recharges and ponds -/
def wRow (F : Nat → Nat → Int32) : Nat → Int32 := fun a => F (a % 9) (a / 9)
def bRow (F : Nat → Nat → Int32) : Nat → Int32 := fun a => F (9 + a % 4) (a / 4)
def oRow (F : Nat → Nat → Int32) : Nat → Int32 := fun a => F 13 (8 * (a / 5) + a % 5)
def qRow (n P : Nat) (F : Nat → Nat → Int32) : Nat → Int32 := fun a => if a = 0 then nI n else if a = 1 then F 16 1 else if a = 2 then F 16 0 else if a = 3 then nI P else if a < 7 then F 14 (a - 4) else F 15 (a - 7)
def cellM (G : GT) (S : St) (mu : Nat → Nat → Int32) : Nat → Option va_E
  | 0 => some (aI G 45 (wRow S.2.2))
  | 1 => some (aI G 20 (bRow S.2.2))
  | 2 => some (aI G 25 (oRow S.2.2))
  | 3 => some (aI G 5 (mu 1))
  | 4 => some (aI G 5 (mu 2))
  | 5 => some (aI G 12 (qRow S.1 S.2.1 S.2.2))
  | _ => none
def cellW (G : GT) (adr : Nat → Nat) (S : St) (q : Nat) : Option va_E :=
  if q % 10 < S.1 then
    (match q / 10 with
    | 0 => some (ob 3 (wellFs adr S.2.2 (q % 10)))
    | 1 => some (ob 0 [.ref (adr (50 + q % 10)), .int 0, .int 0, .int 0])
    | 2 => some (aB G (tx (S.2.2 0 (q % 10)).toNatClampNeg (S.2.2 1 (q % 10)).toNatClampNeg (q % 10)).length (txb (S.2.2 0 (q % 10)).toNatClampNeg (S.2.2 1 (q % 10)).toNatClampNeg (q % 10)))
    | 3 => some (aI G 8 (lrow S.2.2 (q % 10)))
    | _ => none)
  else none
def cellOf (G : GT) (w : WT) (r : Nat) : Option va_E :=
  if r < 5 then cellX G w.1 w.2.1 r else if r < 30 then cellM G w.2.2.1 w.2.2.2.1 (r - 5) else cellW G w.1 w.2.1 (r - 30)
/-- the world: each part lies at its address, and no two at one -/
def Wd (G : GT) (w : WT) (h : Hp) : Prop := (∀ r e, cellOf G w r = some e → h (w.1 r) = some e) ∧ ∀ r r', cellOf G w r ≠ none → cellOf G w r' ≠ none → w.1 r = w.1 r' → r = r'
theorem Wd.at {G : GT} {w : WT} {r : Nat} {e : va_E} (he : cellOf G w r = some e) : ∀ h, Wd G w h → h (w.1 r) = some e := fun _ H => H.1 r e he
/-- one part is written: the state is another one -/
theorem Wd.put {G : GT} {w w' : WT} {r : Nat} {e0 e1 : va_E} (h0 : cellOf G w r = some e0) (h1 : cellOf G w' r = some e1) (h2 : ∀ q, q ≠ r → cellOf G w' q = cellOf G w q) (ha : w'.1 = w.1) : ∀ h, Wd G w h → Wd G w' (hu h (w.1 r) e1) := by
  intro h H
  have al : ∀ q, cellOf G w' q ≠ none → cellOf G w q ≠ none := by
    intro q hq
    by_cases e : q = r
    · subst e; rw [h0]; exact fun z => by cases z
    · rw [← h2 q e]; exact hq
  refine ⟨fun q e hq => ?_, fun q q' hq hq' he => H.2 q q' (al q hq) (al q' hq') (by rw [ha] at he; exact he)⟩
  by_cases e9 : q = r
  · subst e9
    rw [h1] at hq
    cases hq
    rw [ha]
    exact hu_s
  · have h3 : cellOf G w q = some e := by rw [← h2 q e9]; exact hq
    have h4 : w.1 q ≠ w.1 r := fun z => e9 (H.2 q r (by rw [h3]; exact fun z => by cases z) (by rw [h0]; exact fun z => by cases z) z)
    rw [ha, hu_n h4]
    exact H.1 q e h3
/-- a cell that is no part of the world is made or written -/
theorem Wd.other {G : GT} {w : WT} {h : Hp} {a : Nat} {e : va_E} (H : Wd G w h) (ha : ∀ r, cellOf G w r ≠ none → w.1 r ≠ a) : Wd G w (hu h a e) := by
  refine ⟨fun r x hr => ?_, H.2⟩
  rw [hu_n (ha r (by rw [hr]; exact fun z => by cases z))]
  exact H.1 r x hr
theorem Wd.fresh {G : GT} {w : WT} {h : Hp} {a : Nat} (H : Wd G w h) (ha : h a = none) : ∀ r, cellOf G w r ≠ none → w.1 r ≠ a := by
  intro r hr e
  cases hc : cellOf G w r with
  | none => exact hr hc
  | some x =>
    have := H.1 r x hc
    rw [e, ha] at this
    cases this
section
variable {G : GT} {adr : Nat → Nat} {n P nm Pm : Nat} {F Fm mu : Nat → Nat → Int32} {g : Nat → Int64} {Sc Sm : St}
theorem cX {r : Nat} {w : WT} (h : r < 5) : cellOf G w r = cellX G w.1 w.2.1 r := if_pos h
theorem cM {r : Nat} {w : WT} (h : r < 25) : cellOf G w (5 + r) = cellM G w.2.2.1 w.2.2.2.1 r := by
  rw [cellOf, if_neg (by omega), if_pos (by omega), Nat.add_sub_cancel_left]
theorem cW {i k : Nat} {w : WT} : cellOf G w (30 + (10 * k + i)) = cellW G w.1 w.2.1 (10 * k + i) := by
  rw [cellOf, if_neg (by omega), if_neg (by omega), Nat.add_sub_cancel_left]
theorem c_well {i : Nat} {w : WT} (hi : i < w.2.1.1) (h10 : i < 10) : cellOf G w (30 + i) = some (ob 3 (wellFs w.1 w.2.1.2.2 i)) := by
  have := cW (G := G) (i := i) (k := 0) (w := w)
  rw [Nat.mul_zero, Nat.zero_add] at this
  rw [this, cellW, Nat.mod_eq_of_lt h10, if_pos hi, Nat.div_eq_of_lt h10]
  rfl
theorem c_str {i : Nat} {w : WT} (hi : i < w.2.1.1) (h10 : i < 10) : cellOf G w (40 + i) = some (ob 0 [.ref (w.1 (50 + i)), .int 0, .int 0, .int 0]) := by
  have := cW (G := G) (i := i) (k := 1) (w := w)
  rw [show 30 + (10 * 1 + i) = 40 + i by omega] at this
  rw [this, cellW, show (10 * 1 + i) % 10 = i by omega, if_pos hi, show (10 * 1 + i) / 10 = 1 by omega]
  rfl
theorem c_byt {i : Nat} {w : WT} (hi : i < w.2.1.1) (h10 : i < 10) : cellOf G w (50 + i) = some (aB G (tx (w.2.1.2.2 0 i).toNatClampNeg (w.2.1.2.2 1 i).toNatClampNeg i).length (txb (w.2.1.2.2 0 i).toNatClampNeg (w.2.1.2.2 1 i).toNatClampNeg i)) := by
  have := cW (G := G) (i := i) (k := 2) (w := w)
  rw [show 30 + (10 * 2 + i) = 50 + i by omega] at this
  rw [this, cellW, show (10 * 2 + i) % 10 = i by omega, if_pos hi, show (10 * 2 + i) / 10 = 2 by omega]
  rfl
theorem c_lent {i : Nat} {w : WT} (hi : i < w.2.1.1) (h10 : i < 10) : cellOf G w (60 + i) = some (aI G 8 (lrow w.2.1.2.2 i)) := by
  have := cW (G := G) (i := i) (k := 3) (w := w)
  rw [show 30 + (10 * 3 + i) = 60 + i by omega] at this
  rw [this, cellW, show (10 * 3 + i) % 10 = i by omega, if_pos hi, show (10 * 3 + i) / 10 = 3 by omega]
  rfl
theorem lrow_su {F : Nat → Nat → Int32} {f i : Nat} {v : Int32} (hf : 13 ≠ f) : lrow (su F f i v) = lrow F := by
  funext a b
  unfold lrow
  rw [su_f hf]
/-- a register of the class's side that only wells hold -/
theorem pc_well {f i : Nat} {v : Int32} (hf : f ≠ 0 ∧ f ≠ 1 ∧ f < 13) (hi : i < n) (h10 : n ≤ 8) (w : WT) (hw : w = (adr, (n, P, F), Sm, mu, g)) : ∀ q, q ≠ 30 + i → cellOf G (adr, (n, P, su F f i v), Sm, mu, g) q = cellOf G w q := by
  subst hw
  intro q hq
  by_cases h5 : q < 5
  · rw [cX h5, cX h5]
    show cellX G adr (n, P, su F f i v) q = cellX G adr (n, P, F) q
    unfold cellX
    simp only [su_f (show 16 ≠ f by omega), su_f (show 14 ≠ f by omega), su_f (show 15 ≠ f by omega)]
  · by_cases h30 : q < 30
    · rw [cellOf, cellOf, if_neg h5, if_pos h30, if_neg h5, if_pos h30]
    · rw [cellOf, cellOf, if_neg h5, if_neg h30, if_neg h5, if_neg h30]
      show cellW G adr (n, P, su F f i v) (q - 30) = cellW G adr (n, P, F) (q - 30)
      unfold cellW
      by_cases e : (q - 30) % 10 < n
      · rw [if_pos e, if_pos e]
        simp only [lrow_su (show 13 ≠ f by omega), su_f (show 0 ≠ f by omega), su_f (show 1 ≠ f by omega)]
        by_cases e2 : (q - 30) % 10 = i
        · have e3 : (q - 30) / 10 ≠ 0 := by omega
          split
          · omega
          · rfl
          · rfl
          · rfl
          · rfl
        · simp only [wellFs, su_i e2]
      · rw [if_neg e, if_neg e]
theorem pc_lent {i j : Nat} {v : Int32} (hi : i < n) (hn : n ≤ 8) (hj : j < 8) : ∀ q, q ≠ 60 + i → cellOf G (adr, (n, P, su F 13 (8 * i + j) v), Sm, mu, g) q = cellOf G (adr, (n, P, F), Sm, mu, g) q := by
  intro q hq
  by_cases h5 : q < 5
  · rw [cX h5, cX h5]
    show cellX G adr (n, P, su F 13 (8 * i + j) v) q = cellX G adr (n, P, F) q
    unfold cellX
    simp only [su_f (show 16 ≠ 13 by omega), su_f (show 14 ≠ 13 by omega), su_f (show 15 ≠ 13 by omega)]
  · by_cases h30 : q < 30
    · rw [cellOf, cellOf, if_neg h5, if_pos h30, if_neg h5, if_pos h30]
    · rw [cellOf, cellOf, if_neg h5, if_neg h30, if_neg h5, if_neg h30]
      show cellW G adr (n, P, su F 13 (8 * i + j) v) (q - 30) = cellW G adr (n, P, F) (q - 30)
      unfold cellW
      by_cases e : (q - 30) % 10 < n
      · rw [if_pos e, if_pos e]
        simp only [wellFs, su_f (show 0 ≠ 13 by omega), su_f (show 1 ≠ 13 by omega), su_f (show 2 ≠ 13 by omega), su_f (show 3 ≠ 13 by omega), su_f (show 4 ≠ 13 by omega), su_f (show 5 ≠ 13 by omega), su_f (show 6 ≠ 13 by omega), su_f (show 7 ≠ 13 by omega), su_f (show 8 ≠ 13 by omega), su_f (show 9 ≠ 13 by omega), su_f (show 10 ≠ 13 by omega), su_f (show 11 ≠ 13 by omega), su_f (show 12 ≠ 13 by omega)]
        split
        · rfl
        · rfl
        · rfl
        · refine congrArg (fun z => some (aI G 8 z)) ?_
          funext z
          show (if z < 8 then su F 13 (8 * i + j) v 13 (8 * ((q - 30) % 10) + z) else 0) = (if z < 8 then F 13 (8 * ((q - 30) % 10) + z) else 0)
          by_cases hz : z < 8
          · rw [if_pos hz, if_pos hz]; exact su_i (by omega)
          · rw [if_neg hz, if_neg hz]
        · rfl
      · rw [if_neg e, if_neg e]
theorem pw_13 {i j : Nat} {v : Int32} (hi : i < n) (hn : n ≤ 8) (hj : j < 8) : ∀ h, Wd G (adr, (n, P, F), Sm, mu, g) h → Wd G (adr, (n, P, su F 13 (8 * i + j) v), Sm, mu, g) (hu h (adr (60 + i)) (aI G 8 (upd (lrow F i) j v))) := by
  refine Wd.put (r := 60 + i) (c_lent hi (by omega)) ((c_lent hi (by omega)).trans (congrArg (fun z => some (aI G 8 z)) ?_)) (pc_lent hi hn hj) rfl
  funext z
  show (if z < 8 then su F 13 (8 * i + j) v 13 (8 * i + z) else 0) = (if z = j then v else (if z < 8 then F 13 (8 * i + z) else 0))
  by_cases e : z = j
  · subst e; rw [if_pos hj, if_pos rfl]; exact su_s
  · rw [if_neg e]
    by_cases hz : z < 8
    · rw [if_pos hz, if_pos hz]; exact su_i (by omega)
    · rw [if_neg hz, if_neg hz]
/-- the class's scalars, and the rows of recharges and ponds -/
theorem pc_x {P' : Nat} {F' : Nat → Nat → Int32} {r : Nat} (hr : r < 5) (h13 : ∀ f, f < 14 → F' f = F f) (h1 : r = 0 ∨ (P' = P ∧ F' 16 = F 16)) (h3 : r = 3 ∨ F' 14 = F 14) (h4 : r = 4 ∨ F' 15 = F 15) : ∀ q, q ≠ r → cellOf G (adr, (n, P', F'), Sm, mu, g) q = cellOf G (adr, (n, P, F), Sm, mu, g) q := by
  intro q hq
  by_cases h5 : q < 5
  · rw [cX h5, cX h5]
    show cellX G adr (n, P', F') q = cellX G adr (n, P, F) q
    unfold cellX
    split
    · rcases h1 with h1 | ⟨h1, h2⟩
      · omega
      · simp only [h1, h2]
    · rfl
    · rfl
    · rcases h3 with h3 | h3
      · omega
      · simp only [h3]
    · rcases h4 with h4 | h4
      · omega
      · simp only [h4]
    · rfl
  · by_cases h30 : q < 30
    · rw [cellOf, cellOf, if_neg h5, if_pos h30, if_neg h5, if_pos h30]
    · rw [cellOf, cellOf, if_neg h5, if_neg h30, if_neg h5, if_neg h30]
      show cellW G adr (n, P', F') (q - 30) = cellW G adr (n, P, F) (q - 30)
      unfold cellW
      simp only [wellFs, show lrow F' = lrow F from by (funext a b; unfold lrow; rw [h13 13 (by omega)]), h13 0 (by omega), h13 1 (by omega), h13 2 (by omega), h13 3 (by omega), h13 4 (by omega), h13 5 (by omega), h13 6 (by omega), h13 7 (by omega), h13 8 (by omega), h13 9 (by omega), h13 10 (by omega), h13 11 (by omega), h13 12 (by omega), h13 13 (by omega)]
/-- the law's side: any change of one row -/
theorem pm_x {n' P' : Nat} {F' mu' : Nat → Nat → Int32} {g' : Nat → Int64} {r : Nat} (hr : r < 6) (h0 : r = 0 ∨ ∀ f, f < 9 → F' f = F f) (h1 : r = 1 ∨ ∀ f, 9 ≤ f → f < 13 → F' f = F f) (h2 : r = 2 ∨ F' 13 = F 13) (h3 : r = 3 ∨ mu' 1 = mu 1) (h4 : r = 4 ∨ mu' 2 = mu 2) (h5 : r = 5 ∨ (n' = n ∧ P' = P ∧ F' 14 = F 14 ∧ F' 15 = F 15 ∧ F' 16 = F 16)) :
    ∀ q, q ≠ 5 + r → cellOf G (adr, Sc, (n', P', F'), mu', g') q = cellOf G (adr, Sc, (n, P, F), mu, g) q := by
  intro q hq
  by_cases q5 : q < 5
  · rw [cX q5, cX q5]
  · by_cases h30 : q < 30
    · rw [cellOf, cellOf, if_neg q5, if_pos h30, if_neg q5, if_pos h30]
      show cellM G (n', P', F') mu' (q - 5) = cellM G (n, P, F) mu (q - 5)
      unfold cellM
      split
      · rcases h0 with h | h
        · omega
        · exact congrArg (fun z => some (aI G 45 z)) (show wRow F' = wRow F by funext a; unfold wRow; rw [h _ (Nat.mod_lt _ (by omega))])
      · rcases h1 with h | h
        · omega
        · exact congrArg (fun z => some (aI G 20 z)) (show bRow F' = bRow F by funext a; unfold bRow; rw [h _ (by omega) (by omega)])
      · rcases h2 with h | h
        · omega
        · exact congrArg (fun z => some (aI G 25 z)) (show oRow F' = oRow F by funext a; unfold oRow; rw [h])
      · rcases h3 with h | h
        · omega
        · exact congrArg (fun z => some (aI G 5 z)) h
      · rcases h4 with h | h
        · omega
        · exact congrArg (fun z => some (aI G 5 z)) h
      · rcases h5 with h | ⟨a, b, c, d, e⟩
        · omega
        · exact congrArg (fun z => some (aI G 12 z)) (show qRow n' P' F' = qRow n P F by funext x; unfold qRow; rw [a, b, c, d, e])
      · rfl
    · rw [cellOf, cellOf, if_neg q5, if_neg h30, if_neg q5, if_neg h30]
theorem wRow_su {f k : Nat} {v : Int32} (hf : f < 9) : wRow (su F f k v) = upd (wRow F) (9 * k + f) v := by
  funext a
  unfold wRow upd su
  by_cases e : a = 9 * k + f
  · rw [if_pos e, if_pos ⟨by omega, by omega⟩]
  · rw [if_neg e, if_neg (fun q => e (by omega))]
theorem bRow_su {f k : Nat} {v : Int32} (hf : f < 4) : bRow (su F (9 + f) k v) = upd (bRow F) (4 * k + f) v := by
  funext a
  unfold bRow upd su
  by_cases e : a = 4 * k + f
  · rw [if_pos e, if_pos ⟨by omega, by omega⟩]
  · rw [if_neg e, if_neg (fun q => e (by omega))]
theorem oRow_su {i j : Nat} {v : Int32} (hj : j < 5) : oRow (su F 13 (8 * i + j) v) = upd (oRow F) (5 * i + j) v := by
  funext a
  unfold oRow upd su
  by_cases e : a = 5 * i + j
  · rw [if_pos e, if_pos ⟨rfl, by omega⟩]
  · rw [if_neg e, if_neg (fun q => e (by omega))]
theorem pm_w {f k : Nat} {v : Int32} (hf : f < 9) : ∀ h, Wd G (adr, Sc, (n, P, F), mu, g) h → Wd G (adr, Sc, (n, P, su F f k v), mu, g) (hu h (adr 5) (aI G 45 (upd (wRow F) (9 * k + f) v))) :=
  Wd.put (r := 5) rfl (by rw [← wRow_su hf]; rfl) (pm_x (r := 0) (by omega) (Or.inl rfl) (Or.inr (fun x _ _ => su_f (by omega))) (Or.inr (su_f (by omega))) (Or.inr rfl) (Or.inr rfl) (Or.inr ⟨rfl, rfl, su_f (by omega), su_f (by omega), su_f (by omega)⟩)) rfl
theorem pm_b {f k : Nat} {v : Int32} (hf : f < 4) : ∀ h, Wd G (adr, Sc, (n, P, F), mu, g) h → Wd G (adr, Sc, (n, P, su F (9 + f) k v), mu, g) (hu h (adr 6) (aI G 20 (upd (bRow F) (4 * k + f) v))) :=
  Wd.put (r := 6) rfl (by rw [← bRow_su hf]; rfl) (pm_x (r := 1) (by omega) (Or.inr (fun x _ => su_f (by omega))) (Or.inl rfl) (Or.inr (su_f (by omega))) (Or.inr rfl) (Or.inr rfl) (Or.inr ⟨rfl, rfl, su_f (by omega), su_f (by omega), su_f (by omega)⟩)) rfl
theorem pm_l {i j : Nat} {v : Int32} (hj : j < 5) : ∀ h, Wd G (adr, Sc, (n, P, F), mu, g) h → Wd G (adr, Sc, (n, P, su F 13 (8 * i + j) v), mu, g) (hu h (adr 7) (aI G 25 (upd (oRow F) (5 * i + j) v))) :=
  Wd.put (r := 7) rfl (by rw [← oRow_su hj]; rfl) (pm_x (r := 2) (by omega) (Or.inr (fun x _ => su_f (by omega))) (Or.inr (fun x _ _ => su_f (by omega))) (Or.inl rfl) (Or.inr rfl) (Or.inr rfl) (Or.inr ⟨rfl, rfl, su_f (by omega), su_f (by omega), su_f (by omega)⟩)) rfl
theorem pm_r {i : Nat} {v : Int32} : ∀ h, Wd G (adr, Sc, (n, P, F), mu, g) h → Wd G (adr, Sc, (n, P, F), su mu 1 i v, g) (hu h (adr 8) (aI G 5 (upd (mu 1) i v))) :=
  Wd.put (r := 8) rfl (by rw [← su_u]; rfl) (pm_x (r := 3) (by omega) (Or.inr (fun x _ => rfl)) (Or.inr (fun x _ _ => rfl)) (Or.inr rfl) (Or.inl rfl) (Or.inr (su_f (by omega))) (Or.inr ⟨rfl, rfl, rfl, rfl, rfl⟩)) rfl
theorem pm_h {i : Nat} {v : Int32} : ∀ h, Wd G (adr, Sc, (n, P, F), mu, g) h → Wd G (adr, Sc, (n, P, F), su mu 2 i v, g) (hu h (adr 9) (aI G 5 (upd (mu 2) i v))) :=
  Wd.put (r := 9) rfl (by rw [← su_u]; rfl) (pm_x (r := 4) (by omega) (Or.inr (fun x _ => rfl)) (Or.inr (fun x _ _ => rfl)) (Or.inr rfl) (Or.inr (su_f (by omega))) (Or.inl rfl) (Or.inr ⟨rfl, rfl, rfl, rfl, rfl⟩)) rfl
/-- the scalars, recharges and ponds -/
theorem pm_q {n' P' i : Nat} {F' : Nat → Nat → Int32} {v : Int32} (hF : ∀ f, f < 14 → F' f = F f) (he : qRow n' P' F' = upd (qRow n P F) i v) : ∀ h, Wd G (adr, Sc, (n, P, F), mu, g) h → Wd G (adr, Sc, (n', P', F'), mu, g) (hu h (adr 10) (aI G 12 (upd (qRow n P F) i v))) :=
  Wd.put (r := 10) rfl (by rw [← he]; rfl) (pm_x (r := 5) (by omega) (Or.inr (fun x _ => hF x (by omega))) (Or.inr (fun x _ _ => hF x (by omega))) (Or.inr (hF 13 (by omega))) (Or.inr rfl) (Or.inr rfl) (Or.inl rfl)) rfl
theorem pm_wells {v : Int32} {n' : Nat} (hv : v = nI n') : ∀ h, Wd G (adr, Sc, (n, P, F), mu, g) h → Wd G (adr, Sc, (n', P, F), mu, g) (hu h (adr 10) (aI G 12 (upd (qRow n P F) 0 v))) := by
  subst hv
  exact pm_q (fun _ _ => rfl) (by funext a; unfold qRow upd; by_cases e : a = 0 <;> simp [e])
theorem pm_ponds {v : Int32} {P' : Nat} (hv : v = nI P') : ∀ h, Wd G (adr, Sc, (n, P, F), mu, g) h → Wd G (adr, Sc, (n, P', F), mu, g) (hu h (adr 10) (aI G 12 (upd (qRow n P F) 3 v))) := by
  subst hv
  exact pm_q (fun _ _ => rfl) (by funext a; unfold qRow upd; by_cases e : a = 3 <;> simp [e])
theorem pm_years {v : Int32} : ∀ h, Wd G (adr, Sc, (n, P, F), mu, g) h → Wd G (adr, Sc, (n, P, su F 16 1 v), mu, g) (hu h (adr 10) (aI G 12 (upd (qRow n P F) 1 v))) :=
  pm_q (fun f hf => su_f (by omega)) (by funext a; unfold qRow upd; by_cases e : a = 1 <;> simp [e, su])
theorem pm_fund {v : Int32} : ∀ h, Wd G (adr, Sc, (n, P, F), mu, g) h → Wd G (adr, Sc, (n, P, su F 16 0 v), mu, g) (hu h (adr 10) (aI G 12 (upd (qRow n P F) 2 v))) :=
  pm_q (fun f hf => su_f (by omega)) (by funext a; unfold qRow upd; by_cases e : a = 2 <;> simp [e, su])
theorem pm_rech {i : Nat} {v : Int32} (hi : i < 3) : ∀ h, Wd G (adr, Sc, (n, P, F), mu, g) h → Wd G (adr, Sc, (n, P, su F 14 i v), mu, g) (hu h (adr 10) (aI G 12 (upd (qRow n P F) (4 + i) v))) :=
  pm_q (fun f hf => su_f (by omega)) (by
    funext a
    show qRow n P (su F 14 i v) a = (if a = 4 + i then v else qRow n P F a)
    unfold qRow su
    by_cases e : a = 4 + i
    · subst e; rw [if_neg (by omega), if_neg (by omega), if_neg (by omega), if_neg (by omega), if_pos (by omega), if_pos ⟨rfl, by omega⟩, if_pos rfl]
    · rw [if_neg e]
      by_cases a0 : a = 0
      · rw [if_pos a0, if_pos a0]
      · rw [if_neg a0, if_neg a0]
        by_cases a1 : a = 1
        · rw [if_pos a1, if_pos a1, if_neg (by omega)]
        · rw [if_neg a1, if_neg a1]
          by_cases a2 : a = 2
          · rw [if_pos a2, if_pos a2, if_neg (by omega)]
          · rw [if_neg a2, if_neg a2]
            by_cases a3 : a = 3
            · rw [if_pos a3, if_pos a3]
            · rw [if_neg a3, if_neg a3]
              by_cases a7 : a < 7
              · rw [if_pos a7, if_pos a7, if_neg (by omega)]
              · rw [if_neg a7, if_neg a7, if_neg (by omega)])
theorem pm_pond {i : Nat} {v : Int32} : ∀ h, Wd G (adr, Sc, (n, P, F), mu, g) h → Wd G (adr, Sc, (n, P, su F 15 i v), mu, g) (hu h (adr 10) (aI G 12 (upd (qRow n P F) (7 + i) v))) :=
  pm_q (fun f hf => su_f (by omega)) (by
    funext a
    show qRow n P (su F 15 i v) a = (if a = 7 + i then v else qRow n P F a)
    unfold qRow su
    by_cases e : a = 7 + i
    · subst e; rw [if_neg (by omega), if_neg (by omega), if_neg (by omega), if_neg (by omega), if_neg (by omega), if_pos ⟨rfl, by omega⟩, if_pos rfl]
    · rw [if_neg e]
      by_cases a0 : a = 0
      · rw [if_pos a0, if_pos a0]
      · rw [if_neg a0, if_neg a0]
        by_cases a1 : a = 1
        · rw [if_pos a1, if_pos a1, if_neg (by omega)]
        · rw [if_neg a1, if_neg a1]
          by_cases a2 : a = 2
          · rw [if_pos a2, if_pos a2, if_neg (by omega)]
          · rw [if_neg a2, if_neg a2]
            by_cases a3 : a = 3
            · rw [if_pos a3, if_pos a3]
            · rw [if_neg a3, if_neg a3]
              by_cases a7 : a < 7
              · rw [if_pos a7, if_pos a7, if_neg (by omega)]
              · rw [if_neg a7, if_neg a7, if_neg (by omega)])
theorem pw_2 {i : Nat} {v : Int32} (hi : i < n) (hn : n ≤ 8) : ∀ h, Wd G (adr, (n, P, F), Sm, mu, g) h → Wd G (adr, (n, P, su F 2 i v), Sm, mu, g) (hu h (adr (30 + i)) (ob 3 ((wellFs adr F i).set 8 (.int v)))) :=
  Wd.put (r := 30 + i) (c_well hi (by omega)) ((c_well hi (by omega)).trans (by simp [wellFs, su])) (pc_well (by omega) hi hn _ rfl) rfl
theorem pw_6 {i : Nat} {v : Int32} (hi : i < n) (hn : n ≤ 8) : ∀ h, Wd G (adr, (n, P, F), Sm, mu, g) h → Wd G (adr, (n, P, su F 6 i v), Sm, mu, g) (hu h (adr (30 + i)) (ob 3 ((wellFs adr F i).set 9 (.int v)))) :=
  Wd.put (r := 30 + i) (c_well hi (by omega)) ((c_well hi (by omega)).trans (by simp [wellFs, su])) (pc_well (by omega) hi hn _ rfl) rfl
theorem pw_11 {i : Nat} {v : Int32} (hi : i < n) (hn : n ≤ 8) : ∀ h, Wd G (adr, (n, P, F), Sm, mu, g) h → Wd G (adr, (n, P, su F 11 i v), Sm, mu, g) (hu h (adr (30 + i)) (ob 3 ((wellFs adr F i).set 10 (.int v)))) :=
  Wd.put (r := 30 + i) (c_well hi (by omega)) ((c_well hi (by omega)).trans (by simp [wellFs, su])) (pc_well (by omega) hi hn _ rfl) rfl
theorem pw_12 {i : Nat} {v : Int32} (hi : i < n) (hn : n ≤ 8) : ∀ h, Wd G (adr, (n, P, F), Sm, mu, g) h → Wd G (adr, (n, P, su F 12 i v), Sm, mu, g) (hu h (adr (30 + i)) (ob 3 ((wellFs adr F i).set 11 (.int v)))) :=
  Wd.put (r := 30 + i) (c_well hi (by omega)) ((c_well hi (by omega)).trans (by simp [wellFs, su])) (pc_well (by omega) hi hn _ rfl) rfl
theorem pw_8 {i : Nat} {v : Int32} (hi : i < n) (hn : n ≤ 8) : ∀ h, Wd G (adr, (n, P, F), Sm, mu, g) h → Wd G (adr, (n, P, su F 8 i v), Sm, mu, g) (hu h (adr (30 + i)) (ob 3 ((wellFs adr F i).set 13 (.int v)))) :=
  Wd.put (r := 30 + i) (c_well hi (by omega)) ((c_well hi (by omega)).trans (by simp [wellFs, su])) (pc_well (by omega) hi hn _ rfl) rfl
theorem pw_9 {i : Nat} {v : Int32} (hi : i < n) (hn : n ≤ 8) : ∀ h, Wd G (adr, (n, P, F), Sm, mu, g) h → Wd G (adr, (n, P, su F 9 i v), Sm, mu, g) (hu h (adr (30 + i)) (ob 3 ((wellFs adr F i).set 14 (.int v)))) :=
  Wd.put (r := 30 + i) (c_well hi (by omega)) ((c_well hi (by omega)).trans (by simp [wellFs, su])) (pc_well (by omega) hi hn _ rfl) rfl
theorem pw_10 {i : Nat} {v : Int32} (hi : i < n) (hn : n ≤ 8) : ∀ h, Wd G (adr, (n, P, F), Sm, mu, g) h → Wd G (adr, (n, P, su F 10 i v), Sm, mu, g) (hu h (adr (30 + i)) (ob 3 ((wellFs adr F i).set 15 (.int v)))) :=
  Wd.put (r := 30 + i) (c_well hi (by omega)) ((c_well hi (by omega)).trans (by simp [wellFs, su])) (pc_well (by omega) hi hn _ rfl) rfl
theorem pw_7 {i : Nat} {v b : Int32} (hb : 1 - v = b) (hi : i < n) (hn : n ≤ 8) : ∀ h, Wd G (adr, (n, P, F), Sm, mu, g) h → Wd G (adr, (n, P, su F 7 i v), Sm, mu, g) (hu h (adr (30 + i)) (ob 3 ((wellFs adr F i).set 12 (.int b)))) := by
  subst hb
  exact Wd.put (r := 30 + i) (c_well hi (by omega)) ((c_well hi (by omega)).trans (by simp [wellFs, su])) (pc_well (by omega) hi hn _ rfl) rfl
abbrev xFs (adr : Nat → Nat) (P : Nat) (F : Nat → Nat → Int32) : List Value := [.ref (adr 1), .ref (adr 3), .ref (adr 4), .int (nI P), .int (F 16 0), .int (F 16 1)]
theorem pc_ponds {v : Int32} {P' : Nat} (hv : v = nI P') : ∀ h, Wd G (adr, (n, P, F), Sm, mu, g) h → Wd G (adr, (n, P', F), Sm, mu, g) (hu h (adr 0) (ob 4 ((xFs adr P F).set 3 (.int v)))) := by
  subst hv
  exact Wd.put (r := 0) rfl rfl (pc_x (by omega) (fun f hf => rfl) (Or.inl rfl) (Or.inr rfl) (Or.inr rfl)) rfl
theorem pc_fund {v : Int32} : ∀ h, Wd G (adr, (n, P, F), Sm, mu, g) h → Wd G (adr, (n, P, su F 16 0 v), Sm, mu, g) (hu h (adr 0) (ob 4 ((xFs adr P F).set 4 (.int v)))) :=
  Wd.put (r := 0) rfl rfl (pc_x (by omega) (fun f hf => su_f (by omega)) (Or.inl rfl) (Or.inr (su_f (by omega))) (Or.inr (su_f (by omega)))) rfl
theorem pc_years {v : Int32} : ∀ h, Wd G (adr, (n, P, F), Sm, mu, g) h → Wd G (adr, (n, P, su F 16 1 v), Sm, mu, g) (hu h (adr 0) (ob 4 ((xFs adr P F).set 5 (.int v)))) :=
  Wd.put (r := 0) rfl rfl (pc_x (by omega) (fun f hf => su_f (by omega)) (Or.inl rfl) (Or.inr (su_f (by omega))) (Or.inr (su_f (by omega)))) rfl
theorem pc_rech {i : Nat} {v : Int32} : ∀ h, Wd G (adr, (n, P, F), Sm, mu, g) h → Wd G (adr, (n, P, su F 14 i v), Sm, mu, g) (hu h (adr 3) (aI G 3 (upd (F 14) i v))) :=
  Wd.put (r := 3) rfl (by rw [← su_u]; rfl) (pc_x (by omega) (fun f hf => su_f (by omega)) (Or.inr ⟨rfl, su_f (by omega)⟩) (Or.inl rfl) (Or.inr (su_f (by omega)))) rfl
theorem pc_pond {i : Nat} {v : Int32} : ∀ h, Wd G (adr, (n, P, F), Sm, mu, g) h → Wd G (adr, (n, P, su F 15 i v), Sm, mu, g) (hu h (adr 4) (aI G 5 (upd (F 15) i v))) :=
  Wd.put (r := 4) rfl (by rw [← su_u]; rfl) (pc_x (by omega) (fun f hf => su_f (by omega)) (Or.inr ⟨rfl, su_f (by omega)⟩) (Or.inr (su_f (by omega))) (Or.inl rfl)) rfl
end
