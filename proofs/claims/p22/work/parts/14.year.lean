/-! 14: who is stopped, and what a year does, by numbers alone. My own. -/
def lvle (a b : List (Option Value)) : Prop := a.length = b.length ∧ ∀ (i : Nat) (v : Value), a[i]? = some (some v) → b[i]? = some (some v)
theorem ls_e : lvle [] [] := ⟨rfl, fun i v h => by simp at h⟩
theorem ls_n {a b : List (Option Value)} {x : Option Value} (h : lvle a b) : lvle (none :: a) (x :: b) := by
  refine ⟨by simp [h.1], fun i v hi => ?_⟩
  cases i with
  | zero => simp at hi
  | succ i => rw [List.getElem?_cons_succ] at hi ⊢; exact h.2 i v hi
theorem ls_s {a b : List (Option Value)} {x : Option Value} (h : lvle a b) : lvle (x :: a) (x :: b) := by
  refine ⟨by simp [h.1], fun i v hi => ?_⟩
  cases i with
  | zero => rw [List.getElem?_cons_zero] at hi ⊢; exact hi
  | succ i => rw [List.getElem?_cons_succ] at hi ⊢; exact h.2 i v hi
theorem WR.ls {K : KT} {G : GT} {A : Nat → Prop} {Q : State → Prop} {P : Hp → Prop} {lv lv' : List (Option Value)} {k n pc : Nat} {st : List Value} (h : lvle lv' lv) (kk : WR K G A Q P lv' k n pc st) : WR K G A Q P lv k n pc st := WR.lv h.1 h.2 kk
/-! masks -/
def mk8 (b0 b1 b2 b3 b4 b5 b6 b7 : Bool) : Int32 :=
  (if b0 = true then mBit 0 else 0) ||| (if b1 = true then mBit 1 else 0) ||| (if b2 = true then mBit 2 else 0) ||| (if b3 = true then mBit 3 else 0) ||| (if b4 = true then mBit 4 else 0) ||| (if b5 = true then mBit 5 else 0) ||| (if b6 = true then mBit 6 else 0) ||| (if b7 = true then mBit 7 else 0)
def mk (D : Nat → Bool) : Int32 := mk8 (D 0) (D 1) (D 2) (D 3) (D 4) (D 5) (D 6) (D 7)
theorem mk8_in : ∀ b0 b1 b2 b3 b4 b5 b6 b7 : Bool, mIn (mk8 b0 b1 b2 b3 b4 b5 b6 b7) 0 = b0 ∧ mIn (mk8 b0 b1 b2 b3 b4 b5 b6 b7) 1 = b1 ∧ mIn (mk8 b0 b1 b2 b3 b4 b5 b6 b7) 2 = b2 ∧ mIn (mk8 b0 b1 b2 b3 b4 b5 b6 b7) 3 = b3 ∧ mIn (mk8 b0 b1 b2 b3 b4 b5 b6 b7) 4 = b4 ∧ mIn (mk8 b0 b1 b2 b3 b4 b5 b6 b7) 5 = b5 ∧ mIn (mk8 b0 b1 b2 b3 b4 b5 b6 b7) 6 = b6 ∧ mIn (mk8 b0 b1 b2 b3 b4 b5 b6 b7) 7 = b7 := by decide +kernel
theorem mk8_or : ∀ b0 b1 b2 b3 b4 b5 b6 b7 : Bool, mk8 b0 b1 b2 b3 b4 b5 b6 b7 ||| mBit 0 = mk8 true b1 b2 b3 b4 b5 b6 b7 ∧ mk8 b0 b1 b2 b3 b4 b5 b6 b7 ||| mBit 1 = mk8 b0 true b2 b3 b4 b5 b6 b7 ∧ mk8 b0 b1 b2 b3 b4 b5 b6 b7 ||| mBit 2 = mk8 b0 b1 true b3 b4 b5 b6 b7 ∧ mk8 b0 b1 b2 b3 b4 b5 b6 b7 ||| mBit 3 = mk8 b0 b1 b2 true b4 b5 b6 b7 ∧ mk8 b0 b1 b2 b3 b4 b5 b6 b7 ||| mBit 4 = mk8 b0 b1 b2 b3 true b5 b6 b7 ∧ mk8 b0 b1 b2 b3 b4 b5 b6 b7 ||| mBit 5 = mk8 b0 b1 b2 b3 b4 true b6 b7 ∧ mk8 b0 b1 b2 b3 b4 b5 b6 b7 ||| mBit 6 = mk8 b0 b1 b2 b3 b4 b5 true b7 ∧ mk8 b0 b1 b2 b3 b4 b5 b6 b7 ||| mBit 7 = mk8 b0 b1 b2 b3 b4 b5 b6 true := by decide +kernel
theorem mk_in {D : Nat → Bool} {i : Nat} (hi : i < 8) : mIn (mk D) i = D i := by
  obtain ⟨h0, h1, h2, h3, h4, h5, h6, h7⟩ := mk8_in (D 0) (D 1) (D 2) (D 3) (D 4) (D 5) (D 6) (D 7)
  have e : i = 0 ∨ i = 1 ∨ i = 2 ∨ i = 3 ∨ i = 4 ∨ i = 5 ∨ i = 6 ∨ i = 7 := by omega
  rcases e with rfl | rfl | rfl | rfl | rfl | rfl | rfl | rfl
  · exact h0
  · exact h1
  · exact h2
  · exact h3
  · exact h4
  · exact h5
  · exact h6
  · exact h7
/-- one more -/
def Dp (D : Nat → Bool) (y : Nat) : Nat → Bool := fun j => if j = y then true else D j
theorem mk_or {D : Nat → Bool} {y : Nat} (hy : y < 8) : mk D ||| mBit y = mk (Dp D y) := by
  obtain ⟨h0, h1, h2, h3, h4, h5, h6, h7⟩ := mk8_or (D 0) (D 1) (D 2) (D 3) (D 4) (D 5) (D 6) (D 7)
  have e : y = 0 ∨ y = 1 ∨ y = 2 ∨ y = 3 ∨ y = 4 ∨ y = 5 ∨ y = 6 ∨ y = 7 := by omega
  rcases e with rfl | rfl | rfl | rfl | rfl | rfl | rfl | rfl
  · exact h0
  · exact h1
  · exact h2
  · exact h3
  · exact h4
  · exact h5
  · exact h6
  · exact h7
/-! levels behind -/
def drw (F : Nat → Nat → Int32) (D : Nat → Bool) (d : Nat) : Int32 := if D d = true then 0 else F 6 d
theorem drw_m {F : Nat → Nat → Int32} {D : Nat → Bool} {d : Nat} (hd : d < 8) : spDrawM F (mk D) d = drw F D d := by unfold spDrawM drw; rw [mk_in hd]
def bhP (F : Nat → Nat → Int32) (w : Nat) (a : Int32) : Nat → Int32
  | 0 => a
  | p + 1 => bhP F w a p + 20 * spReachC (F 0 w) (F 1 w) 0 (F 15 p) / 100
def bhD (F : Nat → Nat → Int32) (D : Nat → Bool) (w : Nat) (a : Int32) : Nat → Int32
  | 0 => a
  | d + 1 => bhD F D w a d - drw F D d * spR F d w / 100
def bh (n P : Nat) (F : Nat → Nat → Int32) (D : Nat → Bool) (w : Nat) : Int32 := bhD F D w (bhP F w (F 2 w + F 14 (ix (F 0 w))) P) n
/-! the youngest that draws on w, the oldest that is short -/
abbrev yC (F : Nat → Nat → Int32) (D : Nat → Bool) (w d : Nat) : Prop := spOld F w d ∧ 0 < drw F D d ∧ 0 < spR F d w
def yS (F : Nat → Nat → Int32) (D : Nat → Bool) (w : Nat) (b : Option Nat) (d : Nat) : Option Nat :=
  if yC F D w d then (match b with | none => some d | some y => if spOld F y d then some d else some y) else b
def yng (F : Nat → Nat → Int32) (D : Nat → Bool) (w : Nat) : Nat → Option Nat
  | 0 => none
  | d + 1 => yS F D w (yng F D w d) d
theorem yS_skip {F : Nat → Nat → Int32} {D : Nat → Bool} {w d : Nat} {b : Option Nat} (h : ¬ yC F D w d) : yS F D w b d = b := if_neg h
theorem yS_none {F : Nat → Nat → Int32} {D : Nat → Bool} {w d : Nat} (h : yC F D w d) : yS F D w none d = some d := if_pos h
theorem yS_take {F : Nat → Nat → Int32} {D : Nat → Bool} {w d y : Nat} (h : yC F D w d) (h2 : spOld F y d) : yS F D w (some y) d = some d := (if_pos h).trans (if_pos h2)
theorem yS_keep {F : Nat → Nat → Int32} {D : Nat → Bool} {w d y : Nat} (h : yC F D w d) (h2 : ¬ spOld F y d) : yS F D w (some y) d = some y := (if_pos h).trans (if_neg h2)
theorem yng_lt {F : Nat → Nat → Int32} {D : Nat → Bool} {w : Nat} : ∀ {m y : Nat}, yng F D w m = some y → y < m ∧ yC F D w y
  | 0, y, h => by cases h
  | m + 1, y, h => by
    rw [yng] at h
    by_cases c : yC F D w m
    · cases e : yng F D w m with
      | none =>
        rw [e, yS_none c] at h
        cases h
        exact ⟨Nat.lt_succ_self _, c⟩
      | some z =>
        rw [e] at h
        by_cases c2 : spOld F z m
        · rw [yS_take c c2] at h
          cases h
          exact ⟨Nat.lt_succ_self _, c⟩
        · rw [yS_keep c c2] at h
          cases h
          have := yng_lt e
          exact ⟨by omega, this.2⟩
    · rw [yS_skip c] at h
      have := yng_lt h
      exact ⟨by omega, this.2⟩
def oS (n P : Nat) (F : Nat → Nat → Int32) (D : Nat → Bool) (b : Option (Nat × Nat)) (w : Nat) : Option (Nat × Nat) :=
  if bh n P F D w < F 3 w then
    (match b with
    | none => (yng F D w n).map (fun y => (w, y))
    | some z => if spOld F w z.1 then (match yng F D w n with | none => some z | some y => some (w, y)) else some z)
  else b
def oN (n P : Nat) (F : Nat → Nat → Int32) (D : Nat → Bool) : Nat → Option (Nat × Nat)
  | 0 => none
  | w + 1 => oS n P F D (oN n P F D w) w
/-- the next to stop -/
def spNx (n P : Nat) (F : Nat → Nat → Int32) (D : Nat → Bool) : Option Nat := (oN n P F D n).map (fun z => z.2)
def Dn (n P : Nat) (F : Nat → Nat → Int32) : Nat → (Nat → Bool)
  | 0 => fun _ => false
  | k + 1 => match spNx n P F (Dn n P F k) with | none => Dn n P F k | some y => Dp (Dn n P F k) y
/-- who is stopped -/
def spSt (n P : Nat) (F : Nat → Nat → Int32) : Nat → Bool := Dn n P F 8
theorem oN_y {n P : Nat} {F : Nat → Nat → Int32} {D : Nat → Bool} : ∀ {m : Nat} {z : Nat × Nat}, oN n P F D m = some z → z.1 < m ∧ yng F D z.1 n = some z.2
  | 0, z, h => by cases h
  | m + 1, z, h => by
    have h : oS n P F D (oN n P F D m) m = some z := h
    unfold oS at h
    by_cases c : bh n P F D m < F 3 m
    · rw [if_pos c] at h
      cases e : oN n P F D m with
      | none =>
        rw [e] at h
        cases e2 : yng F D m n with
        | none => rw [e2] at h; cases h
        | some y => rw [e2] at h; cases h; exact ⟨Nat.lt_succ_self _, e2⟩
      | some u =>
        rw [e] at h
        have hu := oN_y e
        simp only at h
        by_cases c2 : spOld F m u.1
        · rw [if_pos c2] at h
          cases e2 : yng F D m n with
          | none => rw [e2] at h; cases h; exact ⟨by omega, hu.2⟩
          | some y => rw [e2] at h; cases h; exact ⟨Nat.lt_succ_self _, e2⟩
        · rw [if_neg c2] at h; cases h; exact ⟨by omega, hu.2⟩
    · rw [if_neg c] at h
      have := oN_y h
      exact ⟨by omega, this.2⟩
theorem spNx_y {n P : Nat} {F : Nat → Nat → Int32} {D : Nat → Bool} {y : Nat} (h : spNx n P F D = some y) : y < n ∧ D y = false := by
  unfold spNx at h
  cases e : oN n P F D n with
  | none => rw [e] at h; cases h
  | some z =>
    rw [e] at h
    cases h
    obtain ⟨h1, h2⟩ := yng_lt (oN_y e).2
    refine ⟨h1, ?_⟩
    cases e3 : D z.2 with
    | false => rfl
    | true =>
      have h4 := h2.2.1
      unfold drw at h4
      rw [if_pos e3] at h4
      exact absurd h4 (by decide)
/-- how many of the first m -/
def cnt (D : Nat → Bool) : Nat → Nat
  | 0 => 0
  | m + 1 => cnt D m + (if D m = true then 1 else 0)
theorem cnt_le (D : Nat → Bool) : ∀ m, cnt D m ≤ m
  | 0 => Nat.le_refl _
  | m + 1 => by
    have := cnt_le D m
    rw [cnt]
    split <;> omega
theorem cnt_all {D : Nat → Bool} : ∀ {m : Nat}, cnt D m = m → ∀ j, j < m → D j = true
  | 0, _, j, hj => absurd hj (Nat.not_lt_zero _)
  | m + 1, h, j, hj => by
    rw [cnt] at h
    have h1 := cnt_le D m
    by_cases c : D m = true
    · rw [if_pos c] at h
      by_cases e : j = m
      · subst e; exact c
      · exact cnt_all (m := m) (by omega) j (by omega)
    · rw [if_neg c] at h; omega
theorem cnt_Dp {D : Nat → Bool} {y : Nat} (h : D y = false) : ∀ m, cnt (Dp D y) m = cnt D m + (if y < m then 1 else 0)
  | 0 => rfl
  | m + 1 => by
    rw [cnt, cnt, cnt_Dp h m]
    by_cases e : m = y
    · subst e
      rw [if_neg (Nat.lt_irrefl _), if_pos (Nat.lt_succ_self _), if_pos (show Dp D m m = true from if_pos rfl), if_neg (by rw [h]; decide)]
    · rw [show Dp D y m = D m from if_neg e]
      by_cases c : y < m
      · rw [if_pos c, if_pos (Nat.lt_succ_of_lt c)]; omega
      · rw [if_neg c, if_neg (show ¬ y < m + 1 by omega)]; omega
theorem Dn_stop {n P : Nat} {F : Nat → Nat → Int32} {k : Nat} (h : spNx n P F (Dn n P F k) = none) : ∀ j, Dn n P F (k + j) = Dn n P F k
  | 0 => rfl
  | j + 1 => by
    rw [show k + (j + 1) = (k + j) + 1 from rfl, Dn, Dn_stop h j, h]
theorem Dn_go {n P : Nat} {F : Nat → Nat → Int32} {k y : Nat} (h : spNx n P F (Dn n P F k) = some y) : Dn n P F (k + 1) = Dp (Dn n P F k) y := by
  rw [Dn, h]
/-- k rounds, none of them the last: k are stopped -/
theorem Dn_cnt {n P : Nat} {F : Nat → Nat → Int32} (hn : n ≤ 8) : ∀ {k : Nat}, (∀ j, j < k → spNx n P F (Dn n P F j) ≠ none) → cnt (Dn n P F k) 8 = k
  | 0, _ => by rw [Dn]; decide
  | k + 1, h => by
    have ih := Dn_cnt hn (k := k) (fun j hj => h j (by omega))
    cases e : spNx n P F (Dn n P F k) with
    | none => exact absurd e (h k (Nat.lt_succ_self _))
    | some y =>
      have hy := spNx_y e
      rw [Dn_go e, cnt_Dp hy.2, ih, if_pos (by omega)]
theorem Dn_le {n P : Nat} {F : Nat → Nat → Int32} (hn : n ≤ 8) {k : Nat} (h : ∀ j, j < k → spNx n P F (Dn n P F j) ≠ none) : k ≤ 8 := by
  have := Dn_cnt hn h
  have := cnt_le (Dn n P F k) 8
  omega
/-- where the rounds end, it is who is stopped -/
theorem Dn_end {n P : Nat} {F : Nat → Nat → Int32} (hn : n ≤ 8) {k : Nat} (h : ∀ j, j < k → spNx n P F (Dn n P F j) ≠ none) (he : spNx n P F (Dn n P F k) = none) : Dn n P F k = spSt n P F := by
  have hk := Dn_le hn h
  have := Dn_stop he (8 - k)
  rw [show k + (8 - k) = 8 by omega] at this
  exact this.symm
/-- behind eight rounds nothing is left to do -/
theorem Dn_8 {n P : Nat} {F : Nat → Nat → Int32} (hn : n ≤ 8) (h : ∀ j, j < 8 → spNx n P F (Dn n P F j) ≠ none) : spNx n P F (Dn n P F 8) = none := by
  cases e : spNx n P F (Dn n P F 8) with
  | none => rfl
  | some y =>
    have hy := spNx_y e
    have := cnt_all (Dn_cnt hn h) y (by omega)
    rw [hy.2] at this
    cases this
