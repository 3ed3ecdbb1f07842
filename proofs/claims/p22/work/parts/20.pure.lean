/-! 20: small things by numbers alone. My own. -/
theorem su_comm {F : Nat → Nat → Int32} {f k i j : Nat} {a b : Int32} (h : f ≠ k) : su (su F f i a) k j b = su (su F k j b) f i a := by
  funext p q
  unfold su
  by_cases c1 : p = k ∧ q = j
  · rw [if_pos c1, if_neg (fun z => h (by omega)), if_pos c1]
  · rw [if_neg c1]
    by_cases c2 : p = f ∧ q = i
    · rw [if_pos c2, if_pos c2]
    · rw [if_neg c2, if_neg c2, if_neg c1]
theorem well_in {n : Nat} (hn : n ≤ 8) (w : Int32) : qR w 0 (nI n - 1) = qW n w := by
  have e : ∀ k : Nat, k ≤ 8 → (nI k - 1 : Int32).toInt = (k : Int) - 1 ∧ (nI k).toInt = (k : Int) := by decide
  obtain ⟨e1, e2⟩ := e n hn
  unfold qR qW
  congr 1
  rw [Int32.le_iff_toInt_le (x := w) (y := nI n - 1), Int32.lt_iff_toInt_lt (x := w) (y := nI n), e1, e2]
  exact propext ⟨fun q => ⟨q.1, by omega⟩, fun q => ⟨q.1, by omega⟩⟩
theorem b01 {b : Bool} (h : (if b = true then (1 : Int32) else 0) = 0) : b = false := by cases b with | false => rfl | true => exact absurd h (by decide)
theorem b01' {b : Bool} (h : ¬ (if b = true then (1 : Int32) else 0) = 0) : b = true := by cases b with | true => rfl | false => exact absurd rfl h
theorem idx8 {i j : Nat} : (8 : Int32) * nI i + nI j = nI (8 * i + j) := by rw [show (8 : Int32) = nI 8 from rfl, pk_mul, nI_add]
theorem minI_le {x y : Int32} (h : y ≤ x) : y = minI x y := by
  unfold minI
  by_cases q : y < x
  · rw [if_pos q]
  · rw [if_neg q]; exact Int32.le_antisymm h (Int32.not_lt.mp q)
theorem minI_nle {x y : Int32} (h : ¬ y ≤ x) : x = minI x y := by rw [minI, if_neg (fun q => h (Int32.le_of_lt q))]
theorem five_eq {P : Nat} (hP : P ≤ 5) (h : nI P = 5) : P = 5 := (nI_eq (by omega) (by omega)).mp (show nI P = nI 5 from h)
theorem eight_eq {n : Nat} (hn : n ≤ 8) (h : nI n = 8) : n = 8 := (nI_eq (by omega) (by omega)).mp (show nI n = nI 8 from h)
def fAdd (F : Nat → Nat → Int32) (n : Nat) (a b c d e f : Int32) : Nat → Nat → Int32 := su (su (su (su (su (su F 0 n a) 1 n b) 2 n c) 3 n d) 4 n e) 5 n f
def kAdd (n : Nat) (a b c d e f : Int32) : Int32 := if qR a 0 2 = true then (if qR b 0 99 = true ∧ qR c (-10000) 10000 = true ∧ qR d (-10000) 10000 = true ∧ qR e 0 1000 = true ∧ qR f 0 1000 = true then (if n = 8 then 3 else 0) else 2) else 1
theorem Dn_n {n P : Nat} {F : Nat → Nat → Int32} : ∀ {k j : Nat}, Dn n P F k j = true → j < n
  | 0, j, h => by cases h
  | k + 1, j, h => by
    cases e : spNx n P F (Dn n P F k) with
    | none => rw [Dn, e] at h; exact Dn_n (k := k) h
    | some y =>
      rw [Dn_go e] at h
      by_cases q : j = y
      · rw [q]; exact (spNx_y e).1
      · rw [show Dp (Dn n P F k) y j = Dn n P F k j from if_neg q] at h; exact Dn_n h
theorem yr_lt {x : Int32} (h : Bt x 60) (h2 : ¬ x = 60) : x < 60 := by
  obtain ⟨j, hj, rfl⟩ := h
  exact nI_lt (b := 60) (Nat.lt_of_le_of_ne hj (fun q => h2 (by rw [q]; rfl))) (by omega)
