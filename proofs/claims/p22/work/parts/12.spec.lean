/-! 12: what each call answers: code (0: none thrown), value, next state; by numbers alone. My own. -/
def qW (n : Nat) (x : Int32) : Bool := decide (¬ x < 0 ∧ x < nI n)
def qR (x a b : Int32) : Bool := decide (¬ x < a ∧ x ≤ b)
theorem qW_t {n i : Nat} (hn : n ≤ 8) (hi : i < n) : qW n (nI i) = true := decide_eq_true ⟨nI_pos (by omega), nI_lt hi (by omega)⟩
theorem qW_f {n : Nat} {x : Int32} (hn : n ≤ 8) (h : ∀ i, i < n → x ≠ nI i) : qW n x = false := by
  refine decide_eq_false (fun q => ?_)
  obtain ⟨i, hi, e⟩ := in_lt (m := n) (by omega) q.1 q.2
  exact h i hi e
theorem qW_e {n : Nat} {x : Int32} (hn : n ≤ 8) (h : qW n x = true) : ∃ i, i < n ∧ x = nI i := by
  have q := of_decide_eq_true h
  exact in_lt (m := n) (by omega) q.1 q.2
theorem qR_t {x a b : Int32} (h : ¬ x < a ∧ x ≤ b) : qR x a b = true := decide_eq_true h
theorem qR_f {x a b : Int32} (h : ¬ (¬ x < a ∧ x ≤ b)) : qR x a b = false := decide_eq_false h
theorem qR_e {x a b : Int32} (h : qR x a b = true) : ¬ x < a ∧ x ≤ b := of_decide_eq_true h
theorem qR_n {x a b : Int32} (h : qR x a b = false) : ¬ (¬ x < a ∧ x ≤ b) := of_decide_eq_false h
/-- an index as a natural -/
abbrev ix (x : Int32) : Nat := x.toNatClampNeg
theorem ix_nI {i : Nat} (h : i < 2 ^ 31) : ix (nI i) = i := nI_clamp h
/-- which exception the class throws for a code -/
def exA (E : String) (c : Int32) : Prop := (c = 1 ∧ E = eIOB) ∨ (c = 2 ∧ E = eIAE) ∨ (c = 3 ∧ E = eISE)
/-- the reach of i on j -/
abbrev spR (F : Nat → Nat → Int32) (i j : Nat) : Int32 := spReachC (F 0 j) (F 1 j) (F 0 i) (F 1 i)
def kAsk (n : Nat) (x : Int32) : Int32 := if qW n x = true then 0 else 1
def kPlan (n : Nat) (x a m : Int32) : Int32 := if qW n x = true then (if qR a 0 m = true then 0 else 2) else 1
def kRech (x a : Int32) : Int32 := if qR x 0 2 = true then (if qR a 0 1000 = true then 0 else 2) else 1
def kReach (n : Nat) (x y : Int32) : Int32 := if qW n x = true ∧ qW n y = true then 0 else 1
def kLend (n : Nat) (F : Nat → Nat → Int32) (x y a : Int32) : Int32 := if qW n x = true ∧ qW n y = true then (if x = y ∨ qR a 1 10000 = false then 2 else if F 9 (ix x) < a then 3 else 0) else 1
def kBack (n : Nat) (x y : Int32) : Int32 := if qW n x = true ∧ qW n y = true then (if x = y then 2 else 0) else 1
def kBuild (P : Nat) (F : Nat → Nat → Int32) (x : Int32) : Int32 := if qR x 0 99 = true then (if F 16 0 < 100 ∨ 5 ≤ P then 2 else 0) else 1
def minI (x y : Int32) : Int32 := if y < x then y else x
/-- lend and callBack: what happens to the registers -/
def fLend (F : Nat → Nat → Int32) (i j : Nat) (a : Int32) : Nat → Nat → Int32 := su (su (su F 9 i (F 9 i - a)) 9 j (F 9 j + a)) 13 (8 * i + j) (F 13 (8 * i + j) + a)
def fBack (F : Nat → Nat → Int32) (i j : Nat) (b : Int32) : Nat → Nat → Int32 := su (su (su F 13 (8 * i + j) (F 13 (8 * i + j) - b)) 9 j (F 9 j - b)) 9 i (F 9 i + b)
def fBuild (F : Nat → Nat → Int32) (P : Nat) (x : Int32) : Nat → Nat → Int32 := su (su F 16 0 (F 16 0 - 100)) 15 P x
theorem lrow_in {F : Nat → Nat → Int32} {i j : Nat} (hj : j < 8) : lrow F i j = F 13 (8 * i + j) := if_pos hj
section
variable {G : GT} {adr : Nat → Nat} {n P : Nat} {F mu : Nat → Nat → Int32} {g : Nat → Int64} {Sm : St}
theorem pe_2 {i : Nat} {v v0 : Int32} (e : v = v0) (hi : i < n) (hn : n ≤ 8) : ∀ h, Wd G (adr, (n, P, F), Sm, mu, g) h → Wd G (adr, (n, P, su F 2 i v0), Sm, mu, g) (hu h (adr (30 + i)) (ob 3 ((wellFs adr F i).set 8 (.int v)))) := by subst e; exact pw_2 hi hn
theorem pe_6 {i : Nat} {v v0 : Int32} (e : v = v0) (hi : i < n) (hn : n ≤ 8) : ∀ h, Wd G (adr, (n, P, F), Sm, mu, g) h → Wd G (adr, (n, P, su F 6 i v0), Sm, mu, g) (hu h (adr (30 + i)) (ob 3 ((wellFs adr F i).set 9 (.int v)))) := by subst e; exact pw_6 hi hn
theorem pe_11 {i : Nat} {v v0 : Int32} (e : v = v0) (hi : i < n) (hn : n ≤ 8) : ∀ h, Wd G (adr, (n, P, F), Sm, mu, g) h → Wd G (adr, (n, P, su F 11 i v0), Sm, mu, g) (hu h (adr (30 + i)) (ob 3 ((wellFs adr F i).set 10 (.int v)))) := by subst e; exact pw_11 hi hn
theorem pe_12 {i : Nat} {v v0 : Int32} (e : v = v0) (hi : i < n) (hn : n ≤ 8) : ∀ h, Wd G (adr, (n, P, F), Sm, mu, g) h → Wd G (adr, (n, P, su F 12 i v0), Sm, mu, g) (hu h (adr (30 + i)) (ob 3 ((wellFs adr F i).set 11 (.int v)))) := by subst e; exact pw_12 hi hn
theorem pe_8 {i : Nat} {v v0 : Int32} (e : v = v0) (hi : i < n) (hn : n ≤ 8) : ∀ h, Wd G (adr, (n, P, F), Sm, mu, g) h → Wd G (adr, (n, P, su F 8 i v0), Sm, mu, g) (hu h (adr (30 + i)) (ob 3 ((wellFs adr F i).set 13 (.int v)))) := by subst e; exact pw_8 hi hn
theorem pe_9 {i : Nat} {v v0 : Int32} (e : v = v0) (hi : i < n) (hn : n ≤ 8) : ∀ h, Wd G (adr, (n, P, F), Sm, mu, g) h → Wd G (adr, (n, P, su F 9 i v0), Sm, mu, g) (hu h (adr (30 + i)) (ob 3 ((wellFs adr F i).set 14 (.int v)))) := by subst e; exact pw_9 hi hn
theorem pe_10 {i : Nat} {v v0 : Int32} (e : v = v0) (hi : i < n) (hn : n ≤ 8) : ∀ h, Wd G (adr, (n, P, F), Sm, mu, g) h → Wd G (adr, (n, P, su F 10 i v0), Sm, mu, g) (hu h (adr (30 + i)) (ob 3 ((wellFs adr F i).set 15 (.int v)))) := by subst e; exact pw_10 hi hn
theorem pe_13 {i j : Nat} {v v0 : Int32} (e : v = v0) (hi : i < n) (hn : n ≤ 8) (hj : j < 8) : ∀ h, Wd G (adr, (n, P, F), Sm, mu, g) h → Wd G (adr, (n, P, su F 13 (8 * i + j) v0), Sm, mu, g) (hu h (adr (60 + i)) (aI G 8 (upd (lrow F i) j v))) := by subst e; exact pw_13 hi hn hj
end
