/-! 16: the steps of a year on the registers. My own. -/
def shr (F : Nat → Nat → Int32) : Nat → (Nat → Nat → Int32)
  | 0 => F
  | i + 1 => su (shr F i) 9 i (shr F i 9 i - (shr F i 9 i + 9) / 10)
def dra (n P : Nat) (F : Nat → Nat → Int32) (D : Nat → Bool) : Nat → (Nat → Nat → Int32)
  | 0 => F
  | i + 1 => su (su (dra n P F D i) 2 i (bh n P (dra n P F D i) D i)) 11 i (drw (dra n P F D i) D i)
/-- the sum of what the working meters of a layer told, and how many they are -/
def msum (F : Nat → Nat → Int32) (la : Int32) : Nat → Int32
  | 0 => 0
  | w + 1 => if F 0 w = la ∧ ¬ 1 - F 7 w = 0 then msum F la w + F 11 w else msum F la w
def mcnt (F : Nat → Nat → Int32) (la : Int32) : Nat → Int32
  | 0 => 0
  | w + 1 => if F 0 w = la ∧ ¬ 1 - F 7 w = 0 then mcnt F la w + 1 else mcnt F la w
def mean (n : Nat) (F : Nat → Nat → Int32) (la : Int32) : Int32 := if 0 < mcnt F la n then msum F la n / mcnt F la n else 0
def tellV (n : Nat) (F : Nat → Nat → Int32) (i : Nat) : Int32 := if 1 - F 7 i = 0 then (if 0 < F 8 i then 3 * F 8 i else mean n F (F 0 i)) else F 11 i
def tel (n : Nat) (F : Nat → Nat → Int32) : Nat → (Nat → Nat → Int32)
  | 0 => F
  | i + 1 => su (tel n F i) 12 i (tellV n (tel n F i) i)
def chg (F : Nat → Nat → Int32) (i : Nat) (a : Int32) : Nat → Nat → Int32 :=
  su (su (su F 9 i (F 9 i - minI a (F 9 i))) 10 i (F 10 i + 2 * (a - minI a (F 9 i)))) 16 0 (F 16 0 + 2 * (a - minI a (F 9 i)))
def setl (D : Nat → Bool) (F : Nat → Nat → Int32) : Nat → (Nat → Nat → Int32)
  | 0 => F
  | i + 1 => if setl D F i 12 i ≤ setl D F i 5 i then (if D i = true then setl D F i else su (setl D F i) 9 i (setl D F i 9 i + (setl D F i 5 i - setl D F i 12 i))) else chg (setl D F i) i (setl D F i 12 i - setl D F i 5 i)
def fgt (F : Nat → Nat → Int32) : Nat → (Nat → Nat → Int32)
  | 0 => F
  | i + 1 => su (fgt F i) 8 i 0
/-- the class's year -/
def yrF (n P : Nat) (F : Nat → Nat → Int32) : Nat → Nat → Int32 :=
  fgt (setl (spSt n P (shr F n)) (tel n (dra n P (shr F n) (spSt n P (shr F n)) n) n) n) n
theorem shr_ne {F : Nat → Nat → Int32} {f : Nat} (hf : f ≠ 9) : ∀ i, shr F i f = F f
  | 0 => rfl
  | i + 1 => by rw [shr, su_f hf, shr_ne hf i]
theorem dra_ne {n P : Nat} {F : Nat → Nat → Int32} {D : Nat → Bool} {f : Nat} (hf : f ≠ 2 ∧ f ≠ 11) : ∀ i, dra n P F D i f = F f
  | 0 => rfl
  | i + 1 => by rw [dra, su_f hf.2, su_f hf.1, dra_ne hf i]
theorem tel_ne {n : Nat} {F : Nat → Nat → Int32} {f : Nat} (hf : f ≠ 12) : ∀ i, tel n F i f = F f
  | 0 => rfl
  | i + 1 => by rw [tel, su_f hf, tel_ne hf i]
theorem chg_ne {F : Nat → Nat → Int32} {i f : Nat} {a : Int32} (hf : f ≠ 9 ∧ f ≠ 10 ∧ f ≠ 16) : chg F i a f = F f := by rw [chg, su_f hf.2.2, su_f hf.2.1, su_f hf.1]
theorem setl_ne {D : Nat → Bool} {F : Nat → Nat → Int32} {f : Nat} (hf : f ≠ 9 ∧ f ≠ 10 ∧ f ≠ 16) : ∀ i, setl D F i f = F f
  | 0 => rfl
  | i + 1 => by
    rw [setl]
    split
    · split
      · exact setl_ne hf i
      · rw [su_f hf.1, setl_ne hf i]
    · rw [chg_ne hf, setl_ne hf i]
theorem fgt_ne {F : Nat → Nat → Int32} {f : Nat} (hf : f ≠ 8) : ∀ i, fgt F i f = F f
  | 0 => rfl
  | i + 1 => by rw [fgt, su_f hf, fgt_ne hf i]
