/-! 21: the law's year on the registers: two passes. My own. -/
def oI : Option Nat → Int32
  | none => -1
  | some y => nI y
theorem nI_m1 {y : Nat} (h : y < 100) : ¬ nI y = -1 := fun q => absurd (show nI y < 0 by rw [q]; decide) (nI_pos (by omega))
theorem m1_nI {y : Nat} (h : y < 100) : ¬ (-1 : Int32) = nI y := fun q => nI_m1 h q.symm
/-- the wells' layers and places, the ponds' places -/
def Rg (n P : Nat) (F : Nat → Nat → Int32) : Prop := (∀ i, i < n → Bt (F 0 i) 2 ∧ Bt (F 1 i) 99) ∧ ∀ p, p < P → Bt (F 15 p) 99
theorem zr100 (r : Int32) : (0 : Int32) * r / 100 = 0 := by rw [Int32.zero_mul]; decide
theorem hlay_of {n P : Nat} {F : Nat → Nat → Int32} (h : Rg n P F) : ∀ i, i < n → ∃ a, a < 3 ∧ F 0 i = nI a := fun i hi => by
  obtain ⟨a, ha, e⟩ := (h.1 i hi).1
  exact ⟨a, by omega, e⟩
/-- the mean, as the law reckons -/
def msumM (F : Nat → Nat → Int32) (la : Int32) : Nat → Int32
  | 0 => 0
  | w + 1 => msumM F la w + (if F 0 w = la ∧ F 7 w = 0 then F 11 w else 0)
def mcntM (F : Nat → Nat → Int32) (la : Int32) : Nat → Int32
  | 0 => 0
  | w + 1 => mcntM F la w + (if F 0 w = la ∧ F 7 w = 0 then 1 else 0)
def meanM (n : Nat) (F : Nat → Nat → Int32) (la : Int32) : Int32 := if mcntM F la n = 0 then 0 else msumM F la n / mcntM F la n
def tellM (n : Nat) (F : Nat → Nat → Int32) (i : Nat) : Int32 := if F 7 i = 0 then F 11 i else if 0 < F 8 i then 3 * F 8 i else meanM n F (F 0 i)
def payM (D : Nat → Bool) (F : Nat → Nat → Int32) (i : Nat) : Nat → Nat → Int32 :=
  if F 12 i - F 5 i ≤ 0 then su F 9 i (F 9 i + (if D i = true then 0 else -(F 12 i - F 5 i))) else chg F i (F 12 i - F 5 i)
def mq1 (n P : Nat) (F : Nat → Nat → Int32) (D : Nat → Bool) : Nat → (Nat → Nat → Int32)
  | 0 => F
  | i + 1 => su (su (su (mq1 n P F D i) 9 i (mq1 n P F D i 9 i - (mq1 n P F D i 9 i + 9) / 10)) 2 i (bh n P F D i)) 11 i (drw F D i)
def mq2 (n : Nat) (D : Nat → Bool) (F : Nat → Nat → Int32) : Nat → (Nat → Nat → Int32)
  | 0 => F
  | i + 1 => payM D (su (su (mq2 n D F i) 12 i (tellM n (mq2 n D F i) i)) 8 i 0) i
theorem mq1_ne {n P : Nat} {F : Nat → Nat → Int32} {D : Nat → Bool} {f : Nat} (hf : f ≠ 2 ∧ f ≠ 9 ∧ f ≠ 11) : ∀ i, mq1 n P F D i f = F f
  | 0 => rfl
  | i + 1 => by rw [mq1, su_f hf.2.2, su_f hf.1, su_f hf.2.1, mq1_ne hf i]
theorem payM_ne {D : Nat → Bool} {F : Nat → Nat → Int32} {i f : Nat} (hf : f ≠ 9 ∧ f ≠ 10 ∧ f ≠ 16) : payM D F i f = F f := by
  unfold payM
  split
  · exact su_f hf.1
  · exact chg_ne hf
theorem mq2_ne {n : Nat} {D : Nat → Bool} {F : Nat → Nat → Int32} {f : Nat} (hf : f ≠ 8 ∧ f ≠ 9 ∧ f ≠ 10 ∧ f ≠ 12 ∧ f ≠ 16) : ∀ i, mq2 n D F i f = F f
  | 0 => rfl
  | i + 1 => by rw [mq2, payM_ne ⟨hf.2.1, hf.2.2.1, hf.2.2.2.2⟩, su_f hf.1, su_f hf.2.2.2.1, mq2_ne hf i]
