/-! 47: what every state of a run keeps. By numbers alone. My own. -/
def Inv (n P : Nat) (F : Nat → Nat → Int32) : Prop :=
  n ≤ 8 ∧ P ≤ 5 ∧ Rg n P F ∧ Bt (F 16 1) 60 ∧ (∀ i, i < 8 → Bt (F 5 i) 1000 ∧ Bt (F 6 i) 2000 ∧ (F 7 i = 0 ∨ F 7 i = 1) ∧ Bt (F 8 i) 1000) ∧ (∀ f i, 6 ≤ f → f ≤ 12 → n ≤ i → F f i = 0) ∧ ∀ j, n ≤ j / 8 → F 13 j = 0
section
variable {n P : Nat} {F F' : Nat → Nat → Int32}
theorem Inv.to (H : Inv n P F) (h0 : F' 0 = F 0) (h1 : F' 1 = F 1) (h5 : F' 5 = F 5) (h15 : F' 15 = F 15) (hy : Bt (F' 16 1) 60) (h678 : ∀ i, i < 8 → Bt (F' 6 i) 2000 ∧ (F' 7 i = 0 ∨ F' 7 i = 1) ∧ Bt (F' 8 i) 1000) (hz : ∀ f i, 6 ≤ f → f ≤ 12 → n ≤ i → F' f i = 0) (hz2 : ∀ j, n ≤ j / 8 → F' 13 j = 0) : Inv n P F' := by
  obtain ⟨a, b, ⟨c1, c2⟩, d, e, -, -⟩ := H
  refine ⟨a, b, ⟨fun i hi => ?_, fun p hp => ?_⟩, hy, fun i hi => ⟨?_, h678 i hi⟩, hz, hz2⟩
  · rw [h0, h1]; exact c1 i hi
  · rw [h15]; exact c2 p hp
  · rw [h5]; exact (e i hi).1
/-- a register of a well that is there is written -/
theorem Inv.w (H : Inv n P F) {f i : Nat} {v : Int32} (hi : i < n) (hf : 6 ≤ f ∧ f ≤ 12) (h6 : f = 6 → Bt v 2000) (h7 : f = 7 → v = 0 ∨ v = 1) (h8 : f = 8 → Bt v 1000) : Inv n P (su F f i v) := by
  have h := H
  obtain ⟨a, b, c, d, e, z1, z2⟩ := h
  refine H.to (su_f (by omega)) (su_f (by omega)) (su_f (by omega)) (su_f (by omega)) (by rw [su_f (by omega)]; exact d) (fun k hk => ?_) (fun g k g1 g2 g3 => (su_i (by omega)).trans (z1 g k g1 g2 g3)) (fun j hj => by rw [su_f (by omega)]; exact z2 j hj)
  obtain ⟨-, e6, e7, e8⟩ := e k hk
  by_cases ek : k = i
  · subst ek
    refine ⟨?_, ?_, ?_⟩
    · by_cases q : f = 6
      · subst q; rw [su_s]; exact h6 rfl
      · rw [su_f (Ne.symm q)]; exact e6
    · by_cases q : f = 7
      · subst q; rw [su_s]; exact h7 rfl
      · rw [su_f (Ne.symm q)]; exact e7
    · by_cases q : f = 8
      · subst q; rw [su_s]; exact h8 rfl
      · rw [su_f (Ne.symm q)]; exact e8
  · rw [su_i ek, su_i ek, su_i ek]
    exact ⟨e6, e7, e8⟩
theorem Inv.o (H : Inv n P F) {f i : Nat} {v : Int32} (hf : f = 14 ∨ (f = 16 ∧ i = 0)) : Inv n P (su F f i v) := by
  have h := H
  obtain ⟨a, b, c, d, e, z1, z2⟩ := h
  have s : ∀ g, g < 14 → su F f i v g = F g := fun g hg => su_f (by omega)
  refine H.to (s 0 (by omega)) (s 1 (by omega)) (s 5 (by omega)) (su_f (by omega)) ?_ (fun k hk => ?_) (fun g k g1 g2 g3 => by rw [s g (by omega)]; exact z1 g k g1 g2 g3) (fun j hj => by rw [s 13 (by omega)]; exact z2 j hj)
  · rcases hf with h | ⟨h, h'⟩
    · rw [su_f (by omega)]; exact d
    · rw [su_i (by omega)]; exact d
  · rw [s 6 (by omega), s 7 (by omega), s 8 (by omega)]; exact (e k hk).2
theorem Inv.l (H : Inv n P F) {i j : Nat} {v : Int32} (hi : i < n) (hj : j < 8) : Inv n P (su F 13 (8 * i + j) v) := by
  have h := H
  obtain ⟨a, b, c, d, e, z1, z2⟩ := h
  refine H.to (su_f (by omega)) (su_f (by omega)) (su_f (by omega)) (su_f (by omega)) (by rw [su_f (by omega)]; exact d) (fun k hk => ?_) (fun g k g1 g2 g3 => by rw [su_f (by omega)]; exact z1 g k g1 g2 g3) (fun m hm => (su_i (by omega)).trans (z2 m hm))
  rw [su_f (by omega), su_f (by omega), su_f (by omega)]; exact (e k hk).2
theorem Inv.lend (H : Inv n P F) {i j : Nat} {a : Int32} (hi : i < n) (hj : j < n) : Inv n P (fLend F i j a) :=
  ((H.w hi (by omega) (by omega) (by omega) (by omega)).w hj (by omega) (by omega) (by omega) (by omega)).l hi (Nat.lt_of_lt_of_le hj H.1)
theorem Inv.back (H : Inv n P F) {i j : Nat} {b : Int32} (hi : i < n) (hj : j < n) : Inv n P (fBack F i j b) :=
  ((H.l hi (Nat.lt_of_lt_of_le hj H.1)).w hj (by omega) (by omega) (by omega) (by omega)).w hi (by omega) (by omega) (by omega) (by omega)
theorem Inv.build (H : Inv n P F) {x : Int32} (hP : P < 5) (hx : Bt x 99) : Inv n (P + 1) (fBuild F P x) := by
  obtain ⟨a, b, ⟨c1, c2⟩, d, e, z1, z2⟩ := H.o (f := 16) (i := 0) (v := F 16 0 - 100) (Or.inr ⟨rfl, rfl⟩)
  unfold fBuild
  refine ⟨a, by omega, ⟨fun i hi => ?_, fun p hp => ?_⟩, ?_, fun i hi => ?_, fun f i f1 f2 f3 => ?_, fun j hj => ?_⟩
  · rw [su_f (by omega), su_f (f := 15) (g := 1) (by omega)]; exact c1 i hi
  · by_cases q : p = P
    · subst q; rw [su_s]; exact hx
    · rw [su_i q]; exact c2 p (by omega)
  · rw [su_f (by omega)]; exact d
  · rw [su_f (by omega), su_f (f := 15) (g := 6) (by omega), su_f (f := 15) (g := 7) (by omega), su_f (f := 15) (g := 8) (by omega)]; exact e i hi
  · rw [su_f (by omega)]; exact z1 f i f1 f2 f3
  · rw [su_f (by omega)]; exact z2 j hj
theorem Inv.add (H : Inv n P F) {a d c4 c5 c6 : Int32} {x6 : Int32} (hn : n < 8) (ha : Bt a 2) (hd : Bt d 99) (h6 : Bt x6 1000) : Inv (n + 1) P (fAdd F n a d c4 c5 c6 x6) := by
  obtain ⟨a1, b, ⟨c1, c2⟩, d1, e, z1, z2⟩ := H
  have hh := fAdd_h (F := F) (n := n) (x1 := a) (x2 := d) (x3 := c4) (x4 := c5) (x5 := c6) (x6 := x6)
  have ho := fAdd_o (F := F) (n := n) (x1 := a) (x2 := d) (x3 := c4) (x4 := c5) (x5 := c6) (x6 := x6)
  obtain ⟨v0, v1, -, -, -, v5⟩ := fAdd_v (F := F) (n := n) (x1 := a) (x2 := d) (x3 := c4) (x4 := c5) (x5 := c6) (x6 := x6)
  refine ⟨by omega, b, ⟨fun i hi => ?_, fun p hp => by rw [hh 15 (by omega)]; exact c2 p hp⟩, by rw [hh 16 (by omega)]; exact d1, fun i hi => ?_, fun f i f1 f2 f3 => by rw [hh f f1]; exact z1 f i f1 f2 (by omega), fun j hj => by rw [hh 13 (by omega)]; exact z2 j (by omega)⟩
  · by_cases q : i = n
    · subst q; rw [v0, v1]; exact ⟨ha, hd⟩
    · rw [ho 0 i q, ho 1 i q]; exact c1 i (by omega)
  · rw [hh 6 (by omega), hh 7 (by omega), hh 8 (by omega)]
    refine ⟨?_, (e i hi).2⟩
    by_cases q : i = n
    · subst q; rw [v5]; exact h6
    · rw [ho 5 i q]; exact (e i hi).1
end
