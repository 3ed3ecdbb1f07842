/-! 48: a year keeps the invariant. By numbers alone. My own. -/
section
variable {n P : Nat} {F : Nat → Nat → Int32}
theorem chg_i {F : Nat → Nat → Int32} {k i f : Nat} {a : Int32} (hf : f ≠ 16) (hi : i ≠ k) : chg F k a f i = F f i := by
  unfold chg
  rw [su_f hf, su_i hi, su_i hi]
theorem setl_i {D : Nat → Bool} {F : Nat → Nat → Int32} {f i : Nat} (hf : f ≠ 16) : ∀ m, m ≤ i → setl D F m f i = F f i
  | 0, _ => rfl
  | m + 1, h => by
    have ih := setl_i (D := D) (F := F) (i := i) hf m (by omega)
    rw [setl]
    split
    · split
      · exact ih
      · rw [su_i (by omega)]; exact ih
    · rw [chg_i hf (by omega)]; exact ih
theorem setl_y {D : Nat → Bool} {F : Nat → Nat → Int32} : ∀ m, setl D F m 16 1 = F 16 1
  | 0 => rfl
  | m + 1 => by
    have ih := setl_y (D := D) (F := F) m
    rw [setl]
    split
    · split
      · exact ih
      · rw [su_f (by omega)]; exact ih
    · unfold chg
      rw [su_i (by omega), su_f (by omega), su_f (by omega)]; exact ih
theorem yr_y : yrF n P F 16 1 = F 16 1 := by
  unfold yrF
  rw [fgt_ne (by omega), setl_y, tel_ne (by omega), dra_ne (by omega), shr_ne (by omega)]
theorem yr_z (hz : ∀ f i, 6 ≤ f → f ≤ 12 → n ≤ i → F f i = 0) : ∀ f i, 6 ≤ f → f ≤ 12 → n ≤ i → yrF n P F f i = 0 := by
  intro f i f1 f2 hi
  have z := hz f i f1 f2 hi
  by_cases e6 : f = 6
  · subst e6; rw [yrF_ne (by omega)]; exact z
  by_cases e7 : f = 7
  · subst e7; rw [yrF_ne (by omega)]; exact z
  unfold yrF
  by_cases e8 : f = 8
  · subst e8
    rw [fgt_8, if_neg (by omega), setl_ne (by omega), tel_ne (by omega), dra_ne (by omega), shr_ne (by omega)]; exact z
  rw [fgt_ne e8, setl_i (by omega) n hi]
  by_cases e12 : f = 12
  · subst e12
    rw [tel_12, if_neg (by omega), dra_ne (by omega), shr_ne (by omega)]; exact z
  rw [tel_ne e12]
  by_cases e11 : f = 11
  · subst e11
    rw [dra_11, if_neg (by omega), shr_ne (by omega)]; exact z
  rw [dra_ne (by omega)]
  by_cases e9 : f = 9
  · subst e9
    rw [shr_9, if_neg (by omega)]; exact z
  rw [shr_ne e9]; exact z
theorem same_of {n P : Nat} {F : Nat → Nat → Int32} (hn : n ≤ 8) (h7 : ∀ i, i < n → F 7 i = 0 ∨ F 7 i = 1) (h6 : ∀ i, i < n → Bt (F 6 i) 2000) (h8 : ∀ i, i < n → Bt (F 8 i) 1000) (h5 : ∀ i, i < n → Bt (F 5 i) 1000) : mq2 n (spSt n P F) (mq1 n P F (spSt n P F) n) n = yrF n P F ∧ ∀ i, i < n → Bt (yrF n P F 11 i) 2000 ∧ Bt (yrF n P F 12 i) 3000 ∧ yrF n P F 8 i = 0 := same hn h7 h6 h8 h5
theorem Inv.same (H : Inv n P F) : mq2 n (spSt n P F) (mq1 n P F (spSt n P F) n) n = yrF n P F ∧ ∀ i, i < n → Bt (yrF n P F 11 i) 2000 ∧ Bt (yrF n P F 12 i) 3000 ∧ yrF n P F 8 i = 0 := by
  obtain ⟨a, b, c, d, e, z1, z2⟩ := H
  exact same_of a (fun i hi => (e i (by omega)).2.2.1) (fun i hi => (e i (by omega)).2.1) (fun i hi => (e i (by omega)).2.2.2) (fun i hi => (e i (by omega)).1)
theorem Inv.year (H : Inv n P F) (hk : kYear F = 0) : Inv n P (su (yrF n P F) 16 1 (yrF n P F 16 1 + 1)) := by
  have hs := H.same.2
  have h := H
  obtain ⟨a, b, c, ⟨y, hy, ey⟩, e, z1, z2⟩ := h
  have hlt : y < 60 := by
    unfold kYear at hk
    by_cases q : F 16 1 < 60
    · rw [ey] at q
      exact (nI_ltI (by omega) (by omega)).mp (show nI y < nI 60 from q)
    · rw [if_neg q] at hk; exact absurd hk (by decide)
  have s : ∀ g, g ≠ 16 → su (yrF n P F) 16 1 (yrF n P F 16 1 + 1) g = yrF n P F g := fun g hg => su_f hg
  refine H.to ?_ ?_ ?_ ?_ ?_ (fun i hi => ?_) (fun f i f1 f2 f3 => ?_) (fun j hj => ?_)
  · rw [s 0 (by omega), yrF_ne (by omega)]
  · rw [s 1 (by omega), yrF_ne (by omega)]
  · rw [s 5 (by omega), yrF_ne (by omega)]
  · rw [s 15 (by omega), yrF_ne (by omega)]
  · rw [su_s, yr_y, ey, nI_1]; exact ⟨y + 1, by omega, rfl⟩
  · rw [s 6 (by omega), s 7 (by omega), s 8 (by omega), yrF_ne (by omega), yrF_ne (by omega)]
    refine ⟨(e i hi).2.1, (e i hi).2.2.1, 0, by omega, ?_⟩
    by_cases q : i < n
    · exact (hs i q).2.2
    · exact yr_z z1 8 i (by omega) (by omega) (by omega)
  · rw [s f (by omega)]; exact yr_z z1 f i f1 f2 f3
  · rw [s 13 (by omega), yrF_ne (by omega)]; exact z2 j hj
end
