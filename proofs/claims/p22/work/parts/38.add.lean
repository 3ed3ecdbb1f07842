/-! 38: a well is added, by heaps. My own. -/
section
variable {G : GT} {adr : Nat → Nat} {n P w r q e ea a d : Nat} {F mu : Nat → Nat → Int32} {g : Nat → Int64} {Sm : St} {x3 x4 x5 x6 : Int32} {hB hC h1 : Hp}
theorem fAdd_v {x1 x2 : Int32} : fAdd F n x1 x2 x3 x4 x5 x6 0 n = x1 ∧ fAdd F n x1 x2 x3 x4 x5 x6 1 n = x2 ∧ fAdd F n x1 x2 x3 x4 x5 x6 2 n = x3 ∧ fAdd F n x1 x2 x3 x4 x5 x6 3 n = x4 ∧ fAdd F n x1 x2 x3 x4 x5 x6 4 n = x5 ∧ fAdd F n x1 x2 x3 x4 x5 x6 5 n = x6 := by
  refine ⟨?_, ?_, ?_, ?_, ?_, ?_⟩ <;> simp [fAdd, su]
theorem fAdd_o {x1 x2 : Int32} : ∀ f i, i ≠ n → fAdd F n x1 x2 x3 x4 x5 x6 f i = F f i := fun f i hi => by simp [fAdd, su, hi]
theorem fAdd_h {x1 x2 : Int32} : ∀ f, 6 ≤ f → fAdd F n x1 x2 x3 x4 x5 x6 f = F f := fun f hf => by
  unfold fAdd
  rw [su_f (by omega), su_f (by omega), su_f (by omega), su_f (by omega), su_f (by omega), su_f (by omega)]
theorem Wd.add {f1 : Nat → Option Nat} (H : Wd G (adr, (n, P, F), Sm, mu, g) hB) (hn : n < 8) (ha : a < 3) (hd : d < 100) (hz1 : ∀ f, 6 ≤ f → f ≤ 12 → F f n = 0) (hz2 : ∀ j, j < 8 → F 13 (8 * n + j) = 0)
    (C : NTy G hB w [.int (nI n), .int (nI a), .int (nI d), .int x4, .int x5, .int x6, .ref r, .ref e, .int x3, .int 0, .int 0, .int 0, .int 1, .int 0, .int 0, .int 0] r q (tx a d n).length (txb a d n) e hC)
    (hE : (hC ea = none ∧ n = 0) ∨ (n ≠ 0 ∧ ea = adr 2)) (hf : f1 = fun j => if j < n + 1 then some (adG adr n w r q e ea (30 + j)) else none)
    (L : LSt G hC (adr 1) ea [.int (nI (n + 1)), .ref ea, .int (nI (n + 1))] f1 h1) : ∃ adr', (∀ x, x < 30 → x ≠ 2 → adr' x = adr x) ∧ Wd G (adr', (n + 1, P, fAdd F n (nI a) (nI d) x3 x4 x5 x6), Sm, mu, g) h1 := by
  obtain ⟨⟨⟨b1, b2, b3⟩, s1, s2, s3, s4, s5, s6, s7⟩, t1, t2, t3, t4, t5⟩ := C
  have B1 : hB (adr 1) ≠ none := by rw [wc1 hB H]; exact fun z => by cases z
  have nb : ∀ x, hB x = none → x ≠ adr 1 := fun x hx z => B1 (z ▸ hx)
  have ne : ∀ x y, hB x = none → hC x = some y → x ≠ ea := fun x y hx hy z => by
    rcases hE with ⟨h9, -⟩ | ⟨h9, h8⟩
    · rw [z, h9] at hy; cases hy
    · rw [z, h8, wc2 h9 hB H] at hx; cases hx
  have nw := ne w _ b2 b1
  have nr := ne r _ s6 s1
  have nq9 := ne q _ s7 s2
  have ne9 := ne e _ t5 t1
  obtain ⟨v0, v1, v2, v3, v4, v5⟩ := fAdd_v (F := F) (n := n) (x1 := nI a) (x2 := nI d) (x3 := x3) (x4 := x4) (x5 := x5) (x6 := x6)
  have hh := fAdd_h (F := F) (n := n) (x1 := nI a) (x2 := nI d) (x3 := x3) (x4 := x4) (x5 := x5) (x6 := x6)
  refine ⟨adG adr n w r q e ea, fun _ z1 z2 => ag_l z1 z2, H.grow hn fAdd_o hh ?_ ((L.2.2.2 r (nb r s6) nr).trans s1) ?_ ?_ L.1 (by rw [L.2.1, hf]) ⟨b2, s6, s7, t5⟩ ⟨Ne.symm s4, Ne.symm s5, Ne.symm t2, s3, Ne.symm t3, Ne.symm t4⟩ ⟨Ne.symm nw, Ne.symm nr, Ne.symm nq9, Ne.symm ne9⟩ ?_ (fun x hx h2 h3 => (L.2.2.2 x h2 h3).trans (b3 x hx))⟩
  · rw [L.2.2.2 w (nb w b2) nw, b1]
    unfold wellFs
    rw [ag_r, ag_e, v0, v1, v2, v3, v4, v5, hh 6 (by omega), hh 7 (by omega), hh 8 (by omega), hh 9 (by omega), hh 10 (by omega), hh 11 (by omega), hh 12 (by omega), hz1 6 (by omega) (by omega), hz1 7 (by omega) (by omega), hz1 8 (by omega) (by omega), hz1 9 (by omega) (by omega), hz1 10 (by omega) (by omega), hz1 11 (by omega) (by omega), hz1 12 (by omega) (by omega), Int32.sub_zero]
  · rw [L.2.2.2 q (nb q s7) nq9, s2, v0, v1, nI_clamp (by omega), nI_clamp (by omega)]
  · rw [L.2.2.2 e (nb e t5) ne9, t1]
    congr 4
    funext j
    unfold lrow
    by_cases hj : j < 8
    · rw [if_pos hj, hh 13 (by omega), hz2 j hj]
    · rw [if_neg hj]
  · rcases hE with ⟨h9, -⟩ | h9
    · refine Or.inl ?_
      cases hq : hB ea with
      | none => rfl
      | some y =>
        have := b3 ea (by rw [hq]; exact fun z => by cases z)
        rw [h9, hq] at this; cases this
    · exact Or.inr h9
theorem upS (h2 : ea = adr 2) (hn : n < 8) : va_up (fun j => if j < n then some (adr (30 + j)) else none) n (some w) = fun j => if j < n + 1 then some (adG adr n w r q e ea (30 + j)) else none := by
  funext j
  by_cases hj : j = n
  · subst hj
    rw [va_up_self, if_pos (Nat.lt_succ_self _), ag_w]
  · rw [va_up_ne _ _ hj]
    by_cases c : j < n
    · rw [if_pos c, if_pos (by omega), ag_o (by omega) (by omega) (by omega) (by omega) (by omega)]
    · rw [if_neg c, if_neg (by omega)]
theorem upZ : va_up (fun _ => none) 0 (some w) = fun j => if j < 0 + 1 then some (adG adr 0 w r q e ea (30 + j)) else none := by
  funext j
  by_cases hj : j = 0
  · subst hj
    rw [va_up_self, if_pos (by omega)]
    exact congrArg some (ag_w (n := 0)).symm
  · rw [va_up_ne _ _ hj, if_neg (by omega)]
end
