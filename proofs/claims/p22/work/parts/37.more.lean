/-! 37: the world with one more well. My own. -/
def adG (adr : Nat → Nat) (n w r q e ea : Nat) : Nat → Nat := fun x => if x = 30 + n then w else if x = 40 + n then r else if x = 50 + n then q else if x = 60 + n then e else if x = 2 then ea else adr x
section
variable {G : GT} {adr adr' : Nat → Nat} {n P w r q e ea : Nat} {F F' mu : Nat → Nat → Int32} {g : Nat → Int64} {Sm : St}
theorem ag_w : adG adr n w r q e ea (30 + n) = w := if_pos rfl
theorem ag_r : adG adr n w r q e ea (40 + n) = r := by unfold adG; rw [if_neg (by omega), if_pos rfl]
theorem ag_q : adG adr n w r q e ea (50 + n) = q := by unfold adG; rw [if_neg (by omega), if_neg (by omega), if_pos rfl]
theorem ag_e : adG adr n w r q e ea (60 + n) = e := by unfold adG; rw [if_neg (by omega), if_neg (by omega), if_neg (by omega), if_pos rfl]
theorem ag_2 : adG adr n w r q e ea 2 = ea := by unfold adG; rw [if_neg (by omega), if_neg (by omega), if_neg (by omega), if_neg (by omega), if_pos rfl]
theorem ag_o {x : Nat} (h1 : x ≠ 30 + n) (h2 : x ≠ 40 + n) (h3 : x ≠ 50 + n) (h4 : x ≠ 60 + n) (h5 : x ≠ 2) : adG adr n w r q e ea x = adr x := by unfold adG; rw [if_neg h1, if_neg h2, if_neg h3, if_neg h4, if_neg h5]
theorem ag_l {x : Nat} (h1 : x < 30) (h5 : x ≠ 2) : adG adr n w r q e ea x = adr x := ag_o (by omega) (by omega) (by omega) (by omega) h5
theorem lrow_cg {i : Nat} (h : F' 13 = F 13) : lrow F' i = lrow F i := by
  funext j
  unfold lrow
  rw [h]
theorem cell_old (hn : n < 8) (hA : ∀ f i, i ≠ n → F' f i = F f i) (hB : ∀ f, 6 ≤ f → F' f = F f) {x : Nat} (x1 : x ≠ 1) (x2 : x ≠ 2) (x3 : x ≠ 30 + n) (x4 : x ≠ 40 + n) (x5 : x ≠ 50 + n) (x6 : x ≠ 60 + n) :
    cellOf G (adG adr n w r q e ea, (n + 1, P, F'), Sm, mu, g) x = cellOf G (adr, (n, P, F), Sm, mu, g) x := by
  by_cases h5 : x < 5
  · rw [cX h5, cX h5]
    have : x = 0 ∨ x = 3 ∨ x = 4 := by omega
    rcases this with rfl | rfl | rfl
    · show some (ob 4 [.ref (adG adr n w r q e ea 1), .ref (adG adr n w r q e ea 3), .ref (adG adr n w r q e ea 4), .int (nI P), .int (F' 16 0), .int (F' 16 1)]) = _
      rw [ag_l (by omega) (by omega), ag_l (by omega) (by omega), ag_l (by omega) (by omega), hB 16 (by omega)]
      rfl
    · show some (aI G 3 (F' 14)) = _
      rw [hB 14 (by omega)]; rfl
    · show some (aI G 5 (F' 15)) = _
      rw [hB 15 (by omega)]; rfl
  · by_cases h30 : x < 30
    · rw [cellOf, cellOf, if_neg h5, if_pos h30, if_neg h5, if_pos h30]
    · rw [cellOf, cellOf, if_neg h5, if_neg h30, if_neg h5, if_neg h30]
      show cellW G (adG adr n w r q e ea) (n + 1, P, F') (x - 30) = cellW G adr (n, P, F) (x - 30)
      have hd := Nat.div_add_mod (x - 30) 10
      unfold cellW
      by_cases c : (x - 30) % 10 < n
      · rw [if_pos (show (x - 30) % 10 < n + 1 by omega), if_pos c]
        have e0 : ∀ f, F' f ((x - 30) % 10) = F f ((x - 30) % 10) := fun f => hA f _ (by omega)
        have a1 : adG adr n w r q e ea (40 + (x - 30) % 10) = adr (40 + (x - 30) % 10) := ag_o (by omega) (by omega) (by omega) (by omega) (by omega)
        have a2 : adG adr n w r q e ea (50 + (x - 30) % 10) = adr (50 + (x - 30) % 10) := ag_o (by omega) (by omega) (by omega) (by omega) (by omega)
        have a3 : adG adr n w r q e ea (60 + (x - 30) % 10) = adr (60 + (x - 30) % 10) := ag_o (by omega) (by omega) (by omega) (by omega) (by omega)
        simp only [wellFs, e0, a1, a2, a3, lrow_cg (hB 13 (by omega))]
      · rw [if_neg c]
        by_cases c2 : (x - 30) % 10 < n + 1
        · rw [if_pos c2]
          have : 4 ≤ (x - 30) / 10 := by omega
          obtain ⟨k, hk⟩ : ∃ k, (x - 30) / 10 = k + 4 := ⟨(x - 30) / 10 - 4, by omega⟩
          rw [hk]
          rfl
        · rw [if_neg c2]
/-- one well more -/
theorem Wd.grow {hb h1 : Hp} (H : Wd G (adr, (n, P, F), Sm, mu, g) hb) (hn : n < 8) (hA : ∀ f i, i ≠ n → F' f i = F f i) (hB : ∀ f, 6 ≤ f → F' f = F f)
    (hw : h1 w = some (ob 3 (wellFs (adG adr n w r q e ea) F' n))) (hr : h1 r = some (ob 0 [.ref q, .int 0, .int 0, .int 0])) (hq : h1 q = some (aB G (tx (F' 0 n).toNatClampNeg (F' 1 n).toNatClampNeg n).length (txb (F' 0 n).toNatClampNeg (F' 1 n).toNatClampNeg n))) (he : h1 e = some (aI G 8 (lrow F' n)))
    (hl : h1 (adr 1) = some (ob 2 [.int (nI (n + 1)), .ref ea, .int (nI (n + 1))])) (hea : h1 ea = some (aO G 10 (fun j => if j < n + 1 then some (adG adr n w r q e ea (30 + j)) else none)))
    (f1 : hb w = none ∧ hb r = none ∧ hb q = none ∧ hb e = none) (f2 : w ≠ r ∧ w ≠ q ∧ w ≠ e ∧ r ≠ q ∧ r ≠ e ∧ q ≠ e) (f3 : ea ≠ w ∧ ea ≠ r ∧ ea ≠ q ∧ ea ≠ e) (hE : hb ea = none ∨ (n ≠ 0 ∧ ea = adr 2)) (keep : ∀ x, hb x ≠ none → x ≠ adr 1 → x ≠ ea → h1 x = hb x) :
    Wd G (adG adr n w r q e ea, (n + 1, P, F'), Sm, mu, g) h1 := by
  have c1 : cellOf G (adr, (n, P, F), Sm, mu, g) 1 ≠ none := fun z => by cases z
  have c2 : n ≠ 0 → cellOf G (adr, (n, P, F), Sm, mu, g) 2 ≠ none := fun z => by
    show (if n = 0 then none else some _) ≠ none
    rw [if_neg z]
    exact fun z => by cases z
  have nea : ∀ x, x ≠ 2 → cellOf G (adr, (n, P, F), Sm, mu, g) x ≠ none → adr x ≠ ea := by
    intro x hx hc hz
    rcases hE with hE | ⟨h0, hE⟩
    · exact H.fresh hE x hc hz
    · exact hx (H.2 x 2 hc (c2 h0) (hz.trans hE))
  refine ⟨fun x y hx => ?_, ?_⟩
  · show h1 (adG adr n w r q e ea x) = some y
    by_cases x1 : x = 1
    · subst x1
      rw [ag_l (by omega) (by omega), hl, ← hx]
      show _ = some (ob 2 [.int (nI (n + 1)), .ref (if n + 1 = 0 then G.2.2 0 else adG adr n w r q e ea 2), .int (nI (n + 1))])
      rw [if_neg (by omega), ag_2]
    · by_cases x2 : x = 2
      · subst x2
        rw [ag_2, hea, ← hx]
        show _ = (if n + 1 = 0 then none else some _)
        rw [if_neg (by omega)]
      · by_cases x3 : x = 30 + n
        · subst x3
          rw [ag_w, hw, ← hx]
          exact (c_well (w := (adG adr n w r q e ea, (n + 1, P, F'), Sm, mu, g)) (Nat.lt_succ_self n) (by omega)).symm
        · by_cases x4 : x = 40 + n
          · subst x4
            rw [ag_r, hr, ← hx]
            rw [c_str (w := (adG adr n w r q e ea, (n + 1, P, F'), Sm, mu, g)) (Nat.lt_succ_self n) (by omega)]
            show _ = some (ob 0 [.ref (adG adr n w r q e ea (50 + n)), .int 0, .int 0, .int 0])
            rw [ag_q]
          · by_cases x5 : x = 50 + n
            · subst x5
              rw [ag_q, hq, ← hx]
              exact (c_byt (w := (adG adr n w r q e ea, (n + 1, P, F'), Sm, mu, g)) (Nat.lt_succ_self n) (by omega)).symm
            · by_cases x6 : x = 60 + n
              · subst x6
                rw [ag_e, he, ← hx]
                exact (c_lent (w := (adG adr n w r q e ea, (n + 1, P, F'), Sm, mu, g)) (Nat.lt_succ_self n) (by omega)).symm
              · have hx' : cellOf G (adr, (n, P, F), Sm, mu, g) x = some y := (cell_old hn hA hB x1 x2 x3 x4 x5 x6).symm.trans hx
                have hn' : cellOf G (adr, (n, P, F), Sm, mu, g) x ≠ none := by rw [hx']; exact fun z => by cases z
                have hy : hb (adr x) = some y := H.1 x y hx'
                rw [ag_o x3 x4 x5 x6 x2, keep _ (by rw [hy]; exact fun z => by cases z) (fun z => x1 (H.2 x 1 hn' c1 z)) (nea x x2 hn'), hy]
  · have O : ∀ x, cellOf G (adG adr n w r q e ea, (n + 1, P, F'), Sm, mu, g) x ≠ none → (x = 2 ∧ adG adr n w r q e ea x = ea) ∨ (x = 30 + n ∧ adG adr n w r q e ea x = w) ∨ (x = 40 + n ∧ adG adr n w r q e ea x = r) ∨ (x = 50 + n ∧ adG adr n w r q e ea x = q) ∨ (x = 60 + n ∧ adG adr n w r q e ea x = e) ∨ (adG adr n w r q e ea x = adr x ∧ cellOf G (adr, (n, P, F), Sm, mu, g) x ≠ none ∧ adr x ≠ ea ∧ adr x ≠ w ∧ adr x ≠ r ∧ adr x ≠ q ∧ adr x ≠ e) := by
      intro x hx
      by_cases x2 : x = 2
      · subst x2; exact Or.inl ⟨rfl, ag_2⟩
      · by_cases x3 : x = 30 + n
        · subst x3; exact Or.inr (Or.inl ⟨rfl, ag_w⟩)
        · by_cases x4 : x = 40 + n
          · subst x4; exact Or.inr (Or.inr (Or.inl ⟨rfl, ag_r⟩))
          · by_cases x5 : x = 50 + n
            · subst x5; exact Or.inr (Or.inr (Or.inr (Or.inl ⟨rfl, ag_q⟩)))
            · by_cases x6 : x = 60 + n
              · subst x6; exact Or.inr (Or.inr (Or.inr (Or.inr (Or.inl ⟨rfl, ag_e⟩))))
              · have hc : cellOf G (adr, (n, P, F), Sm, mu, g) x ≠ none := by
                  by_cases x1 : x = 1
                  · subst x1; exact c1
                  · rw [← cell_old (P := P) (Sm := Sm) (mu := mu) (g := g) (w := w) (r := r) (q := q) (e := e) (ea := ea) hn hA hB x1 x2 x3 x4 x5 x6]; exact hx
                exact Or.inr (Or.inr (Or.inr (Or.inr (Or.inr ⟨ag_o x3 x4 x5 x6 x2, hc, nea x x2 hc, H.fresh f1.1 x hc, H.fresh f1.2.1 x hc, H.fresh f1.2.2.1 x hc, H.fresh f1.2.2.2 x hc⟩))))
    intro x y hx hy hxy
    have hxy : adG adr n w r q e ea x = adG adr n w r q e ea y := hxy
    obtain ⟨g1, g2, g3, g4, g5, g6⟩ := f2
    obtain ⟨k1, k2, k3, k4⟩ := f3
    rcases O x hx with ⟨a, b⟩ | ⟨a, b⟩ | ⟨a, b⟩ | ⟨a, b⟩ | ⟨a, b⟩ | ⟨b, a, m1, m2, m3, m4, m5⟩ <;> rcases O y hy with ⟨a', b'⟩ | ⟨a', b'⟩ | ⟨a', b'⟩ | ⟨a', b'⟩ | ⟨a', b'⟩ | ⟨b', a', m1', m2', m3', m4', m5'⟩ <;> first | omega | exact H.2 x y a a' (by rw [b, b'] at hxy; exact hxy)
end
