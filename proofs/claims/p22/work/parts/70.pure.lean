/-! 70: what the law reckons, by numbers alone. My own. -/
/-- a number out of bits, below m -/
def lowN (x : Int32) (m : Nat) : Nat := (x.toBitVec.toNat % 2 ^ 31) % m
theorem low_eq (x : Int32) {m : Nat} (h0 : 0 < m) (hm : m < 2 ^ 31) : (x &&& 2147483647) - (x &&& 2147483647) / nI m * nI m = nI (lowN x m) := by
  rw [pk_and x (m := 2147483647) 31 (by decide +kernel), pk_rem (Nat.mod_lt _ (by decide)) h0 hm]
  rfl
theorem lowN_lt (x : Int32) {m : Nat} (h0 : 0 < m) : lowN x m < m := Nat.mod_lt _ h0
/-! reach -/
def sizeL (x : Int32) : Int32 := if 0 ≤ x then x else -x
def wLo (x : Int32) : Int32 := if x < 10 then 100 - 10 * x else 0
def spReachL (lw pw lo po : Int32) : Int32 := if sizeL (lo - lw) ≤ 1 then (if sizeL (lo - lw) = 1 then wLo (sizeL (po - pw)) / 2 else wLo (sizeL (po - pw))) else 0
theorem rL_tab : ∀ d : Nat, d < 100 → (if (0 : Int32) < 100 - 10 * nI d then 100 - 10 * nI d else 0) = wLo (nI d) := by decide +kernel
theorem abs_sub {a b : Nat} (ha : a < 1000) (hb : b < 1000) : absI (nI b - nI a) = nI (if a ≤ b then b - a else a - b) ∧ sizeL (nI a - nI b) = nI (if a ≤ b then b - a else a - b) := by
  unfold absI sizeL
  by_cases h : a ≤ b
  · rw [if_pos h, pk_sub h, if_pos (nI_pos' (by omega))]
    refine ⟨rfl, ?_⟩
    by_cases e : a = b
    · subst e
      rw [Int32.sub_self, if_pos (by decide), Nat.sub_self]
      rfl
    · have h3 : nI a - nI b < 0 := pk_sneg (by omega) (by omega)
      rw [if_neg (fun q => absurd h3 (Int32.not_lt.mpr q)), Int32.neg_sub, pk_sub h]
  · have h2 : b < a := by omega
    have h3 : nI b - nI a < 0 := pk_sneg (by omega) h2
    rw [if_neg h, if_neg (fun q => absurd h3 (Int32.not_lt.mpr q)), ← pk_sub (show b ≤ a by omega)]
    refine ⟨by rw [Int32.zero_sub, Int32.neg_sub], ?_⟩
    rw [pk_sub (show b ≤ a by omega), if_pos (nI_pos' (by omega))]
theorem rL_eq {lw pw lo po : Int32} (h1 : Bt lw 2) (h2 : Bt pw 99) (h3 : Bt lo 2) (h4 : Bt po 99) : spReachL lw pw lo po = spReachC lw pw lo po := by
  obtain ⟨a, ha, rfl⟩ := h1
  obtain ⟨b, hb, rfl⟩ := h2
  obtain ⟨c, hc, rfl⟩ := h3
  obtain ⟨d, hd, rfl⟩ := h4
  obtain ⟨e1, e2⟩ := abs_sub (a := d) (b := b) (by omega) (by omega)
  obtain ⟨e3, e4⟩ := abs_sub (a := c) (b := a) (by omega) (by omega)
  unfold spReachL spReachC
  rw [e1, e2, e3, e4]
  have hx : (if d ≤ b then b - d else d - b) < 100 := by split <;> omega
  have hy : (if c ≤ a then a - c else c - a) ≤ 2 := by split <;> omega
  rw [← rL_tab _ hx]
  generalize (if (0 : Int32) < 100 - 10 * nI (if d ≤ b then b - d else d - b) then 100 - 10 * nI (if d ≤ b then b - d else d - b) else 0) = X
  generalize (if c ≤ a then a - c else c - a) = e at hy
  have : e = 0 ∨ e = 1 ∨ e = 2 := by omega
  rcases this with rfl | rfl | rfl
  · show (if nI 0 ≤ 1 then (if nI 0 = 1 then X / 2 else X) else 0) = (if nI 0 = 0 then X else if nI 0 = 1 then X / 2 else 0)
    rw [if_pos (by decide), if_neg (by decide), if_pos (by decide)]
  · show (if nI 1 ≤ 1 then (if nI 1 = 1 then X / 2 else X) else 0) = (if nI 1 = 0 then X else if nI 1 = 1 then X / 2 else 0)
    rw [if_pos (by decide), if_pos (by decide), if_neg (by decide), if_pos (by decide)]
  · show (if nI 2 ≤ 1 then (if nI 2 = 1 then X / 2 else X) else 0) = (if nI 2 = 0 then X else if nI 2 = 1 then X / 2 else 0)
    rw [if_neg (by decide), if_neg (by decide), if_neg (by decide)]
/-- a pond's rise, both ways -/
theorem rC_bt {lw pw lo po : Int32} (h1 : Bt lw 2) (h2 : Bt pw 99) (h3 : Bt lo 2) (h4 : Bt po 99) : Bt (spReachC lw pw lo po) 100 := by
  rw [← rL_eq h1 h2 h3 h4]
  obtain ⟨a, ha, rfl⟩ := h1
  obtain ⟨b, hb, rfl⟩ := h2
  obtain ⟨c, hc, rfl⟩ := h3
  obtain ⟨d, hd, rfl⟩ := h4
  obtain ⟨-, e2⟩ := abs_sub (a := d) (b := b) (by omega) (by omega)
  have hx : (if d ≤ b then b - d else d - b) < 100 := by split <;> omega
  have T : ∀ q : Nat, q < 100 → Bt (wLo (nI q)) 100 := by
    intro q hq
    unfold wLo
    by_cases h : q < 10
    · rw [if_pos (show nI q < 10 from nI_lt (b := 10) h (by omega))]
      refine ⟨100 - 10 * q, by omega, ?_⟩
      rw [show (100 : Int32) = nI 100 from rfl, show (10 : Int32) = nI 10 from rfl, pk_mul, pk_sub (by omega)]
    · rw [if_neg (show ¬ nI q < 10 from nI_nlt (a := q) (b := 10) (by omega) (by omega))]
      exact ⟨0, by omega, rfl⟩
  have T2 : ∀ x, Bt x 100 → Bt (x / 2) 100 := by
    rintro x ⟨j, hj, rfl⟩
    exact ⟨j / 2, by omega, by rw [show (2 : Int32) = nI 2 from rfl, pk_div (by omega) (by omega) (by omega)]⟩
  unfold spReachL
  rw [e2]
  split
  · split
    · exact T2 _ (T _ hx)
    · exact T _ hx
  · exact ⟨0, by omega, rfl⟩
theorem rise {x : Int32} (h : Bt x 100) : x / 5 = 20 * x / 100 := by
  obtain ⟨j, hj, rfl⟩ := h
  rw [show (5 : Int32) = nI 5 from rfl, show (20 : Int32) = nI 20 from rfl, show (100 : Int32) = nI 100 from rfl, pk_mul, pk_div (by omega) (by omega) (by omega), pk_div (by omega) (by omega) (by omega)]
  congr 1
  omega
/-! bits -/
theorem mk8_bit : ∀ b0 b1 b2 b3 b4 b5 b6 b7 : Bool, (mk8 b0 b1 b2 b3 b4 b5 b6 b7 >>> (nI 0 &&& 31)) &&& 1 = (if b0 = true then 1 else 0) ∧ (mk8 b0 b1 b2 b3 b4 b5 b6 b7 >>> (nI 1 &&& 31)) &&& 1 = (if b1 = true then 1 else 0) ∧ (mk8 b0 b1 b2 b3 b4 b5 b6 b7 >>> (nI 2 &&& 31)) &&& 1 = (if b2 = true then 1 else 0) ∧ (mk8 b0 b1 b2 b3 b4 b5 b6 b7 >>> (nI 3 &&& 31)) &&& 1 = (if b3 = true then 1 else 0) ∧ (mk8 b0 b1 b2 b3 b4 b5 b6 b7 >>> (nI 4 &&& 31)) &&& 1 = (if b4 = true then 1 else 0) := by decide +kernel
theorem bit_in {D : Nat → Bool} {i : Nat} (hi : i < 5) : (mk D >>> (nI i &&& 31)) &&& 1 = if D i = true then 1 else 0 := by
  obtain ⟨h0, h1, h2, h3, h4⟩ := mk8_bit (D 0) (D 1) (D 2) (D 3) (D 4) (D 5) (D 6) (D 7)
  have e : i = 0 ∨ i = 1 ∨ i = 2 ∨ i = 3 ∨ i = 4 := by omega
  rcases e with rfl | rfl | rfl | rfl | rfl
  · exact h0
  · exact h1
  · exact h2
  · exact h3
  · exact h4
/-! ranks -/
section
variable {F : Nat → Nat → Int32}
theorem old_irr {k : Nat} : ¬ spOld F k k := fun h => by
  rcases h with h | ⟨-, h⟩
  · rw [Int32.lt_iff_toInt_lt] at h; omega
  · rw [Int32.lt_iff_toInt_lt] at h; omega
theorem old_tr {i j k : Nat} (h1 : spOld F i j) (h2 : spOld F j k) : spOld F i k := by
  rcases h1 with h1 | ⟨e1, h1⟩ <;> rcases h2 with h2 | ⟨e2, h2⟩
  · exact Or.inl (Int32.lt_trans h1 h2)
  · exact Or.inl (e2 ▸ h1)
  · exact Or.inl (e1 ▸ h2)
  · exact Or.inr ⟨e1.trans e2, Int32.lt_trans h1 h2⟩
theorem old_tri {i j : Nat} (hi : i < 8) (hj : j < 8) (h : i ≠ j) : spOld F i j ∨ spOld F j i := by
  by_cases c1 : F 4 i < F 4 j
  · exact Or.inl (Or.inl c1)
  · by_cases c2 : F 4 j < F 4 i
    · exact Or.inr (Or.inl c2)
    · have e := Int32.le_antisymm (Int32.not_lt.mp c2) (Int32.not_lt.mp c1)
      by_cases c3 : i < j
      · exact Or.inl (Or.inr ⟨e, nI_lt c3 (by omega)⟩)
      · exact Or.inr (Or.inr ⟨e.symm, nI_lt (show j < i by omega) (by omega)⟩)
theorem old_as {i j : Nat} (h : spOld F i j) : ¬ spOld F j i := fun q => old_irr (old_tr h q)
/-- how many of the first m are older -/
def rkc (F : Nat → Nat → Int32) (k : Nat) : Nat → Nat
  | 0 => 0
  | m + 1 => rkc F k m + (if spOld F m k then 1 else 0)
theorem rkc_le {k : Nat} : ∀ m, rkc F k m ≤ m
  | 0 => Nat.le_refl _
  | m + 1 => by
    have := rkc_le (k := k) m
    rw [rkc]
    split <;> omega
theorem rkc_lt {k : Nat} : ∀ {m}, k < m → rkc F k m < m
  | 0, h => absurd h (Nat.not_lt_zero _)
  | m + 1, h => by
    rw [rkc]
    by_cases e : k = m
    · subst e
      rw [if_neg old_irr]
      have := rkc_le (F := F) (k := k) k
      omega
    · have := rkc_lt (k := k) (m := m) (by omega)
      split <;> omega
theorem rkc_mono {a b : Nat} (h : spOld F a b) : ∀ m, rkc F a m ≤ rkc F b m ∧ (a < m → rkc F a m < rkc F b m)
  | 0 => ⟨Nat.le_refl _, fun q => absurd q (Nat.not_lt_zero _)⟩
  | m + 1 => by
    obtain ⟨i1, i2⟩ := rkc_mono h m
    rw [rkc, rkc]
    by_cases c : spOld F m a
    · rw [if_pos c, if_pos (old_tr c h)]
      refine ⟨by omega, fun q => ?_⟩
      by_cases e : a = m
      · subst e; exact absurd c old_irr
      · have := i2 (by omega); omega
    · rw [if_neg c]
      refine ⟨by split <;> omega, fun q => ?_⟩
      by_cases e : a = m
      · subst e; rw [if_pos h]; omega
      · have := i2 (by omega)
        split <;> omega
theorem rkc_old {n a b : Nat} (hn : n ≤ 8) (ha : a < n) (hb : b < n) (h : rkc F a n < rkc F b n) : spOld F a b := by
  by_cases e : a = b
  · subst e; omega
  · rcases old_tri (F := F) (show a < 8 by omega) (show b < 8 by omega) e with q | q
    · exact q
    · have := (rkc_mono q n).2 hb; omega
theorem rkc_inj {n a b : Nat} (hn : n ≤ 8) (ha : a < n) (hb : b < n) (h : rkc F a n = rkc F b n) : a = b := by
  by_cases e : a = b
  · exact e
  · rcases old_tri (F := F) (show a < 8 by omega) (show b < 8 by omega) e with q | q
    · have := (rkc_mono q n).2 ha; omega
    · have := (rkc_mono q n).2 hb; omega
end
theorem pig : ∀ (n : Nat) (f : Nat → Nat), (∀ i, i < n → f i < n) → (∀ i j, i < n → j < n → f i = f j → i = j) → ∀ t, t < n → ∃ i, i < n ∧ f i = t
  | 0, _, _, _, t, ht => absurd ht (Nat.not_lt_zero _)
  | n + 1, f, h1, h2, t, ht => by
    have IH := pig n (fun i => if f i = n then f n else f i) (fun i hi => by
      show (if f i = n then f n else f i) < n
      by_cases c : f i = n
      · rw [if_pos c]
        have a := h1 n (by omega)
        by_cases e : f n = n
        · exact absurd (h2 i n (by omega) (by omega) (c.trans e.symm)) (by omega)
        · omega
      · rw [if_neg c]
        have a := h1 i (by omega)
        omega) (fun i j hi hj e => by
      have e : (if f i = n then f n else f i) = (if f j = n then f n else f j) := e
      by_cases c : f i = n
      · rw [if_pos c] at e
        by_cases d : f j = n
        · exact h2 i j (by omega) (by omega) (c.trans d.symm)
        · rw [if_neg d] at e
          exact absurd (h2 n j (by omega) (by omega) e) (by omega)
      · rw [if_neg c] at e
        by_cases d : f j = n
        · rw [if_pos d] at e
          exact absurd (h2 i n (by omega) (by omega) e) (by omega)
        · rw [if_neg d] at e
          exact h2 i j (by omega) (by omega) e)
    by_cases e : f n = t
    · exact ⟨n, by omega, e⟩
    · by_cases q : t = n
      · subst q
        obtain ⟨i, hi, he⟩ := IH (f t) (by have := h1 t (by omega); omega)
        have he : (if f i = t then f t else f i) = f t := he
        by_cases c : f i = t
        · exact ⟨i, by omega, c⟩
        · rw [if_neg c] at he
          exact absurd (h2 i t (by omega) (by omega) he) (by omega)
      · obtain ⟨i, hi, he⟩ := IH t (by omega)
        have he : (if f i = n then f n else f i) = t := he
        by_cases c : f i = n
        · rw [if_pos c] at he
          exact absurd he e
        · rw [if_neg c] at he
          exact ⟨i, by omega, he⟩
theorem rkc_sur {F : Nat → Nat → Int32} {n t : Nat} (hn : n ≤ 8) (ht : t < n) : ∃ k, k < n ∧ rkc F k n = t :=
  pig n (fun k => rkc F k n) (fun _ hi => rkc_lt hi) (fun _ _ hi hj e => rkc_inj hn hi hj e) t ht
/-! the youngest, the oldest -/
section
variable {n P : Nat} {F : Nat → Nat → Int32} {D : Nat → Bool} {w : Nat}
theorem yng_none : ∀ {m : Nat}, yng F D w m = none → ∀ d, d < m → ¬ yC F D w d
  | 0, _, d, hd => absurd hd (Nat.not_lt_zero _)
  | m + 1, h, d, hd => by
    rw [yng] at h
    have c : ¬ yC F D w m := by
      intro c
      cases e : yng F D w m with
      | none => rw [e, yS_none c] at h; cases h
      | some y =>
        rw [e] at h
        by_cases q : spOld F y m
        · rw [yS_take c q] at h; cases h
        · rw [yS_keep c q] at h; cases h
    by_cases e : d = m
    · subst e; exact c
    · rw [yS_skip c] at h
      exact yng_none h d (by omega)
theorem yng_top : ∀ {m y : Nat}, yng F D w m = some y → ∀ d, d < m → yC F D w d → ¬ spOld F y d
  | 0, _, h, _, _ => by cases h
  | m + 1, y, h, d, hd => by
    intro cd
    rw [yng] at h
    by_cases c : yC F D w m
    · cases e : yng F D w m with
      | none =>
        rw [e, yS_none c] at h
        cases h
        by_cases q : d = m
        · subst q; exact old_irr
        · exact absurd cd (yng_none e d (by omega))
      | some z =>
        rw [e] at h
        by_cases c2 : spOld F z m
        · rw [yS_take c c2] at h
          cases h
          by_cases q : d = m
          · subst q; exact old_irr
          · exact fun x => yng_top e d (by omega) cd (old_tr c2 x)
        · rw [yS_keep c c2] at h
          cases h
          by_cases q : d = m
          · subst q; exact c2
          · exact yng_top e d (by omega) cd
    · rw [yS_skip c] at h
      by_cases q : d = m
      · subst q; exact absurd cd c
      · exact yng_top h d (by omega) cd
theorem yng_is {m y : Nat} (hm : m ≤ 8) (hy : y < m) (c : yC F D w y) (top : ∀ d, d < m → yC F D w d → ¬ spOld F y d) : yng F D w m = some y := by
  cases e : yng F D w m with
  | none => exact absurd c (yng_none e y hy)
  | some z =>
    obtain ⟨hz, cz⟩ := yng_lt e
    have h1 := yng_top e y hy c
    have h2 := top z hz cz
    by_cases q : z = y
    · rw [q]
    · rcases old_tri (F := F) (show z < 8 by omega) (show y < 8 by omega) q with x | x
      · exact absurd x h1
      · exact absurd x h2
theorem yng_no {m : Nat} (h : ∀ d, d < m → ¬ yC F D w d) : yng F D w m = none := by
  cases e : yng F D w m with
  | none => rfl
  | some z =>
    obtain ⟨hz, cz⟩ := yng_lt e
    exact absurd cz (h z hz)
/-- short, with a younger one that draws -/
def Hd (n P : Nat) (F : Nat → Nat → Int32) (D : Nat → Bool) (w : Nat) : Prop := bh n P F D w < F 3 w ∧ yng F D w n ≠ none
theorem oN_none : ∀ {m : Nat}, oN n P F D m = none → ∀ v, v < m → ¬ Hd n P F D v
  | 0, _, v, hv => absurd hv (Nat.not_lt_zero _)
  | m + 1, h, v, hv => by
    have h : oS n P F D (oN n P F D m) m = none := h
    unfold oS at h
    by_cases c : bh n P F D m < F 3 m
    · rw [if_pos c] at h
      cases e : oN n P F D m with
      | none =>
        rw [e] at h
        have hy : yng F D m n = none := by
          cases e2 : yng F D m n with
          | none => rfl
          | some y => rw [e2] at h; cases h
        by_cases q : v = m
        · subst q; exact fun x => x.2 hy
        · exact oN_none e v (by omega)
      | some u =>
        rw [e] at h
        simp only at h
        by_cases c2 : spOld F m u.1
        · rw [if_pos c2] at h
          cases e2 : yng F D m n with
          | none => rw [e2] at h; cases h
          | some y => rw [e2] at h; cases h
        · rw [if_neg c2] at h; cases h
    · rw [if_neg c] at h
      by_cases q : v = m
      · subst q; exact fun x => c x.1
      · exact oN_none h v (by omega)
theorem oN_top : ∀ {m : Nat} {z : Nat × Nat}, oN n P F D m = some z → Hd n P F D z.1 ∧ ∀ v, v < m → Hd n P F D v → ¬ spOld F v z.1
  | 0, z, h => by cases h
  | m + 1, z, h => by
    have hyz := (oN_y h).2
    have h : oS n P F D (oN n P F D m) m = some z := h
    unfold oS at h
    by_cases c : bh n P F D m < F 3 m
    · rw [if_pos c] at h
      cases e : oN n P F D m with
      | none =>
        rw [e] at h
        cases e2 : yng F D m n with
        | none => rw [e2] at h; cases h
        | some y =>
          rw [e2] at h
          cases h
          refine ⟨⟨c, by rw [e2]; exact fun x => nomatch x⟩, fun v hv hd => ?_⟩
          by_cases q : v = m
          · subst q; exact old_irr
          · exact absurd hd (oN_none e v (by omega))
      | some u =>
        rw [e] at h
        obtain ⟨hu1, hu2⟩ := oN_top e
        simp only at h
        by_cases c2 : spOld F m u.1
        · rw [if_pos c2] at h
          cases e2 : yng F D m n with
          | none =>
            rw [e2] at h
            cases h
            refine ⟨hu1, fun v hv hd => ?_⟩
            by_cases q : v = m
            · subst q; exact absurd e2 hd.2
            · exact hu2 v (by omega) hd
          | some y =>
            rw [e2] at h
            cases h
            refine ⟨⟨c, by rw [e2]; exact fun x => nomatch x⟩, fun v hv hd => ?_⟩
            by_cases q : v = m
            · subst q; exact old_irr
            · exact fun x => hu2 v (by omega) hd (old_tr x c2)
        · rw [if_neg c2] at h
          cases h
          refine ⟨hu1, fun v hv hd => ?_⟩
          by_cases q : v = m
          · subst q; exact c2
          · exact hu2 v (by omega) hd
    · rw [if_neg c] at h
      obtain ⟨h1, h2⟩ := oN_top h
      refine ⟨h1, fun v hv hd => ?_⟩
      by_cases q : v = m
      · subst q; exact absurd hd.1 c
      · exact h2 v (by omega) hd
theorem sp_is {k y : Nat} (hn : n ≤ 8) (hk : k < n) (hs : bh n P F D k < F 3 k) (hy : yng F D k n = some y) (top : ∀ v, v < n → spOld F v k → ¬ Hd n P F D v) : spNx n P F D = some y := by
  have hk1 : Hd n P F D k := ⟨hs, by rw [hy]; exact fun x => nomatch x⟩
  unfold spNx
  cases e : oN n P F D n with
  | none => exact absurd hk1 (oN_none e k hk)
  | some z =>
    obtain ⟨h1, h2⟩ := oN_top e
    obtain ⟨h3, h4⟩ := oN_y e
    have a := h2 k hk hk1
    have b : ¬ spOld F z.1 k := fun x => top z.1 h3 x h1
    by_cases q : z.1 = k
    · rw [q, hy] at h4
      cases h4
      rfl
    · rcases old_tri (F := F) (show z.1 < 8 by omega) (show k < 8 by omega) q with x | x
      · exact absurd x b
      · exact absurd x a
theorem sp_no (h : ∀ v, v < n → ¬ Hd n P F D v) : spNx n P F D = none := by
  unfold spNx
  cases e : oN n P F D n with
  | none => rfl
  | some z => exact absurd (oN_top e).1 (h z.1 (oN_y e).1)
end
theorem cnt_n {D : Nat → Bool} {n : Nat} (h : ∀ j, D j = true → j < n) : ∀ k, cnt D (n + k) = cnt D n
  | 0 => rfl
  | k + 1 => by
    rw [show n + (k + 1) = (n + k) + 1 from rfl, cnt, cnt_n h k, if_neg (fun q => absurd (h _ q) (by omega))]
    rfl
theorem cnt_8 {n P : Nat} {F : Nat → Nat → Int32} (hn : n ≤ 8) : cnt (spSt n P F) 8 = cnt (spSt n P F) n := by
  have := cnt_n (D := spSt n P F) (n := n) (fun j h => Dn_n h) (8 - n)
  rw [show n + (8 - n) = 8 by omega] at this
  exact this
/-! a year -/
theorem tenth {x : Int32} (h : Bt x 100000000) : x * 9 / 10 = x - (x + 9) / 10 ∧ Bt (x - (x + 9) / 10) 100000000 := by
  obtain ⟨j, hj, rfl⟩ := h
  have e1 : nI j * 9 / 10 = nI (j * 9 / 10) := by rw [show (9 : Int32) = nI 9 from rfl, show (10 : Int32) = nI 10 from rfl, pk_mul, pk_div (by omega) (by omega) (by omega)]
  have e2 : nI j - (nI j + 9) / 10 = nI (j - (j + 9) / 10) := by rw [show (9 : Int32) = nI 9 from rfl, show (10 : Int32) = nI 10 from rfl, nI_add, pk_div (by omega) (by omega) (by omega), pk_sub (by omega)]
  rw [e1, e2]
  exact ⟨congrArg nI (by omega), _, by omega, rfl⟩
theorem tenth_le {x : Int32} {m : Nat} (hm : m ≤ 100000000) (h : Bt x m) : Bt (x - (x + 9) / 10) m := by
  obtain ⟨j, hj, rfl⟩ := h
  rw [show (9 : Int32) = nI 9 from rfl, show (10 : Int32) = nI 10 from rfl, nI_add, pk_div (by omega) (by omega) (by omega), pk_sub (by omega)]
  exact ⟨_, by omega, rfl⟩
theorem su_id {F : Nat → Nat → Int32} {f i : Nat} {v : Int32} (h : v = F f i) : su F f i v = F := by
  funext a b
  unfold su
  by_cases c : a = f ∧ b = i
  · rw [if_pos c, c.1, c.2]; exact h
  · rw [if_neg c]
def restL (F : Nat → Nat → Int32) (i : Nat) : Int32 := F 12 i - F 5 i - F 9 i
def payL (D : Nat → Bool) (F : Nat → Nat → Int32) (i : Nat) : Nat → Nat → Int32 :=
  if F 12 i < F 5 i then su F 9 i (F 9 i + (if D i = true then 0 else F 5 i - F 12 i))
  else su (su (su F 9 i (if restL F i < 0 then -restL F i else 0)) 10 i (F 10 i + (if 0 < restL F i then 2 * restL F i else 0))) 16 0 (F 16 0 + (if 0 < restL F i then 2 * restL F i else 0))
theorem payL_eq {D : Nat → Bool} {F : Nat → Nat → Int32} {i : Nat} (h12 : Bt (F 12 i) 3000) (h5 : Bt (F 5 i) 1000) (h9 : Bt (F 9 i) 100000000) : payL D F i = payM D F i := by
  obtain ⟨t, ht, e12⟩ := h12
  obtain ⟨r, hr, e5⟩ := h5
  obtain ⟨b, hb, e9⟩ := h9
  have hq : F 12 i - F 5 i ≤ 0 ↔ F 12 i ≤ F 5 i := le_sub0 ⟨t, ht, e12⟩ ⟨r, hr, e5⟩
  unfold payL payM
  by_cases c : t < r
  · rw [if_pos (show F 12 i < F 5 i by rw [e12, e5]; exact nI_lt c (by omega)), if_pos (hq.mpr (by rw [e12, e5]; exact nI_le (by omega) (by omega))), Int32.neg_sub]
  · rw [if_neg (show ¬ F 12 i < F 5 i by rw [e12, e5]; exact nI_nlt (by omega) (by omega))]
    have ed : F 12 i - F 5 i = nI (t - r) := by rw [e12, e5, pk_sub (by omega)]
    have er : restL F i = nI (t - r) - nI b := by unfold restL; rw [ed, e9]
    by_cases d : t - r < b
    · have n1 : restL F i < 0 := by rw [er]; exact pk_sneg (by omega) d
      have n2 : ¬ 0 < restL F i := fun q => absurd n1 (Int32.not_lt.mpr (Int32.le_of_lt q))
      rw [if_pos n1, if_neg n2, er, Int32.neg_sub, pk_sub (by omega)]
      by_cases z : t = r
      · rw [if_pos (hq.mpr (by rw [e12, e5, z]; exact Int32.le_refl _)), ed]
        rw [su_id (F := su (su F 9 i _) 10 i _) (f := 16) (by rw [su_f (by omega), su_f (by omega), Int32.add_zero]), su_id (F := su F 9 i _) (f := 10) (by rw [su_f (by omega), Int32.add_zero]), e9]
        congr 1
        rw [show t - r = 0 by omega]
        split
        · rw [Int32.add_zero]; rfl
        · show nI (b - 0) = nI b + -0
          rw [Int32.neg_zero, Int32.add_zero]; rfl
      · rw [if_neg (fun q => absurd (hq.mp q) (by rw [e12, e5]; exact nI_ge (by omega) (by omega))), ed]
        have em : minI (nI (t - r)) (F 9 i) = nI (t - r) := by rw [e9, minI, if_neg (nI_nlt (by omega) (by omega))]
        unfold chg
        rw [em, Int32.sub_self, e9, pk_sub (by omega), show (2 : Int32) * 0 = 0 from rfl]
    · have n1 : ¬ restL F i < 0 := by rw [er, pk_sub (by omega)]; exact nI_pos (by omega)
      have n3 : (if 0 < restL F i then 2 * restL F i else 0) = 2 * nI (t - r - b) := by
        rw [er, pk_sub (by omega)]
        by_cases q : 0 < nI (t - r - b)
        · rw [if_pos q]
        · rw [if_neg q]
          have : t - r - b = 0 := by
            by_cases y : t - r - b = 0
            · exact y
            · exact absurd (nI_lt (a := 0) (show 0 < t - r - b by omega) (by omega)) q
          rw [this]; rfl
      rw [if_neg n1, n3]
      by_cases z : t = r
      · rw [if_pos (hq.mpr (by rw [e12, e5, z]; exact Int32.le_refl _)), ed]
        have hb0 : b = 0 := by omega
        rw [su_id (F := su (su F 9 i _) 10 i _) (f := 16) (by rw [su_f (by omega), su_f (by omega), show t - r - b = 0 by omega]; exact Int32.add_zero _), su_id (F := su F 9 i _) (f := 10) (by rw [su_f (by omega), show t - r - b = 0 by omega]; exact Int32.add_zero _), e9, hb0]
        congr 1
        rw [show t - r = 0 by omega]
        split
        · rfl
        · rfl
      · rw [if_neg (fun q => absurd (hq.mp q) (by rw [e12, e5]; exact nI_ge (by omega) (by omega))), ed]
        have em : minI (nI (t - r)) (F 9 i) = nI b := by
          rw [e9, minI]
          by_cases y : b < t - r
          · rw [if_pos (nI_lt y (by omega))]
          · rw [if_neg (nI_nlt (by omega) (by omega)), show t - r = b by omega]
        unfold chg
        rw [em, e9, Int32.sub_self, pk_sub (show b ≤ t - r by omega)]
theorem mcnt_nI {F : Nat → Nat → Int32} {la : Int32} : ∀ w, ∃ c, c ≤ w ∧ mcntM F la w = nI c
  | 0 => ⟨0, Nat.le_refl _, rfl⟩
  | w + 1 => by
    obtain ⟨c, hc, e⟩ := mcnt_nI (F := F) (la := la) w
    rw [mcntM, e]
    by_cases q : F 0 w = la ∧ F 7 w = 0
    · rw [if_pos q]; exact ⟨c + 1, by omega, nI_1 c⟩
    · rw [if_neg q]; exact ⟨c, by omega, Int32.add_zero _⟩
theorem mean_pos {n : Nat} {F : Nat → Nat → Int32} {la : Int32} (hn : n ≤ 8) (h : 0 < mcntM F la n) : meanM n F la = msumM F la n / mcntM F la n := if_neg (fun q => by rw [q] at h; exact absurd h (by decide))
theorem mean_0 {n : Nat} {F : Nat → Nat → Int32} {la : Int32} (hn : n ≤ 8) (h : ¬ 0 < mcntM F la n) : meanM n F la = 0 := by
  obtain ⟨c, hc, e⟩ := mcnt_nI (F := F) (la := la) n
  refine if_pos ?_
  rw [e] at h ⊢
  by_cases q : c = 0
  · rw [q]; rfl
  · exact absurd (nI_lt (a := 0) (show 0 < c by omega) (by omega)) h
/-- a bank behind the payments of a year -/
theorem payM_9 {D : Nat → Bool} {F : Nat → Nat → Int32} {i j : Nat} (h : j ≠ i) : payM D F i 9 j = F 9 j := by
  unfold payM
  split
  · exact su_i h
  · unfold chg; rw [su_f (by omega), su_f (by omega), su_i h]
theorem payM_bt {D : Nat → Bool} {F : Nat → Nat → Int32} {i m : Nat} (h12 : Bt (F 12 i) 3000) (h5 : Bt (F 5 i) 1000) (hm : m ≤ 100000000) (h9 : Bt (F 9 i) m) : Bt (payM D F i 9 i) (m + 1000) := by
  rw [← payL_eq h12 h5 (by obtain ⟨b, hb, e⟩ := h9; exact ⟨b, by omega, e⟩)]
  obtain ⟨t, ht, e12⟩ := h12
  obtain ⟨r, hr, e5⟩ := h5
  obtain ⟨b, hb, e9⟩ := h9
  unfold payL
  by_cases c : t < r
  · rw [if_pos (show F 12 i < F 5 i by rw [e12, e5]; exact nI_lt c (by omega)), su_s, e9]
    split
    · exact ⟨b, by omega, Int32.add_zero _⟩
    · rw [e5, e12, pk_sub (by omega), nI_add]; exact ⟨_, by omega, rfl⟩
  · rw [if_neg (show ¬ F 12 i < F 5 i by rw [e12, e5]; exact nI_nlt (by omega) (by omega)), su_f (by omega), su_f (by omega), su_s]
    have er : restL F i = nI (t - r) - nI b := by unfold restL; rw [e12, e5, pk_sub (by omega), e9]
    by_cases d : t - r < b
    · rw [if_pos (show restL F i < 0 by rw [er]; exact pk_sneg (by omega) d), er, Int32.neg_sub, pk_sub (by omega)]
      exact ⟨_, by omega, rfl⟩
    · rw [if_neg (show ¬ restL F i < 0 by rw [er, pk_sub (by omega)]; exact nI_pos (by omega))]
      exact ⟨0, by omega, rfl⟩
theorem mq2_9 {n : Nat} {D : Nat → Bool} {F : Nat → Nat → Int32} {j : Nat} : ∀ i, i ≤ j → mq2 n D F i 9 j = F 9 j
  | 0, _ => rfl
  | i + 1, h => by rw [mq2, payM_9 (by omega), su_f (by omega), su_f (by omega), mq2_9 i (by omega)]
