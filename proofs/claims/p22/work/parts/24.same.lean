/-! 24: the class's year and the two passes of the law are one. By numbers alone. My own. -/
def Cg (F F' : Nat → Nat → Int32) : Prop := F' 0 = F 0 ∧ F' 1 = F 1 ∧ F' 6 = F 6 ∧ F' 14 = F 14 ∧ F' 15 = F 15
theorem drw_cg {F F' : Nat → Nat → Int32} {D : Nat → Bool} (h : F' 6 = F 6) (d : Nat) : drw F' D d = drw F D d := by unfold drw; rw [h]
theorem spR_cg {F F' : Nat → Nat → Int32} (h0 : F' 0 = F 0) (h1 : F' 1 = F 1) (i j : Nat) : spR F' i j = spR F i j := by unfold spR; rw [h0, h1]
theorem bhP_cg {F F' : Nat → Nat → Int32} (h : Cg F F') (w : Nat) (a : Int32) : ∀ p, bhP F' w a p = bhP F w a p
  | 0 => rfl
  | p + 1 => by rw [bhP, bhP, bhP_cg h w a p, h.1, h.2.1, h.2.2.2.2]
theorem bhD_cg {F F' : Nat → Nat → Int32} {D : Nat → Bool} (h : Cg F F') (w : Nat) (a : Int32) : ∀ d, bhD F' D w a d = bhD F D w a d
  | 0 => rfl
  | d + 1 => by rw [bhD, bhD, bhD_cg h w a d, drw_cg h.2.2.1, spR_cg h.1 h.2.1]
theorem bh_cg {n P : Nat} {F F' : Nat → Nat → Int32} {D : Nat → Bool} {w : Nat} (h : Cg F F') (h2 : F' 2 w = F 2 w) : bh n P F' D w = bh n P F D w := by
  unfold bh
  rw [bhD_cg h, bhP_cg h, h2, h.2.2.2.1, h.1]
theorem yng_cg {F F' : Nat → Nat → Int32} {D : Nat → Bool} (h : Cg F F') (h4 : F' 4 = F 4) (w : Nat) : ∀ m, yng F' D w m = yng F D w m
  | 0 => rfl
  | m + 1 => by
    rw [yng, yng, yng_cg h h4 w m]
    unfold yS
    simp only [yC, spOld, drw_cg (F := F) (F' := F') h.2.2.1, spR_cg (F := F) (F' := F') h.1 h.2.1, h4]
theorem oN_cg {n P : Nat} {F F' : Nat → Nat → Int32} {D : Nat → Bool} (h : Cg F F') (h2 : F' 2 = F 2) (h3 : F' 3 = F 3) (h4 : F' 4 = F 4) : ∀ m, oN n P F' D m = oN n P F D m
  | 0 => rfl
  | m + 1 => by
    rw [oN, oN, oN_cg h h2 h3 h4 m]
    unfold oS
    simp only [spOld, bh_cg (n := n) (P := P) (D := D) (w := m) h (by rw [h2]), yng_cg h h4, h3, h4]
theorem Dn_cg {n P : Nat} {F F' : Nat → Nat → Int32} (h : Cg F F') (h2 : F' 2 = F 2) (h3 : F' 3 = F 3) (h4 : F' 4 = F 4) : ∀ k, Dn n P F' k = Dn n P F k
  | 0 => rfl
  | k + 1 => by
    rw [Dn, Dn, Dn_cg h h2 h3 h4 k]
    unfold spNx
    rw [oN_cg h h2 h3 h4]
theorem shr_cg (F : Nat → Nat → Int32) (n : Nat) : Cg F (shr F n) := ⟨shr_ne (by omega) n, shr_ne (by omega) n, shr_ne (by omega) n, shr_ne (by omega) n, shr_ne (by omega) n⟩
theorem spSt_shr {n P : Nat} {F : Nat → Nat → Int32} : spSt n P (shr F n) = spSt n P F := Dn_cg (shr_cg F n) (shr_ne (by omega) n) (shr_ne (by omega) n) (shr_ne (by omega) n) 8
theorem if_lt_s {α : Type} {i j : Nat} {a b c : α} (h1 : j = i → c = a) (h2 : j ≠ i → c = if j < i then a else b) : c = if j < i + 1 then a else b := by
  by_cases e : j = i
  · rw [if_pos (by omega)]; exact h1 e
  · rw [h2 e]
    by_cases q : j < i
    · rw [if_pos q, if_pos (by omega)]
    · rw [if_neg q, if_neg (by omega)]
theorem shr_9 {F : Nat → Nat → Int32} {j : Nat} : ∀ i, shr F i 9 j = if j < i then F 9 j - (F 9 j + 9) / 10 else F 9 j
  | 0 => rfl
  | i + 1 => if_lt_s (fun e => by subst e; rw [shr, su_s, shr_9 j, if_neg (Nat.lt_irrefl _)]) (fun e => by rw [shr, su_i e, shr_9 i])
theorem dra_cg {n P : Nat} {F : Nat → Nat → Int32} {D : Nat → Bool} (i : Nat) : Cg F (dra n P F D i) := ⟨dra_ne (by omega) i, dra_ne (by omega) i, dra_ne (by omega) i, dra_ne (by omega) i, dra_ne (by omega) i⟩
theorem dra_2 {n P : Nat} {F : Nat → Nat → Int32} {D : Nat → Bool} {j : Nat} : ∀ i, dra n P F D i 2 j = if j < i then bh n P F D j else F 2 j
  | 0 => rfl
  | i + 1 => if_lt_s (fun e => by subst e; rw [dra, su_f (by omega), su_s]; exact bh_cg (dra_cg j) (by rw [dra_2 j, if_neg (Nat.lt_irrefl _)])) (fun e => by rw [dra, su_f (by omega), su_i e, dra_2 i])
theorem dra_11 {n P : Nat} {F : Nat → Nat → Int32} {D : Nat → Bool} {j : Nat} : ∀ i, dra n P F D i 11 j = if j < i then drw F D j else F 11 j
  | 0 => rfl
  | i + 1 => if_lt_s (fun e => by subst e; rw [dra, su_s]; exact drw_cg (dra_ne (by omega) j) j) (fun e => by rw [dra, su_i e, su_f (by omega), dra_11 i])
theorem mq1_9 {n P : Nat} {F : Nat → Nat → Int32} {D : Nat → Bool} {j : Nat} : ∀ i, mq1 n P F D i 9 j = if j < i then F 9 j - (F 9 j + 9) / 10 else F 9 j
  | 0 => rfl
  | i + 1 => if_lt_s (fun e => by subst e; rw [mq1, su_f (by omega), su_f (by omega), su_s, mq1_9 j, if_neg (Nat.lt_irrefl _)]) (fun e => by rw [mq1, su_f (by omega), su_f (by omega), su_i e, mq1_9 i])
theorem mq1_2 {n P : Nat} {F : Nat → Nat → Int32} {D : Nat → Bool} {j : Nat} : ∀ i, mq1 n P F D i 2 j = if j < i then bh n P F D j else F 2 j
  | 0 => rfl
  | i + 1 => if_lt_s (fun e => by subst e; rw [mq1, su_f (by omega), su_s]) (fun e => by rw [mq1, su_f (by omega), su_i e, su_f (by omega), mq1_2 i])
theorem mq1_11 {n P : Nat} {F : Nat → Nat → Int32} {D : Nat → Bool} {j : Nat} : ∀ i, mq1 n P F D i 11 j = if j < i then drw F D j else F 11 j
  | 0 => rfl
  | i + 1 => if_lt_s (fun e => by subst e; rw [mq1, su_s]) (fun e => by rw [mq1, su_i e, su_f (by omega), su_f (by omega), mq1_11 i])
/-- behind the draws both states are one -/
theorem same1 {n P : Nat} {F : Nat → Nat → Int32} {D : Nat → Bool} : dra n P (shr F n) D n = mq1 n P F D n := by
  funext f j
  by_cases h2 : f = 2
  · subst h2
    rw [dra_2, mq1_2, bh_cg (shr_cg F n) (by rw [shr_ne (by omega)]), shr_ne (by omega)]
  · by_cases h9 : f = 9
    · subst h9
      rw [dra_ne (by omega), shr_9, mq1_9]
    · by_cases h11 : f = 11
      · subst h11
        rw [dra_11, mq1_11, drw_cg (shr_ne (by omega) n), shr_ne (by omega)]
      · rw [dra_ne ⟨h2, h11⟩, shr_ne h9, mq1_ne ⟨h2, h9, h11⟩]
/-! what is told -/
theorem msum_cg {F F' : Nat → Nat → Int32} {la : Int32} (h0 : F' 0 = F 0) (h7 : F' 7 = F 7) (h11 : F' 11 = F 11) : ∀ w, msum F' la w = msum F la w ∧ mcnt F' la w = mcnt F la w ∧ msumM F' la w = msumM F la w ∧ mcntM F' la w = mcntM F la w
  | 0 => ⟨rfl, rfl, rfl, rfl⟩
  | w + 1 => by
    obtain ⟨a, b, c, d⟩ := msum_cg (la := la) h0 h7 h11 w
    refine ⟨?_, ?_, ?_, ?_⟩
    · rw [msum, msum, a, h0, h7, h11]
    · rw [mcnt, mcnt, b, h0, h7]
    · rw [msumM, msumM, c, h0, h7, h11]
    · rw [mcntM, mcntM, d, h0, h7]
theorem mean_cg {n : Nat} {F F' : Nat → Nat → Int32} {la : Int32} (h0 : F' 0 = F 0) (h7 : F' 7 = F 7) (h11 : F' 11 = F 11) : mean n F' la = mean n F la ∧ meanM n F' la = meanM n F la := by
  obtain ⟨a, b, c, d⟩ := msum_cg (la := la) h0 h7 h11 n
  unfold mean meanM
  rw [a, b, c, d]
  exact ⟨rfl, rfl⟩
theorem b7 {x : Int32} (h : x = 0 ∨ x = 1) : (x = 0 ↔ ¬ 1 - x = 0) := by rcases h with rfl | rfl <;> decide
/-- sums and counts, as naturals -/
theorem tot {F : Nat → Nat → Int32} {la : Int32} : ∀ {w : Nat}, w ≤ 8 → (∀ i, i < w → (F 7 i = 0 ∨ F 7 i = 1) ∧ Bt (F 11 i) 2000) → ∃ S c : Nat, S ≤ 2000 * c ∧ c ≤ w ∧ msum F la w = nI S ∧ mcnt F la w = nI c ∧ msumM F la w = nI S ∧ mcntM F la w = nI c
  | 0, _, _ => ⟨0, 0, by omega, by omega, rfl, rfl, rfl, rfl⟩
  | w + 1, hw, h => by
    obtain ⟨S, c, h1, h2, a, b, d, e⟩ := tot (F := F) (la := la) (w := w) (by omega) (fun i hi => h i (by omega))
    obtain ⟨h7, v, hv, ev⟩ := h w (by omega)
    by_cases q : F 0 w = la ∧ F 7 w = 0
    · have q2 : F 0 w = la ∧ ¬ 1 - F 7 w = 0 := ⟨q.1, (b7 h7).mp q.2⟩
      refine ⟨S + v, c + 1, by omega, by omega, ?_, ?_, ?_, ?_⟩
      · rw [msum, if_pos q2, a, ev, nI_add]
      · rw [mcnt, if_pos q2, b, nI_1]
      · rw [msumM, if_pos q, d, ev, nI_add]
      · rw [mcntM, if_pos q, e, nI_1]
    · have q2 : ¬ (F 0 w = la ∧ ¬ 1 - F 7 w = 0) := fun z => q ⟨z.1, (b7 h7).mpr z.2⟩
      refine ⟨S, c, by omega, by omega, ?_, ?_, ?_, ?_⟩
      · rw [msum, if_neg q2, a]
      · rw [mcnt, if_neg q2, b]
      · rw [msumM, if_neg q, d, Int32.add_zero]
      · rw [mcntM, if_neg q, e, Int32.add_zero]
theorem mean_eq {n : Nat} {F : Nat → Nat → Int32} {la : Int32} (hn : n ≤ 8) (h : ∀ i, i < n → (F 7 i = 0 ∨ F 7 i = 1) ∧ Bt (F 11 i) 2000) : meanM n F la = mean n F la ∧ Bt (mean n F la) 2000 := by
  obtain ⟨S, c, h1, h2, a, b, d, e⟩ := tot (la := la) hn h
  unfold mean meanM
  rw [a, b, d, e]
  by_cases q : c = 0
  · subst q
    rw [if_pos (show nI 0 = 0 from rfl), if_neg (show ¬ (0 : Int32) < nI 0 by decide)]
    exact ⟨rfl, 0, by omega, rfl⟩
  · rw [if_neg (nI_ne0 (by omega) (by omega)), if_pos (show (0 : Int32) < nI c from nI_lt (a := 0) (by omega) (by omega)), pk_div (by omega) (by omega) (by omega)]
    refine ⟨rfl, S / c, ?_, rfl⟩
    have := Nat.div_le_div_right (c := c) h1
    rw [Nat.mul_div_cancel _ (by omega)] at this
    exact this
theorem tell_eq {n : Nat} {F : Nat → Nat → Int32} {i : Nat} (hn : n ≤ 8) (hi : i < n) (h : ∀ i, i < n → (F 7 i = 0 ∨ F 7 i = 1) ∧ Bt (F 11 i) 2000) (h8 : Bt (F 8 i) 1000) : tellM n F i = tellV n F i ∧ Bt (tellV n F i) 3000 := by
  obtain ⟨m1, m2⟩ := mean_eq (la := F 0 i) hn h
  unfold tellM tellV
  by_cases q : F 7 i = 0
  · rw [if_pos q, if_neg ((b7 (h i hi).1).mp q)]
    obtain ⟨v, hv, e⟩ := (h i hi).2
    exact ⟨rfl, v, by omega, e⟩
  · rw [if_neg q, if_pos (Classical.not_not.mp (fun z => q ((b7 (h i hi).1).mpr z)))]
    by_cases q2 : 0 < F 8 i
    · rw [if_pos q2, if_pos q2]
      obtain ⟨v, hv, e⟩ := h8
      exact ⟨rfl, 3 * v, by omega, by rw [e, show (3 : Int32) = nI 3 from rfl, pk_mul]⟩
    · rw [if_neg q2, if_neg q2, m1]
      obtain ⟨v, hv, e⟩ := m2
      exact ⟨rfl, v, by omega, e⟩
theorem le_sub0 {t r : Int32} (h1 : Bt t 3000) (h2 : Bt r 1000) : t - r ≤ 0 ↔ t ≤ r := by
  obtain ⟨a, ha, rfl⟩ := h1
  obtain ⟨b, hb, rfl⟩ := h2
  rw [Int32.le_iff_toInt_le, pk_sub_toInt (by omega) (by omega), nI_leI (by omega) (by omega)]
  show (a : Int) - b ≤ 0 ↔ a ≤ b
  omega

/-! the settling -/
theorem su_k {F : Nat → Nat → Int32} {f i : Nat} {v : Int32} : su F f i v f = fun j => if j = i then v else F f j := by
  funext j
  by_cases e : j = i
  · subst e; rw [su_s, if_pos rfl]
  · rw [su_i e, if_neg e]
theorem chg_cg {F G : Nat → Nat → Int32} {i : Nat} {a : Int32} (h9 : F 9 = G 9) (h10 : F 10 = G 10) (h16 : F 16 = G 16) : chg F i a 9 = chg G i a 9 ∧ chg F i a 10 = chg G i a 10 ∧ chg F i a 16 = chg G i a 16 := by
  unfold chg
  refine ⟨?_, ?_, ?_⟩
  · rw [su_f (by omega), su_f (by omega), su_k, su_f (by omega), su_f (by omega), su_k, h9]
  · rw [su_f (by omega), su_k, su_f (by omega), su_f (by omega), su_k, su_f (by omega), h9, h10]
  · rw [su_k, su_k, su_f (by omega), su_f (by omega), su_f (by omega), su_f (by omega), h9, h16]
theorem su_add0 {F : Nat → Nat → Int32} {i : Nat} : su F 9 i (F 9 i + 0) 9 = F 9 := by
  rw [su_k]
  funext j
  by_cases e : j = i
  · subst e; rw [if_pos rfl, Int32.add_zero]
  · rw [if_neg e]
theorem pay_eq {D : Nat → Bool} {X C : Nat → Nat → Int32} {i : Nat} (h12 : C 12 i = X 12 i) (h5 : C 5 i = X 5 i) (hq : X 12 i - X 5 i ≤ 0 ↔ X 12 i ≤ X 5 i) (h9 : X 9 = C 9) (h10 : X 10 = C 10) (h16 : X 16 = C 16) :
    payM D X i 9 = (if C 12 i ≤ C 5 i then (if D i = true then C else su C 9 i (C 9 i + (C 5 i - C 12 i))) else chg C i (C 12 i - C 5 i)) 9
    ∧ payM D X i 10 = (if C 12 i ≤ C 5 i then (if D i = true then C else su C 9 i (C 9 i + (C 5 i - C 12 i))) else chg C i (C 12 i - C 5 i)) 10
    ∧ payM D X i 16 = (if C 12 i ≤ C 5 i then (if D i = true then C else su C 9 i (C 9 i + (C 5 i - C 12 i))) else chg C i (C 12 i - C 5 i)) 16 := by
  unfold payM
  rw [h12, h5]
  by_cases q : X 12 i ≤ X 5 i
  · rw [if_pos (hq.mpr q), if_pos q]
    by_cases d : D i = true
    · rw [if_pos d, if_pos d]
      refine ⟨su_add0.trans h9, ?_, ?_⟩
      · rw [su_f (by omega)]; exact h10
      · rw [su_f (by omega)]; exact h16
    · rw [if_neg d, if_neg d, Int32.neg_sub]
      refine ⟨?_, ?_, ?_⟩
      · rw [su_k, su_k, h9]
      · rw [su_f (by omega), su_f (by omega)]; exact h10
      · rw [su_f (by omega), su_f (by omega)]; exact h16
  · rw [if_neg (fun z => q (hq.mp z)), if_neg q]
    exact chg_cg h9 h10 h16
theorem tel_12 {n : Nat} {F : Nat → Nat → Int32} {j : Nat} : ∀ i, tel n F i 12 j = if j < i then tellV n F j else F 12 j
  | 0 => rfl
  | i + 1 => if_lt_s (fun e => by
      subst e
      rw [tel, su_s]
      unfold tellV
      rw [(mean_cg (n := n) (la := tel n F j 0 j) (tel_ne (F := F) (by omega) j) (tel_ne (F := F) (by omega) j) (tel_ne (F := F) (by omega) j)).1, tel_ne (by omega), tel_ne (by omega), tel_ne (by omega), tel_ne (by omega)]) (fun e => by rw [tel, su_i e, tel_12 i])
theorem tellM_cg {n : Nat} {F G : Nat → Nat → Int32} {i : Nat} (h0 : G 0 = F 0) (h7 : G 7 = F 7) (h11 : G 11 = F 11) (h8 : G 8 i = F 8 i) : tellM n G i = tellM n F i := by
  unfold tellM
  rw [h7, h8, h0, h11, (mean_cg (n := n) h0 h7 h11).2]
/-- the second pass is telling, settling and forgetting -/
theorem mq2_go {n : Nat} {D : Nat → Bool} {F : Nat → Nat → Int32} (hn : n ≤ 8) (h : ∀ i, i < n → (F 7 i = 0 ∨ F 7 i = 1) ∧ Bt (F 11 i) 2000) (h8 : ∀ i, i < n → Bt (F 8 i) 1000) (h5 : ∀ i, i < n → Bt (F 5 i) 1000) : ∀ i, i ≤ n →
    mq2 n D F i 9 = setl D (tel n F n) i 9 ∧ mq2 n D F i 10 = setl D (tel n F n) i 10 ∧ mq2 n D F i 16 = setl D (tel n F n) i 16 ∧ (∀ j, mq2 n D F i 12 j = if j < i then tellV n F j else F 12 j) ∧ (∀ j, mq2 n D F i 8 j = if j < i then 0 else F 8 j)
  | 0, _ => ⟨by rw [mq2, setl, tel_ne (by omega)], by rw [mq2, setl, tel_ne (by omega)], by rw [mq2, setl, tel_ne (by omega)], fun j => rfl, fun j => rfl⟩
  | i + 1, hi => by
    obtain ⟨a9, a10, a16, a12, a8⟩ := mq2_go hn h h8 h5 i (by omega)
    have n0 : mq2 n D F i 0 = F 0 := mq2_ne (by omega) i
    have n7 : mq2 n D F i 7 = F 7 := mq2_ne (by omega) i
    have n11 : mq2 n D F i 11 = F 11 := mq2_ne (by omega) i
    have n5 : mq2 n D F i 5 = F 5 := mq2_ne (by omega) i
    have e8 : mq2 n D F i 8 i = F 8 i := by rw [a8, if_neg (Nat.lt_irrefl _)]
    obtain ⟨t1, t2⟩ := tell_eq hn (show i < n by omega) h (h8 i (by omega))
    have et : tellM n (mq2 n D F i) i = tellV n F i := (tellM_cg n0 n7 n11 e8).trans t1
    have c12 : setl D (tel n F n) i 12 i = tellV n F i := by rw [setl_ne (by omega), tel_12, if_pos (by omega)]
    have c5 : setl D (tel n F n) i 5 i = F 5 i := by rw [setl_ne (by omega), tel_ne (by omega)]
    rw [mq2, setl, et]
    have x12 : su (su (mq2 n D F i) 12 i (tellV n F i)) 8 i 0 12 i = tellV n F i := by rw [su_f (by omega), su_s]
    have x5 : su (su (mq2 n D F i) 12 i (tellV n F i)) 8 i 0 5 i = F 5 i := by rw [su_f (by omega), su_f (by omega), n5]
    obtain ⟨p9, p10, p16⟩ := pay_eq (D := D) (X := su (su (mq2 n D F i) 12 i (tellV n F i)) 8 i 0) (C := setl D (tel n F n) i) (i := i) (by rw [c12, x12]) (by rw [c5, x5]) (by rw [x12, x5]; exact le_sub0 t2 (h5 i (by omega))) (by rw [su_f (by omega), su_f (by omega)]; exact a9) (by rw [su_f (by omega), su_f (by omega)]; exact a10) (by rw [su_f (by omega), su_f (by omega)]; exact a16)
    refine ⟨p9, p10, p16, fun j => ?_, fun j => ?_⟩
    · rw [payM_ne (by omega), su_f (by omega)]
      exact if_lt_s (fun e => by subst e; exact su_s) (fun e => by rw [su_i e]; exact a12 j)
    · rw [payM_ne (by omega)]
      exact if_lt_s (fun e => by subst e; exact su_s) (fun e => by rw [su_i e, su_f (by omega)]; exact a8 j)
theorem fgt_8 {F : Nat → Nat → Int32} {j : Nat} : ∀ i, fgt F i 8 j = if j < i then 0 else F 8 j
  | 0 => rfl
  | i + 1 => if_lt_s (fun e => by subst e; rw [fgt, su_s]) (fun e => by rw [fgt, su_i e, fgt_8 i])
theorem bt_drw {F : Nat → Nat → Int32} {D : Nat → Bool} {j : Nat} (h : Bt (F 6 j) 2000) : Bt (drw F D j) 2000 := by
  unfold drw
  split
  · exact ⟨0, by omega, rfl⟩
  · exact h
/-- the year of both -/
theorem same {n P : Nat} {F : Nat → Nat → Int32} (hn : n ≤ 8) (h7 : ∀ i, i < n → F 7 i = 0 ∨ F 7 i = 1) (h6 : ∀ i, i < n → Bt (F 6 i) 2000) (h8 : ∀ i, i < n → Bt (F 8 i) 1000) (h5 : ∀ i, i < n → Bt (F 5 i) 1000) :
    mq2 n (spSt n P F) (mq1 n P F (spSt n P F) n) n = yrF n P F ∧ ∀ i, i < n → Bt (yrF n P F 11 i) 2000 ∧ Bt (yrF n P F 12 i) 3000 ∧ yrF n P F 8 i = 0 := by
  have g : yrF n P F = fgt (setl (spSt n P F) (tel n (mq1 n P F (spSt n P F) n) n) n) n := by
    unfold yrF
    rw [spSt_shr, same1]
  rw [g]
  generalize hM : mq1 n P F (spSt n P F) n = M
  have m7 : M 7 = F 7 := by rw [← hM]; exact mq1_ne (by omega) n
  have m8 : M 8 = F 8 := by rw [← hM]; exact mq1_ne (by omega) n
  have m5 : M 5 = F 5 := by rw [← hM]; exact mq1_ne (by omega) n
  have m11 : ∀ i, i < n → Bt (M 11 i) 2000 := fun i hi => by
    rw [← hM, mq1_11, if_pos hi]
    exact bt_drw (h6 i hi)
  have hh : ∀ i, i < n → (M 7 i = 0 ∨ M 7 i = 1) ∧ Bt (M 11 i) 2000 := fun i hi => ⟨by rw [m7]; exact h7 i hi, m11 i hi⟩
  have hh8 : ∀ i, i < n → Bt (M 8 i) 1000 := fun i hi => by rw [m8]; exact h8 i hi
  obtain ⟨a9, a10, a16, a12, a8⟩ := mq2_go (D := spSt n P F) hn hh hh8 (fun i hi => by rw [m5]; exact h5 i hi) n (Nat.le_refl n)
  refine ⟨?_, fun i hi => ⟨?_, ?_, ?_⟩⟩
  · funext f j
    by_cases e8 : f = 8
    · subst e8; rw [a8, fgt_8, setl_ne (by omega), tel_ne (by omega)]
    · rw [fgt_ne e8]
      by_cases e12 : f = 12
      · subst e12; rw [a12, setl_ne (by omega), tel_12]
      · by_cases e9 : f = 9
        · subst e9; rw [a9]
        · by_cases e10 : f = 10
          · subst e10; rw [a10]
          · by_cases e16 : f = 16
            · subst e16; rw [a16]
            · rw [mq2_ne ⟨e8, e9, e10, e12, e16⟩, setl_ne ⟨e9, e10, e16⟩, tel_ne e12]
  · rw [fgt_ne (by omega), setl_ne (by omega), tel_ne (by omega)]; exact m11 i hi
  · rw [fgt_ne (by omega), setl_ne (by omega), tel_12, if_pos hi]
    exact (tell_eq hn hi hh (hh8 i hi)).2
  · rw [fgt_8, if_pos hi]
theorem yrF_ne {n P : Nat} {F : Nat → Nat → Int32} {f : Nat} (hf : f ≠ 2 ∧ f ≠ 8 ∧ f ≠ 9 ∧ f ≠ 10 ∧ f ≠ 11 ∧ f ≠ 12 ∧ f ≠ 16) : yrF n P F f = F f := by
  unfold yrF
  rw [fgt_ne (by omega), setl_ne (by omega), tel_ne (by omega), dra_ne (by omega), shr_ne (by omega)]
