/-! 40: sign of the class. Written by wip/p22/gen/m40.py -/
def tl (F : Nat → Nat → Int32) (i : Nat) : Nat := (tx (F 0 i).toNatClampNeg (F 1 i).toNatClampNeg i).length
def tbf (F : Nat → Nat → Int32) (i : Nat) : Nat → Int32 := txb (F 0 i).toNatClampNeg (F 1 i).toNatClampNeg i
def kSign (n : Nat) (F : Nat → Nat → Int32) (x y : Int32) : Int32 := if qW n x = true then (if ¬ y < 0 ∧ y < nI (tl F (ix x)) then 0 else 1) else 1
theorem tdig_le (p : Nat) : (tdig p).length ≤ 2 := by
  unfold tdig
  split <;> simp
theorem tx_le (a d i : Nat) : (tx a d i).length ≤ 13 := by
  have h1 := tdig_le a
  have h2 := tdig_le d
  have h3 := tdig_le i
  unfold tx
  simp only [List.length_append, List.length_cons, List.length_nil]
  omega
theorem shr0 {m : Nat} (h : m < 16) : nI m >>> ((0 : Int32) &&& 31) = nI m := (by decide +kernel : ∀ m, m < 16 → nI m >>> ((0 : Int32) &&& 31) = nI m) m h
theorem char0 {j : Nat} (h : j < 128) : ((nI j &&& 255).toUInt32 % 65536).toInt32 = nI j := (by decide +kernel : ∀ j, j < 128 → ((nI j &&& 255).toUInt32 % 65536).toInt32 = nI j) j h
theorem char1 {j : Nat} (h : j < 128) : narrow .char (.int (nI j)) = .int (nI j) := (by decide +kernel : ∀ j, j < 128 → narrow .char (.int (nI j)) = .int (nI j)) j h
section
variable {l : Launch} {G : GT} {adr : Nat → Nat} {n P : Nat} {F mu : Nat → Nat → Int32} {g : Nat → Int64} {Sm : St}
set_option maxHeartbeats 4000000 in
set_option maxRecDepth 100000 in
theorem mW_coder (hl : l.stackTraces = false) {i : Nat} (hi : i < n) (hn : n ≤ 8) : ∀ h, Wd G (adr, (n, P, F), Sm, mu, g) h → CN l yJ0_coder_7d493 cJ0_coder_7d493 1 (some .byte) 0 0 0 [.ref (adr (40 + i))] G h (fun v h1 => v = some (.int 0) ∧ Wd G (adr, (n, P, F), Sm, mu, g) h1) := by
  intro h0 hwd
  refine CN.of hl (by decide +kernel) rfl (Nat.le_of_ble_eq_true rfl) (fun K sz hKl hin C => ?_)
  have C : CX K G (AH h0 sz) RJ0 cJ0_coder_7d493 1 (some .byte) (rmD 0 0 0) [] := C
  subst hKl
  refine WR.imp (P' := Wd G (adr, (n, P, F), Sm, mu, g)) (fun h e => e ▸ hwd) ?_
  show WR K G _ _ _ [some (.ref (adr (40 + i)))] 0 0 0 []
  refine R_gets (pc := 0) C dJ0_coder_7d493_0 (C.st.2.1) k_9_12 ?_
  refine R_if_eq (pc := 3) C dJ0_coder_7d493_3 (tgt := 13) (by decide) (fun c3 => absurd c3 (by decide)) (fun c3 => ?_)
  refine R_aload_n (pc := 6) C dJ0_coder_7d493_6 rfl ?_
  refine R_getf (pc := 7) C dJ0_coder_7d493_7 (i := 1) (wcs hi hn) rfl inlJ0 (by decide) k_9_13 rfl ?_
  refine R_goto (pc := 10) C dJ0_coder_7d493_10 (tgt := 14) (by decide) ?_
  exact R_zret (pc := 14) C dJ0_coder_7d493_14 rfl rfl (Nat.le_of_ble_eq_true rfl) (Nat.le_of_ble_eq_true rfl) (fun h hh => ⟨rfl, hh⟩)
set_option maxHeartbeats 4000000 in
set_option maxRecDepth 100000 in
theorem mW_length (hl : l.stackTraces = false) {i : Nat} (hi : i < n) (hn : n ≤ 8) : ∀ h, Wd G (adr, (n, P, F), Sm, mu, g) h → CN l yJ0_length_8abf5 cJ0_length_8abf5 1 (some .int) 1 0 0 [.ref (adr (40 + i))] G h (fun v h1 => v = some (.int (nI (tl F i))) ∧ Wd G (adr, (n, P, F), Sm, mu, g) h1) := by
  intro h0 hwd
  refine CN.of hl (by decide +kernel) rfl (Nat.le_of_ble_eq_true rfl) (fun K sz hKl hin C => ?_)
  have C : CX K G (AH h0 sz) RJ0 cJ0_length_8abf5 1 (some .int) (rmD 1 0 0) [] := C
  subst hKl
  refine WR.imp (P' := Wd G (adr, (n, P, F), Sm, mu, g)) (fun h e => e ▸ hwd) ?_
  show WR K G _ _ _ [some (.ref (adr (40 + i)))] 0 0 0 []
  refine R_aload_n (pc := 0) C dJ0_length_8abf5_0 rfl ?_
  refine R_getf (pc := 1) C dJ0_length_8abf5_1 (i := 0) (wcs hi hn) rfl inlJ0 (by decide) k_9_7 rfl ?_
  refine R_alen (pc := 4) C dJ0_length_8abf5_4 (t := 1) (wcb hi hn) rfl rfl ?_
  refine R_aload_n (pc := 5) C dJ0_length_8abf5_5 rfl ?_
  refine R_callVN (pc := 6) C dJ0_length_8abf5_6 (vs := []) (fun h hh => mW_coder hl hi hn h hh) (isOb_of (wcs hi hn) rfl) ⟨k_9_8, k_9_9, k_9_10, k_8_15, k_9_11⟩ (sgn (nv := 0) rfl ⟨by decide +kernel, by decide +kernel, by decide +kernel⟩) ⟨⟨Nat.le_of_ble_eq_true rfl, Nat.le_of_ble_eq_true rfl⟩, ⟨Nat.le_of_ble_eq_true rfl, Nat.le_of_ble_eq_true rfl⟩, Nat.le_of_ble_eq_true rfl⟩ rfl rfl (fun h9 hh9 v9 => ?_)
  refine WR.pr (fun e9 => ?_)
  subst e9
  show WR K G _ _ _ _ _ _ _ (.int _ :: _)
  refine R_ishr (pc := 9) C dJ0_length_8abf5_9 ?_
  exact R_iret (pc := 10) C dJ0_length_8abf5_10 rfl (Nat.le_of_ble_eq_true rfl) (Nat.le_of_ble_eq_true rfl) (fun h hh => ⟨congrArg (fun z => some (Value.int z)) (shr0 (Nat.lt_of_le_of_lt (tx_le _ _ _) (by decide))), hh⟩)
set_option maxHeartbeats 4000000 in
set_option maxRecDepth 100000 in
theorem mW_lat (hl : l.stackTraces = false) {i : Nat} (hi : i < n) (hn : n ≤ 8) : ∀ h, Wd G (adr, (n, P, F), Sm, mu, g) h → CN l yJ0_isLatin1_aae02 cJ0_isLatin1_aae02 1 (some .boolean) 0 0 0 [.ref (adr (40 + i))] G h (fun v h1 => v = some (.int 1) ∧ Wd G (adr, (n, P, F), Sm, mu, g) h1) := by
  intro h0 hwd
  refine CN.of hl (by decide +kernel) rfl (Nat.le_of_ble_eq_true rfl) (fun K sz hKl hin C => ?_)
  have C : CX K G (AH h0 sz) RJ0 cJ0_isLatin1_aae02 1 (some .boolean) (rmD 0 0 0) [] := C
  subst hKl
  refine WR.imp (P' := Wd G (adr, (n, P, F), Sm, mu, g)) (fun h e => e ▸ hwd) ?_
  show WR K G _ _ _ [some (.ref (adr (40 + i)))] 0 0 0 []
  refine R_gets (pc := 0) C dJ0_isLatin1_aae02_0 (C.st.2.1) k_9_12 ?_
  refine R_if_eq (pc := 3) C dJ0_isLatin1_aae02_3 (tgt := 17) (by decide) (fun c3 => absurd c3 (by decide)) (fun c3 => ?_)
  refine R_aload_n (pc := 6) C dJ0_isLatin1_aae02_6 rfl ?_
  refine R_getf (pc := 7) C dJ0_isLatin1_aae02_7 (i := 1) (wcs hi hn) rfl inlJ0 (by decide) k_9_13 rfl ?_
  refine R_if_ne (pc := 10) C dJ0_isLatin1_aae02_10 (tgt := 17) (by decide) (fun c10 => absurd c10 (fun q => q rfl)) (fun c10 => ?_)
  refine R_iconst (pc := 13) C dJ0_isLatin1_aae02_13 (v := 1) (by decide) ?_
  refine R_goto (pc := 14) C dJ0_isLatin1_aae02_14 (tgt := 18) (by decide) ?_
  exact R_zret (pc := 18) C dJ0_isLatin1_aae02_18 rfl rfl (Nat.le_of_ble_eq_true rfl) (Nat.le_of_ble_eq_true rfl) (fun h hh => ⟨rfl, hh⟩)
set_option maxHeartbeats 4000000 in
set_option maxRecDepth 100000 in
theorem mJ3_checkIndexR (hl : l.stackTraces = false) {i m q : Nat} (hi : i < m) (hm : m < 2 ^ 31) : ∀ h, CN l yJ3_checkIndex_8e157 cJ3_checkIndex_8e157 3 (some .int) 0 0 0 [.int (nI i), .int (nI m), .ref q] G h (fun v h1 => v = some (.int (nI i)) ∧ h1 = h) := by
  intro h0
  refine CN.of hl (by decide +kernel) rfl (Nat.le_of_ble_eq_true rfl) (fun K sz hKl hin C => ?_)
  have C : CX K G (AH h0 sz) RJ3 cJ3_checkIndex_8e157 3 (some .int) (rmD 0 0 0) [] := C
  subst hKl
  show WR K G _ _ _ [some (.int (nI i)), some (.int (nI m)), some (.ref q)] 0 0 0 []
  refine R_iload_n (pc := 0) C dJ3_checkIndex_8e157_0 rfl ?_
  refine R_if_lt (pc := 1) C dJ3_checkIndex_8e157_1 (tgt := 9) (by decide) (fun c1 => absurd c1 (nI_pos (by omega))) (fun c1 => ?_)
  refine R_iload_n (pc := 4) C dJ3_checkIndex_8e157_4 rfl ?_
  refine R_iload_n (pc := 5) C dJ3_checkIndex_8e157_5 rfl ?_
  refine R_icmp_lt (pc := 6) C dJ3_checkIndex_8e157_6 (tgt := 16) (by decide) (fun c6 => ?_) (fun c6 => absurd (nI_lt hi hm) c6)
  refine R_iload_n (pc := 16) C dJ3_checkIndex_8e157_16 rfl ?_
  exact R_iret (pc := 17) C dJ3_checkIndex_8e157_17 rfl (Nat.le_of_ble_eq_true rfl) (Nat.le_of_ble_eq_true rfl) (fun h hh => ⟨rfl, hh.symm⟩)
set_option maxHeartbeats 4000000 in
set_option maxRecDepth 100000 in
theorem mJ0_checkIndex_df160 (hl : l.stackTraces = false) {i m : Nat} (hi : i < m) (hm : m < 2 ^ 31) : ∀ h, CN l yJ0_checkIndex_df160 cJ0_checkIndex_df160 2 (none) 1 0 0 [.int (nI i), .int (nI m)] G h (fun v h1 => v = none ∧ h1 = h) := by
  intro h0
  refine CN.of hl (by decide +kernel) rfl (Nat.le_of_ble_eq_true rfl) (fun K sz hKl hin C => ?_)
  have C : CX K G (AH h0 sz) RJ0 cJ0_checkIndex_df160 2 (none) (rmD 1 0 0) [] := C
  subst hKl
  show WR K G _ _ _ [some (.int (nI i)), some (.int (nI m))] 0 0 0 []
  refine R_iload_n (pc := 0) C dJ0_checkIndex_df160_0 rfl ?_
  refine R_iload_n (pc := 1) C dJ0_checkIndex_df160_1 rfl ?_
  rcases C.st.2.2.2.2.1.1 with hz | ⟨tz, hz⟩
  · refine R_gets (pc := 2) C dJ0_checkIndex_df160_2 hz k_8_17 ?_
    refine R_callSN (pc := 5) C dJ0_checkIndex_df160_5 (vs := [_, _, _]) (fun h hh => mJ3_checkIndex_8e157 hl hi hm h) ⟨k_13_1, k_13_2, k_8_20, k_13_3⟩ (sgn (nv := 3) rfl ⟨by decide +kernel, by decide +kernel, by decide +kernel⟩) ⟨⟨Nat.le_of_ble_eq_true rfl, Nat.le_of_ble_eq_true rfl⟩, ⟨Nat.le_of_ble_eq_true rfl, Nat.le_of_ble_eq_true rfl⟩, Nat.le_of_ble_eq_true rfl⟩ rfl rfl (fun h9 hh9 v9 => ?_)
    refine WR.pr (fun e9 => ?_)
    subst e9
    refine WR.imp (P' := Eq h0) (fun h1 e1 => e1 ▸ hh9) ?_
    show WR K G _ _ _ _ _ _ _ (.int _ :: _)
    refine R_pop (pc := 8) C dJ0_checkIndex_df160_8 rfl ?_
    exact R_vret (pc := 9) C dJ0_checkIndex_df160_9 rfl (Nat.le_of_ble_eq_true rfl) (Nat.le_of_ble_eq_true rfl) (fun h hh => ⟨rfl, hh.symm⟩)
  · refine R_gets (pc := 2) C dJ0_checkIndex_df160_2 hz k_8_17 ?_
    refine R_callSN (pc := 5) C dJ0_checkIndex_df160_5 (vs := [_, _, _]) (fun h hh => mJ3_checkIndexR hl hi hm h) ⟨k_13_1, k_13_2, k_8_20, k_13_3⟩ (sgn (nv := 3) rfl ⟨by decide +kernel, by decide +kernel, by decide +kernel⟩) ⟨⟨Nat.le_of_ble_eq_true rfl, Nat.le_of_ble_eq_true rfl⟩, ⟨Nat.le_of_ble_eq_true rfl, Nat.le_of_ble_eq_true rfl⟩, Nat.le_of_ble_eq_true rfl⟩ rfl rfl (fun h9 hh9 v9 => ?_)
    refine WR.pr (fun e9 => ?_)
    subst e9
    refine WR.imp (P' := Eq h0) (fun h1 e1 => e1 ▸ hh9) ?_
    show WR K G _ _ _ _ _ _ _ (.int _ :: _)
    refine R_pop (pc := 8) C dJ0_checkIndex_df160_8 rfl ?_
    exact R_vret (pc := 9) C dJ0_checkIndex_df160_9 rfl (Nat.le_of_ble_eq_true rfl) (Nat.le_of_ble_eq_true rfl) (fun h hh => ⟨rfl, hh.symm⟩)
set_option maxHeartbeats 4000000 in
set_option maxRecDepth 100000 in
theorem mW_charL (hl : l.stackTraces = false) {i j c : Nat} (hi : i < n) (hn : n ≤ 8) (hj : j < tl F i) (ha : tbf F i j = nI c ∧ c < 128) : ∀ h, Wd G (adr, (n, P, F), Sm, mu, g) h → CN l yJ1_charAt_3b067 cJ1_charAt_3b067 2 (some .char) 2 0 0 [.ref (adr (50 + i)), .int (nI j)] G h (fun v h1 => v = some (.int (nI c)) ∧ Wd G (adr, (n, P, F), Sm, mu, g) h1) := by
  intro h0 hwd
  refine CN.of hl (by decide +kernel) rfl (Nat.le_of_ble_eq_true rfl) (fun K sz hKl hin C => ?_)
  have C : CX K G (AH h0 sz) RJ1 cJ1_charAt_3b067 2 (some .char) (rmD 2 0 0) [] := C
  subst hKl
  refine WR.imp (P' := Wd G (adr, (n, P, F), Sm, mu, g)) (fun h e => e ▸ hwd) ?_
  show WR K G _ _ _ [some (.ref (adr (50 + i))), some (.int (nI j))] 0 0 0 []
  refine R_iload_n (pc := 0) C dJ1_charAt_3b067_0 rfl ?_
  refine R_aload_n (pc := 1) C dJ1_charAt_3b067_1 rfl ?_
  refine R_alen (pc := 2) C dJ1_charAt_3b067_2 (t := 1) (wcb hi hn) rfl (v := nI (tl F i)) rfl ?_
  refine R_callSN (pc := 3) C dJ1_charAt_3b067_3 (vs := [_, _]) (fun h hh => mJ0_checkIndex_df160 hl hj (Nat.lt_of_le_of_lt (tx_le _ _ _) (by decide)) h) ⟨k_26_7, k_12_23, k_8_15, k_13_0⟩ (sgn (nv := 2) rfl ⟨by decide +kernel, by decide +kernel, by decide +kernel⟩) ⟨⟨Nat.le_of_ble_eq_true rfl, Nat.le_of_ble_eq_true rfl⟩, ⟨Nat.le_of_ble_eq_true rfl, Nat.le_of_ble_eq_true rfl⟩, Nat.le_of_ble_eq_true rfl⟩ rfl rfl (fun h9 hh9 v9 => ?_)
  refine WR.pr (fun e9 => ?_)
  subst e9
  refine WR.imp (P' := Wd G (adr, (n, P, F), Sm, mu, g)) (fun h1 e1 => e1 ▸ hh9) ?_
  show WR K G _ _ _ _ _ _ _ _
  refine R_aload_n (pc := 6) C dJ1_charAt_3b067_6 rfl ?_
  refine R_iload_n (pc := 7) C dJ1_charAt_3b067_7 rfl ?_
  refine R_bald (pc := 8) C dJ1_charAt_3b067_8 (wcb hi hn) rfl hj (Nat.lt_of_le_of_lt (tx_le _ _ _) (by decide)) ha.1 ?_
  refine R_sipush (pc := 9) C dJ1_charAt_3b067_9 (v := 255) (by decide) ?_
  refine R_iand (pc := 12) C dJ1_charAt_3b067_12 ?_
  refine R_i2c (pc := 13) C dJ1_charAt_3b067_13 ?_
  rw [char0 ha.2]
  exact R_zret (pc := 14) C dJ1_charAt_3b067_14 rfl (char1 ha.2) (Nat.le_of_ble_eq_true rfl) (Nat.le_of_ble_eq_true rfl) (fun h hh => ⟨rfl, hh⟩)
set_option maxHeartbeats 4000000 in
set_option maxRecDepth 100000 in
theorem mW_charAt (hl : l.stackTraces = false) {i j c : Nat} (hi : i < n) (hn : n ≤ 8) (hj : j < tl F i) (ha : tbf F i j = nI c ∧ c < 128) : ∀ h, Wd G (adr, (n, P, F), Sm, mu, g) h → CN l yJ0_charAt_5068e cJ0_charAt_5068e 2 (some .char) 3 0 0 [.ref (adr (40 + i)), .int (nI j)] G h (fun v h1 => v = some (.int (nI c)) ∧ Wd G (adr, (n, P, F), Sm, mu, g) h1) := by
  intro h0 hwd
  refine CN.of hl (by decide +kernel) rfl (Nat.le_of_ble_eq_true rfl) (fun K sz hKl hin C => ?_)
  have C : CX K G (AH h0 sz) RJ0 cJ0_charAt_5068e 2 (some .char) (rmD 3 0 0) [] := C
  subst hKl
  refine WR.imp (P' := Wd G (adr, (n, P, F), Sm, mu, g)) (fun h e => e ▸ hwd) ?_
  show WR K G _ _ _ [some (.ref (adr (40 + i))), some (.int (nI j))] 0 0 0 []
  refine R_aload_n (pc := 0) C dJ0_charAt_5068e_0 rfl ?_
  refine R_callVN (pc := 1) C dJ0_charAt_5068e_1 (vs := []) (fun h hh => mW_lat hl hi hn h hh) (isOb_of (wcs hi hn) rfl) ⟨k_26_0, k_26_1, k_26_2, k_8_15, k_26_3⟩ (sgn (nv := 0) rfl ⟨by decide +kernel, by decide +kernel, by decide +kernel⟩) ⟨⟨Nat.le_of_ble_eq_true rfl, Nat.le_of_ble_eq_true rfl⟩, ⟨Nat.le_of_ble_eq_true rfl, Nat.le_of_ble_eq_true rfl⟩, Nat.le_of_ble_eq_true rfl⟩ rfl rfl (fun h9 hh9 v9 => ?_)
  refine WR.pr (fun e9 => ?_)
  subst e9
  show WR K G _ _ _ _ _ _ _ (.int _ :: _)
  refine R_if_eq (pc := 4) C dJ0_charAt_5068e_4 (tgt := 16) (by decide) (fun c4 => absurd c4 (by decide)) (fun c4 => ?_)
  refine R_aload_n (pc := 7) C dJ0_charAt_5068e_7 rfl ?_
  refine R_getf (pc := 8) C dJ0_charAt_5068e_8 (i := 0) (wcs hi hn) rfl inlJ0 (by decide) k_9_7 rfl ?_
  refine R_iload_n (pc := 11) C dJ0_charAt_5068e_11 rfl ?_
  refine R_callSN (pc := 12) C dJ0_charAt_5068e_12 (vs := [_, _]) (fun h hh => mW_charL hl hi hn hj ha h hh) ⟨k_26_4, k_26_5, k_10_8, k_26_6⟩ (sgn (nv := 2) rfl ⟨by decide +kernel, by decide +kernel, by decide +kernel⟩) ⟨⟨Nat.le_of_ble_eq_true rfl, Nat.le_of_ble_eq_true rfl⟩, ⟨Nat.le_of_ble_eq_true rfl, Nat.le_of_ble_eq_true rfl⟩, Nat.le_of_ble_eq_true rfl⟩ rfl rfl (fun h9 hh9 v9 => ?_)
  refine WR.pr (fun e9 => ?_)
  subst e9
  show WR K G _ _ _ _ _ _ _ (.int _ :: _)
  exact R_zret (pc := 15) C dJ0_charAt_5068e_15 rfl (char1 ha.2) (Nat.le_of_ble_eq_true rfl) (Nat.le_of_ble_eq_true rfl) (fun h hh => ⟨rfl, hh⟩)
set_option maxHeartbeats 4000000 in
set_option maxRecDepth 100000 in
theorem mX1_sign (hl : l.stackTraces = false) {x y : Int32} (hn : n ≤ 8) (ha : ∀ i j, i < n → j < tl F i → ∃ c, tbf F i j = nI c ∧ c < 128) : ∀ h, Wd G (adr, (n, P, F), Sm, mu, g) h → CT l yX1_sign cX1_sign 4 (some .char) 4 2 12 [.ref (adr 0), .int x, .int y] G h (fun v h1 => (kSign n F x y = 0 ∧ v = some (.int (tbf F (ix x) (ix y)))) ∧ Wd G (adr, (n, P, F), Sm, mu, g) h1) (fun E h1 => (kSign n F x y = 1 ∧ E = eIOB) ∧ Wd G (adr, (n, P, F), Sm, mu, g) h1) := by
  intro h0 hwd
  refine CT.of hl (by decide +kernel) rfl (Nat.le_of_ble_eq_true rfl) (fun K sz hKl C => ?_)
  have C : CX K G (AH h0 sz) RX1 cX1_sign 4 (some .char) (rmD 4 2 12) [] := C
  subst hKl
  refine WR.imp (P' := Wd G (adr, (n, P, F), Sm, mu, g)) (fun h e => e ▸ hwd) ?_
  show WR K G _ _ _ [some (.ref (adr 0)), some (.int x), some (.int y), none] 0 0 0 []
  refine R_aload_n (pc := 0) C dX1_sign_0 rfl ?_
  refine R_iload_n (pc := 1) C dX1_sign_1 rfl ?_
  refine R_callVT (pc := 2) C dX1_sign_2 (vs := [_]) (fun h hh => mX1_wellAt hl hn h hh) (isOb_of (wc0) rfl) ⟨k_16_21, k_16_22, k_16_23, k_1_2, k_17_0⟩ (sgn (nv := 1) rfl ⟨by decide +kernel, by decide +kernel, by decide +kernel⟩) ⟨⟨Nat.le_of_ble_eq_true rfl, Nat.le_of_ble_eq_true rfl⟩, ⟨Nat.le_of_ble_eq_true rfl, Nat.le_of_ble_eq_true rfl⟩, Nat.le_of_ble_eq_true rfl⟩ rfl rfl (fun h9 hh9 E9 => ?_) (fun h9 hh9 v9 => ?_)
  · exact X_out C (Nat.le_of_ble_eq_true rfl) (Nat.le_of_ble_eq_true rfl) (fun h1 hh1 => ⟨⟨by simp [kSign, qW_f hn hh1.1.2], hh1.1.1⟩, hh1.2⟩)
  refine WR.imp (P' := fun h1 => ∃ i, (i < n ∧ _ = nI i ∧ v9 = some (.ref (adr (30 + i)))) ∧ Wd G (adr, (n, P, F), Sm, mu, g) h1) (fun h1 q1 => by obtain ⟨⟨z, z1, z2, z3⟩, z4⟩ := q1; exact ⟨z, ⟨z1, z2, z3⟩, z4⟩) ?_
  refine WR.ex (fun i => WR.pr (fun e9 => ?_))
  obtain ⟨hi, ei, e9⟩ := e9
  subst e9
  show WR K G _ _ _ _ _ _ _ (.ref _ :: _)
  subst ei
  refine R_getf (pc := 5) C dX1_sign_5 (i := 6) (wcw hi hn) rfl inlX0 (by decide) k_25_18 rfl ?_
  refine R_astore_n (pc := 8) C dX1_sign_8 (Nat.le_of_ble_eq_true rfl) (lv' := [some (.ref _), some (.int _), some (.int _), some (.ref _)]) rfl ?_
  refine R_iload_n (pc := 9) C dX1_sign_9 rfl ?_
  refine R_if_lt (pc := 10) C dX1_sign_10 (tgt := 21) (by decide) (fun c10 => ?_) (fun c10 => ?_)
  · exact R_thrIOB (pc := 21) C dX1_sign_21 dX1_sign_24 dX1_sign_25 dX1_sign_27 dX1_sign_30 (C.st.2.2.2.2.2.2.1.2.2.2.2.2.2.2.2.1) rfl ⟨⟨Nat.le_of_ble_eq_true rfl, Nat.le_of_ble_eq_true rfl⟩, Nat.le_of_ble_eq_true rfl, Nat.le_of_ble_eq_true rfl⟩ ⟨Nat.le_of_ble_eq_true rfl, Nat.le_of_ble_eq_true rfl⟩ (fun h hh => ⟨⟨by unfold kSign; rw [if_pos (qW_t hn hi), if_neg (fun z => z.1 c10)], rfl⟩, hh⟩)
  · refine R_iload_n (pc := 13) C dX1_sign_13 rfl ?_
    refine R_aload_n (pc := 14) C dX1_sign_14 rfl ?_
    refine R_callVN (pc := 15) C dX1_sign_15 (vs := []) (fun h hh => mW_length hl hi hn h hh) (isOb_of (wcs hi hn) rfl) ⟨k_25_19, k_9_4, k_9_5, k_8_15, k_9_6⟩ (sgn (nv := 0) rfl ⟨by decide +kernel, by decide +kernel, by decide +kernel⟩) ⟨⟨Nat.le_of_ble_eq_true rfl, Nat.le_of_ble_eq_true rfl⟩, ⟨Nat.le_of_ble_eq_true rfl, Nat.le_of_ble_eq_true rfl⟩, Nat.le_of_ble_eq_true rfl⟩ rfl rfl (fun h9 hh9 v9 => ?_)
    refine WR.pr (fun e9 => ?_)
    subst e9
    show WR K G _ _ _ _ _ _ _ (.int _ :: _)
    refine R_icmp_lt (pc := 18) C dX1_sign_18 (tgt := 31) (by decide) (fun c18 => ?_) (fun c18 => ?_)
    · obtain ⟨j, hj, ej⟩ := in_lt (m := tl F i) (Nat.lt_of_le_of_lt (tx_le _ _ _) (by decide)) c10 c18
      obtain ⟨c, hc⟩ := ha i j hi hj
      subst ej
      refine R_aload_n (pc := 31) C dX1_sign_31 rfl ?_
      refine R_iload_n (pc := 32) C dX1_sign_32 rfl ?_
      refine R_callVN (pc := 33) C dX1_sign_33 (vs := [_]) (fun h hh => mW_charAt hl hi hn hj hc h hh) (isOb_of (wcs hi hn) rfl) ⟨k_25_20, k_25_21, k_25_22, k_8_15, k_25_23⟩ (sgn (nv := 1) rfl ⟨by decide +kernel, by decide +kernel, by decide +kernel⟩) ⟨⟨Nat.le_of_ble_eq_true rfl, Nat.le_of_ble_eq_true rfl⟩, ⟨Nat.le_of_ble_eq_true rfl, Nat.le_of_ble_eq_true rfl⟩, Nat.le_of_ble_eq_true rfl⟩ rfl rfl (fun h9 hh9 v9 => ?_)
      refine WR.pr (fun e9 => ?_)
      subst e9
      show WR K G _ _ _ _ _ _ _ (.int _ :: _)
      refine R_ok ?_
      exact R_zret (pc := 36) C dX1_sign_36 rfl (char1 hc.2) (Nat.le_of_ble_eq_true rfl) (Nat.le_of_ble_eq_true rfl) (fun h hh => ⟨⟨by unfold kSign; rw [if_pos (qW_t hn hi), if_pos ⟨c10, by rw [ix_nI (by omega)]; exact c18⟩], by rw [ix_nI (by omega), ix_nI (Nat.lt_of_lt_of_le hj (Nat.le_trans (tx_le _ _ _) (by decide))), hc.1]⟩, hh⟩)
    · exact R_thrIOB (pc := 21) C dX1_sign_21 dX1_sign_24 dX1_sign_25 dX1_sign_27 dX1_sign_30 (C.st.2.2.2.2.2.2.1.2.2.2.2.2.2.2.2.1) rfl ⟨⟨Nat.le_of_ble_eq_true rfl, Nat.le_of_ble_eq_true rfl⟩, Nat.le_of_ble_eq_true rfl, Nat.le_of_ble_eq_true rfl⟩ ⟨Nat.le_of_ble_eq_true rfl, Nat.le_of_ble_eq_true rfl⟩ (fun h hh => ⟨⟨by unfold kSign; rw [if_pos (qW_t hn hi), if_neg (fun z => c18 (by have q9 := z.2; rw [ix_nI (by omega)] at q9; exact q9))], rfl⟩, hh⟩)
end
