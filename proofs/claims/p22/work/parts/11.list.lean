/-! 11: list.size, list.get, the checks of WellRights, wellAt. Written by wip/p22/gen/m11.py -/
section
variable {l : Launch} {G : GT} {adr : Nat → Nat} {n P : Nat} {F mu : Nat → Nat → Int32} {g : Nat → Int64} {Sm : St}
theorem wc1' (h0 : n ≠ 0) : ∀ h, Wd G (adr, (n, P, F), Sm, mu, g) h → h (adr 1) = some (ob 2 [.int (nI n), .ref (adr 2), .int (nI n)]) := fun h hw => (wc1 h hw).trans (by rw [if_neg h0])
theorem in_lt {x : Int32} {m : Nat} (hm : m < 2 ^ 31) (h1 : ¬ x < 0) (h2 : x < nI m) : ∃ i, i < m ∧ x = nI i := by
  rcases pk_ix x hm with h | h | h
  · exact absurd h h1
  · exact absurd h2 (Int32.not_lt.mpr h)
  · exact h
theorem in_neg {x : Int32} {m : Nat} (hm : m < 2 ^ 31) (h1 : x < 0) : ∀ i, i < m → x ≠ nI i := fun i hi e => absurd (e ▸ h1) (nI_pos (by omega))
theorem in_ge {x : Int32} {m : Nat} (hm : m < 2 ^ 31) (h1 : ¬ x < nI m) : ∀ i, i < m → x ≠ nI i := fun i hi e => h1 (e ▸ nI_lt hi hm)
theorem n31 {n : Nat} (hn : n ≤ 8) : n < 2 ^ 31 := by omega
set_option maxHeartbeats 4000000 in
set_option maxRecDepth 100000 in
theorem mJx4a65c_size_8abf5 (hl : l.stackTraces = false)   : ∀ h, Wd G (adr, (n, P, F), Sm, mu, g) h → CN l yJx4a65c_size_8abf5 cJx4a65c_size_8abf5 1 (some .int) 0 0 0 [.ref (adr 1)] G h (fun v h1 => v = some (.int (nI n)) ∧ Wd G (adr, (n, P, F), Sm, mu, g) h1) := by
  intro h0 hwd
  refine CN.of hl (by decide +kernel) rfl (Nat.le_of_ble_eq_true rfl) (fun K sz hKl hin C => ?_)
  have C : CX K G (AH h0 sz) RJx4a65c cJx4a65c_size_8abf5 1 (some .int) (rmD 0 0 0) [] := C
  subst hKl
  refine WR.imp (P' := Wd G (adr, (n, P, F), Sm, mu, g)) (fun h e => e ▸ hwd) ?_
  show WR K G _ _ _ [some (.ref (adr 1))] 0 0 0 []
  refine R_aload_n (pc := 0) C dJx4a65c_size_8abf5_0 rfl ?_
  refine R_getf (pc := 1) C dJx4a65c_size_8abf5_1 (i := 2) (wc1) rfl inlJx4a65c (by decide) k_3_22 rfl ?_
  exact R_iret (pc := 4) C dJx4a65c_size_8abf5_4 rfl (Nat.le_of_ble_eq_true rfl) (Nat.le_of_ble_eq_true rfl) (fun h hh => ⟨rfl, hh⟩)
set_option maxHeartbeats 4000000 in
set_option maxRecDepth 100000 in
theorem mJ3_checkIndex_8e157 (hl : l.stackTraces = false) {i m : Nat} (hi : i < m) (hm : m < 2 ^ 31) : ∀ h, CN l yJ3_checkIndex_8e157 cJ3_checkIndex_8e157 3 (some .int) 0 0 0 [.int (nI i), .int (nI m), .null] G h (fun v h1 => v = some (.int (nI i)) ∧ h1 = h) := by
  intro h0
  refine CN.of hl (by decide +kernel) rfl (Nat.le_of_ble_eq_true rfl) (fun K sz hKl hin C => ?_)
  have C : CX K G (AH h0 sz) RJ3 cJ3_checkIndex_8e157 3 (some .int) (rmD 0 0 0) [] := C
  subst hKl
  show WR K G _ _ _ [some (.int (nI i)), some (.int (nI m)), some (.null)] 0 0 0 []
  refine R_iload_n (pc := 0) C dJ3_checkIndex_8e157_0 rfl ?_
  refine R_if_lt (pc := 1) C dJ3_checkIndex_8e157_1 (tgt := 9) (by decide) (fun c1 => absurd c1 (nI_pos (by omega))) (fun c1 => ?_)
  refine R_iload_n (pc := 4) C dJ3_checkIndex_8e157_4 rfl ?_
  refine R_iload_n (pc := 5) C dJ3_checkIndex_8e157_5 rfl ?_
  refine R_icmp_lt (pc := 6) C dJ3_checkIndex_8e157_6 (tgt := 16) (by decide) (fun c6 => ?_) (fun c6 => absurd (nI_lt hi hm) c6)
  refine R_iload_n (pc := 16) C dJ3_checkIndex_8e157_16 rfl ?_
  exact R_iret (pc := 17) C dJ3_checkIndex_8e157_17 rfl (Nat.le_of_ble_eq_true rfl) (Nat.le_of_ble_eq_true rfl) (fun h hh => ⟨rfl, hh.symm⟩)
set_option maxHeartbeats 4000000 in
set_option maxRecDepth 100000 in
theorem mJ15_checkIndex_7cf53 (hl : l.stackTraces = false) {i m : Nat} (hi : i < m) (hm : m < 2 ^ 31) : ∀ h, CN l yJ15_checkIndex_7cf53 cJ15_checkIndex_7cf53 2 (some .int) 1 0 0 [.int (nI i), .int (nI m)] G h (fun v h1 => v = some (.int (nI i)) ∧ h1 = h) := by
  intro h0
  refine CN.of hl (by decide +kernel) rfl (Nat.le_of_ble_eq_true rfl) (fun K sz hKl hin C => ?_)
  have C : CX K G (AH h0 sz) RJ15 cJ15_checkIndex_7cf53 2 (some .int) (rmD 1 0 0) [] := C
  subst hKl
  show WR K G _ _ _ [some (.int (nI i)), some (.int (nI m))] 0 0 0 []
  refine R_iload_n (pc := 0) C dJ15_checkIndex_7cf53_0 rfl ?_
  refine R_iload_n (pc := 1) C dJ15_checkIndex_7cf53_1 rfl ?_
  refine R_null (pc := 2) C dJ15_checkIndex_7cf53_2 ?_
  refine R_callSN (pc := 3) C dJ15_checkIndex_7cf53_3 (vs := [_, _, _]) (fun h hh => mJ3_checkIndex_8e157 hl hi hm h) ⟨k_17_10, k_13_2, k_8_20, k_13_3⟩ (sgn (nv := 3) rfl ⟨by decide +kernel, by decide +kernel, by decide +kernel⟩) ⟨⟨Nat.le_of_ble_eq_true rfl, Nat.le_of_ble_eq_true rfl⟩, ⟨Nat.le_of_ble_eq_true rfl, Nat.le_of_ble_eq_true rfl⟩, Nat.le_of_ble_eq_true rfl⟩ rfl rfl (fun h9 hh9 v9 => ?_)
  refine WR.pr (fun e9 => ?_)
  subst e9
  refine WR.imp (P' := Eq h0) (fun h1 e1 => e1 ▸ hh9) ?_
  show WR K G _ _ _ _ _ _ _ (.int _ :: _)
  exact R_iret (pc := 6) C dJ15_checkIndex_7cf53_6 rfl (Nat.le_of_ble_eq_true rfl) (Nat.le_of_ble_eq_true rfl) (fun h hh => ⟨rfl, hh.symm⟩)
set_option maxHeartbeats 4000000 in
set_option maxRecDepth 100000 in
theorem mJx4a65c_elementData_915e3 (hl : l.stackTraces = false) {i : Nat} (hi : i < n) (hn : n ≤ 8) : ∀ h, Wd G (adr, (n, P, F), Sm, mu, g) h → CN l yJx4a65c_elementData_915e3 cJx4a65c_elementData_915e3 2 (some (.object "java/lang/Object")) 0 0 0 [.ref (adr 1), .int (nI i)] G h (fun v h1 => v = some (.ref (adr (30 + i))) ∧ Wd G (adr, (n, P, F), Sm, mu, g) h1) := by
  intro h0 hwd
  refine CN.of hl (by decide +kernel) rfl (Nat.le_of_ble_eq_true rfl) (fun K sz hKl hin C => ?_)
  have C : CX K G (AH h0 sz) RJx4a65c cJx4a65c_elementData_915e3 2 (some (.object "java/lang/Object")) (rmD 0 0 0) [] := C
  subst hKl
  refine WR.imp (P' := Wd G (adr, (n, P, F), Sm, mu, g)) (fun h e => e ▸ hwd) ?_
  show WR K G _ _ _ [some (.ref (adr 1)), some (.int (nI i))] 0 0 0 []
  have hne : n ≠ 0 := by omega
  refine R_aload_n (pc := 0) C dJx4a65c_elementData_915e3_0 rfl ?_
  refine R_getf (pc := 1) C dJx4a65c_elementData_915e3_1 (i := 1) (wc1' hne) rfl inlJx4a65c (by decide) k_1_23 rfl ?_
  refine R_iload_n (pc := 4) C dJx4a65c_elementData_915e3_4 rfl ?_
  refine R_aald (pc := 5) C dJx4a65c_elementData_915e3_5 (v := .ref (adr (30 + i))) (wc2 hne) rfl (show i < 10 by omega) (by decide) (by show va_rf (if i < n then some (adr (30 + i)) else none) = _; rw [if_pos hi]; rfl) ?_
  exact R_aret (pc := 6) C dJx4a65c_elementData_915e3_6 rfl (Or.inl ⟨_, rfl⟩) (Or.inr ⟨_, rfl⟩) (Nat.le_of_ble_eq_true rfl) (Nat.le_of_ble_eq_true rfl) (fun h hh => ⟨rfl, hh⟩)
set_option maxHeartbeats 4000000 in
set_option maxRecDepth 100000 in
theorem mJx4a65c_get_915e3 (hl : l.stackTraces = false) {i : Nat} (hi : i < n) (hn : n ≤ 8) : ∀ h, Wd G (adr, (n, P, F), Sm, mu, g) h → CN l yJx4a65c_get_915e3 cJx4a65c_get_915e3 2 (some (.object "java/lang/Object")) 2 0 0 [.ref (adr 1), .int (nI i)] G h (fun v h1 => v = some (.ref (adr (30 + i))) ∧ Wd G (adr, (n, P, F), Sm, mu, g) h1) := by
  intro h0 hwd
  refine CN.of hl (by decide +kernel) rfl (Nat.le_of_ble_eq_true rfl) (fun K sz hKl hin C => ?_)
  have C : CX K G (AH h0 sz) RJx4a65c cJx4a65c_get_915e3 2 (some (.object "java/lang/Object")) (rmD 2 0 0) [] := C
  subst hKl
  refine WR.imp (P' := Wd G (adr, (n, P, F), Sm, mu, g)) (fun h e => e ▸ hwd) ?_
  show WR K G _ _ _ [some (.ref (adr 1)), some (.int (nI i))] 0 0 0 []
  have hne : n ≠ 0 := by omega
  refine R_iload_n (pc := 0) C dJx4a65c_get_915e3_0 rfl ?_
  refine R_aload_n (pc := 1) C dJx4a65c_get_915e3_1 rfl ?_
  refine R_getf (pc := 2) C dJx4a65c_get_915e3_2 (i := 2) (wc1' hne) rfl inlJx4a65c (by decide) k_3_22 rfl ?_
  refine R_callSN (pc := 5) C dJx4a65c_get_915e3_5 (vs := [_, _]) (fun h hh => mJ15_checkIndex_7cf53 hl hi (n31 hn) h) ⟨k_17_6, k_17_7, k_17_8, k_17_9⟩ (sgn (nv := 2) rfl ⟨by decide +kernel, by decide +kernel, by decide +kernel⟩) ⟨⟨Nat.le_of_ble_eq_true rfl, Nat.le_of_ble_eq_true rfl⟩, ⟨Nat.le_of_ble_eq_true rfl, Nat.le_of_ble_eq_true rfl⟩, Nat.le_of_ble_eq_true rfl⟩ rfl rfl (fun h9 hh9 v9 => ?_)
  refine WR.pr (fun e9 => ?_)
  subst e9
  refine WR.imp (P' := Wd G (adr, (n, P, F), Sm, mu, g)) (fun h1 e1 => e1 ▸ hh9) ?_
  show WR K G _ _ _ _ _ _ _ (.int _ :: _)
  refine R_pop (pc := 8) C dJx4a65c_get_915e3_8 rfl ?_
  refine R_aload_n (pc := 9) C dJx4a65c_get_915e3_9 rfl ?_
  refine R_iload_n (pc := 10) C dJx4a65c_get_915e3_10 rfl ?_
  refine R_callVN (pc := 11) C dJx4a65c_get_915e3_11 (vs := [_]) (fun h hh => mJx4a65c_elementData_915e3 hl hi hn h hh) (isOb_of (wc1' hne) rfl) ⟨k_17_11, k_17_12, k_17_13, k_1_12, k_17_14⟩ (sgn (nv := 1) rfl ⟨by decide +kernel, by decide +kernel, by decide +kernel⟩) ⟨⟨Nat.le_of_ble_eq_true rfl, Nat.le_of_ble_eq_true rfl⟩, ⟨Nat.le_of_ble_eq_true rfl, Nat.le_of_ble_eq_true rfl⟩, Nat.le_of_ble_eq_true rfl⟩ rfl rfl (fun h9 hh9 v9 => ?_)
  refine WR.pr (fun e9 => ?_)
  subst e9
  show WR K G _ _ _ _ _ _ _ (.ref _ :: _)
  exact R_aret (pc := 14) C dJx4a65c_get_915e3_14 rfl (Or.inl ⟨_, rfl⟩) (Or.inr ⟨_, rfl⟩) (Nat.le_of_ble_eq_true rfl) (Nat.le_of_ble_eq_true rfl) (fun h hh => ⟨rfl, hh⟩)
set_option maxHeartbeats 4000000 in
set_option maxRecDepth 100000 in
theorem mX1_requireLayer (hl : l.stackTraces = false) {x : Int32}  : ∀ h, CT l yX1_requireLayer cX1_requireLayer 1 (none) 0 1 6 [.int x] G h (fun v h1 => v = none ∧ (∃ i, i < 3 ∧ x = nI i) ∧ h1 = h) (fun E h1 => E = eIOB ∧ (∀ i, i < 3 → x ≠ nI i) ∧ h1 = h) := by
  intro h0
  refine CT.of hl (by decide +kernel) rfl (Nat.le_of_ble_eq_true rfl) (fun K sz hKl C => ?_)
  have C : CX K G (AH h0 sz) RX1 cX1_requireLayer 1 (none) (rmD 0 1 6) [] := C
  subst hKl
  show WR K G _ _ _ [some (.int x)] 0 0 0 []
  refine R_iload_n (pc := 0) C dX1_requireLayer_0 rfl ?_
  refine R_if_lt (pc := 1) C dX1_requireLayer_1 (tgt := 9) (by decide) (fun c1 => ?_) (fun c1 => ?_)
  · exact R_thrIOB (pc := 9) C dX1_requireLayer_9 dX1_requireLayer_12 dX1_requireLayer_13 dX1_requireLayer_15 dX1_requireLayer_18 (C.st.2.2.2.2.2.2.1.2.2.2.2.1) rfl ⟨⟨Nat.le_of_ble_eq_true rfl, Nat.le_of_ble_eq_true rfl⟩, Nat.le_of_ble_eq_true rfl, Nat.le_of_ble_eq_true rfl⟩ ⟨Nat.le_of_ble_eq_true rfl, Nat.le_of_ble_eq_true rfl⟩ (fun h hh => ⟨rfl, in_neg (by omega) c1, hh.symm⟩)
  · refine R_iload_n (pc := 4) C dX1_requireLayer_4 rfl ?_
    refine R_iconst (pc := 5) C dX1_requireLayer_5 (v := 3) (by decide) ?_
    refine R_icmp_lt (pc := 6) C dX1_requireLayer_6 (tgt := 19) (by decide) (fun c6 => ?_) (fun c6 => ?_)
    · refine R_ok ?_
      exact R_vret (pc := 19) C dX1_requireLayer_19 rfl (Nat.le_of_ble_eq_true rfl) (Nat.le_of_ble_eq_true rfl) (fun h hh => ⟨rfl, in_lt (by omega) c1 c6, hh.symm⟩)
    · exact R_thrIOB (pc := 9) C dX1_requireLayer_9 dX1_requireLayer_12 dX1_requireLayer_13 dX1_requireLayer_15 dX1_requireLayer_18 (C.st.2.2.2.2.2.2.1.2.2.2.2.1) rfl ⟨⟨Nat.le_of_ble_eq_true rfl, Nat.le_of_ble_eq_true rfl⟩, Nat.le_of_ble_eq_true rfl, Nat.le_of_ble_eq_true rfl⟩ ⟨Nat.le_of_ble_eq_true rfl, Nat.le_of_ble_eq_true rfl⟩ (fun h hh => ⟨rfl, in_ge (m := 3) (by omega) c6, hh.symm⟩)
set_option maxHeartbeats 4000000 in
set_option maxRecDepth 100000 in
theorem mX1_requireWithin (hl : l.stackTraces = false) {x a b : Int32}  : ∀ h, CT l yX1_requireWithin cX1_requireWithin 3 (none) 0 1 6 [.int x, .int a, .int b] G h (fun v h1 => v = none ∧ (¬ x < a ∧ x ≤ b) ∧ h1 = h) (fun E h1 => E = eIAE ∧ ¬ (¬ x < a ∧ x ≤ b) ∧ h1 = h) := by
  intro h0
  refine CT.of hl (by decide +kernel) rfl (Nat.le_of_ble_eq_true rfl) (fun K sz hKl C => ?_)
  have C : CX K G (AH h0 sz) RX1 cX1_requireWithin 3 (none) (rmD 0 1 6) [] := C
  subst hKl
  show WR K G _ _ _ [some (.int x), some (.int a), some (.int b)] 0 0 0 []
  refine R_iload_n (pc := 0) C dX1_requireWithin_0 rfl ?_
  refine R_iload_n (pc := 1) C dX1_requireWithin_1 rfl ?_
  refine R_icmp_lt (pc := 2) C dX1_requireWithin_2 (tgt := 10) (by decide) (fun c2 => ?_) (fun c2 => ?_)
  · exact R_thrIAE (pc := 10) C dX1_requireWithin_10 dX1_requireWithin_13 dX1_requireWithin_14 dX1_requireWithin_16 dX1_requireWithin_19 (C.st.2.2.2.2.2.2.1.2.2.2.2.2.1) rfl ⟨⟨Nat.le_of_ble_eq_true rfl, Nat.le_of_ble_eq_true rfl⟩, Nat.le_of_ble_eq_true rfl, Nat.le_of_ble_eq_true rfl⟩ ⟨Nat.le_of_ble_eq_true rfl, Nat.le_of_ble_eq_true rfl⟩ (fun h hh => ⟨rfl, fun q => q.1 c2, hh.symm⟩)
  · refine R_iload_n (pc := 5) C dX1_requireWithin_5 rfl ?_
    refine R_iload_n (pc := 6) C dX1_requireWithin_6 rfl ?_
    refine R_icmp_le (pc := 7) C dX1_requireWithin_7 (tgt := 20) (by decide) (fun c7 => ?_) (fun c7 => ?_)
    · refine R_ok ?_
      exact R_vret (pc := 20) C dX1_requireWithin_20 rfl (Nat.le_of_ble_eq_true rfl) (Nat.le_of_ble_eq_true rfl) (fun h hh => ⟨rfl, ⟨c2, c7⟩, hh.symm⟩)
    · exact R_thrIAE (pc := 10) C dX1_requireWithin_10 dX1_requireWithin_13 dX1_requireWithin_14 dX1_requireWithin_16 dX1_requireWithin_19 (C.st.2.2.2.2.2.2.1.2.2.2.2.2.1) rfl ⟨⟨Nat.le_of_ble_eq_true rfl, Nat.le_of_ble_eq_true rfl⟩, Nat.le_of_ble_eq_true rfl, Nat.le_of_ble_eq_true rfl⟩ ⟨Nat.le_of_ble_eq_true rfl, Nat.le_of_ble_eq_true rfl⟩ (fun h hh => ⟨rfl, fun q => c7 q.2, hh.symm⟩)
set_option maxHeartbeats 4000000 in
set_option maxRecDepth 100000 in
theorem mX1_requireDifferent (hl : l.stackTraces = false) {x y : Int32}  : ∀ h, CT l yX1_requireDifferent cX1_requireDifferent 2 (none) 0 1 6 [.int x, .int y] G h (fun v h1 => v = none ∧ x ≠ y ∧ h1 = h) (fun E h1 => E = eIAE ∧ x = y ∧ h1 = h) := by
  intro h0
  refine CT.of hl (by decide +kernel) rfl (Nat.le_of_ble_eq_true rfl) (fun K sz hKl C => ?_)
  have C : CX K G (AH h0 sz) RX1 cX1_requireDifferent 2 (none) (rmD 0 1 6) [] := C
  subst hKl
  show WR K G _ _ _ [some (.int x), some (.int y)] 0 0 0 []
  refine R_iload_n (pc := 0) C dX1_requireDifferent_0 rfl ?_
  refine R_iload_n (pc := 1) C dX1_requireDifferent_1 rfl ?_
  refine R_icmp_ne (pc := 2) C dX1_requireDifferent_2 (tgt := 15) (by decide) (fun c2 => ?_) (fun c2 => ?_)
  · refine R_ok ?_
    exact R_vret (pc := 15) C dX1_requireDifferent_15 rfl (Nat.le_of_ble_eq_true rfl) (Nat.le_of_ble_eq_true rfl) (fun h hh => ⟨rfl, c2, hh.symm⟩)
  · exact R_thrIAE (pc := 5) C dX1_requireDifferent_5 dX1_requireDifferent_8 dX1_requireDifferent_9 dX1_requireDifferent_11 dX1_requireDifferent_14 (C.st.2.2.2.2.2.2.1.2.2.2.2.2.2.1) rfl ⟨⟨Nat.le_of_ble_eq_true rfl, Nat.le_of_ble_eq_true rfl⟩, Nat.le_of_ble_eq_true rfl, Nat.le_of_ble_eq_true rfl⟩ ⟨Nat.le_of_ble_eq_true rfl, Nat.le_of_ble_eq_true rfl⟩ (fun h hh => ⟨rfl, c2, hh.symm⟩)
set_option maxHeartbeats 4000000 in
set_option maxRecDepth 100000 in
theorem mX1_hundredths (hl : l.stackTraces = false) {x y : Int32}  : ∀ h, CN l yX1_hundredths cX1_hundredths 2 (some .int) 0 0 0 [.int x, .int y] G h (fun v h1 => v = some (.int (x * y / 100)) ∧ h1 = h) := by
  intro h0
  refine CN.of hl (by decide +kernel) rfl (Nat.le_of_ble_eq_true rfl) (fun K sz hKl hin C => ?_)
  have C : CX K G (AH h0 sz) RX1 cX1_hundredths 2 (some .int) (rmD 0 0 0) [] := C
  subst hKl
  show WR K G _ _ _ [some (.int x), some (.int y)] 0 0 0 []
  refine R_iload_n (pc := 0) C dX1_hundredths_0 rfl ?_
  refine R_iload_n (pc := 1) C dX1_hundredths_1 rfl ?_
  refine R_imul (pc := 2) C dX1_hundredths_2 ?_
  refine R_bipush (pc := 3) C dX1_hundredths_3 (v := 100) (by decide) ?_
  refine R_idiv (pc := 5) C dX1_hundredths_5 (by decide) ?_
  exact R_iret (pc := 6) C dX1_hundredths_6 rfl (Nat.le_of_ble_eq_true rfl) (Nat.le_of_ble_eq_true rfl) (fun h hh => ⟨rfl, hh.symm⟩)
set_option maxHeartbeats 4000000 in
set_option maxRecDepth 100000 in
theorem mX1_wellAt (hl : l.stackTraces = false) {x : Int32} (hn : n ≤ 8) : ∀ h, Wd G (adr, (n, P, F), Sm, mu, g) h → CT l yX1_wellAt cX1_wellAt 2 (some (.object "WellRights$Well")) 3 1 6 [.ref (adr 0), .int x] G h (fun v h1 => (∃ i, i < n ∧ x = nI i ∧ v = some (.ref (adr (30 + i)))) ∧ Wd G (adr, (n, P, F), Sm, mu, g) h1) (fun E h1 => (E = eIOB ∧ ∀ i, i < n → x ≠ nI i) ∧ Wd G (adr, (n, P, F), Sm, mu, g) h1) := by
  intro h0 hwd
  refine CT.of hl (by decide +kernel) rfl (Nat.le_of_ble_eq_true rfl) (fun K sz hKl C => ?_)
  have C : CX K G (AH h0 sz) RX1 cX1_wellAt 2 (some (.object "WellRights$Well")) (rmD 3 1 6) [] := C
  subst hKl
  refine WR.imp (P' := Wd G (adr, (n, P, F), Sm, mu, g)) (fun h e => e ▸ hwd) ?_
  show WR K G _ _ _ [some (.ref (adr 0)), some (.int x)] 0 0 0 []
  refine R_iload_n (pc := 0) C dX1_wellAt_0 rfl ?_
  refine R_if_lt (pc := 1) C dX1_wellAt_1 (tgt := 15) (by decide) (fun c1 => ?_) (fun c1 => ?_)
  · exact R_thrIOB (pc := 15) C dX1_wellAt_15 dX1_wellAt_18 dX1_wellAt_19 dX1_wellAt_21 dX1_wellAt_24 (C.st.2.2.2.2.2.2.1.2.2.2.1) rfl ⟨⟨Nat.le_of_ble_eq_true rfl, Nat.le_of_ble_eq_true rfl⟩, Nat.le_of_ble_eq_true rfl, Nat.le_of_ble_eq_true rfl⟩ ⟨Nat.le_of_ble_eq_true rfl, Nat.le_of_ble_eq_true rfl⟩ (fun h hh => ⟨⟨rfl, in_neg (n31 hn) c1⟩, hh⟩)
  · refine R_iload_n (pc := 4) C dX1_wellAt_4 rfl ?_
    refine R_aload_n (pc := 5) C dX1_wellAt_5 rfl ?_
    refine R_getf (pc := 6) C dX1_wellAt_6 (i := 0) (wc0) rfl inlX1 (by decide) k_1_13 rfl ?_
    refine R_callVN (pc := 9) C dX1_wellAt_9 (vs := []) (fun h hh => mJx4a65c_size_8abf5 hl h hh) (isOb_of (wc1) rfl) ⟨k_3_18, k_3_19, k_3_20, k_1_12, k_3_21⟩ (sgn (nv := 0) rfl ⟨by decide +kernel, by decide +kernel, by decide +kernel⟩) ⟨⟨Nat.le_of_ble_eq_true rfl, Nat.le_of_ble_eq_true rfl⟩, ⟨Nat.le_of_ble_eq_true rfl, Nat.le_of_ble_eq_true rfl⟩, Nat.le_of_ble_eq_true rfl⟩ rfl rfl (fun h9 hh9 v9 => ?_)
    refine WR.pr (fun e9 => ?_)
    subst e9
    show WR K G _ _ _ _ _ _ _ (.int _ :: _)
    refine R_icmp_lt (pc := 12) C dX1_wellAt_12 (tgt := 25) (by decide) (fun c12 => ?_) (fun c12 => ?_)
    · obtain ⟨i, hi, rfl⟩ := in_lt (n31 hn) c1 c12
      refine R_aload_n (pc := 25) C dX1_wellAt_25 rfl ?_
      refine R_getf (pc := 26) C dX1_wellAt_26 (i := 0) (wc0) rfl inlX1 (by decide) k_1_13 rfl ?_
      refine R_iload_n (pc := 29) C dX1_wellAt_29 rfl ?_
      refine R_callVN (pc := 30) C dX1_wellAt_30 (vs := [_]) (fun h hh => mJx4a65c_get_915e3 hl hi hn h hh) (isOb_of (wc1) rfl) ⟨k_17_2, k_17_3, k_17_4, k_1_12, k_17_5⟩ (sgn (nv := 1) rfl ⟨by decide +kernel, by decide +kernel, by decide +kernel⟩) ⟨⟨Nat.le_of_ble_eq_true rfl, Nat.le_of_ble_eq_true rfl⟩, ⟨Nat.le_of_ble_eq_true rfl, Nat.le_of_ble_eq_true rfl⟩, Nat.le_of_ble_eq_true rfl⟩ rfl rfl (fun h9 hh9 v9 => ?_)
      refine WR.pr (fun e9 => ?_)
      subst e9
      show WR K G _ _ _ _ _ _ _ (.ref _ :: _)
      refine R_cast (pc := 33) C dX1_wellAt_33 (wcw hi hn) rfl k_3_5 ?_
      refine R_ok ?_
      exact R_aret (pc := 36) C dX1_wellAt_36 rfl (Or.inl ⟨_, rfl⟩) (Or.inr ⟨_, rfl⟩) (Nat.le_of_ble_eq_true rfl) (Nat.le_of_ble_eq_true rfl) (fun h hh => ⟨⟨i, hi, rfl, rfl⟩, hh⟩)
    · exact R_thrIOB (pc := 15) C dX1_wellAt_15 dX1_wellAt_18 dX1_wellAt_19 dX1_wellAt_21 dX1_wellAt_24 (C.st.2.2.2.2.2.2.1.2.2.2.1) rfl ⟨⟨Nat.le_of_ble_eq_true rfl, Nat.le_of_ble_eq_true rfl⟩, Nat.le_of_ble_eq_true rfl, Nat.le_of_ble_eq_true rfl⟩ ⟨Nat.le_of_ble_eq_true rfl, Nat.le_of_ble_eq_true rfl⟩ (fun h hh => ⟨⟨rfl, in_ge (n31 hn) c12⟩, hh⟩)
end
