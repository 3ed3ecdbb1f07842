/-! 13: the plain calls of WellRights. Written by wip/p22/gen/m13.py -/
theorem lay_t {i : Nat} (hi : i < 3) : qR (nI i) 0 2 = true := qR_t ⟨nI_pos (by omega), (nI_le (by omega) (by omega) : nI i ≤ nI 2)⟩
theorem lay_f {x : Int32} (h : ∀ i, i < 3 → x ≠ nI i) : ¬ (¬ x < 0 ∧ x ≤ 2) := by
  rintro ⟨h1, h2⟩
  obtain ⟨i, hi, e⟩ := in_lt (m := 3) (by omega) h1 (Int32.lt_of_le_of_lt h2 (by decide))
  exact h i hi e
theorem five_le {P : Nat} (hP : P ≤ 5) (h : ¬ nI P < 5) : 5 ≤ P := Nat.not_lt.mp (fun q => h (nI_lt (b := 5) q (by omega)))
section
variable {l : Launch} {G : GT} {adr : Nat → Nat} {n P : Nat} {F mu : Nat → Nat → Int32} {g : Nat → Int64} {Sm : St}
set_option maxHeartbeats 4000000 in
set_option maxRecDepth 100000 in
theorem mX1_level (hl : l.stackTraces = false) {x : Int32} (hn : n ≤ 8) : ∀ h, Wd G (adr, (n, P, F), Sm, mu, g) h → CT l yX1_level cX1_level 2 (some .int) 4 1 6 [.ref (adr 0), .int x] G h (fun v h1 => (kAsk n x = 0 ∧ v = some (.int (F 2 (ix x)))) ∧ Wd G (adr, (n, P, F), Sm, mu, g) h1) (fun E h1 => exA E (kAsk n x) ∧ Wd G (adr, (n, P, F), Sm, mu, g) h1) := by
  intro h0 hwd
  refine CT.of hl (by decide +kernel) rfl (Nat.le_of_ble_eq_true rfl) (fun K sz hKl C => ?_)
  have C : CX K G (AH h0 sz) RX1 cX1_level 2 (some .int) (rmD 4 1 6) [] := C
  subst hKl
  refine WR.imp (P' := Wd G (adr, (n, P, F), Sm, mu, g)) (fun h e => e ▸ hwd) ?_
  show WR K G _ _ _ [some (.ref (adr 0)), some (.int x)] 0 0 0 []
  refine R_aload_n (pc := 0) C dX1_level_0 rfl ?_
  refine R_iload_n (pc := 1) C dX1_level_1 rfl ?_
  refine R_callVT (pc := 2) C dX1_level_2 (vs := [_]) (fun h hh => mX1_wellAt hl hn h hh) (isOb_of (wc0) rfl) ⟨k_16_21, k_16_22, k_16_23, k_1_2, k_17_0⟩ (sgn (nv := 1) rfl ⟨by decide +kernel, by decide +kernel, by decide +kernel⟩) ⟨⟨Nat.le_of_ble_eq_true rfl, Nat.le_of_ble_eq_true rfl⟩, ⟨Nat.le_of_ble_eq_true rfl, Nat.le_of_ble_eq_true rfl⟩, Nat.le_of_ble_eq_true rfl⟩ rfl rfl (fun h9 hh9 E9 => ?_) (fun h9 hh9 v9 => ?_)
  · exact X_out C (Nat.le_of_ble_eq_true rfl) (Nat.le_of_ble_eq_true rfl) (fun h1 hh1 => ⟨Or.inl ⟨by simp [kAsk, qW_f hn hh1.1.2], hh1.1.1⟩, hh1.2⟩)
  refine WR.imp (P' := fun h1 => ∃ i, (i < n ∧ _ = nI i ∧ v9 = some (.ref (adr (30 + i)))) ∧ Wd G (adr, (n, P, F), Sm, mu, g) h1) (fun h1 q1 => by obtain ⟨⟨z, z1, z2, z3⟩, z4⟩ := q1; exact ⟨z, ⟨z1, z2, z3⟩, z4⟩) ?_
  refine WR.ex (fun i => WR.pr (fun e9 => ?_))
  obtain ⟨hi, ei, e9⟩ := e9
  subst e9
  show WR K G _ _ _ _ _ _ _ (.ref _ :: _)
  subst ei
  refine R_getf (pc := 5) C dX1_level_5 (i := 8) (wcw hi hn) rfl inlX0 (by decide) k_19_19 rfl ?_
  refine R_ok ?_
  exact R_iret (pc := 8) C dX1_level_8 rfl (Nat.le_of_ble_eq_true rfl) (Nat.le_of_ble_eq_true rfl) (fun h hh => ⟨⟨by simp [kAsk, qW_t hn hi], by rw [ix_nI (by omega)]⟩, hh⟩)
set_option maxHeartbeats 4000000 in
set_option maxRecDepth 100000 in
theorem mX1_drew (hl : l.stackTraces = false) {x : Int32} (hn : n ≤ 8) : ∀ h, Wd G (adr, (n, P, F), Sm, mu, g) h → CT l yX1_drew cX1_drew 2 (some .int) 4 1 6 [.ref (adr 0), .int x] G h (fun v h1 => (kAsk n x = 0 ∧ v = some (.int (F 11 (ix x)))) ∧ Wd G (adr, (n, P, F), Sm, mu, g) h1) (fun E h1 => exA E (kAsk n x) ∧ Wd G (adr, (n, P, F), Sm, mu, g) h1) := by
  intro h0 hwd
  refine CT.of hl (by decide +kernel) rfl (Nat.le_of_ble_eq_true rfl) (fun K sz hKl C => ?_)
  have C : CX K G (AH h0 sz) RX1 cX1_drew 2 (some .int) (rmD 4 1 6) [] := C
  subst hKl
  refine WR.imp (P' := Wd G (adr, (n, P, F), Sm, mu, g)) (fun h e => e ▸ hwd) ?_
  show WR K G _ _ _ [some (.ref (adr 0)), some (.int x)] 0 0 0 []
  refine R_aload_n (pc := 0) C dX1_drew_0 rfl ?_
  refine R_iload_n (pc := 1) C dX1_drew_1 rfl ?_
  refine R_callVT (pc := 2) C dX1_drew_2 (vs := [_]) (fun h hh => mX1_wellAt hl hn h hh) (isOb_of (wc0) rfl) ⟨k_16_21, k_16_22, k_16_23, k_1_2, k_17_0⟩ (sgn (nv := 1) rfl ⟨by decide +kernel, by decide +kernel, by decide +kernel⟩) ⟨⟨Nat.le_of_ble_eq_true rfl, Nat.le_of_ble_eq_true rfl⟩, ⟨Nat.le_of_ble_eq_true rfl, Nat.le_of_ble_eq_true rfl⟩, Nat.le_of_ble_eq_true rfl⟩ rfl rfl (fun h9 hh9 E9 => ?_) (fun h9 hh9 v9 => ?_)
  · exact X_out C (Nat.le_of_ble_eq_true rfl) (Nat.le_of_ble_eq_true rfl) (fun h1 hh1 => ⟨Or.inl ⟨by simp [kAsk, qW_f hn hh1.1.2], hh1.1.1⟩, hh1.2⟩)
  refine WR.imp (P' := fun h1 => ∃ i, (i < n ∧ _ = nI i ∧ v9 = some (.ref (adr (30 + i)))) ∧ Wd G (adr, (n, P, F), Sm, mu, g) h1) (fun h1 q1 => by obtain ⟨⟨z, z1, z2, z3⟩, z4⟩ := q1; exact ⟨z, ⟨z1, z2, z3⟩, z4⟩) ?_
  refine WR.ex (fun i => WR.pr (fun e9 => ?_))
  obtain ⟨hi, ei, e9⟩ := e9
  subst e9
  show WR K G _ _ _ _ _ _ _ (.ref _ :: _)
  subst ei
  refine R_getf (pc := 5) C dX1_drew_5 (i := 10) (wcw hi hn) rfl inlX0 (by decide) k_21_11 rfl ?_
  refine R_ok ?_
  exact R_iret (pc := 8) C dX1_drew_8 rfl (Nat.le_of_ble_eq_true rfl) (Nat.le_of_ble_eq_true rfl) (fun h hh => ⟨⟨by simp [kAsk, qW_t hn hi], by rw [ix_nI (by omega)]⟩, hh⟩)
set_option maxHeartbeats 4000000 in
set_option maxRecDepth 100000 in
theorem mX1_told (hl : l.stackTraces = false) {x : Int32} (hn : n ≤ 8) : ∀ h, Wd G (adr, (n, P, F), Sm, mu, g) h → CT l yX1_told cX1_told 2 (some .int) 4 1 6 [.ref (adr 0), .int x] G h (fun v h1 => (kAsk n x = 0 ∧ v = some (.int (F 12 (ix x)))) ∧ Wd G (adr, (n, P, F), Sm, mu, g) h1) (fun E h1 => exA E (kAsk n x) ∧ Wd G (adr, (n, P, F), Sm, mu, g) h1) := by
  intro h0 hwd
  refine CT.of hl (by decide +kernel) rfl (Nat.le_of_ble_eq_true rfl) (fun K sz hKl C => ?_)
  have C : CX K G (AH h0 sz) RX1 cX1_told 2 (some .int) (rmD 4 1 6) [] := C
  subst hKl
  refine WR.imp (P' := Wd G (adr, (n, P, F), Sm, mu, g)) (fun h e => e ▸ hwd) ?_
  show WR K G _ _ _ [some (.ref (adr 0)), some (.int x)] 0 0 0 []
  refine R_aload_n (pc := 0) C dX1_told_0 rfl ?_
  refine R_iload_n (pc := 1) C dX1_told_1 rfl ?_
  refine R_callVT (pc := 2) C dX1_told_2 (vs := [_]) (fun h hh => mX1_wellAt hl hn h hh) (isOb_of (wc0) rfl) ⟨k_16_21, k_16_22, k_16_23, k_1_2, k_17_0⟩ (sgn (nv := 1) rfl ⟨by decide +kernel, by decide +kernel, by decide +kernel⟩) ⟨⟨Nat.le_of_ble_eq_true rfl, Nat.le_of_ble_eq_true rfl⟩, ⟨Nat.le_of_ble_eq_true rfl, Nat.le_of_ble_eq_true rfl⟩, Nat.le_of_ble_eq_true rfl⟩ rfl rfl (fun h9 hh9 E9 => ?_) (fun h9 hh9 v9 => ?_)
  · exact X_out C (Nat.le_of_ble_eq_true rfl) (Nat.le_of_ble_eq_true rfl) (fun h1 hh1 => ⟨Or.inl ⟨by simp [kAsk, qW_f hn hh1.1.2], hh1.1.1⟩, hh1.2⟩)
  refine WR.imp (P' := fun h1 => ∃ i, (i < n ∧ _ = nI i ∧ v9 = some (.ref (adr (30 + i)))) ∧ Wd G (adr, (n, P, F), Sm, mu, g) h1) (fun h1 q1 => by obtain ⟨⟨z, z1, z2, z3⟩, z4⟩ := q1; exact ⟨z, ⟨z1, z2, z3⟩, z4⟩) ?_
  refine WR.ex (fun i => WR.pr (fun e9 => ?_))
  obtain ⟨hi, ei, e9⟩ := e9
  subst e9
  show WR K G _ _ _ _ _ _ _ (.ref _ :: _)
  subst ei
  refine R_getf (pc := 5) C dX1_told_5 (i := 11) (wcw hi hn) rfl inlX0 (by decide) k_21_16 rfl ?_
  refine R_ok ?_
  exact R_iret (pc := 8) C dX1_told_8 rfl (Nat.le_of_ble_eq_true rfl) (Nat.le_of_ble_eq_true rfl) (fun h hh => ⟨⟨by simp [kAsk, qW_t hn hi], by rw [ix_nI (by omega)]⟩, hh⟩)
set_option maxHeartbeats 4000000 in
set_option maxRecDepth 100000 in
theorem mX1_bank (hl : l.stackTraces = false) {x : Int32} (hn : n ≤ 8) : ∀ h, Wd G (adr, (n, P, F), Sm, mu, g) h → CT l yX1_bank cX1_bank 2 (some .int) 4 1 6 [.ref (adr 0), .int x] G h (fun v h1 => (kAsk n x = 0 ∧ v = some (.int (F 9 (ix x)))) ∧ Wd G (adr, (n, P, F), Sm, mu, g) h1) (fun E h1 => exA E (kAsk n x) ∧ Wd G (adr, (n, P, F), Sm, mu, g) h1) := by
  intro h0 hwd
  refine CT.of hl (by decide +kernel) rfl (Nat.le_of_ble_eq_true rfl) (fun K sz hKl C => ?_)
  have C : CX K G (AH h0 sz) RX1 cX1_bank 2 (some .int) (rmD 4 1 6) [] := C
  subst hKl
  refine WR.imp (P' := Wd G (adr, (n, P, F), Sm, mu, g)) (fun h e => e ▸ hwd) ?_
  show WR K G _ _ _ [some (.ref (adr 0)), some (.int x)] 0 0 0 []
  refine R_aload_n (pc := 0) C dX1_bank_0 rfl ?_
  refine R_iload_n (pc := 1) C dX1_bank_1 rfl ?_
  refine R_callVT (pc := 2) C dX1_bank_2 (vs := [_]) (fun h hh => mX1_wellAt hl hn h hh) (isOb_of (wc0) rfl) ⟨k_16_21, k_16_22, k_16_23, k_1_2, k_17_0⟩ (sgn (nv := 1) rfl ⟨by decide +kernel, by decide +kernel, by decide +kernel⟩) ⟨⟨Nat.le_of_ble_eq_true rfl, Nat.le_of_ble_eq_true rfl⟩, ⟨Nat.le_of_ble_eq_true rfl, Nat.le_of_ble_eq_true rfl⟩, Nat.le_of_ble_eq_true rfl⟩ rfl rfl (fun h9 hh9 E9 => ?_) (fun h9 hh9 v9 => ?_)
  · exact X_out C (Nat.le_of_ble_eq_true rfl) (Nat.le_of_ble_eq_true rfl) (fun h1 hh1 => ⟨Or.inl ⟨by simp [kAsk, qW_f hn hh1.1.2], hh1.1.1⟩, hh1.2⟩)
  refine WR.imp (P' := fun h1 => ∃ i, (i < n ∧ _ = nI i ∧ v9 = some (.ref (adr (30 + i)))) ∧ Wd G (adr, (n, P, F), Sm, mu, g) h1) (fun h1 q1 => by obtain ⟨⟨z, z1, z2, z3⟩, z4⟩ := q1; exact ⟨z, ⟨z1, z2, z3⟩, z4⟩) ?_
  refine WR.ex (fun i => WR.pr (fun e9 => ?_))
  obtain ⟨hi, ei, e9⟩ := e9
  subst e9
  show WR K G _ _ _ _ _ _ _ (.ref _ :: _)
  subst ei
  refine R_getf (pc := 5) C dX1_bank_5 (i := 14) (wcw hi hn) rfl inlX0 (by decide) k_18_13 rfl ?_
  refine R_ok ?_
  exact R_iret (pc := 8) C dX1_bank_8 rfl (Nat.le_of_ble_eq_true rfl) (Nat.le_of_ble_eq_true rfl) (fun h hh => ⟨⟨by simp [kAsk, qW_t hn hi], by rw [ix_nI (by omega)]⟩, hh⟩)
set_option maxHeartbeats 4000000 in
set_option maxRecDepth 100000 in
theorem mX1_fines (hl : l.stackTraces = false) {x : Int32} (hn : n ≤ 8) : ∀ h, Wd G (adr, (n, P, F), Sm, mu, g) h → CT l yX1_fines cX1_fines 2 (some .int) 4 1 6 [.ref (adr 0), .int x] G h (fun v h1 => (kAsk n x = 0 ∧ v = some (.int (F 10 (ix x)))) ∧ Wd G (adr, (n, P, F), Sm, mu, g) h1) (fun E h1 => exA E (kAsk n x) ∧ Wd G (adr, (n, P, F), Sm, mu, g) h1) := by
  intro h0 hwd
  refine CT.of hl (by decide +kernel) rfl (Nat.le_of_ble_eq_true rfl) (fun K sz hKl C => ?_)
  have C : CX K G (AH h0 sz) RX1 cX1_fines 2 (some .int) (rmD 4 1 6) [] := C
  subst hKl
  refine WR.imp (P' := Wd G (adr, (n, P, F), Sm, mu, g)) (fun h e => e ▸ hwd) ?_
  show WR K G _ _ _ [some (.ref (adr 0)), some (.int x)] 0 0 0 []
  refine R_aload_n (pc := 0) C dX1_fines_0 rfl ?_
  refine R_iload_n (pc := 1) C dX1_fines_1 rfl ?_
  refine R_callVT (pc := 2) C dX1_fines_2 (vs := [_]) (fun h hh => mX1_wellAt hl hn h hh) (isOb_of (wc0) rfl) ⟨k_16_21, k_16_22, k_16_23, k_1_2, k_17_0⟩ (sgn (nv := 1) rfl ⟨by decide +kernel, by decide +kernel, by decide +kernel⟩) ⟨⟨Nat.le_of_ble_eq_true rfl, Nat.le_of_ble_eq_true rfl⟩, ⟨Nat.le_of_ble_eq_true rfl, Nat.le_of_ble_eq_true rfl⟩, Nat.le_of_ble_eq_true rfl⟩ rfl rfl (fun h9 hh9 E9 => ?_) (fun h9 hh9 v9 => ?_)
  · exact X_out C (Nat.le_of_ble_eq_true rfl) (Nat.le_of_ble_eq_true rfl) (fun h1 hh1 => ⟨Or.inl ⟨by simp [kAsk, qW_f hn hh1.1.2], hh1.1.1⟩, hh1.2⟩)
  refine WR.imp (P' := fun h1 => ∃ i, (i < n ∧ _ = nI i ∧ v9 = some (.ref (adr (30 + i)))) ∧ Wd G (adr, (n, P, F), Sm, mu, g) h1) (fun h1 q1 => by obtain ⟨⟨z, z1, z2, z3⟩, z4⟩ := q1; exact ⟨z, ⟨z1, z2, z3⟩, z4⟩) ?_
  refine WR.ex (fun i => WR.pr (fun e9 => ?_))
  obtain ⟨hi, ei, e9⟩ := e9
  subst e9
  show WR K G _ _ _ _ _ _ _ (.ref _ :: _)
  subst ei
  refine R_getf (pc := 5) C dX1_fines_5 (i := 15) (wcw hi hn) rfl inlX0 (by decide) k_22_6 rfl ?_
  refine R_ok ?_
  exact R_iret (pc := 8) C dX1_fines_8 rfl (Nat.le_of_ble_eq_true rfl) (Nat.le_of_ble_eq_true rfl) (fun h hh => ⟨⟨by simp [kAsk, qW_t hn hi], by rw [ix_nI (by omega)]⟩, hh⟩)
set_option maxHeartbeats 4000000 in
set_option maxRecDepth 100000 in
theorem mX1_plan (hl : l.stackTraces = false) {x a : Int32} (hn : n ≤ 8) : ∀ h, Wd G (adr, (n, P, F), Sm, mu, g) h → CT l yX1_plan cX1_plan 5 (some .int) 4 2 12 [.ref (adr 0), .int x, .int a] G h (fun v h1 => (kPlan n x a 2000 = 0 ∧ v = some (.int (F 6 (ix x)))) ∧ Wd G (adr, (n, P, su F 6 (ix x) a), Sm, mu, g) h1) (fun E h1 => exA E (kPlan n x a 2000) ∧ Wd G (adr, (n, P, F), Sm, mu, g) h1) := by
  intro h0 hwd
  refine CT.of hl (by decide +kernel) rfl (Nat.le_of_ble_eq_true rfl) (fun K sz hKl C => ?_)
  have C : CX K G (AH h0 sz) RX1 cX1_plan 5 (some .int) (rmD 4 2 12) [] := C
  subst hKl
  refine WR.imp (P' := Wd G (adr, (n, P, F), Sm, mu, g)) (fun h e => e ▸ hwd) ?_
  show WR K G _ _ _ [some (.ref (adr 0)), some (.int x), some (.int a), none, none] 0 0 0 []
  refine R_aload_n (pc := 0) C dX1_plan_0 rfl ?_
  refine R_iload_n (pc := 1) C dX1_plan_1 rfl ?_
  refine R_callVT (pc := 2) C dX1_plan_2 (vs := [_]) (fun h hh => mX1_wellAt hl hn h hh) (isOb_of (wc0) rfl) ⟨k_16_21, k_16_22, k_16_23, k_1_2, k_17_0⟩ (sgn (nv := 1) rfl ⟨by decide +kernel, by decide +kernel, by decide +kernel⟩) ⟨⟨Nat.le_of_ble_eq_true rfl, Nat.le_of_ble_eq_true rfl⟩, ⟨Nat.le_of_ble_eq_true rfl, Nat.le_of_ble_eq_true rfl⟩, Nat.le_of_ble_eq_true rfl⟩ rfl rfl (fun h9 hh9 E9 => ?_) (fun h9 hh9 v9 => ?_)
  · exact X_out C (Nat.le_of_ble_eq_true rfl) (Nat.le_of_ble_eq_true rfl) (fun h1 hh1 => ⟨Or.inl ⟨by simp [kPlan, qW_f hn hh1.1.2], hh1.1.1⟩, hh1.2⟩)
  refine WR.imp (P' := fun h1 => ∃ i, (i < n ∧ _ = nI i ∧ v9 = some (.ref (adr (30 + i)))) ∧ Wd G (adr, (n, P, F), Sm, mu, g) h1) (fun h1 q1 => by obtain ⟨⟨z, z1, z2, z3⟩, z4⟩ := q1; exact ⟨z, ⟨z1, z2, z3⟩, z4⟩) ?_
  refine WR.ex (fun i => WR.pr (fun e9 => ?_))
  obtain ⟨hi, ei, e9⟩ := e9
  subst e9
  show WR K G _ _ _ _ _ _ _ (.ref _ :: _)
  subst ei
  refine R_astore_n (pc := 5) C dX1_plan_5 (Nat.le_of_ble_eq_true rfl) (lv' := [some (.ref _), some (.int _), some (.int _), some (.ref _), none]) rfl ?_
  refine R_iload_n (pc := 6) C dX1_plan_6 rfl ?_
  refine R_iconst (pc := 7) C dX1_plan_7 (v := 0) (by decide) ?_
  refine R_sipush (pc := 8) C dX1_plan_8 (v := 2000) (by decide) ?_
  refine R_callST (pc := 11) C dX1_plan_11 (vs := [_, _, _]) (fun h hh => mX1_requireWithin hl h) ⟨k_3_13, k_3_14, k_1_2, k_3_15⟩ (sgn (nv := 3) rfl ⟨by decide +kernel, by decide +kernel, by decide +kernel⟩) ⟨⟨Nat.le_of_ble_eq_true rfl, Nat.le_of_ble_eq_true rfl⟩, ⟨Nat.le_of_ble_eq_true rfl, Nat.le_of_ble_eq_true rfl⟩, Nat.le_of_ble_eq_true rfl⟩ rfl rfl (fun h9 hh9 E9 => ?_) (fun h9 hh9 v9 => ?_)
  · exact X_out C (Nat.le_of_ble_eq_true rfl) (Nat.le_of_ble_eq_true rfl) (fun h1 hh1 => ⟨Or.inr (Or.inl ⟨by simp [kPlan, qW_t hn hi, qR_f hh1.2.1], hh1.1⟩), hh1.2.2 ▸ hh9⟩)
  refine WR.pr (fun e9 => ?_)
  subst e9
  refine WR.pr (fun hr => ?_)
  refine WR.imp (P' := Wd G (adr, (n, P, F), Sm, mu, g)) (fun h1 e1 => e1 ▸ hh9) ?_
  show WR K G _ _ _ _ _ _ _ _
  refine R_aload_n (pc := 14) C dX1_plan_14 rfl ?_
  refine R_getf (pc := 15) C dX1_plan_15 (i := 9) (wcw hi hn) rfl inlX0 (by decide) k_16_20 rfl ?_
  refine R_istore (pc := 18) C dX1_plan_18 (Nat.le_of_ble_eq_true rfl) (lv' := [some (.ref _), some (.int _), some (.int _), some (.ref _), some (.int _)]) rfl ?_
  refine R_aload_n (pc := 20) C dX1_plan_20 rfl ?_
  refine R_iload_n (pc := 21) C dX1_plan_21 rfl ?_
  refine R_putf (pc := 22) C dX1_plan_22 (i := 9) (wcw hi hn) rfl inlX0 tyX0_ok nmX0 (by decide) k_16_20 rfl rfl rfl (Nat.le_of_ble_eq_true rfl) (pw_6 hi hn) ?_
  refine R_iload (pc := 25) C dX1_plan_25 rfl ?_
  refine R_ok ?_
  exact R_iret (pc := 27) C dX1_plan_27 rfl (Nat.le_of_ble_eq_true rfl) (Nat.le_of_ble_eq_true rfl) (fun h hh => ⟨⟨by simp [kPlan, qW_t hn hi, qR_t hr], by rw [ix_nI (by omega)]⟩, by rw [ix_nI (by omega)]; exact hh⟩)
set_option maxHeartbeats 4000000 in
set_option maxRecDepth 100000 in
theorem mX1_power (hl : l.stackTraces = false) {x a : Int32} (hn : n ≤ 8) : ∀ h, Wd G (adr, (n, P, F), Sm, mu, g) h → CT l yX1_power cX1_power 5 (some .int) 4 2 12 [.ref (adr 0), .int x, .int a] G h (fun v h1 => (kPlan n x a 1000 = 0 ∧ v = some (.int (F 8 (ix x)))) ∧ Wd G (adr, (n, P, su F 8 (ix x) a), Sm, mu, g) h1) (fun E h1 => exA E (kPlan n x a 1000) ∧ Wd G (adr, (n, P, F), Sm, mu, g) h1) := by
  intro h0 hwd
  refine CT.of hl (by decide +kernel) rfl (Nat.le_of_ble_eq_true rfl) (fun K sz hKl C => ?_)
  have C : CX K G (AH h0 sz) RX1 cX1_power 5 (some .int) (rmD 4 2 12) [] := C
  subst hKl
  refine WR.imp (P' := Wd G (adr, (n, P, F), Sm, mu, g)) (fun h e => e ▸ hwd) ?_
  show WR K G _ _ _ [some (.ref (adr 0)), some (.int x), some (.int a), none, none] 0 0 0 []
  refine R_aload_n (pc := 0) C dX1_power_0 rfl ?_
  refine R_iload_n (pc := 1) C dX1_power_1 rfl ?_
  refine R_callVT (pc := 2) C dX1_power_2 (vs := [_]) (fun h hh => mX1_wellAt hl hn h hh) (isOb_of (wc0) rfl) ⟨k_16_21, k_16_22, k_16_23, k_1_2, k_17_0⟩ (sgn (nv := 1) rfl ⟨by decide +kernel, by decide +kernel, by decide +kernel⟩) ⟨⟨Nat.le_of_ble_eq_true rfl, Nat.le_of_ble_eq_true rfl⟩, ⟨Nat.le_of_ble_eq_true rfl, Nat.le_of_ble_eq_true rfl⟩, Nat.le_of_ble_eq_true rfl⟩ rfl rfl (fun h9 hh9 E9 => ?_) (fun h9 hh9 v9 => ?_)
  · exact X_out C (Nat.le_of_ble_eq_true rfl) (Nat.le_of_ble_eq_true rfl) (fun h1 hh1 => ⟨Or.inl ⟨by simp [kPlan, qW_f hn hh1.1.2], hh1.1.1⟩, hh1.2⟩)
  refine WR.imp (P' := fun h1 => ∃ i, (i < n ∧ _ = nI i ∧ v9 = some (.ref (adr (30 + i)))) ∧ Wd G (adr, (n, P, F), Sm, mu, g) h1) (fun h1 q1 => by obtain ⟨⟨z, z1, z2, z3⟩, z4⟩ := q1; exact ⟨z, ⟨z1, z2, z3⟩, z4⟩) ?_
  refine WR.ex (fun i => WR.pr (fun e9 => ?_))
  obtain ⟨hi, ei, e9⟩ := e9
  subst e9
  show WR K G _ _ _ _ _ _ _ (.ref _ :: _)
  subst ei
  refine R_astore_n (pc := 5) C dX1_power_5 (Nat.le_of_ble_eq_true rfl) (lv' := [some (.ref _), some (.int _), some (.int _), some (.ref _), none]) rfl ?_
  refine R_iload_n (pc := 6) C dX1_power_6 rfl ?_
  refine R_iconst (pc := 7) C dX1_power_7 (v := 0) (by decide) ?_
  refine R_sipush (pc := 8) C dX1_power_8 (v := 1000) (by decide) ?_
  refine R_callST (pc := 11) C dX1_power_11 (vs := [_, _, _]) (fun h hh => mX1_requireWithin hl h) ⟨k_3_13, k_3_14, k_1_2, k_3_15⟩ (sgn (nv := 3) rfl ⟨by decide +kernel, by decide +kernel, by decide +kernel⟩) ⟨⟨Nat.le_of_ble_eq_true rfl, Nat.le_of_ble_eq_true rfl⟩, ⟨Nat.le_of_ble_eq_true rfl, Nat.le_of_ble_eq_true rfl⟩, Nat.le_of_ble_eq_true rfl⟩ rfl rfl (fun h9 hh9 E9 => ?_) (fun h9 hh9 v9 => ?_)
  · exact X_out C (Nat.le_of_ble_eq_true rfl) (Nat.le_of_ble_eq_true rfl) (fun h1 hh1 => ⟨Or.inr (Or.inl ⟨by simp [kPlan, qW_t hn hi, qR_f hh1.2.1], hh1.1⟩), hh1.2.2 ▸ hh9⟩)
  refine WR.pr (fun e9 => ?_)
  subst e9
  refine WR.pr (fun hr => ?_)
  refine WR.imp (P' := Wd G (adr, (n, P, F), Sm, mu, g)) (fun h1 e1 => e1 ▸ hh9) ?_
  show WR K G _ _ _ _ _ _ _ _
  refine R_aload_n (pc := 14) C dX1_power_14 rfl ?_
  refine R_getf (pc := 15) C dX1_power_15 (i := 13) (wcw hi hn) rfl inlX0 (by decide) k_18_4 rfl ?_
  refine R_istore (pc := 18) C dX1_power_18 (Nat.le_of_ble_eq_true rfl) (lv' := [some (.ref _), some (.int _), some (.int _), some (.ref _), some (.int _)]) rfl ?_
  refine R_aload_n (pc := 20) C dX1_power_20 rfl ?_
  refine R_iload_n (pc := 21) C dX1_power_21 rfl ?_
  refine R_putf (pc := 22) C dX1_power_22 (i := 13) (wcw hi hn) rfl inlX0 tyX0_ok nmX0 (by decide) k_18_4 rfl rfl rfl (Nat.le_of_ble_eq_true rfl) (pw_8 hi hn) ?_
  refine R_iload (pc := 25) C dX1_power_25 rfl ?_
  refine R_ok ?_
  exact R_iret (pc := 27) C dX1_power_27 rfl (Nat.le_of_ble_eq_true rfl) (Nat.le_of_ble_eq_true rfl) (fun h hh => ⟨⟨by simp [kPlan, qW_t hn hi, qR_t hr], by rw [ix_nI (by omega)]⟩, by rw [ix_nI (by omega)]; exact hh⟩)
set_option maxHeartbeats 4000000 in
set_option maxRecDepth 100000 in
theorem mX1_setRecharge (hl : l.stackTraces = false) {x a : Int32}  : ∀ h, Wd G (adr, (n, P, F), Sm, mu, g) h → CT l yX1_setRecharge cX1_setRecharge 4 (some .int) 4 2 12 [.ref (adr 0), .int x, .int a] G h (fun v h1 => (kRech x a = 0 ∧ v = some (.int (F 14 (ix x)))) ∧ Wd G (adr, (n, P, su F 14 (ix x) a), Sm, mu, g) h1) (fun E h1 => exA E (kRech x a) ∧ Wd G (adr, (n, P, F), Sm, mu, g) h1) := by
  intro h0 hwd
  refine CT.of hl (by decide +kernel) rfl (Nat.le_of_ble_eq_true rfl) (fun K sz hKl C => ?_)
  have C : CX K G (AH h0 sz) RX1 cX1_setRecharge 4 (some .int) (rmD 4 2 12) [] := C
  subst hKl
  refine WR.imp (P' := Wd G (adr, (n, P, F), Sm, mu, g)) (fun h e => e ▸ hwd) ?_
  show WR K G _ _ _ [some (.ref (adr 0)), some (.int x), some (.int a), none] 0 0 0 []
  refine R_iload_n (pc := 0) C dX1_setRecharge_0 rfl ?_
  refine R_callST (pc := 1) C dX1_setRecharge_1 (vs := [_]) (fun h hh => mX1_requireLayer hl h) ⟨k_3_8, k_3_9, k_1_2, k_3_10⟩ (sgn (nv := 1) rfl ⟨by decide +kernel, by decide +kernel, by decide +kernel⟩) ⟨⟨Nat.le_of_ble_eq_true rfl, Nat.le_of_ble_eq_true rfl⟩, ⟨Nat.le_of_ble_eq_true rfl, Nat.le_of_ble_eq_true rfl⟩, Nat.le_of_ble_eq_true rfl⟩ rfl rfl (fun h9 hh9 E9 => ?_) (fun h9 hh9 v9 => ?_)
  · exact X_out C (Nat.le_of_ble_eq_true rfl) (Nat.le_of_ble_eq_true rfl) (fun h1 hh1 => ⟨Or.inl ⟨by simp [kRech, qR_f (fun q => (lay_f hh1.2.1) q)], hh1.1⟩, hh1.2.2 ▸ hh9⟩)
  refine WR.pr (fun e9 => ?_)
  subst e9
  refine WR.pr (fun hl3 => ?_)
  refine WR.imp (P' := Wd G (adr, (n, P, F), Sm, mu, g)) (fun h1 e1 => e1 ▸ hh9) ?_
  show WR K G _ _ _ _ _ _ _ _
  obtain ⟨i, hi, rfl⟩ := hl3
  refine R_iload_n (pc := 4) C dX1_setRecharge_4 rfl ?_
  refine R_iconst (pc := 5) C dX1_setRecharge_5 (v := 0) (by decide) ?_
  refine R_sipush (pc := 6) C dX1_setRecharge_6 (v := 1000) (by decide) ?_
  refine R_callST (pc := 9) C dX1_setRecharge_9 (vs := [_, _, _]) (fun h hh => mX1_requireWithin hl h) ⟨k_3_13, k_3_14, k_1_2, k_3_15⟩ (sgn (nv := 3) rfl ⟨by decide +kernel, by decide +kernel, by decide +kernel⟩) ⟨⟨Nat.le_of_ble_eq_true rfl, Nat.le_of_ble_eq_true rfl⟩, ⟨Nat.le_of_ble_eq_true rfl, Nat.le_of_ble_eq_true rfl⟩, Nat.le_of_ble_eq_true rfl⟩ rfl rfl (fun h9 hh9 E9 => ?_) (fun h9 hh9 v9 => ?_)
  · exact X_out C (Nat.le_of_ble_eq_true rfl) (Nat.le_of_ble_eq_true rfl) (fun h1 hh1 => ⟨Or.inr (Or.inl ⟨by simp [kRech, lay_t hi, qR_f hh1.2.1], hh1.1⟩), hh1.2.2 ▸ hh9⟩)
  refine WR.pr (fun e9 => ?_)
  subst e9
  refine WR.pr (fun hr => ?_)
  refine WR.imp (P' := Wd G (adr, (n, P, F), Sm, mu, g)) (fun h1 e1 => e1 ▸ hh9) ?_
  show WR K G _ _ _ _ _ _ _ _
  refine R_aload_n (pc := 12) C dX1_setRecharge_12 rfl ?_
  refine R_getf (pc := 13) C dX1_setRecharge_13 (i := 1) (wc0) rfl inlX1 (by decide) k_1_14 rfl ?_
  refine R_iload_n (pc := 16) C dX1_setRecharge_16 rfl ?_
  refine R_iald (pc := 17) C dX1_setRecharge_17 (wc3) (rfl) (by omega) (by decide) rfl ?_
  refine R_istore_n (pc := 18) C dX1_setRecharge_18 (Nat.le_of_ble_eq_true rfl) (lv' := [some (.ref _), some (.int _), some (.int _), some (.int _)]) rfl ?_
  refine R_aload_n (pc := 19) C dX1_setRecharge_19 rfl ?_
  refine R_getf (pc := 20) C dX1_setRecharge_20 (i := 1) (wc0) rfl inlX1 (by decide) k_1_14 rfl ?_
  refine R_iload_n (pc := 23) C dX1_setRecharge_23 rfl ?_
  refine R_iload_n (pc := 24) C dX1_setRecharge_24 rfl ?_
  refine R_iast (pc := 25) C dX1_setRecharge_25 (wc3) (rfl) (by omega) (by decide) (pc_rech) ?_
  refine R_iload_n (pc := 26) C dX1_setRecharge_26 rfl ?_
  refine R_ok ?_
  exact R_iret (pc := 27) C dX1_setRecharge_27 rfl (Nat.le_of_ble_eq_true rfl) (Nat.le_of_ble_eq_true rfl) (fun h hh => ⟨⟨by simp [kRech, lay_t hi, qR_t hr], by rw [ix_nI (by omega)]⟩, by rw [ix_nI (by omega)]; exact hh⟩)
set_option maxHeartbeats 4000000 in
set_option maxRecDepth 100000 in
theorem mX1_reach (hl : l.stackTraces = false) {x y : Int32} (hn : n ≤ 8) : ∀ h, Wd G (adr, (n, P, F), Sm, mu, g) h → CT l yX1_reach cX1_reach 5 (some .int) 4 2 12 [.ref (adr 0), .int x, .int y] G h (fun v h1 => (kReach n x y = 0 ∧ v = some (.int (spR F (ix x) (ix y)))) ∧ Wd G (adr, (n, P, F), Sm, mu, g) h1) (fun E h1 => exA E (kReach n x y) ∧ Wd G (adr, (n, P, F), Sm, mu, g) h1) := by
  intro h0 hwd
  refine CT.of hl (by decide +kernel) rfl (Nat.le_of_ble_eq_true rfl) (fun K sz hKl C => ?_)
  have C : CX K G (AH h0 sz) RX1 cX1_reach 5 (some .int) (rmD 4 2 12) [] := C
  subst hKl
  refine WR.imp (P' := Wd G (adr, (n, P, F), Sm, mu, g)) (fun h e => e ▸ hwd) ?_
  show WR K G _ _ _ [some (.ref (adr 0)), some (.int x), some (.int y), none, none] 0 0 0 []
  refine R_aload_n (pc := 0) C dX1_reach_0 rfl ?_
  refine R_iload_n (pc := 1) C dX1_reach_1 rfl ?_
  refine R_callVT (pc := 2) C dX1_reach_2 (vs := [_]) (fun h hh => mX1_wellAt hl hn h hh) (isOb_of (wc0) rfl) ⟨k_16_21, k_16_22, k_16_23, k_1_2, k_17_0⟩ (sgn (nv := 1) rfl ⟨by decide +kernel, by decide +kernel, by decide +kernel⟩) ⟨⟨Nat.le_of_ble_eq_true rfl, Nat.le_of_ble_eq_true rfl⟩, ⟨Nat.le_of_ble_eq_true rfl, Nat.le_of_ble_eq_true rfl⟩, Nat.le_of_ble_eq_true rfl⟩ rfl rfl (fun h9 hh9 E9 => ?_) (fun h9 hh9 v9 => ?_)
  · exact X_out C (Nat.le_of_ble_eq_true rfl) (Nat.le_of_ble_eq_true rfl) (fun h1 hh1 => ⟨Or.inl ⟨by simp [kReach, qW_f hn hh1.1.2], hh1.1.1⟩, hh1.2⟩)
  refine WR.imp (P' := fun h1 => ∃ i, (i < n ∧ _ = nI i ∧ v9 = some (.ref (adr (30 + i)))) ∧ Wd G (adr, (n, P, F), Sm, mu, g) h1) (fun h1 q1 => by obtain ⟨⟨z, z1, z2, z3⟩, z4⟩ := q1; exact ⟨z, ⟨z1, z2, z3⟩, z4⟩) ?_
  refine WR.ex (fun i => WR.pr (fun e9 => ?_))
  obtain ⟨hi, ei, e9⟩ := e9
  subst e9
  show WR K G _ _ _ _ _ _ _ (.ref _ :: _)
  subst ei
  refine R_astore_n (pc := 5) C dX1_reach_5 (Nat.le_of_ble_eq_true rfl) (lv' := [some (.ref _), some (.int _), some (.int _), some (.ref _), none]) rfl ?_
  refine R_aload_n (pc := 6) C dX1_reach_6 rfl ?_
  refine R_iload_n (pc := 7) C dX1_reach_7 rfl ?_
  refine R_callVT (pc := 8) C dX1_reach_8 (vs := [_]) (fun h hh => mX1_wellAt hl hn h hh) (isOb_of (wc0) rfl) ⟨k_16_21, k_16_22, k_16_23, k_1_2, k_17_0⟩ (sgn (nv := 1) rfl ⟨by decide +kernel, by decide +kernel, by decide +kernel⟩) ⟨⟨Nat.le_of_ble_eq_true rfl, Nat.le_of_ble_eq_true rfl⟩, ⟨Nat.le_of_ble_eq_true rfl, Nat.le_of_ble_eq_true rfl⟩, Nat.le_of_ble_eq_true rfl⟩ rfl rfl (fun h9 hh9 E9 => ?_) (fun h9 hh9 v9 => ?_)
  · exact X_out C (Nat.le_of_ble_eq_true rfl) (Nat.le_of_ble_eq_true rfl) (fun h1 hh1 => ⟨Or.inl ⟨by simp [kReach, qW_f hn hh1.1.2], hh1.1.1⟩, hh1.2⟩)
  refine WR.imp (P' := fun h1 => ∃ j, (j < n ∧ _ = nI j ∧ v9 = some (.ref (adr (30 + j)))) ∧ Wd G (adr, (n, P, F), Sm, mu, g) h1) (fun h1 q1 => by obtain ⟨⟨z, z1, z2, z3⟩, z4⟩ := q1; exact ⟨z, ⟨z1, z2, z3⟩, z4⟩) ?_
  refine WR.ex (fun j => WR.pr (fun e9 => ?_))
  obtain ⟨hj, ej, e9⟩ := e9
  subst e9
  show WR K G _ _ _ _ _ _ _ (.ref _ :: _)
  subst ej
  refine R_astore (pc := 11) C dX1_reach_11 (Nat.le_of_ble_eq_true rfl) (lv' := [some (.ref _), some (.int _), some (.int _), some (.ref _), some (.ref _)]) rfl ?_
  refine R_aload (pc := 13) C dX1_reach_13 rfl ?_
  refine R_aload_n (pc := 15) C dX1_reach_15 rfl ?_
  refine R_getf (pc := 16) C dX1_reach_16 (i := 1) (wcw hi hn) rfl inlX0 (by decide) k_19_20 rfl ?_
  refine R_aload_n (pc := 19) C dX1_reach_19 rfl ?_
  refine R_getf (pc := 20) C dX1_reach_20 (i := 2) (wcw hi hn) rfl inlX0 (by decide) k_19_21 rfl ?_
  refine R_callVN (pc := 23) C dX1_reach_23 (vs := [_, _]) (fun h hh => mX0_reachedFrom hl hj hn h hh) (isOb_of (wcw hj hn) rfl) ⟨k_19_22, k_19_23, k_20_0, k_3_7, k_20_1⟩ (sgn (nv := 2) rfl ⟨by decide +kernel, by decide +kernel, by decide +kernel⟩) ⟨⟨Nat.le_of_ble_eq_true rfl, Nat.le_of_ble_eq_true rfl⟩, ⟨Nat.le_of_ble_eq_true rfl, Nat.le_of_ble_eq_true rfl⟩, Nat.le_of_ble_eq_true rfl⟩ rfl rfl (fun h9 hh9 v9 => ?_)
  refine WR.pr (fun e9 => ?_)
  subst e9
  show WR K G _ _ _ _ _ _ _ (.int _ :: _)
  refine R_ok ?_
  exact R_iret (pc := 26) C dX1_reach_26 rfl (Nat.le_of_ble_eq_true rfl) (Nat.le_of_ble_eq_true rfl) (fun h hh => ⟨⟨by simp [kReach, qW_t hn hi, qW_t hn hj], by rw [ix_nI (by omega), ix_nI (by omega)]⟩, hh⟩)
set_option maxHeartbeats 4000000 in
set_option maxRecDepth 100000 in
theorem mX1_years (hl : l.stackTraces = false)   : ∀ h, Wd G (adr, (n, P, F), Sm, mu, g) h → CN l yX1_years cX1_years 1 (some .int) 0 0 0 [.ref (adr 0)] G h (fun v h1 => v = some (.int (F 16 1)) ∧ Wd G (adr, (n, P, F), Sm, mu, g) h1) := by
  intro h0 hwd
  refine CN.of hl (by decide +kernel) rfl (Nat.le_of_ble_eq_true rfl) (fun K sz hKl hin C => ?_)
  have C : CX K G (AH h0 sz) RX1 cX1_years 1 (some .int) (rmD 0 0 0) [] := C
  subst hKl
  refine WR.imp (P' := Wd G (adr, (n, P, F), Sm, mu, g)) (fun h e => e ▸ hwd) ?_
  show WR K G _ _ _ [some (.ref (adr 0))] 0 0 0 []
  refine R_aload_n (pc := 0) C dX1_years_0 rfl ?_
  refine R_getf (pc := 1) C dX1_years_1 (i := 5) (wc0) rfl inlX1 (by decide) k_1_18 rfl ?_
  exact R_iret (pc := 4) C dX1_years_4 rfl (Nat.le_of_ble_eq_true rfl) (Nat.le_of_ble_eq_true rfl) (fun h hh => ⟨rfl, hh⟩)
set_option maxHeartbeats 4000000 in
set_option maxRecDepth 100000 in
theorem mX1_fund (hl : l.stackTraces = false)   : ∀ h, Wd G (adr, (n, P, F), Sm, mu, g) h → CN l yX1_fund cX1_fund 1 (some .int) 0 0 0 [.ref (adr 0)] G h (fun v h1 => v = some (.int (F 16 0)) ∧ Wd G (adr, (n, P, F), Sm, mu, g) h1) := by
  intro h0 hwd
  refine CN.of hl (by decide +kernel) rfl (Nat.le_of_ble_eq_true rfl) (fun K sz hKl hin C => ?_)
  have C : CX K G (AH h0 sz) RX1 cX1_fund 1 (some .int) (rmD 0 0 0) [] := C
  subst hKl
  refine WR.imp (P' := Wd G (adr, (n, P, F), Sm, mu, g)) (fun h e => e ▸ hwd) ?_
  show WR K G _ _ _ [some (.ref (adr 0))] 0 0 0 []
  refine R_aload_n (pc := 0) C dX1_fund_0 rfl ?_
  refine R_getf (pc := 1) C dX1_fund_1 (i := 4) (wc0) rfl inlX1 (by decide) k_1_17 rfl ?_
  exact R_iret (pc := 4) C dX1_fund_4 rfl (Nat.le_of_ble_eq_true rfl) (Nat.le_of_ble_eq_true rfl) (fun h hh => ⟨rfl, hh⟩)
set_option maxHeartbeats 4000000 in
set_option maxRecDepth 100000 in
theorem mX1_toggleMeter (hl : l.stackTraces = false) {x : Int32} (hn : n ≤ 8) (hf7 : ∀ i, i < n → F 7 i = 0 ∨ F 7 i = 1) : ∀ h, Wd G (adr, (n, P, F), Sm, mu, g) h → CT l yX1_toggleMeter cX1_toggleMeter 3 (some .boolean) 4 1 6 [.ref (adr 0), .int x] G h (fun v h1 => (kAsk n x = 0 ∧ v = some (.int (F 7 (ix x)))) ∧ Wd G (adr, (n, P, su F 7 (ix x) (1 - F 7 (ix x))), Sm, mu, g) h1) (fun E h1 => exA E (kAsk n x) ∧ Wd G (adr, (n, P, F), Sm, mu, g) h1) := by
  intro h0 hwd
  refine CT.of hl (by decide +kernel) rfl (Nat.le_of_ble_eq_true rfl) (fun K sz hKl C => ?_)
  have C : CX K G (AH h0 sz) RX1 cX1_toggleMeter 3 (some .boolean) (rmD 4 1 6) [] := C
  subst hKl
  refine WR.imp (P' := Wd G (adr, (n, P, F), Sm, mu, g)) (fun h e => e ▸ hwd) ?_
  show WR K G _ _ _ [some (.ref (adr 0)), some (.int x), none] 0 0 0 []
  refine R_aload_n (pc := 0) C dX1_toggleMeter_0 rfl ?_
  refine R_iload_n (pc := 1) C dX1_toggleMeter_1 rfl ?_
  refine R_callVT (pc := 2) C dX1_toggleMeter_2 (vs := [_]) (fun h hh => mX1_wellAt hl hn h hh) (isOb_of (wc0) rfl) ⟨k_16_21, k_16_22, k_16_23, k_1_2, k_17_0⟩ (sgn (nv := 1) rfl ⟨by decide +kernel, by decide +kernel, by decide +kernel⟩) ⟨⟨Nat.le_of_ble_eq_true rfl, Nat.le_of_ble_eq_true rfl⟩, ⟨Nat.le_of_ble_eq_true rfl, Nat.le_of_ble_eq_true rfl⟩, Nat.le_of_ble_eq_true rfl⟩ rfl rfl (fun h9 hh9 E9 => ?_) (fun h9 hh9 v9 => ?_)
  · exact X_out C (Nat.le_of_ble_eq_true rfl) (Nat.le_of_ble_eq_true rfl) (fun h1 hh1 => ⟨Or.inl ⟨by simp [kAsk, qW_f hn hh1.1.2], hh1.1.1⟩, hh1.2⟩)
  refine WR.imp (P' := fun h1 => ∃ i, (i < n ∧ _ = nI i ∧ v9 = some (.ref (adr (30 + i)))) ∧ Wd G (adr, (n, P, F), Sm, mu, g) h1) (fun h1 q1 => by obtain ⟨⟨z, z1, z2, z3⟩, z4⟩ := q1; exact ⟨z, ⟨z1, z2, z3⟩, z4⟩) ?_
  refine WR.ex (fun i => WR.pr (fun e9 => ?_))
  obtain ⟨hi, ei, e9⟩ := e9
  subst e9
  show WR K G _ _ _ _ _ _ _ (.ref _ :: _)
  subst ei
  refine R_astore_n (pc := 5) C dX1_toggleMeter_5 (Nat.le_of_ble_eq_true rfl) (lv' := [some (.ref _), some (.int _), some (.ref _)]) rfl ?_
  refine R_aload_n (pc := 6) C dX1_toggleMeter_6 rfl ?_
  refine R_aload_n (pc := 7) C dX1_toggleMeter_7 rfl ?_
  refine R_getf (pc := 8) C dX1_toggleMeter_8 (i := 12) (wcw hi hn) rfl inlX0 (by decide) k_17_23 rfl ?_
  refine R_if_ne (pc := 11) C dX1_toggleMeter_11 (tgt := 18) (by decide) (fun c11 => ?_) (fun c11 => ?_)
  · refine R_iconst (pc := 18) C dX1_toggleMeter_18 (v := 0) (by decide) ?_
    refine R_putf (pc := 19) C dX1_toggleMeter_19 (i := 12) (wcw hi hn) rfl inlX0 tyX0_ok nmX0 (by decide) k_17_23 rfl rfl rfl (Nat.le_of_ble_eq_true rfl) (pw_7 (v := 1 - F 7 i) (by rcases hf7 i hi with q | q <;> rw [q] at c11 ⊢ <;> revert c11 <;> decide) hi hn) ?_
    refine R_aload_n (pc := 22) C dX1_toggleMeter_22 rfl ?_
    refine R_getf (pc := 23) C dX1_toggleMeter_23 (i := 12) (wcw hi hn) rfl inlX0 (by decide) k_17_23 rfl ?_
    refine R_ok ?_
    exact R_zret (pc := 26) C dX1_toggleMeter_26 rfl (by rw [su_s]; rcases hf7 i hi with q | q <;> rw [q] <;> rfl) (Nat.le_of_ble_eq_true rfl) (Nat.le_of_ble_eq_true rfl) (fun h hh => ⟨⟨by simp [kAsk, qW_t hn hi], by rw [ix_nI (by omega), su_s]; rcases hf7 i hi with q | q <;> rw [q] <;> rfl⟩, by rw [ix_nI (by omega)]; exact hh⟩)
  · refine R_iconst (pc := 14) C dX1_toggleMeter_14 (v := 1) (by decide) ?_
    refine R_goto (pc := 15) C dX1_toggleMeter_15 (tgt := 19) (by decide) ?_
    refine R_putf (pc := 19) C dX1_toggleMeter_19 (i := 12) (wcw hi hn) rfl inlX0 tyX0_ok nmX0 (by decide) k_17_23 rfl rfl rfl (Nat.le_of_ble_eq_true rfl) (pw_7 (v := 1 - F 7 i) (by rcases hf7 i hi with q | q <;> rw [q] at c11 ⊢ <;> revert c11 <;> decide) hi hn) ?_
    refine R_aload_n (pc := 22) C dX1_toggleMeter_22 rfl ?_
    refine R_getf (pc := 23) C dX1_toggleMeter_23 (i := 12) (wcw hi hn) rfl inlX0 (by decide) k_17_23 rfl ?_
    refine R_ok ?_
    exact R_zret (pc := 26) C dX1_toggleMeter_26 rfl (by rw [su_s]; rcases hf7 i hi with q | q <;> rw [q] <;> rfl) (Nat.le_of_ble_eq_true rfl) (Nat.le_of_ble_eq_true rfl) (fun h hh => ⟨⟨by simp [kAsk, qW_t hn hi], by rw [ix_nI (by omega), su_s]; rcases hf7 i hi with q | q <;> rw [q] <;> rfl⟩, by rw [ix_nI (by omega)]; exact hh⟩)
set_option maxHeartbeats 4000000 in
set_option maxRecDepth 100000 in
theorem mX1_build (hl : l.stackTraces = false) {x : Int32} (hP : P ≤ 5) : ∀ h, Wd G (adr, (n, P, F), Sm, mu, g) h → CT l yX1_build cX1_build 2 (some .int) 4 2 12 [.ref (adr 0), .int x] G h (fun v h1 => (kBuild P F x = 0 ∧ v = some (.int (nI (P + 1)))) ∧ Wd G (adr, (n, P + 1, fBuild F P x), Sm, mu, g) h1) (fun E h1 => ((kBuild P F x = 1 ∧ E = eIAE) ∨ (kBuild P F x = 2 ∧ E = eISE)) ∧ Wd G (adr, (n, P, F), Sm, mu, g) h1) := by
  intro h0 hwd
  refine CT.of hl (by decide +kernel) rfl (Nat.le_of_ble_eq_true rfl) (fun K sz hKl C => ?_)
  have C : CX K G (AH h0 sz) RX1 cX1_build 2 (some .int) (rmD 4 2 12) [] := C
  subst hKl
  refine WR.imp (P' := Wd G (adr, (n, P, F), Sm, mu, g)) (fun h e => e ▸ hwd) ?_
  show WR K G _ _ _ [some (.ref (adr 0)), some (.int x)] 0 0 0 []
  refine R_iload_n (pc := 0) C dX1_build_0 rfl ?_
  refine R_iconst (pc := 1) C dX1_build_1 (v := 0) (by decide) ?_
  refine R_bipush (pc := 2) C dX1_build_2 (v := 99) (by decide) ?_
  refine R_callST (pc := 4) C dX1_build_4 (vs := [_, _, _]) (fun h hh => mX1_requireWithin hl h) ⟨k_3_13, k_3_14, k_1_2, k_3_15⟩ (sgn (nv := 3) rfl ⟨by decide +kernel, by decide +kernel, by decide +kernel⟩) ⟨⟨Nat.le_of_ble_eq_true rfl, Nat.le_of_ble_eq_true rfl⟩, ⟨Nat.le_of_ble_eq_true rfl, Nat.le_of_ble_eq_true rfl⟩, Nat.le_of_ble_eq_true rfl⟩ rfl rfl (fun h9 hh9 E9 => ?_) (fun h9 hh9 v9 => ?_)
  · exact X_out C (Nat.le_of_ble_eq_true rfl) (Nat.le_of_ble_eq_true rfl) (fun h1 hh1 => ⟨Or.inl ⟨by simp [kBuild, qR_f hh1.2.1], hh1.1⟩, hh1.2.2 ▸ hh9⟩)
  refine WR.pr (fun e9 => ?_)
  subst e9
  refine WR.pr (fun hr => ?_)
  refine WR.imp (P' := Wd G (adr, (n, P, F), Sm, mu, g)) (fun h1 e1 => e1 ▸ hh9) ?_
  show WR K G _ _ _ _ _ _ _ _
  refine R_aload_n (pc := 7) C dX1_build_7 rfl ?_
  refine R_getf (pc := 8) C dX1_build_8 (i := 4) (wc0) rfl inlX1 (by decide) k_1_17 rfl ?_
  refine R_bipush (pc := 11) C dX1_build_11 (v := 100) (by decide) ?_
  refine R_icmp_lt (pc := 13) C dX1_build_13 (tgt := 24) (by decide) (fun c13 => ?_) (fun c13 => ?_)
  · exact R_thrISE (pc := 24) C dX1_build_24 dX1_build_27 dX1_build_28 dX1_build_30 dX1_build_33 (C.st.2.2.2.2.2.2.1.2.2.1) rfl ⟨⟨Nat.le_of_ble_eq_true rfl, Nat.le_of_ble_eq_true rfl⟩, Nat.le_of_ble_eq_true rfl, Nat.le_of_ble_eq_true rfl⟩ ⟨Nat.le_of_ble_eq_true rfl, Nat.le_of_ble_eq_true rfl⟩ (fun h hh => ⟨Or.inr ⟨by simp [kBuild, qR_t hr, c13], rfl⟩, hh⟩)
  · refine R_aload_n (pc := 16) C dX1_build_16 rfl ?_
    refine R_getf (pc := 17) C dX1_build_17 (i := 3) (wc0) rfl inlX1 (by decide) k_1_16 rfl ?_
    refine R_iconst (pc := 20) C dX1_build_20 (v := 5) (by decide) ?_
    refine R_icmp_lt (pc := 21) C dX1_build_21 (tgt := 34) (by decide) (fun c21 => ?_) (fun c21 => ?_)
    · have hP5 : P < 5 := (nI_ltI (by omega) (by omega)).mp (show nI P < nI 5 from c21)
      refine R_aload_n (pc := 34) C dX1_build_34 rfl ?_
      refine R_dup (pc := 35) C dX1_build_35 rfl ?_
      refine R_getf (pc := 36) C dX1_build_36 (i := 4) (wc0) rfl inlX1 (by decide) k_1_17 rfl ?_
      refine R_bipush (pc := 39) C dX1_build_39 (v := 100) (by decide) ?_
      refine R_isub (pc := 41) C dX1_build_41 ?_
      refine R_putf (pc := 42) C dX1_build_42 (i := 4) (wc0) rfl inlX1 tyX1_ok nmX1 (by decide) k_1_17 rfl rfl rfl (Nat.le_of_ble_eq_true rfl) (pc_fund) ?_
      refine R_aload_n (pc := 45) C dX1_build_45 rfl ?_
      refine R_getf (pc := 46) C dX1_build_46 (i := 2) (wc0) rfl inlX1 (by decide) k_1_15 rfl ?_
      refine R_aload_n (pc := 49) C dX1_build_49 rfl ?_
      refine R_getf (pc := 50) C dX1_build_50 (i := 3) (wc0) rfl inlX1 (by decide) k_1_16 rfl ?_
      refine R_iload_n (pc := 53) C dX1_build_53 rfl ?_
      refine R_iast (pc := 54) C dX1_build_54 (wc4) (rfl) (hP5) (by decide) (pc_pond) ?_
      refine R_aload_n (pc := 55) C dX1_build_55 rfl ?_
      refine R_dup (pc := 56) C dX1_build_56 rfl ?_
      refine R_getf (pc := 57) C dX1_build_57 (i := 3) (wc0) rfl inlX1 (by decide) k_1_16 rfl ?_
      refine R_iconst (pc := 60) C dX1_build_60 (v := 1) (by decide) ?_
      refine R_iadd (pc := 61) C dX1_build_61 ?_
      refine R_putf (pc := 62) C dX1_build_62 (i := 3) (wc0) rfl inlX1 tyX1_ok nmX1 (by decide) k_1_16 rfl rfl rfl (Nat.le_of_ble_eq_true rfl) (pc_ponds (nI_1 P)) ?_
      refine R_aload_n (pc := 65) C dX1_build_65 rfl ?_
      refine R_getf (pc := 66) C dX1_build_66 (i := 3) (wc0) rfl inlX1 (by decide) k_1_16 rfl ?_
      refine R_ok ?_
      exact R_iret (pc := 69) C dX1_build_69 rfl (Nat.le_of_ble_eq_true rfl) (Nat.le_of_ble_eq_true rfl) (fun h hh => ⟨⟨by simp [kBuild, qR_t hr, c13, show ¬ 5 ≤ P by omega], rfl⟩, hh⟩)
    · exact R_thrISE (pc := 24) C dX1_build_24 dX1_build_27 dX1_build_28 dX1_build_30 dX1_build_33 (C.st.2.2.2.2.2.2.1.2.2.1) rfl ⟨⟨Nat.le_of_ble_eq_true rfl, Nat.le_of_ble_eq_true rfl⟩, Nat.le_of_ble_eq_true rfl, Nat.le_of_ble_eq_true rfl⟩ ⟨Nat.le_of_ble_eq_true rfl, Nat.le_of_ble_eq_true rfl⟩ (fun h hh => ⟨Or.inr ⟨by simp [kBuild, qR_t hr, five_le hP c21], rfl⟩, hh⟩)
set_option maxHeartbeats 4000000 in
set_option maxRecDepth 100000 in
theorem mX1_lend (hl : l.stackTraces = false) {x y a : Int32} (hn : n ≤ 8) : ∀ h, Wd G (adr, (n, P, F), Sm, mu, g) h → CT l yX1_lend cX1_lend 6 (some .int) 4 5 30 [.ref (adr 0), .int x, .int y, .int a] G h (fun v h1 => (kLend n F x y a = 0 ∧ v = some (.int (F 13 (8 * ix x + ix y) + a))) ∧ Wd G (adr, (n, P, fLend F (ix x) (ix y) a), Sm, mu, g) h1) (fun E h1 => exA E (kLend n F x y a) ∧ Wd G (adr, (n, P, F), Sm, mu, g) h1) := by
  intro h0 hwd
  refine CT.of hl (by decide +kernel) rfl (Nat.le_of_ble_eq_true rfl) (fun K sz hKl C => ?_)
  have C : CX K G (AH h0 sz) RX1 cX1_lend 6 (some .int) (rmD 4 5 30) [] := C
  subst hKl
  refine WR.imp (P' := Wd G (adr, (n, P, F), Sm, mu, g)) (fun h e => e ▸ hwd) ?_
  show WR K G _ _ _ [some (.ref (adr 0)), some (.int x), some (.int y), some (.int a), none, none] 0 0 0 []
  refine R_aload_n (pc := 0) C dX1_lend_0 rfl ?_
  refine R_iload_n (pc := 1) C dX1_lend_1 rfl ?_
  refine R_callVT (pc := 2) C dX1_lend_2 (vs := [_]) (fun h hh => mX1_wellAt hl hn h hh) (isOb_of (wc0) rfl) ⟨k_16_21, k_16_22, k_16_23, k_1_2, k_17_0⟩ (sgn (nv := 1) rfl ⟨by decide +kernel, by decide +kernel, by decide +kernel⟩) ⟨⟨Nat.le_of_ble_eq_true rfl, Nat.le_of_ble_eq_true rfl⟩, ⟨Nat.le_of_ble_eq_true rfl, Nat.le_of_ble_eq_true rfl⟩, Nat.le_of_ble_eq_true rfl⟩ rfl rfl (fun h9 hh9 E9 => ?_) (fun h9 hh9 v9 => ?_)
  · exact X_out C (Nat.le_of_ble_eq_true rfl) (Nat.le_of_ble_eq_true rfl) (fun h1 hh1 => ⟨Or.inl ⟨by simp [kLend, qW_f hn hh1.1.2], hh1.1.1⟩, hh1.2⟩)
  refine WR.imp (P' := fun h1 => ∃ i, (i < n ∧ _ = nI i ∧ v9 = some (.ref (adr (30 + i)))) ∧ Wd G (adr, (n, P, F), Sm, mu, g) h1) (fun h1 q1 => by obtain ⟨⟨z, z1, z2, z3⟩, z4⟩ := q1; exact ⟨z, ⟨z1, z2, z3⟩, z4⟩) ?_
  refine WR.ex (fun i => WR.pr (fun e9 => ?_))
  obtain ⟨hi, ei, e9⟩ := e9
  subst e9
  show WR K G _ _ _ _ _ _ _ (.ref _ :: _)
  subst ei
  refine R_astore (pc := 5) C dX1_lend_5 (Nat.le_of_ble_eq_true rfl) (lv' := [some (.ref _), some (.int _), some (.int _), some (.int _), some (.ref _), none]) rfl ?_
  refine R_aload_n (pc := 7) C dX1_lend_7 rfl ?_
  refine R_iload_n (pc := 8) C dX1_lend_8 rfl ?_
  refine R_callVT (pc := 9) C dX1_lend_9 (vs := [_]) (fun h hh => mX1_wellAt hl hn h hh) (isOb_of (wc0) rfl) ⟨k_16_21, k_16_22, k_16_23, k_1_2, k_17_0⟩ (sgn (nv := 1) rfl ⟨by decide +kernel, by decide +kernel, by decide +kernel⟩) ⟨⟨Nat.le_of_ble_eq_true rfl, Nat.le_of_ble_eq_true rfl⟩, ⟨Nat.le_of_ble_eq_true rfl, Nat.le_of_ble_eq_true rfl⟩, Nat.le_of_ble_eq_true rfl⟩ rfl rfl (fun h9 hh9 E9 => ?_) (fun h9 hh9 v9 => ?_)
  · exact X_out C (Nat.le_of_ble_eq_true rfl) (Nat.le_of_ble_eq_true rfl) (fun h1 hh1 => ⟨Or.inl ⟨by simp [kLend, qW_f hn hh1.1.2], hh1.1.1⟩, hh1.2⟩)
  refine WR.imp (P' := fun h1 => ∃ j, (j < n ∧ _ = nI j ∧ v9 = some (.ref (adr (30 + j)))) ∧ Wd G (adr, (n, P, F), Sm, mu, g) h1) (fun h1 q1 => by obtain ⟨⟨z, z1, z2, z3⟩, z4⟩ := q1; exact ⟨z, ⟨z1, z2, z3⟩, z4⟩) ?_
  refine WR.ex (fun j => WR.pr (fun e9 => ?_))
  obtain ⟨hj, ej, e9⟩ := e9
  subst e9
  show WR K G _ _ _ _ _ _ _ (.ref _ :: _)
  subst ej
  refine R_astore (pc := 12) C dX1_lend_12 (Nat.le_of_ble_eq_true rfl) (lv' := [some (.ref _), some (.int _), some (.int _), some (.int _), some (.ref _), some (.ref _)]) rfl ?_
  refine R_iload_n (pc := 14) C dX1_lend_14 rfl ?_
  refine R_iload_n (pc := 15) C dX1_lend_15 rfl ?_
  refine R_callST (pc := 16) C dX1_lend_16 (vs := [_, _]) (fun h hh => mX1_requireDifferent hl h) ⟨k_18_15, k_18_16, k_1_2, k_18_17⟩ (sgn (nv := 2) rfl ⟨by decide +kernel, by decide +kernel, by decide +kernel⟩) ⟨⟨Nat.le_of_ble_eq_true rfl, Nat.le_of_ble_eq_true rfl⟩, ⟨Nat.le_of_ble_eq_true rfl, Nat.le_of_ble_eq_true rfl⟩, Nat.le_of_ble_eq_true rfl⟩ rfl rfl (fun h9 hh9 E9 => ?_) (fun h9 hh9 v9 => ?_)
  · exact X_out C (Nat.le_of_ble_eq_true rfl) (Nat.le_of_ble_eq_true rfl) (fun h1 hh1 => ⟨Or.inr (Or.inl ⟨by simp [kLend, qW_t hn hi, qW_t hn hj, hh1.2.1], hh1.1⟩), hh1.2.2 ▸ hh9⟩)
  refine WR.pr (fun e9 => ?_)
  subst e9
  refine WR.pr (fun hd => ?_)
  refine WR.imp (P' := Wd G (adr, (n, P, F), Sm, mu, g)) (fun h1 e1 => e1 ▸ hh9) ?_
  show WR K G _ _ _ _ _ _ _ _
  refine R_iload_n (pc := 19) C dX1_lend_19 rfl ?_
  refine R_iconst (pc := 20) C dX1_lend_20 (v := 1) (by decide) ?_
  refine R_sipush (pc := 21) C dX1_lend_21 (v := 10000) (by decide) ?_
  refine R_callST (pc := 24) C dX1_lend_24 (vs := [_, _, _]) (fun h hh => mX1_requireWithin hl h) ⟨k_3_13, k_3_14, k_1_2, k_3_15⟩ (sgn (nv := 3) rfl ⟨by decide +kernel, by decide +kernel, by decide +kernel⟩) ⟨⟨Nat.le_of_ble_eq_true rfl, Nat.le_of_ble_eq_true rfl⟩, ⟨Nat.le_of_ble_eq_true rfl, Nat.le_of_ble_eq_true rfl⟩, Nat.le_of_ble_eq_true rfl⟩ rfl rfl (fun h9 hh9 E9 => ?_) (fun h9 hh9 v9 => ?_)
  · exact X_out C (Nat.le_of_ble_eq_true rfl) (Nat.le_of_ble_eq_true rfl) (fun h1 hh1 => ⟨Or.inr (Or.inl ⟨by simp [kLend, qW_t hn hi, qW_t hn hj, qR_f hh1.2.1], hh1.1⟩), hh1.2.2 ▸ hh9⟩)
  refine WR.pr (fun e9 => ?_)
  subst e9
  refine WR.pr (fun hr => ?_)
  refine WR.imp (P' := Wd G (adr, (n, P, F), Sm, mu, g)) (fun h1 e1 => e1 ▸ hh9) ?_
  show WR K G _ _ _ _ _ _ _ _
  refine R_aload (pc := 27) C dX1_lend_27 rfl ?_
  refine R_getf (pc := 29) C dX1_lend_29 (i := 14) (wcw hi hn) rfl inlX0 (by decide) k_18_13 rfl ?_
  refine R_iload_n (pc := 32) C dX1_lend_32 rfl ?_
  refine R_icmp_ge (pc := 33) C dX1_lend_33 (tgt := 46) (by decide) (fun c33 => ?_) (fun c33 => ?_)
  · have hji : j ≠ i := fun q => hd (by rw [q])
    refine R_aload (pc := 46) C dX1_lend_46 rfl ?_
    refine R_dup (pc := 48) C dX1_lend_48 rfl ?_
    refine R_getf (pc := 49) C dX1_lend_49 (i := 14) (wcw hi hn) rfl inlX0 (by decide) k_18_13 rfl ?_
    refine R_iload_n (pc := 52) C dX1_lend_52 rfl ?_
    refine R_isub (pc := 53) C dX1_lend_53 ?_
    refine R_putf (pc := 54) C dX1_lend_54 (i := 14) (wcw hi hn) rfl inlX0 tyX0_ok nmX0 (by decide) k_18_13 rfl rfl rfl (Nat.le_of_ble_eq_true rfl) (pw_9 hi hn) ?_
    refine R_aload (pc := 57) C dX1_lend_57 rfl ?_
    refine R_dup (pc := 59) C dX1_lend_59 rfl ?_
    refine R_getf (pc := 60) C dX1_lend_60 (i := 14) (wcw hj hn) rfl inlX0 (by decide) k_18_13 rfl ?_
    refine R_iload_n (pc := 63) C dX1_lend_63 rfl ?_
    refine R_iadd (pc := 64) C dX1_lend_64 ?_
    refine R_putf (pc := 65) C dX1_lend_65 (i := 14) (wcw hj hn) rfl inlX0 tyX0_ok nmX0 (by decide) k_18_13 rfl rfl rfl (Nat.le_of_ble_eq_true rfl) (pe_9 (v0 := F 9 j + a) (by rw [su_i hji]) hj hn) ?_
    refine R_aload (pc := 68) C dX1_lend_68 rfl ?_
    refine R_getf (pc := 70) C dX1_lend_70 (i := 7) (wcw hi hn) rfl inlX0 (by decide) k_18_12 rfl ?_
    refine R_iload_n (pc := 73) C dX1_lend_73 rfl ?_
    refine R_dup2 (pc := 74) C dX1_lend_74 rfl rfl ?_
    refine R_iald (pc := 75) C dX1_lend_75 (wcl hi hn) (rfl) (by omega) (by decide) rfl ?_
    refine R_iload_n (pc := 76) C dX1_lend_76 rfl ?_
    refine R_iadd (pc := 77) C dX1_lend_77 ?_
    refine R_iast (pc := 78) C dX1_lend_78 (wcl hi hn) (rfl) (by omega) (by decide) (pe_13 (v0 := F 13 (8 * i + j) + a) (by rw [lrow_in (by omega), su_f (by omega), su_f (by omega)]) hi hn (by omega)) ?_
    refine R_aload (pc := 79) C dX1_lend_79 rfl ?_
    refine R_getf (pc := 81) C dX1_lend_81 (i := 7) (wcw hi hn) rfl inlX0 (by decide) k_18_12 rfl ?_
    refine R_iload_n (pc := 84) C dX1_lend_84 rfl ?_
    refine R_iald (pc := 85) C dX1_lend_85 (wcl hi hn) (rfl) (by omega) (by decide) rfl ?_
    refine R_ok ?_
    exact R_iret (pc := 86) C dX1_lend_86 rfl (Nat.le_of_ble_eq_true rfl) (Nat.le_of_ble_eq_true rfl) (fun h hh => ⟨⟨by simp [kLend, qW_t hn hi, qW_t hn hj, hd, qR_t hr, ix_nI (n31 (Nat.le_trans (Nat.le_of_lt hi) hn)), Int32.not_lt.mpr c33], by rw [ix_nI (by omega), ix_nI (by omega), lrow_in (by omega), su_s]⟩, by rw [ix_nI (by omega), ix_nI (by omega)]; exact hh⟩)
  · exact R_thrISE (pc := 36) C dX1_lend_36 dX1_lend_39 dX1_lend_40 dX1_lend_42 dX1_lend_45 (C.st.2.2.2.2.2.2.1.2.1) rfl ⟨⟨Nat.le_of_ble_eq_true rfl, Nat.le_of_ble_eq_true rfl⟩, Nat.le_of_ble_eq_true rfl, Nat.le_of_ble_eq_true rfl⟩ ⟨Nat.le_of_ble_eq_true rfl, Nat.le_of_ble_eq_true rfl⟩ (fun h hh => ⟨Or.inr (Or.inr ⟨by simp [kLend, qW_t hn hi, qW_t hn hj, hd, qR_t hr, ix_nI (n31 (Nat.le_trans (Nat.le_of_lt hi) hn)), Int32.not_le.mp c33], rfl⟩), hh⟩)
set_option maxHeartbeats 4000000 in
set_option maxRecDepth 100000 in
theorem mX1_callBack (hl : l.stackTraces = false) {x y : Int32} (hn : n ≤ 8) : ∀ h, Wd G (adr, (n, P, F), Sm, mu, g) h → CT l yX1_callBack cX1_callBack 6 (some .int) 4 5 30 [.ref (adr 0), .int x, .int y] G h (fun v h1 => (kBack n x y = 0 ∧ v = some (.int (minI (F 13 (8 * ix x + ix y)) (F 9 (ix y))))) ∧ Wd G (adr, (n, P, fBack F (ix x) (ix y) (minI (F 13 (8 * ix x + ix y)) (F 9 (ix y)))), Sm, mu, g) h1) (fun E h1 => exA E (kBack n x y) ∧ Wd G (adr, (n, P, F), Sm, mu, g) h1) := by
  intro h0 hwd
  refine CT.of hl (by decide +kernel) rfl (Nat.le_of_ble_eq_true rfl) (fun K sz hKl C => ?_)
  have C : CX K G (AH h0 sz) RX1 cX1_callBack 6 (some .int) (rmD 4 5 30) [] := C
  subst hKl
  refine WR.imp (P' := Wd G (adr, (n, P, F), Sm, mu, g)) (fun h e => e ▸ hwd) ?_
  show WR K G _ _ _ [some (.ref (adr 0)), some (.int x), some (.int y), none, none, none] 0 0 0 []
  refine R_aload_n (pc := 0) C dX1_callBack_0 rfl ?_
  refine R_iload_n (pc := 1) C dX1_callBack_1 rfl ?_
  refine R_callVT (pc := 2) C dX1_callBack_2 (vs := [_]) (fun h hh => mX1_wellAt hl hn h hh) (isOb_of (wc0) rfl) ⟨k_16_21, k_16_22, k_16_23, k_1_2, k_17_0⟩ (sgn (nv := 1) rfl ⟨by decide +kernel, by decide +kernel, by decide +kernel⟩) ⟨⟨Nat.le_of_ble_eq_true rfl, Nat.le_of_ble_eq_true rfl⟩, ⟨Nat.le_of_ble_eq_true rfl, Nat.le_of_ble_eq_true rfl⟩, Nat.le_of_ble_eq_true rfl⟩ rfl rfl (fun h9 hh9 E9 => ?_) (fun h9 hh9 v9 => ?_)
  · exact X_out C (Nat.le_of_ble_eq_true rfl) (Nat.le_of_ble_eq_true rfl) (fun h1 hh1 => ⟨Or.inl ⟨by simp [kBack, qW_f hn hh1.1.2], hh1.1.1⟩, hh1.2⟩)
  refine WR.imp (P' := fun h1 => ∃ i, (i < n ∧ _ = nI i ∧ v9 = some (.ref (adr (30 + i)))) ∧ Wd G (adr, (n, P, F), Sm, mu, g) h1) (fun h1 q1 => by obtain ⟨⟨z, z1, z2, z3⟩, z4⟩ := q1; exact ⟨z, ⟨z1, z2, z3⟩, z4⟩) ?_
  refine WR.ex (fun i => WR.pr (fun e9 => ?_))
  obtain ⟨hi, ei, e9⟩ := e9
  subst e9
  show WR K G _ _ _ _ _ _ _ (.ref _ :: _)
  subst ei
  refine R_astore_n (pc := 5) C dX1_callBack_5 (Nat.le_of_ble_eq_true rfl) (lv' := [some (.ref _), some (.int _), some (.int _), some (.ref _), none, none]) rfl ?_
  refine R_aload_n (pc := 6) C dX1_callBack_6 rfl ?_
  refine R_iload_n (pc := 7) C dX1_callBack_7 rfl ?_
  refine R_callVT (pc := 8) C dX1_callBack_8 (vs := [_]) (fun h hh => mX1_wellAt hl hn h hh) (isOb_of (wc0) rfl) ⟨k_16_21, k_16_22, k_16_23, k_1_2, k_17_0⟩ (sgn (nv := 1) rfl ⟨by decide +kernel, by decide +kernel, by decide +kernel⟩) ⟨⟨Nat.le_of_ble_eq_true rfl, Nat.le_of_ble_eq_true rfl⟩, ⟨Nat.le_of_ble_eq_true rfl, Nat.le_of_ble_eq_true rfl⟩, Nat.le_of_ble_eq_true rfl⟩ rfl rfl (fun h9 hh9 E9 => ?_) (fun h9 hh9 v9 => ?_)
  · exact X_out C (Nat.le_of_ble_eq_true rfl) (Nat.le_of_ble_eq_true rfl) (fun h1 hh1 => ⟨Or.inl ⟨by simp [kBack, qW_f hn hh1.1.2], hh1.1.1⟩, hh1.2⟩)
  refine WR.imp (P' := fun h1 => ∃ j, (j < n ∧ _ = nI j ∧ v9 = some (.ref (adr (30 + j)))) ∧ Wd G (adr, (n, P, F), Sm, mu, g) h1) (fun h1 q1 => by obtain ⟨⟨z, z1, z2, z3⟩, z4⟩ := q1; exact ⟨z, ⟨z1, z2, z3⟩, z4⟩) ?_
  refine WR.ex (fun j => WR.pr (fun e9 => ?_))
  obtain ⟨hj, ej, e9⟩ := e9
  subst e9
  show WR K G _ _ _ _ _ _ _ (.ref _ :: _)
  subst ej
  refine R_astore (pc := 11) C dX1_callBack_11 (Nat.le_of_ble_eq_true rfl) (lv' := [some (.ref _), some (.int _), some (.int _), some (.ref _), some (.ref _), none]) rfl ?_
  refine R_iload_n (pc := 13) C dX1_callBack_13 rfl ?_
  refine R_iload_n (pc := 14) C dX1_callBack_14 rfl ?_
  refine R_callST (pc := 15) C dX1_callBack_15 (vs := [_, _]) (fun h hh => mX1_requireDifferent hl h) ⟨k_18_15, k_18_16, k_1_2, k_18_17⟩ (sgn (nv := 2) rfl ⟨by decide +kernel, by decide +kernel, by decide +kernel⟩) ⟨⟨Nat.le_of_ble_eq_true rfl, Nat.le_of_ble_eq_true rfl⟩, ⟨Nat.le_of_ble_eq_true rfl, Nat.le_of_ble_eq_true rfl⟩, Nat.le_of_ble_eq_true rfl⟩ rfl rfl (fun h9 hh9 E9 => ?_) (fun h9 hh9 v9 => ?_)
  · exact X_out C (Nat.le_of_ble_eq_true rfl) (Nat.le_of_ble_eq_true rfl) (fun h1 hh1 => ⟨Or.inr (Or.inl ⟨by simp [kBack, qW_t hn hi, qW_t hn hj, hh1.2.1], hh1.1⟩), hh1.2.2 ▸ hh9⟩)
  refine WR.pr (fun e9 => ?_)
  subst e9
  refine WR.pr (fun hd => ?_)
  refine WR.imp (P' := Wd G (adr, (n, P, F), Sm, mu, g)) (fun h1 e1 => e1 ▸ hh9) ?_
  show WR K G _ _ _ _ _ _ _ _
  refine R_aload_n (pc := 18) C dX1_callBack_18 rfl ?_
  refine R_getf (pc := 19) C dX1_callBack_19 (i := 7) (wcw hi hn) rfl inlX0 (by decide) k_18_12 rfl ?_
  refine R_iload_n (pc := 22) C dX1_callBack_22 rfl ?_
  refine R_iald (pc := 23) C dX1_callBack_23 (wcl hi hn) (rfl) (by omega) (by decide) rfl ?_
  refine R_aload (pc := 24) C dX1_callBack_24 rfl ?_
  refine R_getf (pc := 26) C dX1_callBack_26 (i := 14) (wcw hj hn) rfl inlX0 (by decide) k_18_13 rfl ?_
  refine R_mmin (pc := 29) C dX1_callBack_29 k_18_14 rfl ⟨Nat.le_of_ble_eq_true rfl, Nat.le_of_ble_eq_true rfl⟩ ⟨Nat.le_of_ble_eq_true rfl, Nat.le_of_ble_eq_true rfl⟩ ?_
  refine R_topi (fun b hb => ?_)
  rw [lrow_in (by omega)] at hb
  have hji : j ≠ i := fun q => hd (by rw [q])
  refine R_istore (pc := 32) C dX1_callBack_32 (Nat.le_of_ble_eq_true rfl) (lv' := [some (.ref _), some (.int _), some (.int _), some (.ref _), some (.ref _), some (.int _)]) rfl ?_
  refine R_aload_n (pc := 34) C dX1_callBack_34 rfl ?_
  refine R_getf (pc := 35) C dX1_callBack_35 (i := 7) (wcw hi hn) rfl inlX0 (by decide) k_18_12 rfl ?_
  refine R_iload_n (pc := 38) C dX1_callBack_38 rfl ?_
  refine R_dup2 (pc := 39) C dX1_callBack_39 rfl rfl ?_
  refine R_iald (pc := 40) C dX1_callBack_40 (wcl hi hn) (rfl) (by omega) (by decide) rfl ?_
  refine R_iload (pc := 41) C dX1_callBack_41 rfl ?_
  refine R_isub (pc := 43) C dX1_callBack_43 ?_
  refine R_iast (pc := 44) C dX1_callBack_44 (wcl hi hn) (rfl) (by omega) (by decide) (pe_13 (v0 := F 13 (8 * i + j) - b) (by rw [lrow_in (by omega)]) hi hn (by omega)) ?_
  refine R_aload (pc := 45) C dX1_callBack_45 rfl ?_
  refine R_dup (pc := 47) C dX1_callBack_47 rfl ?_
  refine R_getf (pc := 48) C dX1_callBack_48 (i := 14) (wcw hj hn) rfl inlX0 (by decide) k_18_13 rfl ?_
  refine R_iload (pc := 51) C dX1_callBack_51 rfl ?_
  refine R_isub (pc := 53) C dX1_callBack_53 ?_
  refine R_putf (pc := 54) C dX1_callBack_54 (i := 14) (wcw hj hn) rfl inlX0 tyX0_ok nmX0 (by decide) k_18_13 rfl rfl rfl (Nat.le_of_ble_eq_true rfl) (pe_9 (v0 := F 9 j - b) (by rw [su_f (by omega)]) hj hn) ?_
  refine R_aload_n (pc := 57) C dX1_callBack_57 rfl ?_
  refine R_dup (pc := 58) C dX1_callBack_58 rfl ?_
  refine R_getf (pc := 59) C dX1_callBack_59 (i := 14) (wcw hi hn) rfl inlX0 (by decide) k_18_13 rfl ?_
  refine R_iload (pc := 62) C dX1_callBack_62 rfl ?_
  refine R_iadd (pc := 64) C dX1_callBack_64 ?_
  refine R_putf (pc := 65) C dX1_callBack_65 (i := 14) (wcw hi hn) rfl inlX0 tyX0_ok nmX0 (by decide) k_18_13 rfl rfl rfl (Nat.le_of_ble_eq_true rfl) (pe_9 (v0 := F 9 i + b) (by rw [su_i hji.symm, su_f (by omega)]) hi hn) ?_
  refine R_iload (pc := 68) C dX1_callBack_68 rfl ?_
  refine R_ok ?_
  exact R_iret (pc := 70) C dX1_callBack_70 rfl (Nat.le_of_ble_eq_true rfl) (Nat.le_of_ble_eq_true rfl) (fun h hh => ⟨⟨by simp [kBack, qW_t hn hi, qW_t hn hj, hd], by rw [ix_nI (by omega), ix_nI (by omega), hb]; rfl⟩, by rw [ix_nI (by omega), ix_nI (by omega), show minI (F 13 (8 * i + j)) (F 9 j) = b from hb.symm]; exact hh⟩)
end
