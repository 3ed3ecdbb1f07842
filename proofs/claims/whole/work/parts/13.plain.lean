/-! 13: the plain calls of WellRights. Written by wip/whole/gen/m13.py -/
section
variable {l : Launch} {G : GT} {adr : Nat → Nat} {n P : Nat} {F mu : Nat → Nat → Int32} {g : Nat → Int64} {Sm : St}
set_option maxHeartbeats 4000000 in
set_option maxRecDepth 100000 in
theorem mX1_level (hl : l.stackTraces = false) {x : Int32} (hn : n ≤ 8) : ∀ h, Wd G (adr, (n, P, F), Sm, mu, g) h → CT l yX1_level cX1_level 2 (some .int) 4 1 6 [.ref (adr 0), .int x] G h (fun v h1 => (kAsk n x = 0 ∧ v = some (.int (F 2 (ix x)))) ∧ Wd G (adr, (n, P, F), Sm, mu, g) h1) (fun E h1 => exA E (kAsk n x) ∧ Wd G (adr, (n, P, F), Sm, mu, g) h1) := by
  intro h0 hw
  refine CT.of hl (by decide +kernel) rfl (Nat.le_of_ble_eq_true rfl) (fun K sz hKl C => ?_)
  have C : CX K G (AH h0 sz) RX1 cX1_level 2 (some .int) (rmD 4 1 6) [] := C
  subst hKl
  refine WR.imp (P' := Wd G (adr, (n, P, F), Sm, mu, g)) (fun h e => e ▸ hw) ?_
  show WR K G _ _ _ [some (.ref (adr 0)), some (.int x)] 0 0 0 []
  refine R_aload_n (pc := 0) C dX1_level_0 rfl ?_
  refine R_iload_n (pc := 1) C dX1_level_1 rfl ?_
  refine R_callVT (pc := 2) C dX1_level_2 (vs := [_]) (fun h hh => mX1_wellAt hl hn h hh) (isOb_of (wc0) rfl) ⟨k_18_15, k_18_16, k_18_17, k_1_2, k_18_18⟩ (sgn (nv := 1) rfl ⟨by decide +kernel, by decide +kernel, by decide +kernel⟩) ⟨⟨Nat.le_of_ble_eq_true rfl, Nat.le_of_ble_eq_true rfl⟩, ⟨Nat.le_of_ble_eq_true rfl, Nat.le_of_ble_eq_true rfl⟩, Nat.le_of_ble_eq_true rfl⟩ rfl rfl (fun h9 hh9 E9 => ?_) (fun h9 hh9 v9 => ?_)
  · exact X_out C (Nat.le_of_ble_eq_true rfl) (Nat.le_of_ble_eq_true rfl) (fun h1 hh1 => ⟨Or.inl ⟨by simp [kAsk, qW_f hn hh1.1.2], hh1.1.1⟩, hh1.2⟩)
  refine WR.imp (P' := fun h1 => ∃ i, (i < n ∧ _ = nI i ∧ v9 = some (.ref (adr (30 + i)))) ∧ Wd G (adr, (n, P, F), Sm, mu, g) h1) (fun h1 q1 => by obtain ⟨⟨z, z1, z2, z3⟩, z4⟩ := q1; exact ⟨z, ⟨z1, z2, z3⟩, z4⟩) ?_
  refine WR.ex (fun i => WR.pr (fun e9 => ?_))
  obtain ⟨hi, ei, e9⟩ := e9
  subst e9
  show WR K G _ _ _ _ _ _ _ (.ref _ :: _)
  subst ei
  refine R_getf (pc := 5) C dX1_level_5 (i := 8) (wcw hi hn) rfl inlX0 (by decide) k_21_16 rfl ?_
  refine R_ok ?_
  exact R_iret (pc := 8) C dX1_level_8 rfl (Nat.le_of_ble_eq_true rfl) (Nat.le_of_ble_eq_true rfl) (fun h hh => ⟨⟨by simp [kAsk, qW_t hn hi], by rw [ix_nI (by omega)]⟩, hh⟩)
set_option maxHeartbeats 4000000 in
set_option maxRecDepth 100000 in
theorem mX1_drew (hl : l.stackTraces = false) {x : Int32} (hn : n ≤ 8) : ∀ h, Wd G (adr, (n, P, F), Sm, mu, g) h → CT l yX1_drew cX1_drew 2 (some .int) 4 1 6 [.ref (adr 0), .int x] G h (fun v h1 => (kAsk n x = 0 ∧ v = some (.int (F 11 (ix x)))) ∧ Wd G (adr, (n, P, F), Sm, mu, g) h1) (fun E h1 => exA E (kAsk n x) ∧ Wd G (adr, (n, P, F), Sm, mu, g) h1) := by
  intro h0 hw
  refine CT.of hl (by decide +kernel) rfl (Nat.le_of_ble_eq_true rfl) (fun K sz hKl C => ?_)
  have C : CX K G (AH h0 sz) RX1 cX1_drew 2 (some .int) (rmD 4 1 6) [] := C
  subst hKl
  refine WR.imp (P' := Wd G (adr, (n, P, F), Sm, mu, g)) (fun h e => e ▸ hw) ?_
  show WR K G _ _ _ [some (.ref (adr 0)), some (.int x)] 0 0 0 []
  refine R_aload_n (pc := 0) C dX1_drew_0 rfl ?_
  refine R_iload_n (pc := 1) C dX1_drew_1 rfl ?_
  refine R_callVT (pc := 2) C dX1_drew_2 (vs := [_]) (fun h hh => mX1_wellAt hl hn h hh) (isOb_of (wc0) rfl) ⟨k_18_15, k_18_16, k_18_17, k_1_2, k_18_18⟩ (sgn (nv := 1) rfl ⟨by decide +kernel, by decide +kernel, by decide +kernel⟩) ⟨⟨Nat.le_of_ble_eq_true rfl, Nat.le_of_ble_eq_true rfl⟩, ⟨Nat.le_of_ble_eq_true rfl, Nat.le_of_ble_eq_true rfl⟩, Nat.le_of_ble_eq_true rfl⟩ rfl rfl (fun h9 hh9 E9 => ?_) (fun h9 hh9 v9 => ?_)
  · exact X_out C (Nat.le_of_ble_eq_true rfl) (Nat.le_of_ble_eq_true rfl) (fun h1 hh1 => ⟨Or.inl ⟨by simp [kAsk, qW_f hn hh1.1.2], hh1.1.1⟩, hh1.2⟩)
  refine WR.imp (P' := fun h1 => ∃ i, (i < n ∧ _ = nI i ∧ v9 = some (.ref (adr (30 + i)))) ∧ Wd G (adr, (n, P, F), Sm, mu, g) h1) (fun h1 q1 => by obtain ⟨⟨z, z1, z2, z3⟩, z4⟩ := q1; exact ⟨z, ⟨z1, z2, z3⟩, z4⟩) ?_
  refine WR.ex (fun i => WR.pr (fun e9 => ?_))
  obtain ⟨hi, ei, e9⟩ := e9
  subst e9
  show WR K G _ _ _ _ _ _ _ (.ref _ :: _)
  subst ei
  refine R_getf (pc := 5) C dX1_drew_5 (i := 10) (wcw hi hn) rfl inlX0 (by decide) k_25_7 rfl ?_
  refine R_ok ?_
  exact R_iret (pc := 8) C dX1_drew_8 rfl (Nat.le_of_ble_eq_true rfl) (Nat.le_of_ble_eq_true rfl) (fun h hh => ⟨⟨by simp [kAsk, qW_t hn hi], by rw [ix_nI (by omega)]⟩, hh⟩)
set_option maxHeartbeats 4000000 in
set_option maxRecDepth 100000 in
theorem mX1_told (hl : l.stackTraces = false) {x : Int32} (hn : n ≤ 8) : ∀ h, Wd G (adr, (n, P, F), Sm, mu, g) h → CT l yX1_told cX1_told 2 (some .int) 4 1 6 [.ref (adr 0), .int x] G h (fun v h1 => (kAsk n x = 0 ∧ v = some (.int (F 12 (ix x)))) ∧ Wd G (adr, (n, P, F), Sm, mu, g) h1) (fun E h1 => exA E (kAsk n x) ∧ Wd G (adr, (n, P, F), Sm, mu, g) h1) := by
  intro h0 hw
  refine CT.of hl (by decide +kernel) rfl (Nat.le_of_ble_eq_true rfl) (fun K sz hKl C => ?_)
  have C : CX K G (AH h0 sz) RX1 cX1_told 2 (some .int) (rmD 4 1 6) [] := C
  subst hKl
  refine WR.imp (P' := Wd G (adr, (n, P, F), Sm, mu, g)) (fun h e => e ▸ hw) ?_
  show WR K G _ _ _ [some (.ref (adr 0)), some (.int x)] 0 0 0 []
  refine R_aload_n (pc := 0) C dX1_told_0 rfl ?_
  refine R_iload_n (pc := 1) C dX1_told_1 rfl ?_
  refine R_callVT (pc := 2) C dX1_told_2 (vs := [_]) (fun h hh => mX1_wellAt hl hn h hh) (isOb_of (wc0) rfl) ⟨k_18_15, k_18_16, k_18_17, k_1_2, k_18_18⟩ (sgn (nv := 1) rfl ⟨by decide +kernel, by decide +kernel, by decide +kernel⟩) ⟨⟨Nat.le_of_ble_eq_true rfl, Nat.le_of_ble_eq_true rfl⟩, ⟨Nat.le_of_ble_eq_true rfl, Nat.le_of_ble_eq_true rfl⟩, Nat.le_of_ble_eq_true rfl⟩ rfl rfl (fun h9 hh9 E9 => ?_) (fun h9 hh9 v9 => ?_)
  · exact X_out C (Nat.le_of_ble_eq_true rfl) (Nat.le_of_ble_eq_true rfl) (fun h1 hh1 => ⟨Or.inl ⟨by simp [kAsk, qW_f hn hh1.1.2], hh1.1.1⟩, hh1.2⟩)
  refine WR.imp (P' := fun h1 => ∃ i, (i < n ∧ _ = nI i ∧ v9 = some (.ref (adr (30 + i)))) ∧ Wd G (adr, (n, P, F), Sm, mu, g) h1) (fun h1 q1 => by obtain ⟨⟨z, z1, z2, z3⟩, z4⟩ := q1; exact ⟨z, ⟨z1, z2, z3⟩, z4⟩) ?_
  refine WR.ex (fun i => WR.pr (fun e9 => ?_))
  obtain ⟨hi, ei, e9⟩ := e9
  subst e9
  show WR K G _ _ _ _ _ _ _ (.ref _ :: _)
  subst ei
  refine R_getf (pc := 5) C dX1_told_5 (i := 11) (wcw hi hn) rfl inlX0 (by decide) k_25_13 rfl ?_
  refine R_ok ?_
  exact R_iret (pc := 8) C dX1_told_8 rfl (Nat.le_of_ble_eq_true rfl) (Nat.le_of_ble_eq_true rfl) (fun h hh => ⟨⟨by simp [kAsk, qW_t hn hi], by rw [ix_nI (by omega)]⟩, hh⟩)
set_option maxHeartbeats 4000000 in
set_option maxRecDepth 100000 in
theorem mX1_bank (hl : l.stackTraces = false) {x : Int32} (hn : n ≤ 8) : ∀ h, Wd G (adr, (n, P, F), Sm, mu, g) h → CT l yX1_bank cX1_bank 2 (some .int) 4 1 6 [.ref (adr 0), .int x] G h (fun v h1 => (kAsk n x = 0 ∧ v = some (.int (F 9 (ix x)))) ∧ Wd G (adr, (n, P, F), Sm, mu, g) h1) (fun E h1 => exA E (kAsk n x) ∧ Wd G (adr, (n, P, F), Sm, mu, g) h1) := by
  intro h0 hw
  refine CT.of hl (by decide +kernel) rfl (Nat.le_of_ble_eq_true rfl) (fun K sz hKl C => ?_)
  have C : CX K G (AH h0 sz) RX1 cX1_bank 2 (some .int) (rmD 4 1 6) [] := C
  subst hKl
  refine WR.imp (P' := Wd G (adr, (n, P, F), Sm, mu, g)) (fun h e => e ▸ hw) ?_
  show WR K G _ _ _ [some (.ref (adr 0)), some (.int x)] 0 0 0 []
  refine R_aload_n (pc := 0) C dX1_bank_0 rfl ?_
  refine R_iload_n (pc := 1) C dX1_bank_1 rfl ?_
  refine R_callVT (pc := 2) C dX1_bank_2 (vs := [_]) (fun h hh => mX1_wellAt hl hn h hh) (isOb_of (wc0) rfl) ⟨k_18_15, k_18_16, k_18_17, k_1_2, k_18_18⟩ (sgn (nv := 1) rfl ⟨by decide +kernel, by decide +kernel, by decide +kernel⟩) ⟨⟨Nat.le_of_ble_eq_true rfl, Nat.le_of_ble_eq_true rfl⟩, ⟨Nat.le_of_ble_eq_true rfl, Nat.le_of_ble_eq_true rfl⟩, Nat.le_of_ble_eq_true rfl⟩ rfl rfl (fun h9 hh9 E9 => ?_) (fun h9 hh9 v9 => ?_)
  · exact X_out C (Nat.le_of_ble_eq_true rfl) (Nat.le_of_ble_eq_true rfl) (fun h1 hh1 => ⟨Or.inl ⟨by simp [kAsk, qW_f hn hh1.1.2], hh1.1.1⟩, hh1.2⟩)
  refine WR.imp (P' := fun h1 => ∃ i, (i < n ∧ _ = nI i ∧ v9 = some (.ref (adr (30 + i)))) ∧ Wd G (adr, (n, P, F), Sm, mu, g) h1) (fun h1 q1 => by obtain ⟨⟨z, z1, z2, z3⟩, z4⟩ := q1; exact ⟨z, ⟨z1, z2, z3⟩, z4⟩) ?_
  refine WR.ex (fun i => WR.pr (fun e9 => ?_))
  obtain ⟨hi, ei, e9⟩ := e9
  subst e9
  show WR K G _ _ _ _ _ _ _ (.ref _ :: _)
  subst ei
  refine R_getf (pc := 5) C dX1_bank_5 (i := 14) (wcw hi hn) rfl inlX0 (by decide) k_23_12 rfl ?_
  refine R_ok ?_
  exact R_iret (pc := 8) C dX1_bank_8 rfl (Nat.le_of_ble_eq_true rfl) (Nat.le_of_ble_eq_true rfl) (fun h hh => ⟨⟨by simp [kAsk, qW_t hn hi], by rw [ix_nI (by omega)]⟩, hh⟩)
set_option maxHeartbeats 4000000 in
set_option maxRecDepth 100000 in
theorem mX1_fines (hl : l.stackTraces = false) {x : Int32} (hn : n ≤ 8) : ∀ h, Wd G (adr, (n, P, F), Sm, mu, g) h → CT l yX1_fines cX1_fines 2 (some .int) 4 1 6 [.ref (adr 0), .int x] G h (fun v h1 => (kAsk n x = 0 ∧ v = some (.int (F 10 (ix x)))) ∧ Wd G (adr, (n, P, F), Sm, mu, g) h1) (fun E h1 => exA E (kAsk n x) ∧ Wd G (adr, (n, P, F), Sm, mu, g) h1) := by
  intro h0 hw
  refine CT.of hl (by decide +kernel) rfl (Nat.le_of_ble_eq_true rfl) (fun K sz hKl C => ?_)
  have C : CX K G (AH h0 sz) RX1 cX1_fines 2 (some .int) (rmD 4 1 6) [] := C
  subst hKl
  refine WR.imp (P' := Wd G (adr, (n, P, F), Sm, mu, g)) (fun h e => e ▸ hw) ?_
  show WR K G _ _ _ [some (.ref (adr 0)), some (.int x)] 0 0 0 []
  refine R_aload_n (pc := 0) C dX1_fines_0 rfl ?_
  refine R_iload_n (pc := 1) C dX1_fines_1 rfl ?_
  refine R_callVT (pc := 2) C dX1_fines_2 (vs := [_]) (fun h hh => mX1_wellAt hl hn h hh) (isOb_of (wc0) rfl) ⟨k_18_15, k_18_16, k_18_17, k_1_2, k_18_18⟩ (sgn (nv := 1) rfl ⟨by decide +kernel, by decide +kernel, by decide +kernel⟩) ⟨⟨Nat.le_of_ble_eq_true rfl, Nat.le_of_ble_eq_true rfl⟩, ⟨Nat.le_of_ble_eq_true rfl, Nat.le_of_ble_eq_true rfl⟩, Nat.le_of_ble_eq_true rfl⟩ rfl rfl (fun h9 hh9 E9 => ?_) (fun h9 hh9 v9 => ?_)
  · exact X_out C (Nat.le_of_ble_eq_true rfl) (Nat.le_of_ble_eq_true rfl) (fun h1 hh1 => ⟨Or.inl ⟨by simp [kAsk, qW_f hn hh1.1.2], hh1.1.1⟩, hh1.2⟩)
  refine WR.imp (P' := fun h1 => ∃ i, (i < n ∧ _ = nI i ∧ v9 = some (.ref (adr (30 + i)))) ∧ Wd G (adr, (n, P, F), Sm, mu, g) h1) (fun h1 q1 => by obtain ⟨⟨z, z1, z2, z3⟩, z4⟩ := q1; exact ⟨z, ⟨z1, z2, z3⟩, z4⟩) ?_
  refine WR.ex (fun i => WR.pr (fun e9 => ?_))
  obtain ⟨hi, ei, e9⟩ := e9
  subst e9
  show WR K G _ _ _ _ _ _ _ (.ref _ :: _)
  subst ei
  refine R_getf (pc := 5) C dX1_fines_5 (i := 15) (wcw hi hn) rfl inlX0 (by decide) k_26_5 rfl ?_
  refine R_ok ?_
  exact R_iret (pc := 8) C dX1_fines_8 rfl (Nat.le_of_ble_eq_true rfl) (Nat.le_of_ble_eq_true rfl) (fun h hh => ⟨⟨by simp [kAsk, qW_t hn hi], by rw [ix_nI (by omega)]⟩, hh⟩)
end
