/-! 10: the methods of Well, on a well of the world. Written by wip/p22/gen/m10.py -/
/-- number i among the stopped, a mask -/
def mBit (i : Nat) : Int32 := 1 <<< (nI i &&& 31)
def mIn (S : Int32) (i : Nat) : Bool := decide (¬ S &&& mBit i = 0)
/-- i is older than j -/
abbrev spOld (F : Nat → Nat → Int32) (i j : Nat) : Prop := F 4 i < F 4 j ∨ (F 4 i = F 4 j ∧ nI i < nI j)
def spDrawM (F : Nat → Nat → Int32) (S : Int32) (i : Nat) : Int32 := if mIn S i = true then 0 else F 6 i
/-- the reach of a layer and a place on a well at a layer and a place, as the class reckons -/
def absI (x : Int32) : Int32 := if 0 ≤ x then x else 0 - x
def spReachC (lw pw lo po : Int32) : Int32 :=
  let r : Int32 := if (0 : Int32) < 100 - 10 * absI (pw - po) then 100 - 10 * absI (pw - po) else 0
  if absI (lw - lo) = 0 then r else if absI (lw - lo) = 1 then r / 2 else 0
section
variable {l : Launch} {G : GT} {adr : Nat → Nat} {n P : Nat} {F mu : Nat → Nat → Int32} {g : Nat → Int64} {Sm : St}
set_option maxHeartbeats 4000000 in
set_option maxRecDepth 100000 in
theorem mX0_bit (hl : l.stackTraces = false) {i : Nat} (hi : i < n) (hn : n ≤ 8) : ∀ h, Wd G (adr, (n, P, F), Sm, mu, g) h → CN l yX0_bit cX0_bit 1 (some .int) 0 0 0 [.ref (adr (30 + i))] G h (fun v h1 => v = some (.int (mBit i)) ∧ Wd G (adr, (n, P, F), Sm, mu, g) h1) := by
  intro h0 hw
  refine CN.of hl (by decide +kernel) rfl (Nat.le_of_ble_eq_true rfl) (fun K sz hKl hin C => ?_)
  have C : CX K G (AH h0 sz) RX0 cX0_bit 1 (some .int) (rmD 0 0 0) [] := C
  subst hKl
  refine WR.imp (P' := Wd G (adr, (n, P, F), Sm, mu, g)) (fun h e => e ▸ hw) ?_
  show WR K G _ _ _ [some (.ref (adr (30 + i)))] 0 0 0 []
  refine R_iconst (pc := 0) C dX0_bit_0 (v := 1) (by decide) ?_
  refine R_aload_n (pc := 1) C dX0_bit_1 rfl ?_
  refine R_getf (pc := 2) C dX0_bit_2 (i := 0) (wcw hi hn) rfl inlX0 (by decide) k_4_3 rfl ?_
  refine R_ishl (pc := 5) C dX0_bit_5 ?_
  exact R_iret (pc := 6) C dX0_bit_6 rfl (Nat.le_of_ble_eq_true rfl) (Nat.le_of_ble_eq_true rfl) (fun h hh => ⟨by rfl, hh⟩)
set_option maxHeartbeats 4000000 in
set_option maxRecDepth 100000 in
theorem mX0_isIn (hl : l.stackTraces = false) {i : Nat} {S : Int32} (hi : i < n) (hn : n ≤ 8) : ∀ h, Wd G (adr, (n, P, F), Sm, mu, g) h → CN l yX0_isIn cX0_isIn 2 (some .boolean) 1 0 0 [.ref (adr (30 + i)), .int S] G h (fun v h1 => v = some (.int (if mIn S i = true then 1 else 0)) ∧ Wd G (adr, (n, P, F), Sm, mu, g) h1) := by
  intro h0 hw
  refine CN.of hl (by decide +kernel) rfl (Nat.le_of_ble_eq_true rfl) (fun K sz hKl hin C => ?_)
  have C : CX K G (AH h0 sz) RX0 cX0_isIn 2 (some .boolean) (rmD 1 0 0) [] := C
  subst hKl
  refine WR.imp (P' := Wd G (adr, (n, P, F), Sm, mu, g)) (fun h e => e ▸ hw) ?_
  show WR K G _ _ _ [some (.ref (adr (30 + i))), some (.int S)] 0 0 0 []
  refine R_iload_n (pc := 0) C dX0_isIn_0 rfl ?_
  refine R_aload_n (pc := 1) C dX0_isIn_1 rfl ?_
  refine R_callVN (pc := 2) C dX0_isIn_2 (vs := []) (fun h hh => mX0_bit hl hi hn h hh) (isOb_of (wcw hi hn) rfl) ⟨k_20_18, k_20_19, k_20_20, k_3_7, k_20_21⟩ (sgn (nv := 0) rfl ⟨by decide +kernel, by decide +kernel, by decide +kernel⟩) ⟨⟨Nat.le_of_ble_eq_true rfl, Nat.le_of_ble_eq_true rfl⟩, ⟨Nat.le_of_ble_eq_true rfl, Nat.le_of_ble_eq_true rfl⟩, Nat.le_of_ble_eq_true rfl⟩ rfl rfl (fun h9 hh9 v9 => ?_)
  refine WR.pr (fun e9 => ?_)
  subst e9
  show WR K G _ _ _ _ 0 0 _ (.int _ :: _)
  refine R_iand (pc := 5) C dX0_isIn_5 ?_
  refine R_if_eq (pc := 6) C dX0_isIn_6 (tgt := 13) (by decide) (fun c6 => ?_) (fun c6 => ?_)
  · refine R_iconst (pc := 13) C dX0_isIn_13 (v := 0) (by decide) ?_
    exact R_zret (pc := 14) C dX0_isIn_14 rfl rfl (Nat.le_of_ble_eq_true rfl) (Nat.le_of_ble_eq_true rfl) (fun h hh => ⟨by simp [mIn, c6], hh⟩)
  · refine R_iconst (pc := 9) C dX0_isIn_9 (v := 1) (by decide) ?_
    refine R_goto (pc := 10) C dX0_isIn_10 (tgt := 14) (by decide) ?_
    exact R_zret (pc := 14) C dX0_isIn_14 rfl rfl (Nat.le_of_ble_eq_true rfl) (Nat.le_of_ble_eq_true rfl) (fun h hh => ⟨by simp [mIn, c6], hh⟩)
set_option maxHeartbeats 4000000 in
set_option maxRecDepth 100000 in
theorem mX0_isOlderThan (hl : l.stackTraces = false) {i j : Nat} (hi : i < n) (hj : j < n) (hn : n ≤ 8) : ∀ h, Wd G (adr, (n, P, F), Sm, mu, g) h → CN l yX0_isOlderThan cX0_isOlderThan 2 (some .boolean) 0 0 0 [.ref (adr (30 + i)), .ref (adr (30 + j))] G h (fun v h1 => v = some (.int (if spOld F i j then 1 else 0)) ∧ Wd G (adr, (n, P, F), Sm, mu, g) h1) := by
  intro h0 hw
  refine CN.of hl (by decide +kernel) rfl (Nat.le_of_ble_eq_true rfl) (fun K sz hKl hin C => ?_)
  have C : CX K G (AH h0 sz) RX0 cX0_isOlderThan 2 (some .boolean) (rmD 0 0 0) [] := C
  subst hKl
  refine WR.imp (P' := Wd G (adr, (n, P, F), Sm, mu, g)) (fun h e => e ▸ hw) ?_
  show WR K G _ _ _ [some (.ref (adr (30 + i))), some (.ref (adr (30 + j)))] 0 0 0 []
  refine R_aload_n (pc := 0) C dX0_isOlderThan_0 rfl ?_
  refine R_getf (pc := 1) C dX0_isOlderThan_1 (i := 4) (wcw hi hn) rfl inlX0 (by decide) k_4_8 rfl ?_
  refine R_aload_n (pc := 4) C dX0_isOlderThan_4 rfl ?_
  refine R_getf (pc := 5) C dX0_isOlderThan_5 (i := 4) (wcw hj hn) rfl inlX0 (by decide) k_4_8 rfl ?_
  refine R_icmp_lt (pc := 8) C dX0_isOlderThan_8 (tgt := 33) (by decide) (fun c8 => ?_) (fun c8 => ?_)
  · refine R_iconst (pc := 33) C dX0_isOlderThan_33 (v := 1) (by decide) ?_
    refine R_goto (pc := 34) C dX0_isOlderThan_34 (tgt := 38) (by decide) ?_
    exact R_zret (pc := 38) C dX0_isOlderThan_38 rfl rfl (Nat.le_of_ble_eq_true rfl) (Nat.le_of_ble_eq_true rfl) (fun h hh => ⟨by exact congrArg (fun z => some (Value.int z)) (if_pos (Or.inl c8)).symm, hh⟩)
  · refine R_aload_n (pc := 11) C dX0_isOlderThan_11 rfl ?_
    refine R_getf (pc := 12) C dX0_isOlderThan_12 (i := 4) (wcw hi hn) rfl inlX0 (by decide) k_4_8 rfl ?_
    refine R_aload_n (pc := 15) C dX0_isOlderThan_15 rfl ?_
    refine R_getf (pc := 16) C dX0_isOlderThan_16 (i := 4) (wcw hj hn) rfl inlX0 (by decide) k_4_8 rfl ?_
    refine R_icmp_ne (pc := 19) C dX0_isOlderThan_19 (tgt := 37) (by decide) (fun c19 => ?_) (fun c19 => ?_)
    · refine R_iconst (pc := 37) C dX0_isOlderThan_37 (v := 0) (by decide) ?_
      exact R_zret (pc := 38) C dX0_isOlderThan_38 rfl rfl (Nat.le_of_ble_eq_true rfl) (Nat.le_of_ble_eq_true rfl) (fun h hh => ⟨by exact congrArg (fun z => some (Value.int z)) (if_neg (fun q => q.elim c8 (fun z => c19 z.1))).symm, hh⟩)
    · refine R_aload_n (pc := 22) C dX0_isOlderThan_22 rfl ?_
      refine R_getf (pc := 23) C dX0_isOlderThan_23 (i := 0) (wcw hi hn) rfl inlX0 (by decide) k_4_3 rfl ?_
      refine R_aload_n (pc := 26) C dX0_isOlderThan_26 rfl ?_
      refine R_getf (pc := 27) C dX0_isOlderThan_27 (i := 0) (wcw hj hn) rfl inlX0 (by decide) k_4_3 rfl ?_
      refine R_icmp_ge (pc := 30) C dX0_isOlderThan_30 (tgt := 37) (by decide) (fun c30 => ?_) (fun c30 => ?_)
      · refine R_iconst (pc := 37) C dX0_isOlderThan_37 (v := 0) (by decide) ?_
        exact R_zret (pc := 38) C dX0_isOlderThan_38 rfl rfl (Nat.le_of_ble_eq_true rfl) (Nat.le_of_ble_eq_true rfl) (fun h hh => ⟨by exact congrArg (fun z => some (Value.int z)) (if_neg (fun q => q.elim c8 (fun z => absurd z.2 (Int32.not_lt.mpr c30)))).symm, hh⟩)
      · refine R_iconst (pc := 33) C dX0_isOlderThan_33 (v := 1) (by decide) ?_
        refine R_goto (pc := 34) C dX0_isOlderThan_34 (tgt := 38) (by decide) ?_
        exact R_zret (pc := 38) C dX0_isOlderThan_38 rfl rfl (Nat.le_of_ble_eq_true rfl) (Nat.le_of_ble_eq_true rfl) (fun h hh => ⟨by exact congrArg (fun z => some (Value.int z)) (if_pos (Or.inr ⟨c19, Int32.not_le.mp c30⟩)).symm, hh⟩)
set_option maxHeartbeats 4000000 in
set_option maxRecDepth 100000 in
theorem mX0_drawUnder (hl : l.stackTraces = false) {i : Nat} {S : Int32} (hi : i < n) (hn : n ≤ 8) : ∀ h, Wd G (adr, (n, P, F), Sm, mu, g) h → CN l yX0_drawUnder cX0_drawUnder 2 (some .int) 2 0 0 [.ref (adr (30 + i)), .int S] G h (fun v h1 => v = some (.int (spDrawM F S i)) ∧ Wd G (adr, (n, P, F), Sm, mu, g) h1) := by
  intro h0 hw
  refine CN.of hl (by decide +kernel) rfl (Nat.le_of_ble_eq_true rfl) (fun K sz hKl hin C => ?_)
  have C : CX K G (AH h0 sz) RX0 cX0_drawUnder 2 (some .int) (rmD 2 0 0) [] := C
  subst hKl
  refine WR.imp (P' := Wd G (adr, (n, P, F), Sm, mu, g)) (fun h e => e ▸ hw) ?_
  show WR K G _ _ _ [some (.ref (adr (30 + i))), some (.int S)] 0 0 0 []
  refine R_aload_n (pc := 0) C dX0_drawUnder_0 rfl ?_
  refine R_iload_n (pc := 1) C dX0_drawUnder_1 rfl ?_
  refine R_callVN (pc := 2) C dX0_drawUnder_2 (vs := [_]) (fun h hh => mX0_isIn hl hi hn h hh) (isOb_of (wcw hi hn) rfl) ⟨k_20_14, k_20_15, k_20_16, k_3_7, k_20_17⟩ (sgn (nv := 1) rfl ⟨by decide +kernel, by decide +kernel, by decide +kernel⟩) ⟨⟨Nat.le_of_ble_eq_true rfl, Nat.le_of_ble_eq_true rfl⟩, ⟨Nat.le_of_ble_eq_true rfl, Nat.le_of_ble_eq_true rfl⟩, Nat.le_of_ble_eq_true rfl⟩ rfl rfl (fun h9 hh9 v9 => ?_)
  refine WR.pr (fun e9 => ?_)
  subst e9
  show WR K G _ _ _ _ 0 0 _ (.int _ :: _)
  refine R_if_eq (pc := 5) C dX0_drawUnder_5 (tgt := 12) (by decide) (fun c5 => ?_) (fun c5 => ?_)
  · refine R_aload_n (pc := 12) C dX0_drawUnder_12 rfl ?_
    refine R_getf (pc := 13) C dX0_drawUnder_13 (i := 9) (wcw hi hn) rfl inlX0 (by decide) k_20_13 rfl ?_
    exact R_iret (pc := 16) C dX0_drawUnder_16 rfl (Nat.le_of_ble_eq_true rfl) (Nat.le_of_ble_eq_true rfl) (fun h hh => ⟨by revert c5; unfold spDrawM; cases mIn S i <;> simp, hh⟩)
  · refine R_iconst (pc := 8) C dX0_drawUnder_8 (v := 0) (by decide) ?_
    refine R_goto (pc := 9) C dX0_drawUnder_9 (tgt := 16) (by decide) ?_
    exact R_iret (pc := 16) C dX0_drawUnder_16 rfl (Nat.le_of_ble_eq_true rfl) (Nat.le_of_ble_eq_true rfl) (fun h hh => ⟨by revert c5; unfold spDrawM; cases mIn S i <;> simp, hh⟩)
set_option maxHeartbeats 4000000 in
set_option maxRecDepth 100000 in
theorem mX0_reachedFrom (hl : l.stackTraces = false) {i : Nat} {lo po : Int32} (hi : i < n) (hn : n ≤ 8) : ∀ h, Wd G (adr, (n, P, F), Sm, mu, g) h → CN l yX0_reachedFrom cX0_reachedFrom 5 (some .int) 0 0 0 [.ref (adr (30 + i)), .int lo, .int po] G h (fun v h1 => v = some (.int (spReachC (F 0 i) (F 1 i) lo po)) ∧ Wd G (adr, (n, P, F), Sm, mu, g) h1) := by
  intro h0 hw
  refine CN.of hl (by decide +kernel) rfl (Nat.le_of_ble_eq_true rfl) (fun K sz hKl hin C => ?_)
  have C : CX K G (AH h0 sz) RX0 cX0_reachedFrom 5 (some .int) (rmD 0 0 0) [] := C
  subst hKl
  refine WR.imp (P' := Wd G (adr, (n, P, F), Sm, mu, g)) (fun h e => e ▸ hw) ?_
  show WR K G _ _ _ [some (.ref (adr (30 + i))), some (.int lo), some (.int po), none, none] 0 0 0 []
  refine R_iconst (pc := 0) C dX0_reachedFrom_0 (v := 0) (by decide) ?_
  refine R_bipush (pc := 1) C dX0_reachedFrom_1 (v := 100) (by decide) ?_
  refine R_bipush (pc := 3) C dX0_reachedFrom_3 (v := 10) (by decide) ?_
  refine R_aload_n (pc := 5) C dX0_reachedFrom_5 rfl ?_
  refine R_getf (pc := 6) C dX0_reachedFrom_6 (i := 2) (wcw hi hn) rfl inlX0 (by decide) k_4_5 rfl ?_
  refine R_iload_n (pc := 9) C dX0_reachedFrom_9 rfl ?_
  refine R_isub (pc := 10) C dX0_reachedFrom_10 ?_
  refine R_mabs (pc := 11) C dX0_reachedFrom_11 k_20_2 rfl ⟨Nat.le_of_ble_eq_true rfl, Nat.le_of_ble_eq_true rfl⟩ ⟨Nat.le_of_ble_eq_true rfl, Nat.le_of_ble_eq_true rfl⟩ ?_
  refine R_imul (pc := 14) C dX0_reachedFrom_14 ?_
  refine R_isub (pc := 15) C dX0_reachedFrom_15 ?_
  refine R_mmax (pc := 16) C dX0_reachedFrom_16 k_20_5 rfl ⟨Nat.le_of_ble_eq_true rfl, Nat.le_of_ble_eq_true rfl⟩ ⟨Nat.le_of_ble_eq_true rfl, Nat.le_of_ble_eq_true rfl⟩ ?_
  refine R_istore_n (pc := 19) C dX0_reachedFrom_19 (Nat.le_of_ble_eq_true rfl) (lv' := [some (.ref _), some (.int _), some (.int _), some (.int _), none]) rfl ?_
  refine R_aload_n (pc := 20) C dX0_reachedFrom_20 rfl ?_
  refine R_getf (pc := 21) C dX0_reachedFrom_21 (i := 1) (wcw hi hn) rfl inlX0 (by decide) k_4_4 rfl ?_
  refine R_iload_n (pc := 24) C dX0_reachedFrom_24 rfl ?_
  refine R_isub (pc := 25) C dX0_reachedFrom_25 ?_
  refine R_mabs (pc := 26) C dX0_reachedFrom_26 k_20_2 rfl ⟨Nat.le_of_ble_eq_true rfl, Nat.le_of_ble_eq_true rfl⟩ ⟨Nat.le_of_ble_eq_true rfl, Nat.le_of_ble_eq_true rfl⟩ ?_
  refine R_istore (pc := 29) C dX0_reachedFrom_29 (Nat.le_of_ble_eq_true rfl) (lv' := [some (.ref _), some (.int _), some (.int _), some (.int _), some (.int _)]) rfl ?_
  refine R_iload (pc := 31) C dX0_reachedFrom_31 rfl ?_
  refine R_if_ne (pc := 33) C dX0_reachedFrom_33 (tgt := 38) (by decide) (fun c33 => ?_) (fun c33 => ?_)
  · refine R_iload (pc := 38) C dX0_reachedFrom_38 rfl ?_
    refine R_iconst (pc := 40) C dX0_reachedFrom_40 (v := 1) (by decide) ?_
    refine R_icmp_ne (pc := 41) C dX0_reachedFrom_41 (tgt := 50) (by decide) (fun c41 => ?_) (fun c41 => ?_)
    · refine R_iconst (pc := 50) C dX0_reachedFrom_50 (v := 0) (by decide) ?_
      exact R_iret (pc := 51) C dX0_reachedFrom_51 rfl (Nat.le_of_ble_eq_true rfl) (Nat.le_of_ble_eq_true rfl) (fun h hh => ⟨by simp only [spReachC, absI, *]; rfl, hh⟩)
    · refine R_iload_n (pc := 44) C dX0_reachedFrom_44 rfl ?_
      refine R_iconst (pc := 45) C dX0_reachedFrom_45 (v := 2) (by decide) ?_
      refine R_idiv (pc := 46) C dX0_reachedFrom_46 (by decide) ?_
      refine R_goto (pc := 47) C dX0_reachedFrom_47 (tgt := 51) (by decide) ?_
      exact R_iret (pc := 51) C dX0_reachedFrom_51 rfl (Nat.le_of_ble_eq_true rfl) (Nat.le_of_ble_eq_true rfl) (fun h hh => ⟨by simp only [spReachC, absI, *]; rfl, hh⟩)
  · refine R_iload_n (pc := 36) C dX0_reachedFrom_36 rfl ?_
    exact R_iret (pc := 37) C dX0_reachedFrom_37 rfl (Nat.le_of_ble_eq_true rfl) (Nat.le_of_ble_eq_true rfl) (fun h hh => ⟨by simp only [spReachC, absI, *]; rfl, hh⟩)
end
