/-! 45: the law's calls of the class, with their handlers. Written by wip/whole/gen/m45.py -/
/-- how a call of the class ends in the law -/
def lPo (code val : Int32) (g : Nat → Int64) (W0 W1 : (Nat → Int64) → Hp → Prop) (v : Option Value) (h1 : Hp) : Prop := (code = 0 ∧ v = some (.int 0) ∧ W1 (vp_updL g 0 val.toInt64) h1) ∨ (¬ code = 0 ∧ v = some (.int code) ∧ W0 g h1)
theorem X_pr {K : KT} {G : GT} {A : Nat → Prop} {Q : State → Prop} {lv : List (Option Value)} {k n pc : Nat} {st : List Value} {E : String} {p9 : Prop} {P : Hp → Prop} (kk : p9 → WX K G A Q P lv k n pc st E) : WX K G A Q (fun h => p9 ∧ P h) lv k n pc st E := fun h H locs ls q ce hp => kk hp.1 h H locs ls q ce hp.2
section
variable {l : Launch} {G : GT} {adr : Nat → Nat} {n P nm Pm : Nat} {F Fm mu : Nat → Nat → Int32} {g : Nat → Int64}
set_option maxHeartbeats 4000000 in
set_option maxRecDepth 100000 in
theorem mL_level (hl : l.stackTraces = false) {x : Int32} (hn : n ≤ 8) : ∀ h, Wd G (adr, (n, P, F), (nm, Pm, Fm), mu, g) h → CW l yL_level cL_level 4 (some .int) [(0, 9, 12, 13)] 5 1 6 [.ref (adr 0), .int x, .ref (adr 24)] G h (fun v h1 => lPo (kAsk n x) (F 2 (ix x)) g (fun g9 => Wd G (adr, (n, P, F), (nm, Pm, Fm), mu, g9)) (fun g9 => Wd G (adr, (n, P, F), (nm, Pm, Fm), mu, g9)) v h1) := by
  intro h0 hwd
  refine CW.of hl (by decide +kernel) rfl (Nat.le_of_ble_eq_true rfl) (fun K sz hKl C => ?_)
  have C : CX K G (AH h0 sz) RL cL_level 4 (some .int) (rmD 5 1 6) [⟨0, 9, 12, 13⟩] := C
  subst hKl
  refine WR.imp (P' := Wd G (adr, (n, P, F), (nm, Pm, Fm), mu, g)) (fun h e => e ▸ hwd) ?_
  show WR K G _ _ _ [some (.ref (adr 0)), some (.int x), some (.ref (adr 24)), none] 0 0 0 []
  refine R_aload_n (pc := 0) C dL_level_0 rfl ?_
  refine R_iconst (pc := 1) C dL_level_1 (v := 0) (by decide) ?_
  refine R_aload_n (pc := 2) C dL_level_2 rfl ?_
  refine R_iload_n (pc := 3) C dL_level_3 rfl ?_
  refine R_callVT (pc := 4) C dL_level_4 (vs := [_]) (fun h hh => mX1_level hl hn h hh) (isOb_of (wc0) rfl) ⟨k_21_12, k_21_13, k_21_14, k_1_2, k_21_15⟩ (sgn (nv := 1) rfl ⟨by decide +kernel, by decide +kernel, by decide +kernel⟩) ⟨⟨Nat.le_of_ble_eq_true rfl, Nat.le_of_ble_eq_true rfl⟩, ⟨Nat.le_of_ble_eq_true rfl, Nat.le_of_ble_eq_true rfl⟩, Nat.le_of_ble_eq_true rfl⟩ rfl rfl (fun h9 hh9 E9 => ?_) (fun h9 hh9 v9 => ?_)
  · refine X_pr (fun q9 => ?_)
    rcases q9 with ⟨q8, rfl⟩ | ⟨q8, rfl⟩ | ⟨q8, rfl⟩
    · refine X_catch C [] ⟨0, 9, 12, 13⟩ [] rfl (fun z hz => by cases hz) (by decide) (by decide) k_3_17 (C.st.2.2.2.2.2.2.2.1.2.1) (fun q => ?_)
      refine R_astore_n (pc := 12) C dL_level_12 (Nat.le_of_ble_eq_true rfl) (lv' := [some (.ref _), some (.int _), some (.ref _), some (.ref _)]) rfl ?_
      refine R_iconst (pc := 13) C dL_level_13 (v := 1) (by decide) ?_
      refine R_ok ?_
      exact R_iret (pc := 14) C dL_level_14 rfl (Nat.le_of_ble_eq_true rfl) (Nat.le_of_ble_eq_true rfl) (fun h hh => Or.inr ⟨by rw [q8]; decide, by rw [q8], hh⟩)
    · exact absurd q8 (by unfold kAsk; (repeat' split) <;> decide)
    · exact absurd q8 (by unfold kAsk; (repeat' split) <;> decide)
  refine WR.pr (fun e9 => ?_)
  obtain ⟨hk, e9⟩ := e9
  subst e9
  show WR K G _ _ _ _ _ _ _ (.int _ :: _)
  refine R_i2l (pc := 7) C dL_level_7 ?_
  refine R_last (pc := 8) C dL_level_8 (wm_g) ((rfl : _ = nI 0)) (by decide) (by decide) (pm_out) ?_
  refine R_goto (pc := 9) C dL_level_9 (tgt := 15) (by decide) ?_
  refine R_iconst (pc := 15) C dL_level_15 (v := 0) (by decide) ?_
  refine R_ok ?_
  exact R_iret (pc := 16) C dL_level_16 rfl (Nat.le_of_ble_eq_true rfl) (Nat.le_of_ble_eq_true rfl) (fun h hh => Or.inl ⟨hk, rfl, hh⟩)
set_option maxHeartbeats 4000000 in
set_option maxRecDepth 100000 in
theorem mL_drew (hl : l.stackTraces = false) {x : Int32} (hn : n ≤ 8) : ∀ h, Wd G (adr, (n, P, F), (nm, Pm, Fm), mu, g) h → CW l yL_drew cL_drew 4 (some .int) [(0, 9, 12, 13)] 5 1 6 [.ref (adr 0), .int x, .ref (adr 24)] G h (fun v h1 => lPo (kAsk n x) (F 11 (ix x)) g (fun g9 => Wd G (adr, (n, P, F), (nm, Pm, Fm), mu, g9)) (fun g9 => Wd G (adr, (n, P, F), (nm, Pm, Fm), mu, g9)) v h1) := by
  intro h0 hwd
  refine CW.of hl (by decide +kernel) rfl (Nat.le_of_ble_eq_true rfl) (fun K sz hKl C => ?_)
  have C : CX K G (AH h0 sz) RL cL_drew 4 (some .int) (rmD 5 1 6) [⟨0, 9, 12, 13⟩] := C
  subst hKl
  refine WR.imp (P' := Wd G (adr, (n, P, F), (nm, Pm, Fm), mu, g)) (fun h e => e ▸ hwd) ?_
  show WR K G _ _ _ [some (.ref (adr 0)), some (.int x), some (.ref (adr 24)), none] 0 0 0 []
  refine R_aload_n (pc := 0) C dL_drew_0 rfl ?_
  refine R_iconst (pc := 1) C dL_drew_1 (v := 0) (by decide) ?_
  refine R_aload_n (pc := 2) C dL_drew_2 rfl ?_
  refine R_iload_n (pc := 3) C dL_drew_3 rfl ?_
  refine R_callVT (pc := 4) C dL_drew_4 (vs := [_]) (fun h hh => mX1_drew hl hn h hh) (isOb_of (wc0) rfl) ⟨k_28_19, k_28_20, k_28_21, k_1_2, k_28_22⟩ (sgn (nv := 1) rfl ⟨by decide +kernel, by decide +kernel, by decide +kernel⟩) ⟨⟨Nat.le_of_ble_eq_true rfl, Nat.le_of_ble_eq_true rfl⟩, ⟨Nat.le_of_ble_eq_true rfl, Nat.le_of_ble_eq_true rfl⟩, Nat.le_of_ble_eq_true rfl⟩ rfl rfl (fun h9 hh9 E9 => ?_) (fun h9 hh9 v9 => ?_)
  · refine X_pr (fun q9 => ?_)
    rcases q9 with ⟨q8, rfl⟩ | ⟨q8, rfl⟩ | ⟨q8, rfl⟩
    · refine X_catch C [] ⟨0, 9, 12, 13⟩ [] rfl (fun z hz => by cases hz) (by decide) (by decide) k_3_17 (C.st.2.2.2.2.2.2.2.1.2.1) (fun q => ?_)
      refine R_astore_n (pc := 12) C dL_drew_12 (Nat.le_of_ble_eq_true rfl) (lv' := [some (.ref _), some (.int _), some (.ref _), some (.ref _)]) rfl ?_
      refine R_iconst (pc := 13) C dL_drew_13 (v := 1) (by decide) ?_
      refine R_ok ?_
      exact R_iret (pc := 14) C dL_drew_14 rfl (Nat.le_of_ble_eq_true rfl) (Nat.le_of_ble_eq_true rfl) (fun h hh => Or.inr ⟨by rw [q8]; decide, by rw [q8], hh⟩)
    · exact absurd q8 (by unfold kAsk; (repeat' split) <;> decide)
    · exact absurd q8 (by unfold kAsk; (repeat' split) <;> decide)
  refine WR.pr (fun e9 => ?_)
  obtain ⟨hk, e9⟩ := e9
  subst e9
  show WR K G _ _ _ _ _ _ _ (.int _ :: _)
  refine R_i2l (pc := 7) C dL_drew_7 ?_
  refine R_last (pc := 8) C dL_drew_8 (wm_g) ((rfl : _ = nI 0)) (by decide) (by decide) (pm_out) ?_
  refine R_goto (pc := 9) C dL_drew_9 (tgt := 15) (by decide) ?_
  refine R_iconst (pc := 15) C dL_drew_15 (v := 0) (by decide) ?_
  refine R_ok ?_
  exact R_iret (pc := 16) C dL_drew_16 rfl (Nat.le_of_ble_eq_true rfl) (Nat.le_of_ble_eq_true rfl) (fun h hh => Or.inl ⟨hk, rfl, hh⟩)
set_option maxHeartbeats 4000000 in
set_option maxRecDepth 100000 in
theorem mL_told (hl : l.stackTraces = false) {x : Int32} (hn : n ≤ 8) : ∀ h, Wd G (adr, (n, P, F), (nm, Pm, Fm), mu, g) h → CW l yL_told cL_told 4 (some .int) [(0, 9, 12, 13)] 5 1 6 [.ref (adr 0), .int x, .ref (adr 24)] G h (fun v h1 => lPo (kAsk n x) (F 12 (ix x)) g (fun g9 => Wd G (adr, (n, P, F), (nm, Pm, Fm), mu, g9)) (fun g9 => Wd G (adr, (n, P, F), (nm, Pm, Fm), mu, g9)) v h1) := by
  intro h0 hwd
  refine CW.of hl (by decide +kernel) rfl (Nat.le_of_ble_eq_true rfl) (fun K sz hKl C => ?_)
  have C : CX K G (AH h0 sz) RL cL_told 4 (some .int) (rmD 5 1 6) [⟨0, 9, 12, 13⟩] := C
  subst hKl
  refine WR.imp (P' := Wd G (adr, (n, P, F), (nm, Pm, Fm), mu, g)) (fun h e => e ▸ hwd) ?_
  show WR K G _ _ _ [some (.ref (adr 0)), some (.int x), some (.ref (adr 24)), none] 0 0 0 []
  refine R_aload_n (pc := 0) C dL_told_0 rfl ?_
  refine R_iconst (pc := 1) C dL_told_1 (v := 0) (by decide) ?_
  refine R_aload_n (pc := 2) C dL_told_2 rfl ?_
  refine R_iload_n (pc := 3) C dL_told_3 rfl ?_
  refine R_callVT (pc := 4) C dL_told_4 (vs := [_]) (fun h hh => mX1_told hl hn h hh) (isOb_of (wc0) rfl) ⟨k_29_6, k_29_7, k_29_8, k_1_2, k_29_9⟩ (sgn (nv := 1) rfl ⟨by decide +kernel, by decide +kernel, by decide +kernel⟩) ⟨⟨Nat.le_of_ble_eq_true rfl, Nat.le_of_ble_eq_true rfl⟩, ⟨Nat.le_of_ble_eq_true rfl, Nat.le_of_ble_eq_true rfl⟩, Nat.le_of_ble_eq_true rfl⟩ rfl rfl (fun h9 hh9 E9 => ?_) (fun h9 hh9 v9 => ?_)
  · refine X_pr (fun q9 => ?_)
    rcases q9 with ⟨q8, rfl⟩ | ⟨q8, rfl⟩ | ⟨q8, rfl⟩
    · refine X_catch C [] ⟨0, 9, 12, 13⟩ [] rfl (fun z hz => by cases hz) (by decide) (by decide) k_3_17 (C.st.2.2.2.2.2.2.2.1.2.1) (fun q => ?_)
      refine R_astore_n (pc := 12) C dL_told_12 (Nat.le_of_ble_eq_true rfl) (lv' := [some (.ref _), some (.int _), some (.ref _), some (.ref _)]) rfl ?_
      refine R_iconst (pc := 13) C dL_told_13 (v := 1) (by decide) ?_
      refine R_ok ?_
      exact R_iret (pc := 14) C dL_told_14 rfl (Nat.le_of_ble_eq_true rfl) (Nat.le_of_ble_eq_true rfl) (fun h hh => Or.inr ⟨by rw [q8]; decide, by rw [q8], hh⟩)
    · exact absurd q8 (by unfold kAsk; (repeat' split) <;> decide)
    · exact absurd q8 (by unfold kAsk; (repeat' split) <;> decide)
  refine WR.pr (fun e9 => ?_)
  obtain ⟨hk, e9⟩ := e9
  subst e9
  show WR K G _ _ _ _ _ _ _ (.int _ :: _)
  refine R_i2l (pc := 7) C dL_told_7 ?_
  refine R_last (pc := 8) C dL_told_8 (wm_g) ((rfl : _ = nI 0)) (by decide) (by decide) (pm_out) ?_
  refine R_goto (pc := 9) C dL_told_9 (tgt := 15) (by decide) ?_
  refine R_iconst (pc := 15) C dL_told_15 (v := 0) (by decide) ?_
  refine R_ok ?_
  exact R_iret (pc := 16) C dL_told_16 rfl (Nat.le_of_ble_eq_true rfl) (Nat.le_of_ble_eq_true rfl) (fun h hh => Or.inl ⟨hk, rfl, hh⟩)
set_option maxHeartbeats 4000000 in
set_option maxRecDepth 100000 in
theorem mL_bank (hl : l.stackTraces = false) {x : Int32} (hn : n ≤ 8) : ∀ h, Wd G (adr, (n, P, F), (nm, Pm, Fm), mu, g) h → CW l yL_bank cL_bank 4 (some .int) [(0, 9, 12, 13)] 5 1 6 [.ref (adr 0), .int x, .ref (adr 24)] G h (fun v h1 => lPo (kAsk n x) (F 9 (ix x)) g (fun g9 => Wd G (adr, (n, P, F), (nm, Pm, Fm), mu, g9)) (fun g9 => Wd G (adr, (n, P, F), (nm, Pm, Fm), mu, g9)) v h1) := by
  intro h0 hwd
  refine CW.of hl (by decide +kernel) rfl (Nat.le_of_ble_eq_true rfl) (fun K sz hKl C => ?_)
  have C : CX K G (AH h0 sz) RL cL_bank 4 (some .int) (rmD 5 1 6) [⟨0, 9, 12, 13⟩] := C
  subst hKl
  refine WR.imp (P' := Wd G (adr, (n, P, F), (nm, Pm, Fm), mu, g)) (fun h e => e ▸ hwd) ?_
  show WR K G _ _ _ [some (.ref (adr 0)), some (.int x), some (.ref (adr 24)), none] 0 0 0 []
  refine R_aload_n (pc := 0) C dL_bank_0 rfl ?_
  refine R_iconst (pc := 1) C dL_bank_1 (v := 0) (by decide) ?_
  refine R_aload_n (pc := 2) C dL_bank_2 rfl ?_
  refine R_iload_n (pc := 3) C dL_bank_3 rfl ?_
  refine R_callVT (pc := 4) C dL_bank_4 (vs := [_]) (fun h hh => mX1_bank hl hn h hh) (isOb_of (wc0) rfl) ⟨k_30_15, k_30_16, k_30_17, k_1_2, k_30_18⟩ (sgn (nv := 1) rfl ⟨by decide +kernel, by decide +kernel, by decide +kernel⟩) ⟨⟨Nat.le_of_ble_eq_true rfl, Nat.le_of_ble_eq_true rfl⟩, ⟨Nat.le_of_ble_eq_true rfl, Nat.le_of_ble_eq_true rfl⟩, Nat.le_of_ble_eq_true rfl⟩ rfl rfl (fun h9 hh9 E9 => ?_) (fun h9 hh9 v9 => ?_)
  · refine X_pr (fun q9 => ?_)
    rcases q9 with ⟨q8, rfl⟩ | ⟨q8, rfl⟩ | ⟨q8, rfl⟩
    · refine X_catch C [] ⟨0, 9, 12, 13⟩ [] rfl (fun z hz => by cases hz) (by decide) (by decide) k_3_17 (C.st.2.2.2.2.2.2.2.1.2.1) (fun q => ?_)
      refine R_astore_n (pc := 12) C dL_bank_12 (Nat.le_of_ble_eq_true rfl) (lv' := [some (.ref _), some (.int _), some (.ref _), some (.ref _)]) rfl ?_
      refine R_iconst (pc := 13) C dL_bank_13 (v := 1) (by decide) ?_
      refine R_ok ?_
      exact R_iret (pc := 14) C dL_bank_14 rfl (Nat.le_of_ble_eq_true rfl) (Nat.le_of_ble_eq_true rfl) (fun h hh => Or.inr ⟨by rw [q8]; decide, by rw [q8], hh⟩)
    · exact absurd q8 (by unfold kAsk; (repeat' split) <;> decide)
    · exact absurd q8 (by unfold kAsk; (repeat' split) <;> decide)
  refine WR.pr (fun e9 => ?_)
  obtain ⟨hk, e9⟩ := e9
  subst e9
  show WR K G _ _ _ _ _ _ _ (.int _ :: _)
  refine R_i2l (pc := 7) C dL_bank_7 ?_
  refine R_last (pc := 8) C dL_bank_8 (wm_g) ((rfl : _ = nI 0)) (by decide) (by decide) (pm_out) ?_
  refine R_goto (pc := 9) C dL_bank_9 (tgt := 15) (by decide) ?_
  refine R_iconst (pc := 15) C dL_bank_15 (v := 0) (by decide) ?_
  refine R_ok ?_
  exact R_iret (pc := 16) C dL_bank_16 rfl (Nat.le_of_ble_eq_true rfl) (Nat.le_of_ble_eq_true rfl) (fun h hh => Or.inl ⟨hk, rfl, hh⟩)
set_option maxHeartbeats 4000000 in
set_option maxRecDepth 100000 in
theorem mL_fines (hl : l.stackTraces = false) {x : Int32} (hn : n ≤ 8) : ∀ h, Wd G (adr, (n, P, F), (nm, Pm, Fm), mu, g) h → CW l yL_fines cL_fines 4 (some .int) [(0, 9, 12, 13)] 5 1 6 [.ref (adr 0), .int x, .ref (adr 24)] G h (fun v h1 => lPo (kAsk n x) (F 10 (ix x)) g (fun g9 => Wd G (adr, (n, P, F), (nm, Pm, Fm), mu, g9)) (fun g9 => Wd G (adr, (n, P, F), (nm, Pm, Fm), mu, g9)) v h1) := by
  intro h0 hwd
  refine CW.of hl (by decide +kernel) rfl (Nat.le_of_ble_eq_true rfl) (fun K sz hKl C => ?_)
  have C : CX K G (AH h0 sz) RL cL_fines 4 (some .int) (rmD 5 1 6) [⟨0, 9, 12, 13⟩] := C
  subst hKl
  refine WR.imp (P' := Wd G (adr, (n, P, F), (nm, Pm, Fm), mu, g)) (fun h e => e ▸ hwd) ?_
  show WR K G _ _ _ [some (.ref (adr 0)), some (.int x), some (.ref (adr 24)), none] 0 0 0 []
  refine R_aload_n (pc := 0) C dL_fines_0 rfl ?_
  refine R_iconst (pc := 1) C dL_fines_1 (v := 0) (by decide) ?_
  refine R_aload_n (pc := 2) C dL_fines_2 rfl ?_
  refine R_iload_n (pc := 3) C dL_fines_3 rfl ?_
  refine R_callVT (pc := 4) C dL_fines_4 (vs := [_]) (fun h hh => mX1_fines hl hn h hh) (isOb_of (wc0) rfl) ⟨k_32_4, k_32_5, k_32_6, k_1_2, k_32_7⟩ (sgn (nv := 1) rfl ⟨by decide +kernel, by decide +kernel, by decide +kernel⟩) ⟨⟨Nat.le_of_ble_eq_true rfl, Nat.le_of_ble_eq_true rfl⟩, ⟨Nat.le_of_ble_eq_true rfl, Nat.le_of_ble_eq_true rfl⟩, Nat.le_of_ble_eq_true rfl⟩ rfl rfl (fun h9 hh9 E9 => ?_) (fun h9 hh9 v9 => ?_)
  · refine X_pr (fun q9 => ?_)
    rcases q9 with ⟨q8, rfl⟩ | ⟨q8, rfl⟩ | ⟨q8, rfl⟩
    · refine X_catch C [] ⟨0, 9, 12, 13⟩ [] rfl (fun z hz => by cases hz) (by decide) (by decide) k_3_17 (C.st.2.2.2.2.2.2.2.1.2.1) (fun q => ?_)
      refine R_astore_n (pc := 12) C dL_fines_12 (Nat.le_of_ble_eq_true rfl) (lv' := [some (.ref _), some (.int _), some (.ref _), some (.ref _)]) rfl ?_
      refine R_iconst (pc := 13) C dL_fines_13 (v := 1) (by decide) ?_
      refine R_ok ?_
      exact R_iret (pc := 14) C dL_fines_14 rfl (Nat.le_of_ble_eq_true rfl) (Nat.le_of_ble_eq_true rfl) (fun h hh => Or.inr ⟨by rw [q8]; decide, by rw [q8], hh⟩)
    · exact absurd q8 (by unfold kAsk; (repeat' split) <;> decide)
    · exact absurd q8 (by unfold kAsk; (repeat' split) <;> decide)
  refine WR.pr (fun e9 => ?_)
  obtain ⟨hk, e9⟩ := e9
  subst e9
  show WR K G _ _ _ _ _ _ _ (.int _ :: _)
  refine R_i2l (pc := 7) C dL_fines_7 ?_
  refine R_last (pc := 8) C dL_fines_8 (wm_g) ((rfl : _ = nI 0)) (by decide) (by decide) (pm_out) ?_
  refine R_goto (pc := 9) C dL_fines_9 (tgt := 15) (by decide) ?_
  refine R_iconst (pc := 15) C dL_fines_15 (v := 0) (by decide) ?_
  refine R_ok ?_
  exact R_iret (pc := 16) C dL_fines_16 rfl (Nat.le_of_ble_eq_true rfl) (Nat.le_of_ble_eq_true rfl) (fun h hh => Or.inl ⟨hk, rfl, hh⟩)
set_option maxHeartbeats 4000000 in
set_option maxRecDepth 100000 in
theorem mL_plan (hl : l.stackTraces = false) {x a : Int32} (hn : n ≤ 8) : ∀ h, Wd G (adr, (n, P, F), (nm, Pm, Fm), mu, g) h → CW l yL_plan cL_plan 5 (some .int) [(0, 10, 13, 13), (0, 10, 17, 15)] 5 2 12 [.ref (adr 0), .int x, .int a, .ref (adr 24)] G h (fun v h1 => lPo (kPlan n x a 2000) (F 6 (ix x)) g (fun g9 => Wd G (adr, (n, P, F), (nm, Pm, Fm), mu, g9)) (fun g9 => Wd G (adr, (n, P, su F 6 (ix x) a), (nm, Pm, Fm), mu, g9)) v h1) := by
  intro h0 hwd
  refine CW.of hl (by decide +kernel) rfl (Nat.le_of_ble_eq_true rfl) (fun K sz hKl C => ?_)
  have C : CX K G (AH h0 sz) RL cL_plan 5 (some .int) (rmD 5 2 12) [⟨0, 10, 13, 13⟩, ⟨0, 10, 17, 15⟩] := C
  subst hKl
  refine WR.imp (P' := Wd G (adr, (n, P, F), (nm, Pm, Fm), mu, g)) (fun h e => e ▸ hwd) ?_
  show WR K G _ _ _ [some (.ref (adr 0)), some (.int x), some (.int a), some (.ref (adr 24)), none] 0 0 0 []
  refine R_aload_n (pc := 0) C dL_plan_0 rfl ?_
  refine R_iconst (pc := 1) C dL_plan_1 (v := 0) (by decide) ?_
  refine R_aload_n (pc := 2) C dL_plan_2 rfl ?_
  refine R_iload_n (pc := 3) C dL_plan_3 rfl ?_
  refine R_iload_n (pc := 4) C dL_plan_4 rfl ?_
  refine R_callVT (pc := 5) C dL_plan_5 (vs := [_, _]) (fun h hh => mX1_plan hl hn h hh) (isOb_of (wc0) rfl) ⟨k_18_10, k_18_11, k_18_12, k_1_2, k_18_13⟩ (sgn (nv := 2) rfl ⟨by decide +kernel, by decide +kernel, by decide +kernel⟩) ⟨⟨Nat.le_of_ble_eq_true rfl, Nat.le_of_ble_eq_true rfl⟩, ⟨Nat.le_of_ble_eq_true rfl, Nat.le_of_ble_eq_true rfl⟩, Nat.le_of_ble_eq_true rfl⟩ rfl rfl (fun h9 hh9 E9 => ?_) (fun h9 hh9 v9 => ?_)
  · refine X_pr (fun q9 => ?_)
    rcases q9 with ⟨q8, rfl⟩ | ⟨q8, rfl⟩ | ⟨q8, rfl⟩
    · refine X_catch C [] ⟨0, 10, 13, 13⟩ [⟨0, 10, 17, 15⟩] rfl (fun z hz => by cases hz) (by decide) (by decide) k_3_17 (C.st.2.2.2.2.2.2.2.1.2.1) (fun q => ?_)
      refine R_astore (pc := 13) C dL_plan_13 (Nat.le_of_ble_eq_true rfl) (lv' := [some (.ref _), some (.int _), some (.int _), some (.ref _), some (.ref _)]) rfl ?_
      refine R_iconst (pc := 15) C dL_plan_15 (v := 1) (by decide) ?_
      refine R_ok ?_
      exact R_iret (pc := 16) C dL_plan_16 rfl (Nat.le_of_ble_eq_true rfl) (Nat.le_of_ble_eq_true rfl) (fun h hh => Or.inr ⟨by rw [q8]; decide, by rw [q8], hh⟩)
    · refine X_catch C [⟨0, 10, 13, 13⟩] ⟨0, 10, 17, 15⟩ [] rfl (fun z hz => by cases List.mem_singleton.mp hz; exact Or.inr ⟨by decide, _, k_3_17, C.st.2.2.2.2.2.2.2.2.2.2⟩) (by decide) (by decide) k_3_18 (C.st.2.2.2.2.2.2.2.1.2.2.1) (fun q => ?_)
      refine R_astore (pc := 17) C dL_plan_17 (Nat.le_of_ble_eq_true rfl) (lv' := [some (.ref _), some (.int _), some (.int _), some (.ref _), some (.ref _)]) rfl ?_
      refine R_iconst (pc := 19) C dL_plan_19 (v := 2) (by decide) ?_
      refine R_ok ?_
      exact R_iret (pc := 20) C dL_plan_20 rfl (Nat.le_of_ble_eq_true rfl) (Nat.le_of_ble_eq_true rfl) (fun h hh => Or.inr ⟨by rw [q8]; decide, by rw [q8], hh⟩)
    · exact absurd q8 (by unfold kPlan; (repeat' split) <;> decide)
  refine WR.pr (fun e9 => ?_)
  obtain ⟨hk, e9⟩ := e9
  subst e9
  show WR K G _ _ _ _ _ _ _ (.int _ :: _)
  refine R_i2l (pc := 8) C dL_plan_8 ?_
  refine R_last (pc := 9) C dL_plan_9 (wm_g) ((rfl : _ = nI 0)) (by decide) (by decide) (pm_out) ?_
  refine R_goto (pc := 10) C dL_plan_10 (tgt := 21) (by decide) ?_
  refine R_iconst (pc := 21) C dL_plan_21 (v := 0) (by decide) ?_
  refine R_ok ?_
  exact R_iret (pc := 22) C dL_plan_22 rfl (Nat.le_of_ble_eq_true rfl) (Nat.le_of_ble_eq_true rfl) (fun h hh => Or.inl ⟨hk, rfl, hh⟩)
set_option maxHeartbeats 4000000 in
set_option maxRecDepth 100000 in
theorem mL_power (hl : l.stackTraces = false) {x a : Int32} (hn : n ≤ 8) : ∀ h, Wd G (adr, (n, P, F), (nm, Pm, Fm), mu, g) h → CW l yL_power cL_power 5 (some .int) [(0, 10, 13, 13), (0, 10, 17, 15)] 5 2 12 [.ref (adr 0), .int x, .int a, .ref (adr 24)] G h (fun v h1 => lPo (kPlan n x a 1000) (F 8 (ix x)) g (fun g9 => Wd G (adr, (n, P, F), (nm, Pm, Fm), mu, g9)) (fun g9 => Wd G (adr, (n, P, su F 8 (ix x) a), (nm, Pm, Fm), mu, g9)) v h1) := by
  intro h0 hwd
  refine CW.of hl (by decide +kernel) rfl (Nat.le_of_ble_eq_true rfl) (fun K sz hKl C => ?_)
  have C : CX K G (AH h0 sz) RL cL_power 5 (some .int) (rmD 5 2 12) [⟨0, 10, 13, 13⟩, ⟨0, 10, 17, 15⟩] := C
  subst hKl
  refine WR.imp (P' := Wd G (adr, (n, P, F), (nm, Pm, Fm), mu, g)) (fun h e => e ▸ hwd) ?_
  show WR K G _ _ _ [some (.ref (adr 0)), some (.int x), some (.int a), some (.ref (adr 24)), none] 0 0 0 []
  refine R_aload_n (pc := 0) C dL_power_0 rfl ?_
  refine R_iconst (pc := 1) C dL_power_1 (v := 0) (by decide) ?_
  refine R_aload_n (pc := 2) C dL_power_2 rfl ?_
  refine R_iload_n (pc := 3) C dL_power_3 rfl ?_
  refine R_iload_n (pc := 4) C dL_power_4 rfl ?_
  refine R_callVT (pc := 5) C dL_power_5 (vs := [_, _]) (fun h hh => mX1_power hl hn h hh) (isOb_of (wc0) rfl) ⟨k_30_4, k_30_5, k_30_6, k_1_2, k_30_7⟩ (sgn (nv := 2) rfl ⟨by decide +kernel, by decide +kernel, by decide +kernel⟩) ⟨⟨Nat.le_of_ble_eq_true rfl, Nat.le_of_ble_eq_true rfl⟩, ⟨Nat.le_of_ble_eq_true rfl, Nat.le_of_ble_eq_true rfl⟩, Nat.le_of_ble_eq_true rfl⟩ rfl rfl (fun h9 hh9 E9 => ?_) (fun h9 hh9 v9 => ?_)
  · refine X_pr (fun q9 => ?_)
    rcases q9 with ⟨q8, rfl⟩ | ⟨q8, rfl⟩ | ⟨q8, rfl⟩
    · refine X_catch C [] ⟨0, 10, 13, 13⟩ [⟨0, 10, 17, 15⟩] rfl (fun z hz => by cases hz) (by decide) (by decide) k_3_17 (C.st.2.2.2.2.2.2.2.1.2.1) (fun q => ?_)
      refine R_astore (pc := 13) C dL_power_13 (Nat.le_of_ble_eq_true rfl) (lv' := [some (.ref _), some (.int _), some (.int _), some (.ref _), some (.ref _)]) rfl ?_
      refine R_iconst (pc := 15) C dL_power_15 (v := 1) (by decide) ?_
      refine R_ok ?_
      exact R_iret (pc := 16) C dL_power_16 rfl (Nat.le_of_ble_eq_true rfl) (Nat.le_of_ble_eq_true rfl) (fun h hh => Or.inr ⟨by rw [q8]; decide, by rw [q8], hh⟩)
    · refine X_catch C [⟨0, 10, 13, 13⟩] ⟨0, 10, 17, 15⟩ [] rfl (fun z hz => by cases List.mem_singleton.mp hz; exact Or.inr ⟨by decide, _, k_3_17, C.st.2.2.2.2.2.2.2.2.2.2⟩) (by decide) (by decide) k_3_18 (C.st.2.2.2.2.2.2.2.1.2.2.1) (fun q => ?_)
      refine R_astore (pc := 17) C dL_power_17 (Nat.le_of_ble_eq_true rfl) (lv' := [some (.ref _), some (.int _), some (.int _), some (.ref _), some (.ref _)]) rfl ?_
      refine R_iconst (pc := 19) C dL_power_19 (v := 2) (by decide) ?_
      refine R_ok ?_
      exact R_iret (pc := 20) C dL_power_20 rfl (Nat.le_of_ble_eq_true rfl) (Nat.le_of_ble_eq_true rfl) (fun h hh => Or.inr ⟨by rw [q8]; decide, by rw [q8], hh⟩)
    · exact absurd q8 (by unfold kPlan; (repeat' split) <;> decide)
  refine WR.pr (fun e9 => ?_)
  obtain ⟨hk, e9⟩ := e9
  subst e9
  show WR K G _ _ _ _ _ _ _ (.int _ :: _)
  refine R_i2l (pc := 8) C dL_power_8 ?_
  refine R_last (pc := 9) C dL_power_9 (wm_g) ((rfl : _ = nI 0)) (by decide) (by decide) (pm_out) ?_
  refine R_goto (pc := 10) C dL_power_10 (tgt := 21) (by decide) ?_
  refine R_iconst (pc := 21) C dL_power_21 (v := 0) (by decide) ?_
  refine R_ok ?_
  exact R_iret (pc := 22) C dL_power_22 rfl (Nat.le_of_ble_eq_true rfl) (Nat.le_of_ble_eq_true rfl) (fun h hh => Or.inl ⟨hk, rfl, hh⟩)
set_option maxHeartbeats 4000000 in
set_option maxRecDepth 100000 in
theorem mL_setRecharge (hl : l.stackTraces = false) {x a : Int32}  : ∀ h, Wd G (adr, (n, P, F), (nm, Pm, Fm), mu, g) h → CW l yL_setRecharge cL_setRecharge 5 (some .int) [(0, 10, 13, 13), (0, 10, 17, 15)] 5 2 12 [.ref (adr 0), .int x, .int a, .ref (adr 24)] G h (fun v h1 => lPo (kRech x a) (F 14 (ix x)) g (fun g9 => Wd G (adr, (n, P, F), (nm, Pm, Fm), mu, g9)) (fun g9 => Wd G (adr, (n, P, su F 14 (ix x) a), (nm, Pm, Fm), mu, g9)) v h1) := by
  intro h0 hwd
  refine CW.of hl (by decide +kernel) rfl (Nat.le_of_ble_eq_true rfl) (fun K sz hKl C => ?_)
  have C : CX K G (AH h0 sz) RL cL_setRecharge 5 (some .int) (rmD 5 2 12) [⟨0, 10, 13, 13⟩, ⟨0, 10, 17, 15⟩] := C
  subst hKl
  refine WR.imp (P' := Wd G (adr, (n, P, F), (nm, Pm, Fm), mu, g)) (fun h e => e ▸ hwd) ?_
  show WR K G _ _ _ [some (.ref (adr 0)), some (.int x), some (.int a), some (.ref (adr 24)), none] 0 0 0 []
  refine R_aload_n (pc := 0) C dL_setRecharge_0 rfl ?_
  refine R_iconst (pc := 1) C dL_setRecharge_1 (v := 0) (by decide) ?_
  refine R_aload_n (pc := 2) C dL_setRecharge_2 rfl ?_
  refine R_iload_n (pc := 3) C dL_setRecharge_3 rfl ?_
  refine R_iload_n (pc := 4) C dL_setRecharge_4 rfl ?_
  refine R_callVT (pc := 5) C dL_setRecharge_5 (vs := [_, _]) (fun h hh => mX1_setRecharge hl h hh) (isOb_of (wc0) rfl) ⟨k_20_0, k_20_1, k_20_2, k_1_2, k_20_3⟩ (sgn (nv := 2) rfl ⟨by decide +kernel, by decide +kernel, by decide +kernel⟩) ⟨⟨Nat.le_of_ble_eq_true rfl, Nat.le_of_ble_eq_true rfl⟩, ⟨Nat.le_of_ble_eq_true rfl, Nat.le_of_ble_eq_true rfl⟩, Nat.le_of_ble_eq_true rfl⟩ rfl rfl (fun h9 hh9 E9 => ?_) (fun h9 hh9 v9 => ?_)
  · refine X_pr (fun q9 => ?_)
    rcases q9 with ⟨q8, rfl⟩ | ⟨q8, rfl⟩ | ⟨q8, rfl⟩
    · refine X_catch C [] ⟨0, 10, 13, 13⟩ [⟨0, 10, 17, 15⟩] rfl (fun z hz => by cases hz) (by decide) (by decide) k_3_17 (C.st.2.2.2.2.2.2.2.1.2.1) (fun q => ?_)
      refine R_astore (pc := 13) C dL_setRecharge_13 (Nat.le_of_ble_eq_true rfl) (lv' := [some (.ref _), some (.int _), some (.int _), some (.ref _), some (.ref _)]) rfl ?_
      refine R_iconst (pc := 15) C dL_setRecharge_15 (v := 1) (by decide) ?_
      refine R_ok ?_
      exact R_iret (pc := 16) C dL_setRecharge_16 rfl (Nat.le_of_ble_eq_true rfl) (Nat.le_of_ble_eq_true rfl) (fun h hh => Or.inr ⟨by rw [q8]; decide, by rw [q8], hh⟩)
    · refine X_catch C [⟨0, 10, 13, 13⟩] ⟨0, 10, 17, 15⟩ [] rfl (fun z hz => by cases List.mem_singleton.mp hz; exact Or.inr ⟨by decide, _, k_3_17, C.st.2.2.2.2.2.2.2.2.2.2⟩) (by decide) (by decide) k_3_18 (C.st.2.2.2.2.2.2.2.1.2.2.1) (fun q => ?_)
      refine R_astore (pc := 17) C dL_setRecharge_17 (Nat.le_of_ble_eq_true rfl) (lv' := [some (.ref _), some (.int _), some (.int _), some (.ref _), some (.ref _)]) rfl ?_
      refine R_iconst (pc := 19) C dL_setRecharge_19 (v := 2) (by decide) ?_
      refine R_ok ?_
      exact R_iret (pc := 20) C dL_setRecharge_20 rfl (Nat.le_of_ble_eq_true rfl) (Nat.le_of_ble_eq_true rfl) (fun h hh => Or.inr ⟨by rw [q8]; decide, by rw [q8], hh⟩)
    · exact absurd q8 (by unfold kRech; (repeat' split) <;> decide)
  refine WR.pr (fun e9 => ?_)
  obtain ⟨hk, e9⟩ := e9
  subst e9
  show WR K G _ _ _ _ _ _ _ (.int _ :: _)
  refine R_i2l (pc := 8) C dL_setRecharge_8 ?_
  refine R_last (pc := 9) C dL_setRecharge_9 (wm_g) ((rfl : _ = nI 0)) (by decide) (by decide) (pm_out) ?_
  refine R_goto (pc := 10) C dL_setRecharge_10 (tgt := 21) (by decide) ?_
  refine R_iconst (pc := 21) C dL_setRecharge_21 (v := 0) (by decide) ?_
  refine R_ok ?_
  exact R_iret (pc := 22) C dL_setRecharge_22 rfl (Nat.le_of_ble_eq_true rfl) (Nat.le_of_ble_eq_true rfl) (fun h hh => Or.inl ⟨hk, rfl, hh⟩)
set_option maxHeartbeats 4000000 in
set_option maxRecDepth 100000 in
theorem mL_reach (hl : l.stackTraces = false) {x y : Int32} (hn : n ≤ 8) : ∀ h, Wd G (adr, (n, P, F), (nm, Pm, Fm), mu, g) h → CW l yL_reach cL_reach 5 (some .int) [(0, 10, 13, 13)] 5 2 12 [.ref (adr 0), .int x, .int y, .ref (adr 24)] G h (fun v h1 => lPo (kReach n x y) (spR F (ix x) (ix y)) g (fun g9 => Wd G (adr, (n, P, F), (nm, Pm, Fm), mu, g9)) (fun g9 => Wd G (adr, (n, P, F), (nm, Pm, Fm), mu, g9)) v h1) := by
  intro h0 hwd
  refine CW.of hl (by decide +kernel) rfl (Nat.le_of_ble_eq_true rfl) (fun K sz hKl C => ?_)
  have C : CX K G (AH h0 sz) RL cL_reach 5 (some .int) (rmD 5 2 12) [⟨0, 10, 13, 13⟩] := C
  subst hKl
  refine WR.imp (P' := Wd G (adr, (n, P, F), (nm, Pm, Fm), mu, g)) (fun h e => e ▸ hwd) ?_
  show WR K G _ _ _ [some (.ref (adr 0)), some (.int x), some (.int y), some (.ref (adr 24)), none] 0 0 0 []
  refine R_aload_n (pc := 0) C dL_reach_0 rfl ?_
  refine R_iconst (pc := 1) C dL_reach_1 (v := 0) (by decide) ?_
  refine R_aload_n (pc := 2) C dL_reach_2 rfl ?_
  refine R_iload_n (pc := 3) C dL_reach_3 rfl ?_
  refine R_iload_n (pc := 4) C dL_reach_4 rfl ?_
  refine R_callVT (pc := 5) C dL_reach_5 (vs := [_, _]) (fun h hh => mX1_reach hl hn h hh) (isOb_of (wc0) rfl) ⟨k_20_11, k_20_12, k_20_13, k_1_2, k_20_14⟩ (sgn (nv := 2) rfl ⟨by decide +kernel, by decide +kernel, by decide +kernel⟩) ⟨⟨Nat.le_of_ble_eq_true rfl, Nat.le_of_ble_eq_true rfl⟩, ⟨Nat.le_of_ble_eq_true rfl, Nat.le_of_ble_eq_true rfl⟩, Nat.le_of_ble_eq_true rfl⟩ rfl rfl (fun h9 hh9 E9 => ?_) (fun h9 hh9 v9 => ?_)
  · refine X_pr (fun q9 => ?_)
    rcases q9 with ⟨q8, rfl⟩ | ⟨q8, rfl⟩ | ⟨q8, rfl⟩
    · refine X_catch C [] ⟨0, 10, 13, 13⟩ [] rfl (fun z hz => by cases hz) (by decide) (by decide) k_3_17 (C.st.2.2.2.2.2.2.2.1.2.1) (fun q => ?_)
      refine R_astore (pc := 13) C dL_reach_13 (Nat.le_of_ble_eq_true rfl) (lv' := [some (.ref _), some (.int _), some (.int _), some (.ref _), some (.ref _)]) rfl ?_
      refine R_iconst (pc := 15) C dL_reach_15 (v := 1) (by decide) ?_
      refine R_ok ?_
      exact R_iret (pc := 16) C dL_reach_16 rfl (Nat.le_of_ble_eq_true rfl) (Nat.le_of_ble_eq_true rfl) (fun h hh => Or.inr ⟨by rw [q8]; decide, by rw [q8], hh⟩)
    · exact absurd q8 (by unfold kReach; (repeat' split) <;> decide)
    · exact absurd q8 (by unfold kReach; (repeat' split) <;> decide)
  refine WR.pr (fun e9 => ?_)
  obtain ⟨hk, e9⟩ := e9
  subst e9
  show WR K G _ _ _ _ _ _ _ (.int _ :: _)
  refine R_i2l (pc := 8) C dL_reach_8 ?_
  refine R_last (pc := 9) C dL_reach_9 (wm_g) ((rfl : _ = nI 0)) (by decide) (by decide) (pm_out) ?_
  refine R_goto (pc := 10) C dL_reach_10 (tgt := 17) (by decide) ?_
  refine R_iconst (pc := 17) C dL_reach_17 (v := 0) (by decide) ?_
  refine R_ok ?_
  exact R_iret (pc := 18) C dL_reach_18 rfl (Nat.le_of_ble_eq_true rfl) (Nat.le_of_ble_eq_true rfl) (fun h hh => Or.inl ⟨hk, rfl, hh⟩)
set_option maxHeartbeats 4000000 in
set_option maxRecDepth 100000 in
theorem mL_lend (hl : l.stackTraces = false) {x y a : Int32} (hn : n ≤ 8) : ∀ h, Wd G (adr, (n, P, F), (nm, Pm, Fm), mu, g) h → CW l yL_lend cL_lend 6 (some .int) [(0, 12, 15, 13), (0, 12, 19, 15), (0, 12, 23, 17)] 5 5 30 [.ref (adr 0), .int x, .int y, .int a, .ref (adr 24)] G h (fun v h1 => lPo (kLend n F x y a) (F 13 (8 * ix x + ix y) + a) g (fun g9 => Wd G (adr, (n, P, F), (nm, Pm, Fm), mu, g9)) (fun g9 => Wd G (adr, (n, P, fLend F (ix x) (ix y) a), (nm, Pm, Fm), mu, g9)) v h1) := by
  intro h0 hwd
  refine CW.of hl (by decide +kernel) rfl (Nat.le_of_ble_eq_true rfl) (fun K sz hKl C => ?_)
  have C : CX K G (AH h0 sz) RL cL_lend 6 (some .int) (rmD 5 5 30) [⟨0, 12, 15, 13⟩, ⟨0, 12, 19, 15⟩, ⟨0, 12, 23, 17⟩] := C
  subst hKl
  refine WR.imp (P' := Wd G (adr, (n, P, F), (nm, Pm, Fm), mu, g)) (fun h e => e ▸ hwd) ?_
  show WR K G _ _ _ [some (.ref (adr 0)), some (.int x), some (.int y), some (.int a), some (.ref (adr 24)), none] 0 0 0 []
  refine R_aload (pc := 0) C dL_lend_0 rfl ?_
  refine R_iconst (pc := 2) C dL_lend_2 (v := 0) (by decide) ?_
  refine R_aload_n (pc := 3) C dL_lend_3 rfl ?_
  refine R_iload_n (pc := 4) C dL_lend_4 rfl ?_
  refine R_iload_n (pc := 5) C dL_lend_5 rfl ?_
  refine R_iload_n (pc := 6) C dL_lend_6 rfl ?_
  refine R_callVT (pc := 7) C dL_lend_7 (vs := [_, _, _]) (fun h hh => mX1_lend hl hn h hh) (isOb_of (wc0) rfl) ⟨k_31_2, k_31_3, k_31_4, k_1_2, k_31_5⟩ (sgn (nv := 3) rfl ⟨by decide +kernel, by decide +kernel, by decide +kernel⟩) ⟨⟨Nat.le_of_ble_eq_true rfl, Nat.le_of_ble_eq_true rfl⟩, ⟨Nat.le_of_ble_eq_true rfl, Nat.le_of_ble_eq_true rfl⟩, Nat.le_of_ble_eq_true rfl⟩ rfl rfl (fun h9 hh9 E9 => ?_) (fun h9 hh9 v9 => ?_)
  · refine X_pr (fun q9 => ?_)
    rcases q9 with ⟨q8, rfl⟩ | ⟨q8, rfl⟩ | ⟨q8, rfl⟩
    · refine X_catch C [] ⟨0, 12, 15, 13⟩ [⟨0, 12, 19, 15⟩, ⟨0, 12, 23, 17⟩] rfl (fun z hz => by cases hz) (by decide) (by decide) k_3_17 (C.st.2.2.2.2.2.2.2.1.2.1) (fun q => ?_)
      refine R_astore (pc := 15) C dL_lend_15 (Nat.le_of_ble_eq_true rfl) (lv' := [some (.ref _), some (.int _), some (.int _), some (.int _), some (.ref _), some (.ref _)]) rfl ?_
      refine R_iconst (pc := 17) C dL_lend_17 (v := 1) (by decide) ?_
      refine R_ok ?_
      exact R_iret (pc := 18) C dL_lend_18 rfl (Nat.le_of_ble_eq_true rfl) (Nat.le_of_ble_eq_true rfl) (fun h hh => Or.inr ⟨by rw [q8]; decide, by rw [q8], hh⟩)
    · refine X_catch C [⟨0, 12, 15, 13⟩] ⟨0, 12, 19, 15⟩ [⟨0, 12, 23, 17⟩] rfl (fun z hz => by cases List.mem_singleton.mp hz; exact Or.inr ⟨by decide, _, k_3_17, C.st.2.2.2.2.2.2.2.2.2.2⟩) (by decide) (by decide) k_3_18 (C.st.2.2.2.2.2.2.2.1.2.2.1) (fun q => ?_)
      refine R_astore (pc := 19) C dL_lend_19 (Nat.le_of_ble_eq_true rfl) (lv' := [some (.ref _), some (.int _), some (.int _), some (.int _), some (.ref _), some (.ref _)]) rfl ?_
      refine R_iconst (pc := 21) C dL_lend_21 (v := 2) (by decide) ?_
      refine R_ok ?_
      exact R_iret (pc := 22) C dL_lend_22 rfl (Nat.le_of_ble_eq_true rfl) (Nat.le_of_ble_eq_true rfl) (fun h hh => Or.inr ⟨by rw [q8]; decide, by rw [q8], hh⟩)
    · refine X_catch C [⟨0, 12, 15, 13⟩, ⟨0, 12, 19, 15⟩] ⟨0, 12, 23, 17⟩ [] rfl (fun z hz => (List.mem_cons.mp hz).elim (fun e => by subst e; exact Or.inr ⟨by decide, _, k_3_17, C.st.2.2.2.2.2.2.2.2.1⟩) (fun e => by cases List.mem_singleton.mp e; exact Or.inr ⟨by decide, _, k_3_18, C.st.2.2.2.2.2.2.2.2.2.1⟩)) (by decide) (by decide) k_3_19 (C.st.2.2.2.2.2.2.2.1.1) (fun q => ?_)
      refine R_astore (pc := 23) C dL_lend_23 (Nat.le_of_ble_eq_true rfl) (lv' := [some (.ref _), some (.int _), some (.int _), some (.int _), some (.ref _), some (.ref _)]) rfl ?_
      refine R_iconst (pc := 25) C dL_lend_25 (v := 3) (by decide) ?_
      refine R_ok ?_
      exact R_iret (pc := 26) C dL_lend_26 rfl (Nat.le_of_ble_eq_true rfl) (Nat.le_of_ble_eq_true rfl) (fun h hh => Or.inr ⟨by rw [q8]; decide, by rw [q8], hh⟩)
  refine WR.pr (fun e9 => ?_)
  obtain ⟨hk, e9⟩ := e9
  subst e9
  show WR K G _ _ _ _ _ _ _ (.int _ :: _)
  refine R_i2l (pc := 10) C dL_lend_10 ?_
  refine R_last (pc := 11) C dL_lend_11 (wm_g) ((rfl : _ = nI 0)) (by decide) (by decide) (pm_out) ?_
  refine R_goto (pc := 12) C dL_lend_12 (tgt := 27) (by decide) ?_
  refine R_iconst (pc := 27) C dL_lend_27 (v := 0) (by decide) ?_
  refine R_ok ?_
  exact R_iret (pc := 28) C dL_lend_28 rfl (Nat.le_of_ble_eq_true rfl) (Nat.le_of_ble_eq_true rfl) (fun h hh => Or.inl ⟨hk, rfl, hh⟩)
set_option maxHeartbeats 4000000 in
set_option maxRecDepth 100000 in
theorem mL_callBack (hl : l.stackTraces = false) {x y : Int32} (hn : n ≤ 8) : ∀ h, Wd G (adr, (n, P, F), (nm, Pm, Fm), mu, g) h → CW l yL_callBack cL_callBack 5 (some .int) [(0, 10, 13, 13), (0, 10, 17, 15)] 5 5 30 [.ref (adr 0), .int x, .int y, .ref (adr 24)] G h (fun v h1 => lPo (kBack n x y) (minI (F 13 (8 * ix x + ix y)) (F 9 (ix y))) g (fun g9 => Wd G (adr, (n, P, F), (nm, Pm, Fm), mu, g9)) (fun g9 => Wd G (adr, (n, P, fBack F (ix x) (ix y) (minI (F 13 (8 * ix x + ix y)) (F 9 (ix y)))), (nm, Pm, Fm), mu, g9)) v h1) := by
  intro h0 hwd
  refine CW.of hl (by decide +kernel) rfl (Nat.le_of_ble_eq_true rfl) (fun K sz hKl C => ?_)
  have C : CX K G (AH h0 sz) RL cL_callBack 5 (some .int) (rmD 5 5 30) [⟨0, 10, 13, 13⟩, ⟨0, 10, 17, 15⟩] := C
  subst hKl
  refine WR.imp (P' := Wd G (adr, (n, P, F), (nm, Pm, Fm), mu, g)) (fun h e => e ▸ hwd) ?_
  show WR K G _ _ _ [some (.ref (adr 0)), some (.int x), some (.int y), some (.ref (adr 24)), none] 0 0 0 []
  refine R_aload_n (pc := 0) C dL_callBack_0 rfl ?_
  refine R_iconst (pc := 1) C dL_callBack_1 (v := 0) (by decide) ?_
  refine R_aload_n (pc := 2) C dL_callBack_2 rfl ?_
  refine R_iload_n (pc := 3) C dL_callBack_3 rfl ?_
  refine R_iload_n (pc := 4) C dL_callBack_4 rfl ?_
  refine R_callVT (pc := 5) C dL_callBack_5 (vs := [_, _]) (fun h hh => mX1_callBack hl hn h hh) (isOb_of (wc0) rfl) ⟨k_31_17, k_31_18, k_31_19, k_1_2, k_31_20⟩ (sgn (nv := 2) rfl ⟨by decide +kernel, by decide +kernel, by decide +kernel⟩) ⟨⟨Nat.le_of_ble_eq_true rfl, Nat.le_of_ble_eq_true rfl⟩, ⟨Nat.le_of_ble_eq_true rfl, Nat.le_of_ble_eq_true rfl⟩, Nat.le_of_ble_eq_true rfl⟩ rfl rfl (fun h9 hh9 E9 => ?_) (fun h9 hh9 v9 => ?_)
  · refine X_pr (fun q9 => ?_)
    rcases q9 with ⟨q8, rfl⟩ | ⟨q8, rfl⟩ | ⟨q8, rfl⟩
    · refine X_catch C [] ⟨0, 10, 13, 13⟩ [⟨0, 10, 17, 15⟩] rfl (fun z hz => by cases hz) (by decide) (by decide) k_3_17 (C.st.2.2.2.2.2.2.2.1.2.1) (fun q => ?_)
      refine R_astore (pc := 13) C dL_callBack_13 (Nat.le_of_ble_eq_true rfl) (lv' := [some (.ref _), some (.int _), some (.int _), some (.ref _), some (.ref _)]) rfl ?_
      refine R_iconst (pc := 15) C dL_callBack_15 (v := 1) (by decide) ?_
      refine R_ok ?_
      exact R_iret (pc := 16) C dL_callBack_16 rfl (Nat.le_of_ble_eq_true rfl) (Nat.le_of_ble_eq_true rfl) (fun h hh => Or.inr ⟨by rw [q8]; decide, by rw [q8], hh⟩)
    · refine X_catch C [⟨0, 10, 13, 13⟩] ⟨0, 10, 17, 15⟩ [] rfl (fun z hz => by cases List.mem_singleton.mp hz; exact Or.inr ⟨by decide, _, k_3_17, C.st.2.2.2.2.2.2.2.2.2.2⟩) (by decide) (by decide) k_3_18 (C.st.2.2.2.2.2.2.2.1.2.2.1) (fun q => ?_)
      refine R_astore (pc := 17) C dL_callBack_17 (Nat.le_of_ble_eq_true rfl) (lv' := [some (.ref _), some (.int _), some (.int _), some (.ref _), some (.ref _)]) rfl ?_
      refine R_iconst (pc := 19) C dL_callBack_19 (v := 2) (by decide) ?_
      refine R_ok ?_
      exact R_iret (pc := 20) C dL_callBack_20 rfl (Nat.le_of_ble_eq_true rfl) (Nat.le_of_ble_eq_true rfl) (fun h hh => Or.inr ⟨by rw [q8]; decide, by rw [q8], hh⟩)
    · exact absurd q8 (by unfold kBack; (repeat' split) <;> decide)
  refine WR.pr (fun e9 => ?_)
  obtain ⟨hk, e9⟩ := e9
  subst e9
  show WR K G _ _ _ _ _ _ _ (.int _ :: _)
  refine R_i2l (pc := 8) C dL_callBack_8 ?_
  refine R_last (pc := 9) C dL_callBack_9 (wm_g) ((rfl : _ = nI 0)) (by decide) (by decide) (pm_out) ?_
  refine R_goto (pc := 10) C dL_callBack_10 (tgt := 21) (by decide) ?_
  refine R_iconst (pc := 21) C dL_callBack_21 (v := 0) (by decide) ?_
  refine R_ok ?_
  exact R_iret (pc := 22) C dL_callBack_22 rfl (Nat.le_of_ble_eq_true rfl) (Nat.le_of_ble_eq_true rfl) (fun h hh => Or.inl ⟨hk, rfl, hh⟩)
set_option maxHeartbeats 4000000 in
set_option maxRecDepth 100000 in
theorem mL_build (hl : l.stackTraces = false) {x : Int32} (hP : P ≤ 5) : ∀ h, Wd G (adr, (n, P, F), (nm, Pm, Fm), mu, g) h → CW l yL_build cL_build 4 (some .int) [(0, 9, 12, 15), (0, 9, 15, 17)] 5 2 12 [.ref (adr 0), .int x, .ref (adr 24)] G h (fun v h1 => lPo (kBuild P F x) (nI (P + 1)) g (fun g9 => Wd G (adr, (n, P, F), (nm, Pm, Fm), mu, g9)) (fun g9 => Wd G (adr, (n, P + 1, fBuild F P x), (nm, Pm, Fm), mu, g9)) v h1) := by
  intro h0 hwd
  refine CW.of hl (by decide +kernel) rfl (Nat.le_of_ble_eq_true rfl) (fun K sz hKl C => ?_)
  have C : CX K G (AH h0 sz) RL cL_build 4 (some .int) (rmD 5 2 12) [⟨0, 9, 12, 15⟩, ⟨0, 9, 15, 17⟩] := C
  subst hKl
  refine WR.imp (P' := Wd G (adr, (n, P, F), (nm, Pm, Fm), mu, g)) (fun h e => e ▸ hwd) ?_
  show WR K G _ _ _ [some (.ref (adr 0)), some (.int x), some (.ref (adr 24)), none] 0 0 0 []
  refine R_aload_n (pc := 0) C dL_build_0 rfl ?_
  refine R_iconst (pc := 1) C dL_build_1 (v := 0) (by decide) ?_
  refine R_aload_n (pc := 2) C dL_build_2 rfl ?_
  refine R_iload_n (pc := 3) C dL_build_3 rfl ?_
  refine R_callVT (pc := 4) C dL_build_4 (vs := [_]) (fun h hh => mX1_build hl hP h hh) (isOb_of (wc0) rfl) ⟨k_32_23, k_33_0, k_33_1, k_1_2, k_33_2⟩ (sgn (nv := 1) rfl ⟨by decide +kernel, by decide +kernel, by decide +kernel⟩) ⟨⟨Nat.le_of_ble_eq_true rfl, Nat.le_of_ble_eq_true rfl⟩, ⟨Nat.le_of_ble_eq_true rfl, Nat.le_of_ble_eq_true rfl⟩, Nat.le_of_ble_eq_true rfl⟩ rfl rfl (fun h9 hh9 E9 => ?_) (fun h9 hh9 v9 => ?_)
  · refine X_pr (fun q9 => ?_)
    rcases q9 with ⟨q8, rfl⟩ | ⟨q8, rfl⟩
    · refine X_catch C [] ⟨0, 9, 12, 15⟩ [⟨0, 9, 15, 17⟩] rfl (fun z hz => by cases hz) (by decide) (by decide) k_3_18 (C.st.2.2.2.2.2.2.2.1.2.2.1) (fun q => ?_)
      refine R_astore_n (pc := 12) C dL_build_12 (Nat.le_of_ble_eq_true rfl) (lv' := [some (.ref _), some (.int _), some (.ref _), some (.ref _)]) rfl ?_
      refine R_iconst (pc := 13) C dL_build_13 (v := 1) (by decide) ?_
      refine R_ok ?_
      exact R_iret (pc := 14) C dL_build_14 rfl (Nat.le_of_ble_eq_true rfl) (Nat.le_of_ble_eq_true rfl) (fun h hh => Or.inr ⟨by rw [q8]; decide, by rw [q8], hh⟩)
    · refine X_catch C [⟨0, 9, 12, 15⟩] ⟨0, 9, 15, 17⟩ [] rfl (fun z hz => by cases List.mem_singleton.mp hz; exact Or.inr ⟨by decide, _, k_3_18, C.st.2.2.2.2.2.2.2.2.2.1⟩) (by decide) (by decide) k_3_19 (C.st.2.2.2.2.2.2.2.1.1) (fun q => ?_)
      refine R_astore_n (pc := 15) C dL_build_15 (Nat.le_of_ble_eq_true rfl) (lv' := [some (.ref _), some (.int _), some (.ref _), some (.ref _)]) rfl ?_
      refine R_iconst (pc := 16) C dL_build_16 (v := 2) (by decide) ?_
      refine R_ok ?_
      exact R_iret (pc := 17) C dL_build_17 rfl (Nat.le_of_ble_eq_true rfl) (Nat.le_of_ble_eq_true rfl) (fun h hh => Or.inr ⟨by rw [q8]; decide, by rw [q8], hh⟩)
  refine WR.pr (fun e9 => ?_)
  obtain ⟨hk, e9⟩ := e9
  subst e9
  show WR K G _ _ _ _ _ _ _ (.int _ :: _)
  refine R_i2l (pc := 7) C dL_build_7 ?_
  refine R_last (pc := 8) C dL_build_8 (wm_g) ((rfl : _ = nI 0)) (by decide) (by decide) (pm_out) ?_
  refine R_goto (pc := 9) C dL_build_9 (tgt := 18) (by decide) ?_
  refine R_iconst (pc := 18) C dL_build_18 (v := 0) (by decide) ?_
  refine R_ok ?_
  exact R_iret (pc := 19) C dL_build_19 rfl (Nat.le_of_ble_eq_true rfl) (Nat.le_of_ble_eq_true rfl) (fun h hh => Or.inl ⟨hk, rfl, hh⟩)
set_option maxHeartbeats 4000000 in
set_option maxRecDepth 100000 in
theorem mL_year (hl : l.stackTraces = false)  (hn : n ≤ 8) (hP : P ≤ 5) (hlay : ∀ i, i < n → ∃ a, a < 3 ∧ F 0 i = nI a) : ∀ h, Wd G (adr, (n, P, F), (nm, Pm, Fm), mu, g) h → CW l yL_year cL_year 3 (some .int) [(0, 8, 11, 17)] 8 1 6 [.ref (adr 0), .ref (adr 24)] G h (fun v h1 => lPo (kYear F) (nI (cnt (spSt n P (shr F n)) 8)) g (fun g9 => Wd G (adr, (n, P, F), (nm, Pm, Fm), mu, g9)) (fun g9 => Wd G (adr, (n, P, su (yrF n P F) 16 1 (yrF n P F 16 1 + 1)), (nm, Pm, Fm), mu, g9)) v h1) := by
  intro h0 hwd
  refine CW.of hl (by decide +kernel) rfl (Nat.le_of_ble_eq_true rfl) (fun K sz hKl C => ?_)
  have C : CX K G (AH h0 sz) RL cL_year 3 (some .int) (rmD 8 1 6) [⟨0, 8, 11, 17⟩] := C
  subst hKl
  refine WR.imp (P' := Wd G (adr, (n, P, F), (nm, Pm, Fm), mu, g)) (fun h e => e ▸ hwd) ?_
  show WR K G _ _ _ [some (.ref (adr 0)), some (.ref (adr 24)), none] 0 0 0 []
  refine R_aload_n (pc := 0) C dL_year_0 rfl ?_
  refine R_iconst (pc := 1) C dL_year_1 (v := 0) (by decide) ?_
  refine R_aload_n (pc := 2) C dL_year_2 rfl ?_
  refine R_callVT (pc := 3) C dL_year_3 (vs := []) (fun h hh => mX1_year hl hn hP hlay h hh) (isOb_of (wc0) rfl) ⟨k_23_4, k_23_5, k_23_6, k_1_2, k_23_7⟩ (sgn (nv := 0) rfl ⟨by decide +kernel, by decide +kernel, by decide +kernel⟩) ⟨⟨Nat.le_of_ble_eq_true rfl, Nat.le_of_ble_eq_true rfl⟩, ⟨Nat.le_of_ble_eq_true rfl, Nat.le_of_ble_eq_true rfl⟩, Nat.le_of_ble_eq_true rfl⟩ rfl rfl (fun h9 hh9 E9 => ?_) (fun h9 hh9 v9 => ?_)
  · refine X_pr (fun q9 => ?_)
    obtain ⟨q8, rfl⟩ := q9
    refine X_catch C [] ⟨0, 8, 11, 17⟩ [] rfl (fun z hz => by cases hz) (by decide) (by decide) k_3_19 (C.st.2.2.2.2.2.2.2.1.1) (fun q => ?_)
    refine R_astore_n (pc := 11) C dL_year_11 (Nat.le_of_ble_eq_true rfl) (lv' := [some (.ref _), some (.ref _), some (.ref _)]) rfl ?_
    refine R_iconst (pc := 12) C dL_year_12 (v := 1) (by decide) ?_
    refine R_ok ?_
    exact R_iret (pc := 13) C dL_year_13 rfl (Nat.le_of_ble_eq_true rfl) (Nat.le_of_ble_eq_true rfl) (fun h hh => Or.inr ⟨by rw [q8]; decide, by rw [q8], hh⟩)
  refine WR.pr (fun e9 => ?_)
  obtain ⟨hk, e9⟩ := e9
  subst e9
  show WR K G _ _ _ _ _ _ _ (.int _ :: _)
  refine R_i2l (pc := 6) C dL_year_6 ?_
  refine R_last (pc := 7) C dL_year_7 (wm_g) ((rfl : _ = nI 0)) (by decide) (by decide) (pm_out) ?_
  refine R_goto (pc := 8) C dL_year_8 (tgt := 14) (by decide) ?_
  refine R_iconst (pc := 14) C dL_year_14 (v := 0) (by decide) ?_
  refine R_ok ?_
  exact R_iret (pc := 15) C dL_year_15 rfl (Nat.le_of_ble_eq_true rfl) (Nat.le_of_ble_eq_true rfl) (fun h hh => Or.inl ⟨hk, rfl, hh⟩)
set_option maxHeartbeats 4000000 in
set_option maxRecDepth 100000 in
theorem mL_sign (hl : l.stackTraces = false) {x y : Int32} (hn : n ≤ 8) (ha : ∀ i j, i < n → j < tl F i → ∃ c, tbf F i j = nI c ∧ c < 128) : ∀ h, Wd G (adr, (n, P, F), (nm, Pm, Fm), mu, g) h → CW l yL_sign cL_sign 5 (some .int) [(0, 10, 13, 13)] 5 2 12 [.ref (adr 0), .int x, .int y, .ref (adr 24)] G h (fun v h1 => lPo (kSign n F x y) (tbf F (ix x) (ix y)) g (fun g9 => Wd G (adr, (n, P, F), (nm, Pm, Fm), mu, g9)) (fun g9 => Wd G (adr, (n, P, F), (nm, Pm, Fm), mu, g9)) v h1) := by
  intro h0 hwd
  refine CW.of hl (by decide +kernel) rfl (Nat.le_of_ble_eq_true rfl) (fun K sz hKl C => ?_)
  have C : CX K G (AH h0 sz) RL cL_sign 5 (some .int) (rmD 5 2 12) [⟨0, 10, 13, 13⟩] := C
  subst hKl
  refine WR.imp (P' := Wd G (adr, (n, P, F), (nm, Pm, Fm), mu, g)) (fun h e => e ▸ hwd) ?_
  show WR K G _ _ _ [some (.ref (adr 0)), some (.int x), some (.int y), some (.ref (adr 24)), none] 0 0 0 []
  refine R_aload_n (pc := 0) C dL_sign_0 rfl ?_
  refine R_iconst (pc := 1) C dL_sign_1 (v := 0) (by decide) ?_
  refine R_aload_n (pc := 2) C dL_sign_2 rfl ?_
  refine R_iload_n (pc := 3) C dL_sign_3 rfl ?_
  refine R_iload_n (pc := 4) C dL_sign_4 rfl ?_
  refine R_callVT (pc := 5) C dL_sign_5 (vs := [_, _]) (fun h hh => mX1_sign hl hn ha h hh) (isOb_of (wc0) rfl) ⟨k_22_0, k_22_1, k_22_2, k_1_2, k_22_3⟩ (sgn (nv := 2) rfl ⟨by decide +kernel, by decide +kernel, by decide +kernel⟩) ⟨⟨Nat.le_of_ble_eq_true rfl, Nat.le_of_ble_eq_true rfl⟩, ⟨Nat.le_of_ble_eq_true rfl, Nat.le_of_ble_eq_true rfl⟩, Nat.le_of_ble_eq_true rfl⟩ rfl rfl (fun h9 hh9 E9 => ?_) (fun h9 hh9 v9 => ?_)
  · refine X_pr (fun q9 => ?_)
    obtain ⟨q8, rfl⟩ := q9
    refine X_catch C [] ⟨0, 10, 13, 13⟩ [] rfl (fun z hz => by cases hz) (by decide) (by decide) k_3_17 (C.st.2.2.2.2.2.2.2.1.2.1) (fun q => ?_)
    refine R_astore (pc := 13) C dL_sign_13 (Nat.le_of_ble_eq_true rfl) (lv' := [some (.ref _), some (.int _), some (.int _), some (.ref _), some (.ref _)]) rfl ?_
    refine R_iconst (pc := 15) C dL_sign_15 (v := 1) (by decide) ?_
    refine R_ok ?_
    exact R_iret (pc := 16) C dL_sign_16 rfl (Nat.le_of_ble_eq_true rfl) (Nat.le_of_ble_eq_true rfl) (fun h hh => Or.inr ⟨by rw [q8]; decide, by rw [q8], hh⟩)
  refine WR.pr (fun e9 => ?_)
  obtain ⟨hk, e9⟩ := e9
  subst e9
  show WR K G _ _ _ _ _ _ _ (.int _ :: _)
  refine R_i2l (pc := 8) C dL_sign_8 ?_
  refine R_last (pc := 9) C dL_sign_9 (wm_g) ((rfl : _ = nI 0)) (by decide) (by decide) (pm_out) ?_
  refine R_goto (pc := 10) C dL_sign_10 (tgt := 17) (by decide) ?_
  refine R_iconst (pc := 17) C dL_sign_17 (v := 0) (by decide) ?_
  refine R_ok ?_
  exact R_iret (pc := 18) C dL_sign_18 rfl (Nat.le_of_ble_eq_true rfl) (Nat.le_of_ble_eq_true rfl) (fun h hh => Or.inl ⟨hk, rfl, hh⟩)
end
