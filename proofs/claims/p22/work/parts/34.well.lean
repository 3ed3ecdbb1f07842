/-! 34: the text and the constructor of a well. Written by wip/p22/gen/m34.py -/
def tA (a d i : Nat) : Nat → Int32 := (upd (upd (upd (upd (upd (va_cpy kf (fun _ => 0) 0 0 5) 5 (nI (48 + a % 10))) (5 + 1) (nI 64)) (5 + 1 + 1) (nI (48 + d % 10))) (5 + 1 + 1 + 1) (nI 58)) (5 + 1 + 1 + 1 + 1) (nI (48 + i % 10)))
def tB (a d i : Nat) : Nat → Int32 := (upd (upd (upd (upd (upd (upd (va_cpy kf (fun _ => 0) 0 0 5) 5 (nI (48 + a % 10))) (5 + 1) (nI 64)) (5 + 1 + 1 + 1) (nI (48 + d % 10))) (5 + 1 + 1) (nI (48 + d / 10))) (5 + 1 + 1 + 2) (nI 58)) (5 + 1 + 1 + 2 + 1) (nI (48 + i % 10)))
theorem tA_e : ∀ a, a < 3 → ∀ d, d < 10 → ∀ i, i < 8 → (∀ j, j < 10 → tA a d i j = txb a d i j ∧ (tx a d i).getD j 0 < 128) ∧ (tx a d i).length = 10 := by decide +kernel
theorem tB_e0 : ∀ a, a < 3 → ∀ d, d < 90 → ∀ i, i < 8 → (∀ j, j < 11 → tB a (10 + d) i j = txb a (10 + d) i j ∧ (tx a (10 + d) i).getD j 0 < 128) ∧ (tx a (10 + d) i).length = 11 := by decide +kernel
theorem tB_e (a : Nat) (ha : a < 3) (d : Nat) (h1 : d < 100) (h2 : 10 ≤ d) (i : Nat) (hi : i < 8) : (∀ j, j < 11 → tB a d i j = txb a d i j ∧ (tx a d i).getD j 0 < 128) ∧ (tx a d i).length = 11 := by
  have := tB_e0 a ha (d - 10) (by omega) i hi
  rw [show 10 + (d - 10) = d by omega] at this
  exact this
theorem t_end {t : Nat → Int32} {a d i m : Nat} (h : (∀ j, j < m → t j = txb a d i j ∧ (tx a d i).getD j 0 < 128) ∧ (tx a d i).length = m) : asc t m ∧ va_cpy t (fun _ => 0) 0 0 m = txb a d i := by
  refine ⟨fun j hj => ⟨_, (h.1 j hj).2, (h.1 j hj).1⟩, ?_⟩
  funext j
  unfold va_cpy
  by_cases hj : j < m
  · rw [if_pos ⟨Nat.zero_le _, by omega⟩, Nat.zero_add, Nat.sub_zero]; exact (h.1 j hj).1
  · rw [if_neg (fun q => hj (by omega))]
    unfold txb
    rw [List.getD_eq_getElem?_getD, List.getElem?_eq_none (by omega)]
    rfl
/-- a fresh object at its beginning -/
def BN (hb : Hp) (s ci : Nat) (fs : List Value) (h : Hp) : Prop := h s = some (ob ci fs) ∧ hb s = none ∧ ∀ x, hb x ≠ none → h x = hb x
theorem BN.of {hb : Hp} {s ci : Nat} {fs : List Value} (hs : hb s = none) : BN hb s ci fs (hu hb s (ob ci fs)) := ⟨hu_s, hs, fun x hx => hu_n (fun e => hx (by rw [e]; exact hs))⟩
theorem BN.set {hb h : Hp} {s ci : Nat} {fs fs' : List Value} (H : BN hb s ci fs h) : BN hb s ci fs' (hu h s (ob ci fs')) := ⟨hu_s, H.2.1, fun x hx => (hu_n (fun e => hx (by rw [e]; exact H.2.1))).trans (H.2.2 x hx)⟩
theorem bn {hb : Hp} {s ci : Nat} {fs : List Value} : ∀ h, BN hb s ci fs h → h s = some (ob ci fs) := fun _ H => H.1
theorem BN.bp {G : GT} {hb h : Hp} {s q : Nat} {fs : List Value} {t : Nat → Int32} (H : BN hb s 1 fs h) (hq : h q = none) : BPf G hb s q fs t (hu h q (aB G 16 t)) := by
  have e1 : q ≠ s := fun e => by rw [e, H.1] at hq; cases hq
  have e2 : hb q = none := by
    cases hx : hb q with
    | none => rfl
    | some e =>
      have := H.2.2 q (by rw [hx]; exact fun z => by cases z)
      rw [hq, hx] at this; cases this
  exact ⟨(hu_n (Ne.symm e1)).trans H.1, hu_s, Ne.symm e1, H.2.1, e2, fun x hx => (hu_n (fun e => hx (by rw [e]; exact e2))).trans (H.2.2 x hx)⟩
section
variable {l : Launch} {G : GT} {hb : Hp} {s b c : Nat} {t : Nat → Int32}
set_option maxHeartbeats 4000000 in
set_option maxRecDepth 100000 in
theorem mJ5_init_d00df (hl : l.stackTraces = false)   : ∀ h, BN hb s 1 [.null, .int 0, .int 0, .int 0] h → CN l yJ5_init_d00df cJ5_init_d00df 2 (none) 0 1 16 [.ref s, .int (nI 16)] G h (fun v h1 => v = none ∧ ∃ b, BP G hb s b 0 (fun _ => 0) h1) := by
  intro h0 hwd
  refine CN.of hl (by decide +kernel) rfl (Nat.le_of_ble_eq_true rfl) (fun K sz hKl hin C => ?_)
  have C : CX K G (AH h0 sz) RJ5 cJ5_init_d00df 2 (none) (rmD 0 1 16) [] := C
  subst hKl
  refine WR.imp (P' := BN hb s 1 [.null, .int 0, .int 0, .int 0]) (fun h e => e ▸ hwd) ?_
  show WR K G _ _ _ [some (.ref s), some (.int (nI 16))] 0 0 0 []
  refine R_aload_n (pc := 0) C dJ5_init_d00df_0 rfl ?_
  refine R_objInit (pc := 1) C dJ5_init_d00df_1 k_5_2 rfl ⟨Nat.le_of_ble_eq_true rfl, Nat.le_of_ble_eq_true rfl⟩ ?_
  refine R_gets (pc := 4) C dJ5_init_d00df_4 (C.st.2.1) k_5_3 ?_
  refine R_if_eq (pc := 7) C dJ5_init_d00df_7 (tgt := 25) (by decide) (fun c7 => absurd c7 (by decide)) (fun c7 => ?_)
  refine R_aload_n (pc := 10) C dJ5_init_d00df_10 rfl ?_
  refine R_iload_n (pc := 11) C dJ5_init_d00df_11 rfl ?_
  refine R_newarr (pc := 12) C dJ5_init_d00df_12 (t := 1) (N := 16) (a0 := (16, .inl (fun _ => 0))) rfl k_5_4 (fun _ => rfl) (fun _ h => by cases h) (fun _ => rfl) (rfl) (by omega) (by decide) (Nat.le_of_ble_eq_true rfl) (Nat.le_of_ble_eq_true rfl) (fun h q hh hq => BN.bp hh hq) (fun b => ?_)
  refine R_putf (pc := 14) C dJ5_init_d00df_14 (i := 0) (bo) rfl inlJ4 tyJ4_ok nmJ4 (by decide) k_5_5 rfl rfl rfl (Nat.le_of_ble_eq_true rfl) (fun h hh => hh.setF) ?_
  refine R_aload_n (pc := 17) C dJ5_init_d00df_17 rfl ?_
  refine R_iconst (pc := 18) C dJ5_init_d00df_18 (v := 0) (by decide) ?_
  refine R_putf (pc := 19) C dJ5_init_d00df_19 (i := 1) (bo) rfl inlJ4 tyJ4_ok nmJ4 (by decide) k_5_6 rfl rfl rfl (Nat.le_of_ble_eq_true rfl) (fun h hh => hh.setF) ?_
  refine R_goto (pc := 22) C dJ5_init_d00df_22 (tgt := 38) (by decide) ?_
  exact R_vret (pc := 38) C dJ5_init_d00df_38 rfl (Nat.le_of_ble_eq_true rfl) (Nat.le_of_ble_eq_true rfl) (fun h hh => ⟨rfl, b, hh⟩)
set_option maxHeartbeats 4000000 in
set_option maxRecDepth 100000 in
theorem mJ4_init_da8c8 (hl : l.stackTraces = false)   : ∀ h, BN hb s 1 [.null, .int 0, .int 0, .int 0] h → CN l yJ4_init_da8c8 cJ4_init_da8c8 1 (none) 1 1 16 [.ref s] G h (fun v h1 => v = none ∧ ∃ b, BP G hb s b 0 (fun _ => 0) h1) := by
  intro h0 hwd
  refine CN.of hl (by decide +kernel) rfl (Nat.le_of_ble_eq_true rfl) (fun K sz hKl hin C => ?_)
  have C : CX K G (AH h0 sz) RJ4 cJ4_init_da8c8 1 (none) (rmD 1 1 16) [] := C
  subst hKl
  refine WR.imp (P' := BN hb s 1 [.null, .int 0, .int 0, .int 0]) (fun h e => e ▸ hwd) ?_
  show WR K G _ _ _ [some (.ref s)] 0 0 0 []
  refine R_aload_n (pc := 0) C dJ4_init_da8c8_0 rfl ?_
  refine R_bipush (pc := 1) C dJ4_init_da8c8_1 (v := 16) (by decide) ?_
  refine R_callI (pc := 3) C dJ4_init_da8c8_3 (vs := [.int (nI 16)]) (fun h hh => mJ5_init_d00df hl h hh) rfl ⟨k_4_22, k_4_23, k_5_0, k_5_1⟩ (sgn (nv := 1) rfl ⟨by decide +kernel, by decide +kernel, by decide +kernel⟩) ⟨⟨Nat.le_of_ble_eq_true rfl, Nat.le_of_ble_eq_true rfl⟩, ⟨Nat.le_of_ble_eq_true rfl, Nat.le_of_ble_eq_true rfl⟩, Nat.le_of_ble_eq_true rfl⟩ rfl rfl (fun h9 hh9 v9 => ?_)
  refine WR.pr (fun e9 => ?_)
  subst e9
  show WR K G _ _ _ _ _ _ _ _
  exact R_vret (pc := 6) C dJ4_init_da8c8_6 rfl (Nat.le_of_ble_eq_true rfl) (Nat.le_of_ble_eq_true rfl) (fun h hh => ⟨rfl, hh⟩)
set_option maxHeartbeats 4000000 in
set_option maxRecDepth 100000 in
theorem mtext_A (hl : l.stackTraces = false) {a d i : Nat} (ha : a < 3) (hd : d < 10) (hi : i < 8) : ∀ h, CN l yX0_textOf cX0_textOf 4 (some (.object "java/lang/String")) 6 4 40 [.int (nI a), .int (nI d), .int (nI i)] G h (fun v h1 => ∃ r q, v = some (.ref r) ∧ TS G h r q (tx a d i).length (txb a d i) h1) := by
  intro h0
  refine CN.of hl (by decide +kernel) rfl (Nat.le_of_ble_eq_true rfl) (fun K sz hKl hin C => ?_)
  have C : CX K G (AH h0 sz) RX0 cX0_textOf 4 (some (.object "java/lang/String")) (rmD 6 4 40) [] := C
  subst hKl
  show WR K G _ _ _ [some (.int (nI a)), some (.int (nI d)), some (.int (nI i)), none] 0 0 0 []
  obtain ⟨hasc, hcp⟩ := t_end (t := tA a d i) (tA_e a ha d hd i hi)
  have hln := (tA_e a ha d hd i hi).2
  refine R_new (pc := 0) C dX0_textOf_0 (P' := fun s h => BN h0 s 1 [.null, .int 0, .int 0, .int 0] h) (fs := [.null, .int 0, .int 0, .int 0]) (N := 4) rfl inlJ4 tyJ4_ok k_4_16 k_4_17 k_4_18 dfJ4 (Nat.le_of_ble_eq_true rfl) (Nat.le_of_ble_eq_true rfl) (fun h q hh hq => by subst hh; exact BN.of hq) (fun s => ?_)
  refine R_dup (pc := 3) C dX0_textOf_3 rfl ?_
  refine R_callI (pc := 4) C dX0_textOf_4 (vs := []) (fun h hh => mJ4_init_da8c8 hl h hh) rfl ⟨k_4_19, k_4_20, k_4_18, k_4_21⟩ (sgn (nv := 0) rfl ⟨by decide +kernel, by decide +kernel, by decide +kernel⟩) ⟨⟨Nat.le_of_ble_eq_true rfl, Nat.le_of_ble_eq_true rfl⟩, ⟨Nat.le_of_ble_eq_true rfl, Nat.le_of_ble_eq_true rfl⟩, Nat.le_of_ble_eq_true rfl⟩ rfl rfl (fun h9 hh9 v9 => ?_)
  refine WR.pr (fun e9 => WR.ex (fun b => ?_))
  subst e9
  show WR K G _ _ _ _ _ _ _ (.ref _ :: _)
  refine R_astore_n (pc := 7) C dX0_textOf_7 (Nat.le_of_ble_eq_true rfl) (lv' := [some (.int _), some (.int _), some (.int _), some (.ref _)]) rfl ?_
  refine R_aload_n (pc := 8) C dX0_textOf_8 rfl ?_
  refine R_ldcS (pc := 9) C dX0_textOf_9 (C.st.2.2.2.2.2.2.1.1) ?_
  refine R_callVN (pc := 11) C dX0_textOf_11 (vs := [_]) (fun h hh => mJ4_append_15ec4 hl h hh) (isOb_of (bo) rfl) ⟨k_5_15, k_5_16, k_5_17, k_4_18, k_5_18⟩ (sgn (nv := 1) rfl ⟨by decide +kernel, by decide +kernel, by decide +kernel⟩) ⟨⟨Nat.le_of_ble_eq_true rfl, Nat.le_of_ble_eq_true rfl⟩, ⟨Nat.le_of_ble_eq_true rfl, Nat.le_of_ble_eq_true rfl⟩, Nat.le_of_ble_eq_true rfl⟩ rfl rfl (fun h9 hh9 v9 => ?_)
  refine WR.pr (fun e9 => ?_)
  subst e9
  show WR K G _ _ _ _ _ _ _ (.ref _ :: _)
  refine R_iload_n (pc := 14) C dX0_textOf_14 rfl ?_
  refine R_callVN (pc := 15) C dX0_textOf_15 (vs := [_]) (fun h hh => mAI_A hl (by omega) (by decide) h hh) (isOb_of (bo) rfl) ⟨k_11_4, k_11_5, k_11_6, k_4_18, k_11_7⟩ (sgn (nv := 1) rfl ⟨by decide +kernel, by decide +kernel, by decide +kernel⟩) ⟨⟨Nat.le_of_ble_eq_true rfl, Nat.le_of_ble_eq_true rfl⟩, ⟨Nat.le_of_ble_eq_true rfl, Nat.le_of_ble_eq_true rfl⟩, Nat.le_of_ble_eq_true rfl⟩ rfl rfl (fun h9 hh9 v9 => ?_)
  refine WR.pr (fun e9 => ?_)
  subst e9
  show WR K G _ _ _ _ _ _ _ (.ref _ :: _)
  refine R_bipush (pc := 18) C dX0_textOf_18 (v := 64) (by decide) ?_
  refine R_callVN (pc := 20) C dX0_textOf_20 (vs := [.int (nI 64)]) (fun h hh => mJ4_append_cf468 hl (ch := 64) (by decide) (by decide) h hh) (isOb_of (bo) rfl) ⟨k_12_5, k_12_6, k_12_7, k_4_18, k_12_8⟩ (sgn (nv := 1) rfl ⟨by decide +kernel, by decide +kernel, by decide +kernel⟩) ⟨⟨Nat.le_of_ble_eq_true rfl, Nat.le_of_ble_eq_true rfl⟩, ⟨Nat.le_of_ble_eq_true rfl, Nat.le_of_ble_eq_true rfl⟩, Nat.le_of_ble_eq_true rfl⟩ rfl rfl (fun h9 hh9 v9 => ?_)
  refine WR.pr (fun e9 => ?_)
  subst e9
  show WR K G _ _ _ _ _ _ _ (.ref _ :: _)
  refine R_iload_n (pc := 23) C dX0_textOf_23 rfl ?_
  refine R_callVN (pc := 24) C dX0_textOf_24 (vs := [_]) (fun h hh => mAI_A hl hd (by decide) h hh) (isOb_of (bo) rfl) ⟨k_11_4, k_11_5, k_11_6, k_4_18, k_11_7⟩ (sgn (nv := 1) rfl ⟨by decide +kernel, by decide +kernel, by decide +kernel⟩) ⟨⟨Nat.le_of_ble_eq_true rfl, Nat.le_of_ble_eq_true rfl⟩, ⟨Nat.le_of_ble_eq_true rfl, Nat.le_of_ble_eq_true rfl⟩, Nat.le_of_ble_eq_true rfl⟩ rfl rfl (fun h9 hh9 v9 => ?_)
  refine WR.pr (fun e9 => ?_)
  subst e9
  show WR K G _ _ _ _ _ _ _ (.ref _ :: _)
  refine R_bipush (pc := 27) C dX0_textOf_27 (v := 58) (by decide) ?_
  refine R_callVN (pc := 29) C dX0_textOf_29 (vs := [.int (nI 58)]) (fun h hh => mJ4_append_cf468 hl (ch := 58) (by decide) (by decide) h hh) (isOb_of (bo) rfl) ⟨k_12_5, k_12_6, k_12_7, k_4_18, k_12_8⟩ (sgn (nv := 1) rfl ⟨by decide +kernel, by decide +kernel, by decide +kernel⟩) ⟨⟨Nat.le_of_ble_eq_true rfl, Nat.le_of_ble_eq_true rfl⟩, ⟨Nat.le_of_ble_eq_true rfl, Nat.le_of_ble_eq_true rfl⟩, Nat.le_of_ble_eq_true rfl⟩ rfl rfl (fun h9 hh9 v9 => ?_)
  refine WR.pr (fun e9 => ?_)
  subst e9
  show WR K G _ _ _ _ _ _ _ (.ref _ :: _)
  refine R_iload_n (pc := 32) C dX0_textOf_32 rfl ?_
  refine R_callVN (pc := 33) C dX0_textOf_33 (vs := [_]) (fun h hh => mAI_A hl (by omega) (by decide) h hh) (isOb_of (bo) rfl) ⟨k_11_4, k_11_5, k_11_6, k_4_18, k_11_7⟩ (sgn (nv := 1) rfl ⟨by decide +kernel, by decide +kernel, by decide +kernel⟩) ⟨⟨Nat.le_of_ble_eq_true rfl, Nat.le_of_ble_eq_true rfl⟩, ⟨Nat.le_of_ble_eq_true rfl, Nat.le_of_ble_eq_true rfl⟩, Nat.le_of_ble_eq_true rfl⟩ rfl rfl (fun h9 hh9 v9 => ?_)
  refine WR.pr (fun e9 => ?_)
  subst e9
  show WR K G _ _ _ _ _ _ _ (.ref _ :: _)
  refine R_pop (pc := 36) C dX0_textOf_36 rfl ?_
  refine R_aload_n (pc := 37) C dX0_textOf_37 rfl ?_
  refine R_callVN (pc := 38) C dX0_textOf_38 (vs := []) (fun h hh => mJ4_toString_0e30d hl (by decide) hasc h hh) (isOb_of (bo) rfl) ⟨k_13_4, k_13_5, k_13_6, k_4_18, k_13_7⟩ (sgn (nv := 0) rfl ⟨by decide +kernel, by decide +kernel, by decide +kernel⟩) ⟨⟨Nat.le_of_ble_eq_true rfl, Nat.le_of_ble_eq_true rfl⟩, ⟨Nat.le_of_ble_eq_true rfl, Nat.le_of_ble_eq_true rfl⟩, Nat.le_of_ble_eq_true rfl⟩ rfl rfl (fun h9 hh9 v9 => ?_)
  refine WR.ex (fun r => WR.ex (fun q => WR.pr (fun e9 => ?_)))
  subst e9
  show WR K G _ _ _ _ _ _ _ (.ref _ :: _)
  exact R_aret (pc := 41) C dX0_textOf_41 rfl (Or.inl ⟨_, rfl⟩) (Or.inr ⟨_, rfl⟩) (Nat.le_of_ble_eq_true rfl) (Nat.le_of_ble_eq_true rfl) (fun h hh => ⟨r, q, rfl, by rw [hln, ← hcp]; exact hh⟩)
set_option maxHeartbeats 4000000 in
set_option maxRecDepth 100000 in
theorem mtext_B (hl : l.stackTraces = false) {a d i : Nat} (ha : a < 3) (hd : d < 100) (hd2 : 10 ≤ d) (hi : i < 8) : ∀ h, CN l yX0_textOf cX0_textOf 4 (some (.object "java/lang/String")) 6 4 40 [.int (nI a), .int (nI d), .int (nI i)] G h (fun v h1 => ∃ r q, v = some (.ref r) ∧ TS G h r q (tx a d i).length (txb a d i) h1) := by
  intro h0
  refine CN.of hl (by decide +kernel) rfl (Nat.le_of_ble_eq_true rfl) (fun K sz hKl hin C => ?_)
  have C : CX K G (AH h0 sz) RX0 cX0_textOf 4 (some (.object "java/lang/String")) (rmD 6 4 40) [] := C
  subst hKl
  show WR K G _ _ _ [some (.int (nI a)), some (.int (nI d)), some (.int (nI i)), none] 0 0 0 []
  obtain ⟨hasc, hcp⟩ := t_end (t := tB a d i) (tB_e a ha d hd hd2 i hi)
  have hln := (tB_e a ha d hd hd2 i hi).2
  refine R_new (pc := 0) C dX0_textOf_0 (P' := fun s h => BN h0 s 1 [.null, .int 0, .int 0, .int 0] h) (fs := [.null, .int 0, .int 0, .int 0]) (N := 4) rfl inlJ4 tyJ4_ok k_4_16 k_4_17 k_4_18 dfJ4 (Nat.le_of_ble_eq_true rfl) (Nat.le_of_ble_eq_true rfl) (fun h q hh hq => by subst hh; exact BN.of hq) (fun s => ?_)
  refine R_dup (pc := 3) C dX0_textOf_3 rfl ?_
  refine R_callI (pc := 4) C dX0_textOf_4 (vs := []) (fun h hh => mJ4_init_da8c8 hl h hh) rfl ⟨k_4_19, k_4_20, k_4_18, k_4_21⟩ (sgn (nv := 0) rfl ⟨by decide +kernel, by decide +kernel, by decide +kernel⟩) ⟨⟨Nat.le_of_ble_eq_true rfl, Nat.le_of_ble_eq_true rfl⟩, ⟨Nat.le_of_ble_eq_true rfl, Nat.le_of_ble_eq_true rfl⟩, Nat.le_of_ble_eq_true rfl⟩ rfl rfl (fun h9 hh9 v9 => ?_)
  refine WR.pr (fun e9 => WR.ex (fun b => ?_))
  subst e9
  show WR K G _ _ _ _ _ _ _ (.ref _ :: _)
  refine R_astore_n (pc := 7) C dX0_textOf_7 (Nat.le_of_ble_eq_true rfl) (lv' := [some (.int _), some (.int _), some (.int _), some (.ref _)]) rfl ?_
  refine R_aload_n (pc := 8) C dX0_textOf_8 rfl ?_
  refine R_ldcS (pc := 9) C dX0_textOf_9 (C.st.2.2.2.2.2.2.1.1) ?_
  refine R_callVN (pc := 11) C dX0_textOf_11 (vs := [_]) (fun h hh => mJ4_append_15ec4 hl h hh) (isOb_of (bo) rfl) ⟨k_5_15, k_5_16, k_5_17, k_4_18, k_5_18⟩ (sgn (nv := 1) rfl ⟨by decide +kernel, by decide +kernel, by decide +kernel⟩) ⟨⟨Nat.le_of_ble_eq_true rfl, Nat.le_of_ble_eq_true rfl⟩, ⟨Nat.le_of_ble_eq_true rfl, Nat.le_of_ble_eq_true rfl⟩, Nat.le_of_ble_eq_true rfl⟩ rfl rfl (fun h9 hh9 v9 => ?_)
  refine WR.pr (fun e9 => ?_)
  subst e9
  show WR K G _ _ _ _ _ _ _ (.ref _ :: _)
  refine R_iload_n (pc := 14) C dX0_textOf_14 rfl ?_
  refine R_callVN (pc := 15) C dX0_textOf_15 (vs := [_]) (fun h hh => mAI_A hl (by omega) (by decide) h hh) (isOb_of (bo) rfl) ⟨k_11_4, k_11_5, k_11_6, k_4_18, k_11_7⟩ (sgn (nv := 1) rfl ⟨by decide +kernel, by decide +kernel, by decide +kernel⟩) ⟨⟨Nat.le_of_ble_eq_true rfl, Nat.le_of_ble_eq_true rfl⟩, ⟨Nat.le_of_ble_eq_true rfl, Nat.le_of_ble_eq_true rfl⟩, Nat.le_of_ble_eq_true rfl⟩ rfl rfl (fun h9 hh9 v9 => ?_)
  refine WR.pr (fun e9 => ?_)
  subst e9
  show WR K G _ _ _ _ _ _ _ (.ref _ :: _)
  refine R_bipush (pc := 18) C dX0_textOf_18 (v := 64) (by decide) ?_
  refine R_callVN (pc := 20) C dX0_textOf_20 (vs := [.int (nI 64)]) (fun h hh => mJ4_append_cf468 hl (ch := 64) (by decide) (by decide) h hh) (isOb_of (bo) rfl) ⟨k_12_5, k_12_6, k_12_7, k_4_18, k_12_8⟩ (sgn (nv := 1) rfl ⟨by decide +kernel, by decide +kernel, by decide +kernel⟩) ⟨⟨Nat.le_of_ble_eq_true rfl, Nat.le_of_ble_eq_true rfl⟩, ⟨Nat.le_of_ble_eq_true rfl, Nat.le_of_ble_eq_true rfl⟩, Nat.le_of_ble_eq_true rfl⟩ rfl rfl (fun h9 hh9 v9 => ?_)
  refine WR.pr (fun e9 => ?_)
  subst e9
  show WR K G _ _ _ _ _ _ _ (.ref _ :: _)
  refine R_iload_n (pc := 23) C dX0_textOf_23 rfl ?_
  refine R_callVN (pc := 24) C dX0_textOf_24 (vs := [_]) (fun h hh => mAI_B hl hd hd2 (by decide) h hh) (isOb_of (bo) rfl) ⟨k_11_4, k_11_5, k_11_6, k_4_18, k_11_7⟩ (sgn (nv := 1) rfl ⟨by decide +kernel, by decide +kernel, by decide +kernel⟩) ⟨⟨Nat.le_of_ble_eq_true rfl, Nat.le_of_ble_eq_true rfl⟩, ⟨Nat.le_of_ble_eq_true rfl, Nat.le_of_ble_eq_true rfl⟩, Nat.le_of_ble_eq_true rfl⟩ rfl rfl (fun h9 hh9 v9 => ?_)
  refine WR.pr (fun e9 => ?_)
  subst e9
  show WR K G _ _ _ _ _ _ _ (.ref _ :: _)
  refine R_bipush (pc := 27) C dX0_textOf_27 (v := 58) (by decide) ?_
  refine R_callVN (pc := 29) C dX0_textOf_29 (vs := [.int (nI 58)]) (fun h hh => mJ4_append_cf468 hl (ch := 58) (by decide) (by decide) h hh) (isOb_of (bo) rfl) ⟨k_12_5, k_12_6, k_12_7, k_4_18, k_12_8⟩ (sgn (nv := 1) rfl ⟨by decide +kernel, by decide +kernel, by decide +kernel⟩) ⟨⟨Nat.le_of_ble_eq_true rfl, Nat.le_of_ble_eq_true rfl⟩, ⟨Nat.le_of_ble_eq_true rfl, Nat.le_of_ble_eq_true rfl⟩, Nat.le_of_ble_eq_true rfl⟩ rfl rfl (fun h9 hh9 v9 => ?_)
  refine WR.pr (fun e9 => ?_)
  subst e9
  show WR K G _ _ _ _ _ _ _ (.ref _ :: _)
  refine R_iload_n (pc := 32) C dX0_textOf_32 rfl ?_
  refine R_callVN (pc := 33) C dX0_textOf_33 (vs := [_]) (fun h hh => mAI_A hl (by omega) (by decide) h hh) (isOb_of (bo) rfl) ⟨k_11_4, k_11_5, k_11_6, k_4_18, k_11_7⟩ (sgn (nv := 1) rfl ⟨by decide +kernel, by decide +kernel, by decide +kernel⟩) ⟨⟨Nat.le_of_ble_eq_true rfl, Nat.le_of_ble_eq_true rfl⟩, ⟨Nat.le_of_ble_eq_true rfl, Nat.le_of_ble_eq_true rfl⟩, Nat.le_of_ble_eq_true rfl⟩ rfl rfl (fun h9 hh9 v9 => ?_)
  refine WR.pr (fun e9 => ?_)
  subst e9
  show WR K G _ _ _ _ _ _ _ (.ref _ :: _)
  refine R_pop (pc := 36) C dX0_textOf_36 rfl ?_
  refine R_aload_n (pc := 37) C dX0_textOf_37 rfl ?_
  refine R_callVN (pc := 38) C dX0_textOf_38 (vs := []) (fun h hh => mJ4_toString_0e30d hl (by decide) hasc h hh) (isOb_of (bo) rfl) ⟨k_13_4, k_13_5, k_13_6, k_4_18, k_13_7⟩ (sgn (nv := 0) rfl ⟨by decide +kernel, by decide +kernel, by decide +kernel⟩) ⟨⟨Nat.le_of_ble_eq_true rfl, Nat.le_of_ble_eq_true rfl⟩, ⟨Nat.le_of_ble_eq_true rfl, Nat.le_of_ble_eq_true rfl⟩, Nat.le_of_ble_eq_true rfl⟩ rfl rfl (fun h9 hh9 v9 => ?_)
  refine WR.ex (fun r => WR.ex (fun q => WR.pr (fun e9 => ?_)))
  subst e9
  show WR K G _ _ _ _ _ _ _ (.ref _ :: _)
  exact R_aret (pc := 41) C dX0_textOf_41 rfl (Or.inl ⟨_, rfl⟩) (Or.inr ⟨_, rfl⟩) (Nat.le_of_ble_eq_true rfl) (Nat.le_of_ble_eq_true rfl) (fun h hh => ⟨r, q, rfl, by rw [hln, ← hcp]; exact hh⟩)
end
