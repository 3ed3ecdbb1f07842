/-! 39: addWell. Written by wip/p22/gen/m39.py -/
theorem pl_e {x : Int32} (h : ¬ x < 0 ∧ x ≤ 99) : ∃ d, d < 100 ∧ x = nI d := in_lt (m := 100) (by omega) h.1 (Int32.lt_of_le_of_lt h.2 (by decide))
section
variable {l : Launch} {G : GT} {adr : Nat → Nat} {n P : Nat} {F mu : Nat → Nat → Int32} {g : Nat → Int64} {Sm : St}
set_option maxHeartbeats 4000000 in
set_option maxRecDepth 100000 in
theorem mX1_addWell (hl : l.stackTraces = false) {xa xb xc xd xe xf : Int32} (hn : n ≤ 8) (hz1 : ∀ f, 6 ≤ f → f ≤ 12 → F f n = 0) (hz2 : ∀ j, j < 8 → F 13 (8 * n + j) = 0) : ∀ h, Wd G (adr, (n, P, F), Sm, mu, g) h → CT l yX1_addWell cX1_addWell 8 (some .int) 8 13 110 [.ref (adr 0), .int xa, .int xb, .int xc, .int xd, .int xe, .int xf] G h (fun v h1 => (kAdd n xa xb xc xd xe xf = 0 ∧ v = some (.int (nI n))) ∧ ∃ adr9, (∀ x, x < 30 → x ≠ 2 → adr9 x = adr x) ∧ Wd G (adr9, (n + 1, P, fAdd F n xa xb xc xd xe xf), Sm, mu, g) h1) (fun E h1 => exA E (kAdd n xa xb xc xd xe xf) ∧ Wd G (adr, (n, P, F), Sm, mu, g) h1) := by
  intro h0 hwd
  refine CT.of hl (by decide +kernel) rfl (Nat.le_of_ble_eq_true rfl) (fun K sz hKl C => ?_)
  have C : CX K G (AH h0 sz) RX1 cX1_addWell 8 (some .int) (rmD 8 13 110) [] := C
  subst hKl
  refine WR.imp (P' := Wd G (adr, (n, P, F), Sm, mu, g)) (fun h e => e ▸ hwd) ?_
  show WR K G _ _ _ [some (.ref (adr 0)), some (.int xa), some (.int xb), some (.int xc), some (.int xd), some (.int xe), some (.int xf), none] 0 0 0 []
  refine R_iload_n (pc := 0) C dX1_addWell_0 rfl ?_
  refine R_callST (pc := 1) C dX1_addWell_1 (vs := [_]) (fun h hh => mX1_requireLayer hl h) ⟨k_3_8, k_3_9, k_1_2, k_3_10⟩ (sgn (nv := 1) rfl ⟨by decide +kernel, by decide +kernel, by decide +kernel⟩) ⟨⟨Nat.le_of_ble_eq_true rfl, Nat.le_of_ble_eq_true rfl⟩, ⟨Nat.le_of_ble_eq_true rfl, Nat.le_of_ble_eq_true rfl⟩, Nat.le_of_ble_eq_true rfl⟩ rfl rfl (fun h9 hh9 E9 => ?_) (fun h9 hh9 v9 => ?_)
  · exact X_out C (Nat.le_of_ble_eq_true rfl) (Nat.le_of_ble_eq_true rfl) (fun h1 hh1 => ⟨Or.inl ⟨by simp [kAdd, qR_f (fun q => (lay_f hh1.2.1) q)], hh1.1⟩, hh1.2.2 ▸ hh9⟩)
  refine WR.pr (fun e9 => ?_)
  subst e9
  refine WR.pr (fun hl3 => ?_)
  refine WR.imp (P' := Wd G (adr, (n, P, F), Sm, mu, g)) (fun h1 e1 => e1 ▸ hh9) ?_
  show WR K G _ _ _ _ _ _ _ _
  obtain ⟨a, ha, rfl⟩ := hl3
  refine R_iload_n (pc := 4) C dX1_addWell_4 rfl ?_
  refine R_iconst (pc := 5) C dX1_addWell_5 (v := 0) (by decide) ?_
  refine R_bipush (pc := 6) C dX1_addWell_6 (v := 99) (by decide) ?_
  refine R_callST (pc := 8) C dX1_addWell_8 (vs := [_, _, _]) (fun h hh => mX1_requireWithin hl h) ⟨k_3_13, k_3_14, k_1_2, k_3_15⟩ (sgn (nv := 3) rfl ⟨by decide +kernel, by decide +kernel, by decide +kernel⟩) ⟨⟨Nat.le_of_ble_eq_true rfl, Nat.le_of_ble_eq_true rfl⟩, ⟨Nat.le_of_ble_eq_true rfl, Nat.le_of_ble_eq_true rfl⟩, Nat.le_of_ble_eq_true rfl⟩ rfl rfl (fun h9 hh9 E9 => ?_) (fun h9 hh9 v9 => ?_)
  · exact X_out C (Nat.le_of_ble_eq_true rfl) (Nat.le_of_ble_eq_true rfl) (fun h1 hh1 => ⟨Or.inr (Or.inl ⟨by simp [kAdd, lay_t ha, qR_f hh1.2.1], hh1.1⟩), hh1.2.2 ▸ hh9⟩)
  refine WR.pr (fun e9 => ?_)
  subst e9
  refine WR.pr (fun hb2 => ?_)
  refine WR.imp (P' := Wd G (adr, (n, P, F), Sm, mu, g)) (fun h1 e1 => e1 ▸ hh9) ?_
  show WR K G _ _ _ _ _ _ _ _
  refine R_iload_n (pc := 11) C dX1_addWell_11 rfl ?_
  refine R_sipush (pc := 12) C dX1_addWell_12 (v := -10000) (by decide) ?_
  refine R_sipush (pc := 15) C dX1_addWell_15 (v := 10000) (by decide) ?_
  refine R_callST (pc := 18) C dX1_addWell_18 (vs := [_, _, _]) (fun h hh => mX1_requireWithin hl h) ⟨k_3_13, k_3_14, k_1_2, k_3_15⟩ (sgn (nv := 3) rfl ⟨by decide +kernel, by decide +kernel, by decide +kernel⟩) ⟨⟨Nat.le_of_ble_eq_true rfl, Nat.le_of_ble_eq_true rfl⟩, ⟨Nat.le_of_ble_eq_true rfl, Nat.le_of_ble_eq_true rfl⟩, Nat.le_of_ble_eq_true rfl⟩ rfl rfl (fun h9 hh9 E9 => ?_) (fun h9 hh9 v9 => ?_)
  · exact X_out C (Nat.le_of_ble_eq_true rfl) (Nat.le_of_ble_eq_true rfl) (fun h1 hh1 => ⟨Or.inr (Or.inl ⟨by simp [kAdd, lay_t ha, qR_t hb2, qR_f hh1.2.1], hh1.1⟩), hh1.2.2 ▸ hh9⟩)
  refine WR.pr (fun e9 => ?_)
  subst e9
  refine WR.pr (fun hc2 => ?_)
  refine WR.imp (P' := Wd G (adr, (n, P, F), Sm, mu, g)) (fun h1 e1 => e1 ▸ hh9) ?_
  show WR K G _ _ _ _ _ _ _ _
  refine R_iload (pc := 21) C dX1_addWell_21 rfl ?_
  refine R_sipush (pc := 23) C dX1_addWell_23 (v := -10000) (by decide) ?_
  refine R_sipush (pc := 26) C dX1_addWell_26 (v := 10000) (by decide) ?_
  refine R_callST (pc := 29) C dX1_addWell_29 (vs := [_, _, _]) (fun h hh => mX1_requireWithin hl h) ⟨k_3_13, k_3_14, k_1_2, k_3_15⟩ (sgn (nv := 3) rfl ⟨by decide +kernel, by decide +kernel, by decide +kernel⟩) ⟨⟨Nat.le_of_ble_eq_true rfl, Nat.le_of_ble_eq_true rfl⟩, ⟨Nat.le_of_ble_eq_true rfl, Nat.le_of_ble_eq_true rfl⟩, Nat.le_of_ble_eq_true rfl⟩ rfl rfl (fun h9 hh9 E9 => ?_) (fun h9 hh9 v9 => ?_)
  · exact X_out C (Nat.le_of_ble_eq_true rfl) (Nat.le_of_ble_eq_true rfl) (fun h1 hh1 => ⟨Or.inr (Or.inl ⟨by simp [kAdd, lay_t ha, qR_t hb2, qR_t hc2, qR_f hh1.2.1], hh1.1⟩), hh1.2.2 ▸ hh9⟩)
  refine WR.pr (fun e9 => ?_)
  subst e9
  refine WR.pr (fun hd2 => ?_)
  refine WR.imp (P' := Wd G (adr, (n, P, F), Sm, mu, g)) (fun h1 e1 => e1 ▸ hh9) ?_
  show WR K G _ _ _ _ _ _ _ _
  refine R_iload (pc := 32) C dX1_addWell_32 rfl ?_
  refine R_iconst (pc := 34) C dX1_addWell_34 (v := 0) (by decide) ?_
  refine R_sipush (pc := 35) C dX1_addWell_35 (v := 1000) (by decide) ?_
  refine R_callST (pc := 38) C dX1_addWell_38 (vs := [_, _, _]) (fun h hh => mX1_requireWithin hl h) ⟨k_3_13, k_3_14, k_1_2, k_3_15⟩ (sgn (nv := 3) rfl ⟨by decide +kernel, by decide +kernel, by decide +kernel⟩) ⟨⟨Nat.le_of_ble_eq_true rfl, Nat.le_of_ble_eq_true rfl⟩, ⟨Nat.le_of_ble_eq_true rfl, Nat.le_of_ble_eq_true rfl⟩, Nat.le_of_ble_eq_true rfl⟩ rfl rfl (fun h9 hh9 E9 => ?_) (fun h9 hh9 v9 => ?_)
  · exact X_out C (Nat.le_of_ble_eq_true rfl) (Nat.le_of_ble_eq_true rfl) (fun h1 hh1 => ⟨Or.inr (Or.inl ⟨by simp [kAdd, lay_t ha, qR_t hb2, qR_t hc2, qR_t hd2, qR_f hh1.2.1], hh1.1⟩), hh1.2.2 ▸ hh9⟩)
  refine WR.pr (fun e9 => ?_)
  subst e9
  refine WR.pr (fun he2 => ?_)
  refine WR.imp (P' := Wd G (adr, (n, P, F), Sm, mu, g)) (fun h1 e1 => e1 ▸ hh9) ?_
  show WR K G _ _ _ _ _ _ _ _
  refine R_iload (pc := 41) C dX1_addWell_41 rfl ?_
  refine R_iconst (pc := 43) C dX1_addWell_43 (v := 0) (by decide) ?_
  refine R_sipush (pc := 44) C dX1_addWell_44 (v := 1000) (by decide) ?_
  refine R_callST (pc := 47) C dX1_addWell_47 (vs := [_, _, _]) (fun h hh => mX1_requireWithin hl h) ⟨k_3_13, k_3_14, k_1_2, k_3_15⟩ (sgn (nv := 3) rfl ⟨by decide +kernel, by decide +kernel, by decide +kernel⟩) ⟨⟨Nat.le_of_ble_eq_true rfl, Nat.le_of_ble_eq_true rfl⟩, ⟨Nat.le_of_ble_eq_true rfl, Nat.le_of_ble_eq_true rfl⟩, Nat.le_of_ble_eq_true rfl⟩ rfl rfl (fun h9 hh9 E9 => ?_) (fun h9 hh9 v9 => ?_)
  · exact X_out C (Nat.le_of_ble_eq_true rfl) (Nat.le_of_ble_eq_true rfl) (fun h1 hh1 => ⟨Or.inr (Or.inl ⟨by simp [kAdd, lay_t ha, qR_t hb2, qR_t hc2, qR_t hd2, qR_t he2, qR_f hh1.2.1], hh1.1⟩), hh1.2.2 ▸ hh9⟩)
  refine WR.pr (fun e9 => ?_)
  subst e9
  refine WR.pr (fun hf2 => ?_)
  refine WR.imp (P' := Wd G (adr, (n, P, F), Sm, mu, g)) (fun h1 e1 => e1 ▸ hh9) ?_
  show WR K G _ _ _ _ _ _ _ _
  refine R_aload_n (pc := 50) C dX1_addWell_50 rfl ?_
  refine R_getf (pc := 51) C dX1_addWell_51 (i := 0) (wc0) rfl inlX1 (by decide) k_1_13 rfl ?_
  refine R_callVN (pc := 54) C dX1_addWell_54 (vs := []) (fun h hh => mJx4a65c_size_8abf5 hl h hh) (isOb_of (wc1) rfl) ⟨k_3_18, k_3_19, k_3_20, k_1_12, k_3_21⟩ (sgn (nv := 0) rfl ⟨by decide +kernel, by decide +kernel, by decide +kernel⟩) ⟨⟨Nat.le_of_ble_eq_true rfl, Nat.le_of_ble_eq_true rfl⟩, ⟨Nat.le_of_ble_eq_true rfl, Nat.le_of_ble_eq_true rfl⟩, Nat.le_of_ble_eq_true rfl⟩ rfl rfl (fun h9 hh9 v9 => ?_)
  refine WR.pr (fun e9 => ?_)
  subst e9
  show WR K G _ _ _ _ _ _ _ (.int _ :: _)
  refine R_istore (pc := 57) C dX1_addWell_57 (Nat.le_of_ble_eq_true rfl) (lv' := [some (.ref _), some (.int _), some (.int _), some (.int _), some (.int _), some (.int _), some (.int _), some (.int _)]) rfl ?_
  refine R_iload (pc := 59) C dX1_addWell_59 rfl ?_
  refine R_bipush (pc := 61) C dX1_addWell_61 (v := 8) (by decide) ?_
  refine R_icmp_lt (pc := 63) C dX1_addWell_63 (tgt := 76) (by decide) (fun c63 => ?_) (fun c63 => ?_)
  · obtain ⟨d, hd, rfl⟩ := pl_e hb2
    refine R_aload_n (pc := 76) C dX1_addWell_76 rfl ?_
    refine R_getf (pc := 77) C dX1_addWell_77 (i := 0) (wc0) rfl inlX1 (by decide) k_1_13 rfl ?_
    have hn8 : n < 8 := (nI_ltI (by omega) (by omega)).mp (show nI n < nI 8 from c63)
    refine WR.all (fun hB hBw => ?_)
    refine R_new (pc := 80) C dX1_addWell_80 (P' := fun w h => BN hB w 3 [.int 0, .int 0, .int 0, .int 0, .int 0, .int 0, .null, .null, .int 0, .int 0, .int 0, .int 0, .int 0, .int 0, .int 0, .int 0] h) (fs := [.int 0, .int 0, .int 0, .int 0, .int 0, .int 0, .null, .null, .int 0, .int 0, .int 0, .int 0, .int 0, .int 0, .int 0, .int 0]) (N := 16) rfl inlX0 tyX0_ok k_3_5 k_3_6 k_3_7 dfX0 (Nat.le_of_ble_eq_true rfl) (Nat.le_of_ble_eq_true rfl) (fun h q hh hq => by subst hh; exact BN.of hq) (fun w => ?_)
    refine R_dup (pc := 83) C dX1_addWell_83 rfl ?_
    refine R_iload (pc := 84) C dX1_addWell_84 rfl ?_
    refine R_iload_n (pc := 86) C dX1_addWell_86 rfl ?_
    refine R_iload_n (pc := 87) C dX1_addWell_87 rfl ?_
    refine R_iload_n (pc := 88) C dX1_addWell_88 rfl ?_
    refine R_iload (pc := 89) C dX1_addWell_89 rfl ?_
    refine R_iload (pc := 91) C dX1_addWell_91 rfl ?_
    refine R_iload (pc := 93) C dX1_addWell_93 rfl ?_
    refine R_callI (pc := 95) C dX1_addWell_95 (vs := [_, _, _, _, _, _, _]) (fun h hh => mX0_init hl ha hd hn8 h hh) rfl ⟨k_3_23, k_4_0, k_3_7, k_4_1⟩ (sgn (nv := 7) rfl ⟨by decide +kernel, by decide +kernel, by decide +kernel⟩) ⟨⟨Nat.le_of_ble_eq_true rfl, Nat.le_of_ble_eq_true rfl⟩, ⟨Nat.le_of_ble_eq_true rfl, Nat.le_of_ble_eq_true rfl⟩, Nat.le_of_ble_eq_true rfl⟩ rfl rfl (fun h9 hh9 v9 => ?_)
    refine WR.pr (fun e9 => ?_)
    subst e9
    refine WR.ex (fun r => WR.ex (fun q => WR.ex (fun e => ?_)))
    show WR K G _ _ _ _ _ _ _ (.ref _ :: _)
    refine WR.all (fun hC hCw => ?_)
    have hB1 := wc1 hB hBw
    have hC1 := (hCw.1.1.2.2 _ (by rw [hB1]; exact fun z => by cases z)).trans hB1
    have hw1 : w ≠ adr 1 := fun z => by have q9 := hCw.1.1.2.1; rw [z, hB1] at q9; cases q9
    by_cases hn0 : n = 0
    · rw [if_pos hn0] at hC1
      subst hn0
      refine R_callVN (pc := 98) C dX1_addWell_98 (vs := [_]) (fun h hh => mLadZ (hb := hC) hl hCw.1.1.1 hw1 h (hh ▸ ⟨hC1, fun _ _ => rfl⟩)) (isOb_of (ci := 2) (fun h hh => hh ▸ hC1) rfl) ⟨k_15_7, k_15_8, k_15_9, k_1_12, k_15_10⟩ (sgn (nv := 1) rfl ⟨by decide +kernel, by decide +kernel, by decide +kernel⟩) ⟨⟨Nat.le_of_ble_eq_true rfl, Nat.le_of_ble_eq_true rfl⟩, ⟨Nat.le_of_ble_eq_true rfl, Nat.le_of_ble_eq_true rfl⟩, Nat.le_of_ble_eq_true rfl⟩ rfl rfl (fun h9 hh9 v9 => ?_)
      refine WR.ex (fun ea => WR.pr (fun e9 => ?_))
      obtain ⟨e9, hea⟩ := e9
      subst e9
      refine WR.imp (P' := fun h => ∃ adr9, (∀ x, x < 30 → x ≠ 2 → adr9 x = adr x) ∧ Wd G (adr9, (0 + 1, P, fAdd F 0 (nI a) (nI d) xc xd xe xf), Sm, mu, g) h) (fun h hh => hBw.add hn8 ha hd hz1 hz2 hCw (Or.inl ⟨hea, rfl⟩) upZ hh) ?_
      show WR K G _ _ _ _ _ _ _ (.int _ :: _)
      refine R_pop (pc := 101) C dX1_addWell_101 rfl ?_
      refine R_iload (pc := 102) C dX1_addWell_102 rfl ?_
      refine R_ok ?_
      exact R_iret (pc := 104) C dX1_addWell_104 rfl (Nat.le_of_ble_eq_true rfl) (Nat.le_of_ble_eq_true rfl) (fun h hh => ⟨⟨by unfold kAdd; rw [if_pos (lay_t ha), if_pos ⟨qR_t hb2, qR_t hc2, qR_t hd2, qR_t he2, qR_t hf2⟩, if_neg (Nat.ne_of_lt hn8)], rfl⟩, hh⟩)
    · rw [if_neg hn0] at hC1
      have hB2 := wc2 hn0 hB hBw
      have hC2 := (hCw.1.1.2.2 _ (by rw [hB2]; exact fun z => by cases z)).trans hB2
      have hw2 : w ≠ adr 2 := fun z => by have q9 := hCw.1.1.2.1; rw [z, hB2] at q9; cases q9
      have h12 : adr 1 ≠ adr 2 := fun z => by rw [z, hB2] at hB1; cases hB1
      refine R_callVN (pc := 98) C dX1_addWell_98 (vs := [_]) (fun h hh => mLadS (hb := hC) (ea := adr 2) (n := n) (f := fun j => if j < n then some (adr (30 + j)) else none) hl (by omega) hCw.1.1.1 hw1 hw2 h (hh ▸ ⟨hC1, hC2, h12, fun _ _ _ => rfl⟩)) (isOb_of (ci := 2) (fun h hh => hh ▸ hC1) rfl) ⟨k_15_7, k_15_8, k_15_9, k_1_12, k_15_10⟩ (sgn (nv := 1) rfl ⟨by decide +kernel, by decide +kernel, by decide +kernel⟩) ⟨⟨Nat.le_of_ble_eq_true rfl, Nat.le_of_ble_eq_true rfl⟩, ⟨Nat.le_of_ble_eq_true rfl, Nat.le_of_ble_eq_true rfl⟩, Nat.le_of_ble_eq_true rfl⟩ rfl rfl (fun h9 hh9 v9 => ?_)
      refine WR.pr (fun e9 => ?_)
      subst e9
      refine WR.imp (P' := fun h => ∃ adr9, (∀ x, x < 30 → x ≠ 2 → adr9 x = adr x) ∧ Wd G (adr9, (n + 1, P, fAdd F n (nI a) (nI d) xc xd xe xf), Sm, mu, g) h) (fun h hh => hBw.add hn8 ha hd hz1 hz2 hCw (Or.inr ⟨hn0, rfl⟩) (upS rfl hn8) hh) ?_
      show WR K G _ _ _ _ _ _ _ (.int _ :: _)
      refine R_pop (pc := 101) C dX1_addWell_101 rfl ?_
      refine R_iload (pc := 102) C dX1_addWell_102 rfl ?_
      refine R_ok ?_
      exact R_iret (pc := 104) C dX1_addWell_104 rfl (Nat.le_of_ble_eq_true rfl) (Nat.le_of_ble_eq_true rfl) (fun h hh => ⟨⟨by unfold kAdd; rw [if_pos (lay_t ha), if_pos ⟨qR_t hb2, qR_t hc2, qR_t hd2, qR_t he2, qR_t hf2⟩, if_neg (Nat.ne_of_lt hn8)], rfl⟩, hh⟩)
  · exact R_thrISE (pc := 66) C dX1_addWell_66 dX1_addWell_69 dX1_addWell_70 dX1_addWell_72 dX1_addWell_75 (C.st.2.2.2.2.2.2.1.2.2.2.2.2.2.2.1) rfl ⟨⟨Nat.le_of_ble_eq_true rfl, Nat.le_of_ble_eq_true rfl⟩, Nat.le_of_ble_eq_true rfl, Nat.le_of_ble_eq_true rfl⟩ ⟨Nat.le_of_ble_eq_true rfl, Nat.le_of_ble_eq_true rfl⟩ (fun h hh => ⟨Or.inr (Or.inr ⟨by unfold kAdd; rw [if_pos (lay_t ha), if_pos ⟨qR_t hb2, qR_t hc2, qR_t hd2, qR_t he2, qR_t hf2⟩, if_pos (Nat.le_antisymm hn (Nat.not_lt.mp (fun z => c63 (nI_lt (b := 8) z (by omega)))))], rfl⟩), hh⟩)
end
