/-! 43: sign of the model. Written by wip/whole/gen/m43.py -/
theorem sA_e : ∀ a, a < 3 → ∀ d, d < 10 → ∀ i, i < 8 → (((48 + nI a) : Int32).toUInt32 % 65536).toInt32 = txb a d i 5 ∧ 64 = txb a d i 6 ∧ (((48 + (nI d - nI d / 10 * 10)) : Int32).toUInt32 % 65536).toInt32 = txb a d i 7 ∧ 58 = txb a d i 8 ∧ (((48 + nI i) : Int32).toUInt32 % 65536).toInt32 = txb a d i 9 ∧ (∀ j, j < 10 → (tx a d i).getD j 0 < 128) ∧ (tx a d i).length = 10 := by decide +kernel
theorem sB_e1 : ∀ a, a < 3 → ∀ d, d < 90 → ∀ i, i < 8 → (((48 + nI a) : Int32).toUInt32 % 65536).toInt32 = txb a (10 + d) i 5 ∧ 64 = txb a (10 + d) i 6 ∧ (((48 + nI (10 + d) / 10) : Int32).toUInt32 % 65536).toInt32 = txb a (10 + d) i 7 := by decide +kernel
theorem sB_e2 : ∀ a, a < 3 → ∀ d, d < 90 → ∀ i, i < 8 → (((48 + (nI (10 + d) - nI (10 + d) / 10 * 10)) : Int32).toUInt32 % 65536).toInt32 = txb a (10 + d) i 8 ∧ 58 = txb a (10 + d) i 9 ∧ (((48 + nI i) : Int32).toUInt32 % 65536).toInt32 = txb a (10 + d) i 10 ∧ (∀ j, j < 11 → (tx a (10 + d) i).getD j 0 < 128) ∧ (tx a (10 + d) i).length = 11 := by decide +kernel
theorem sB_e (a : Nat) (ha : a < 3) (d : Nat) (h1 : d < 100) (h2 : 10 ≤ d) (i : Nat) (hi : i < 8) : (((48 + nI a) : Int32).toUInt32 % 65536).toInt32 = txb a d i 5 ∧ 64 = txb a d i 6 ∧ (((48 + nI d / 10) : Int32).toUInt32 % 65536).toInt32 = txb a d i 7 ∧ (((48 + (nI d - nI d / 10 * 10)) : Int32).toUInt32 % 65536).toInt32 = txb a d i 8 ∧ 58 = txb a d i 9 ∧ (((48 + nI i) : Int32).toUInt32 % 65536).toInt32 = txb a d i 10 ∧ (∀ j, j < 11 → (tx a d i).getD j 0 < 128) ∧ (tx a d i).length = 11 := by
  have e1 := sB_e1 a ha (d - 10) (by omega) i hi
  have e2 := sB_e2 a ha (d - 10) (by omega) i hi
  rw [show 10 + (d - 10) = d by omega] at e1 e2
  exact ⟨e1.1, e1.2.1, e1.2.2, e2⟩
theorem le_lt9 {y : Int32} : (y ≤ 8 + 1 ↔ y < nI 10) ∧ (y ≤ 8 + 2 ↔ y < nI 11) := by
  rw [Int32.le_iff_toInt_le, Int32.lt_iff_toInt_lt, Int32.le_iff_toInt_le, Int32.lt_iff_toInt_lt, show ((8 : Int32) + 1).toInt = 9 by decide, show (nI 10).toInt = 10 by decide, show ((8 : Int32) + 2).toInt = 10 by decide, show (nI 11).toInt = 11 by decide]
  omega
section
variable {l : Launch} {G : GT} {adr : Nat → Nat} {n P : Nat} {F mu : Nat → Nat → Int32} {g : Nat → Int64} {Sc : St}
set_option maxHeartbeats 4000000 in
set_option maxRecDepth 100000 in
theorem mX2_sign (hl : l.stackTraces = false) {x y : Int32} (hn : n ≤ 8) (hrg : Rg n P F) : ∀ h, Wd G (adr, Sc, (n, P, F), mu, g) h → CN l yX2_sign cX2_sign 4 (some .char) 3 0 0 [.ref (adr 5), .int x, .int y] G h (fun v h1 => mPost (kSign n F x y) (tbf F (ix x) (ix y)) (fun m9 => Wd G (adr, Sc, (n, P, F), m9, g)) (fun m9 => Wd G (adr, Sc, (n, P, F), m9, g)) v h1) := by
  intro h0 hwd
  refine CN.of hl (by decide +kernel) rfl (Nat.le_of_ble_eq_true rfl) (fun K sz hKl hin C => ?_)
  have C : CX K G (AH h0 sz) RX2 cX2_sign 4 (some .char) (rmD 3 0 0) [] := C
  subst hKl
  refine WR.imp (P' := Wd G (adr, Sc, (n, P, F), mu, g)) (fun h e => e ▸ hwd) ?_
  show WR K G _ _ _ [some (.ref (adr 5)), some (.int x), some (.int y), none] 0 0 0 []
  refine R_aload_n (pc := 0) C dX2_sign_0 rfl ?_
  refine R_aload_n (pc := 1) C dX2_sign_1 rfl ?_
  refine R_iload_n (pc := 2) C dX2_sign_2 rfl ?_
  refine R_callVN (pc := 3) C dX2_sign_3 (vs := [_]) (fun h hh => mX2_isWell hl hn h hh) (isOb_of (wm0) rfl) ⟨k_19_17, k_19_18, k_19_19, k_1_5, k_19_20⟩ (sgn (nv := 1) rfl ⟨by decide +kernel, by decide +kernel, by decide +kernel⟩) ⟨⟨Nat.le_of_ble_eq_true rfl, Nat.le_of_ble_eq_true rfl⟩, ⟨Nat.le_of_ble_eq_true rfl, Nat.le_of_ble_eq_true rfl⟩, Nat.le_of_ble_eq_true rfl⟩ rfl rfl (fun h9 hh9 v9 => ?_)
  refine WR.pr (fun e9 => ?_)
  subst e9
  show WR K G _ _ _ _ _ _ _ (.int _ :: _)
  refine R_if_eq (pc := 6) C dX2_sign_6 (tgt := 13) (by decide) (fun c6 => ?_) (fun c6 => ?_)
  · refine R_iconst (pc := 13) C dX2_sign_13 (v := 1) (by decide) ?_
    refine R_putf (pc := 14) C dX2_sign_14 (i := 0) (wm0) rfl inlX2 tyX2_ok nmX2 (by decide) k_17_18 rfl rfl rfl (Nat.le_of_ble_eq_true rfl) (pm_thr) ?_
    refine R_aload_n (pc := 17) C dX2_sign_17 rfl ?_
    refine R_getf (pc := 18) C dX2_sign_18 (i := 0) (wm0) rfl inlX2 (by decide) k_17_18 rfl ?_
    rw [su_s]
    refine R_if_le (pc := 21) C dX2_sign_21 (tgt := 28) (by decide) (fun c21 => absurd c21 (by decide)) (fun c21 => ?_)
    refine R_iconst (pc := 24) C dX2_sign_24 (v := 0) (by decide) ?_
    refine R_goto (pc := 25) C dX2_sign_25 (tgt := 44) (by decide) ?_
    refine R_istore_n (pc := 44) C dX2_sign_44 (Nat.le_of_ble_eq_true rfl) (lv' := [some (.ref _), some (.int _), some (.int _), some (.int _)]) rfl ?_
    refine R_aload_n (pc := 45) C dX2_sign_45 rfl ?_
    refine R_getf (pc := 46) C dX2_sign_46 (i := 0) (wm0) rfl inlX2 (by decide) k_17_18 rfl ?_
    rw [su_s]
    refine R_if_gt (pc := 49) C dX2_sign_49 (tgt := 64) (by decide) (fun c49 => ?_) (fun c49 => absurd (by decide) c49)
    have hk0 : kSign n F x y = 1 := by unfold kSign; rw [if_neg (by rw [b01 c6]; decide)]
    refine R_aload_n (pc := 64) C dX2_sign_64 rfl ?_
    refine R_iconst (pc := 65) C dX2_sign_65 (v := 1) (by decide) ?_
    refine R_callVN (pc := 66) C dX2_sign_66 (vs := [_]) (fun h hh => mX2_refuses hl h hh) (isOb_of (wm0) rfl) ⟨k_17_23, k_18_0, k_18_1, k_1_5, k_18_2⟩ (sgn (nv := 1) rfl ⟨by decide +kernel, by decide +kernel, by decide +kernel⟩) ⟨⟨Nat.le_of_ble_eq_true rfl, Nat.le_of_ble_eq_true rfl⟩, ⟨Nat.le_of_ble_eq_true rfl, Nat.le_of_ble_eq_true rfl⟩, Nat.le_of_ble_eq_true rfl⟩ rfl rfl (fun h9 hh9 v9 => ?_)
    refine WR.pr (fun e9 => ?_)
    subst e9
    show WR K G _ _ _ _ _ _ _ (.int _ :: _)
    refine R_i2c (pc := 69) C dX2_sign_69 ?_
    exact R_zret (pc := 70) C dX2_sign_70 rfl rfl (Nat.le_of_ble_eq_true rfl) (Nat.le_of_ble_eq_true rfl) (fun h hh => Or.inr ⟨by rw [hk0]; decide, ⟨_, rfl⟩, _, su_s.trans hk0.symm, hh⟩)
  · refine R_iconst (pc := 9) C dX2_sign_9 (v := 0) (by decide) ?_
    refine R_goto (pc := 10) C dX2_sign_10 (tgt := 14) (by decide) ?_
    refine R_putf (pc := 14) C dX2_sign_14 (i := 0) (wm0) rfl inlX2 tyX2_ok nmX2 (by decide) k_17_18 rfl rfl rfl (Nat.le_of_ble_eq_true rfl) (pm_thr) ?_
    refine R_aload_n (pc := 17) C dX2_sign_17 rfl ?_
    refine R_getf (pc := 18) C dX2_sign_18 (i := 0) (wm0) rfl inlX2 (by decide) k_17_18 rfl ?_
    rw [su_s]
    refine R_if_le (pc := 21) C dX2_sign_21 (tgt := 28) (by decide) (fun c21 => ?_) (fun c21 => absurd (by decide) c21)
    obtain ⟨i, hi, rfl⟩ := qW_e hn (b01' c6)
    obtain ⟨⟨a, ha, ea⟩, ⟨d, hd, ed⟩⟩ := hrg.1 i hi
    refine R_aload_n (pc := 28) C dX2_sign_28 rfl ?_
    refine R_getf (pc := 29) C dX2_sign_29 (i := 3) (wm0) rfl inlX2 (by decide) k_2_19 rfl ?_
    refine R_iload_n (pc := 32) C dX2_sign_32 rfl ?_
    refine R_iald (pc := 33) C dX2_sign_33 (wm_1) (rfl) (by omega) (by decide) rfl ?_
    refine R_bipush (pc := 34) C dX2_sign_34 (v := 10) (by decide) ?_
    refine R_icmp_ge (pc := 36) C dX2_sign_36 (tgt := 43) (by decide) (fun c36 => ?_) (fun c36 => ?_)
    · have sE := sB_e a (by omega) d (by omega) ((nI_leI (by omega) (by omega)).mp (show nI 10 ≤ nI d by rw [← ed]; exact c36)) i (by omega)
      have sL := sE.2.2.2.2.2.2.1
      have sN := sE.2.2.2.2.2.2.2
      have tle : tl F i = (tx a d i).length := by unfold tl; rw [ea, ed, nI_clamp (by omega), nI_clamp (by omega)]
      refine R_iconst (pc := 43) C dX2_sign_43 (v := 2) (by decide) ?_
      refine R_istore_n (pc := 44) C dX2_sign_44 (Nat.le_of_ble_eq_true rfl) (lv' := [some (.ref _), some (.int _), some (.int _), some (.int _)]) rfl ?_
      refine R_aload_n (pc := 45) C dX2_sign_45 rfl ?_
      refine R_getf (pc := 46) C dX2_sign_46 (i := 0) (wm0) rfl inlX2 (by decide) k_17_18 rfl ?_
      rw [su_s]
      refine R_if_gt (pc := 49) C dX2_sign_49 (tgt := 64) (by decide) (fun c49 => absurd c49 (by decide)) (fun c49 => ?_)
      refine R_iload_n (pc := 52) C dX2_sign_52 rfl ?_
      refine R_iconst (pc := 53) C dX2_sign_53 (v := 0) (by decide) ?_
      refine R_bipush (pc := 54) C dX2_sign_54 (v := 8) (by decide) ?_
      refine R_iload_n (pc := 56) C dX2_sign_56 rfl ?_
      refine R_iadd (pc := 57) C dX2_sign_57 ?_
      refine R_callSN (pc := 58) C dX2_sign_58 (vs := [_, _, _]) (fun h hh => mX2_in hl h) ⟨k_17_20, k_17_21, k_1_5, k_17_22⟩ (sgn (nv := 3) rfl ⟨by decide +kernel, by decide +kernel, by decide +kernel⟩) ⟨⟨Nat.le_of_ble_eq_true rfl, Nat.le_of_ble_eq_true rfl⟩, ⟨Nat.le_of_ble_eq_true rfl, Nat.le_of_ble_eq_true rfl⟩, Nat.le_of_ble_eq_true rfl⟩ rfl rfl (fun h9 hh9 v9 => ?_)
      refine WR.pr (fun e9 => ?_)
      subst e9
      refine WR.imp (P' := Wd G (adr, Sc, (n, P, F), su mu 0 0 0, g)) (fun h1 e1 => e1 ▸ hh9) ?_
      show WR K G _ _ _ _ _ _ _ (.int _ :: _)
      refine R_if_ne (pc := 61) C dX2_sign_61 (tgt := 71) (by decide) (fun c61 => ?_) (fun c61 => ?_)
      · have hq := qR_e (b01' c61)
        obtain ⟨j, hj, ej⟩ := in_lt (m := 11) (by omega) hq.1 (le_lt9.2.mp hq.2)
        subst ej
        have hk : kSign n F (nI i) (nI j) = 0 := by unfold kSign; rw [if_pos (qW_t hn hi), ix_nI (by omega), tle, sN, if_pos ⟨nI_pos (by omega), nI_lt hj (by omega)⟩]
        have ej : j = 0 ∨ j = 1 ∨ j = 2 ∨ j = 3 ∨ j = 4 ∨ j = 5 ∨ j = 6 ∨ j = 7 ∨ j = 8 ∨ j = 9 ∨ j = 10 := by omega
        rcases ej with rfl | rfl | rfl | rfl | rfl | rfl | rfl | rfl | rfl | rfl | rfl
        · refine R_iload_n (pc := 71) C dX2_sign_71 rfl ?_
          refine R_iconst (pc := 72) C dX2_sign_72 (v := 5) (by decide) ?_
          refine R_icmp_ge (pc := 73) C dX2_sign_73 (tgt := 118) (by decide) (fun q9 => absurd q9 (by decide)) (fun _ => ?_)
          refine R_iload_n (pc := 76) C dX2_sign_76 rfl ?_
          refine R_if_ne (pc := 77) C dX2_sign_77 (tgt := 85) (by decide) (fun q9 => absurd q9 (by decide)) (fun _ => ?_)
          refine R_bipush (pc := 80) C dX2_sign_80 (v := 108) (by decide) ?_
          refine R_goto (pc := 82) C dX2_sign_82 (tgt := 117) (by decide) ?_
          refine R_topi (fun xv ev => ?_)
          have hx : xv = tbf F i 0 := ev.trans rfl
          have hc : tbf F i 0 = nI ((tx a d i).getD 0 0) := by unfold tbf; rw [ea, ed, nI_clamp (by omega), nI_clamp (by omega)]; rfl
          exact R_zret (pc := 117) C dX2_sign_117 rfl (by rw [hx, hc]; exact char1 (sL 0 (by decide))) (Nat.le_of_ble_eq_true rfl) (Nat.le_of_ble_eq_true rfl) (fun h hh => Or.inl ⟨hk, by rw [hx, ix_nI (by omega), ix_nI (by omega)], _, su_s, hh⟩)
        · refine R_iload_n (pc := 71) C dX2_sign_71 rfl ?_
          refine R_iconst (pc := 72) C dX2_sign_72 (v := 5) (by decide) ?_
          refine R_icmp_ge (pc := 73) C dX2_sign_73 (tgt := 118) (by decide) (fun q9 => absurd q9 (by decide)) (fun _ => ?_)
          refine R_iload_n (pc := 76) C dX2_sign_76 rfl ?_
          refine R_if_ne (pc := 77) C dX2_sign_77 (tgt := 85) (by decide) (fun _ => ?_) (fun q9 => absurd q9 (by decide))
          refine R_iload_n (pc := 85) C dX2_sign_85 rfl ?_
          refine R_iconst (pc := 86) C dX2_sign_86 (v := 1) (by decide) ?_
          refine R_icmp_ne (pc := 87) C dX2_sign_87 (tgt := 95) (by decide) (fun q9 => absurd q9 (by decide)) (fun _ => ?_)
          refine R_bipush (pc := 90) C dX2_sign_90 (v := 97) (by decide) ?_
          refine R_goto (pc := 92) C dX2_sign_92 (tgt := 117) (by decide) ?_
          refine R_topi (fun xv ev => ?_)
          have hx : xv = tbf F i 1 := ev.trans rfl
          have hc : tbf F i 1 = nI ((tx a d i).getD 1 0) := by unfold tbf; rw [ea, ed, nI_clamp (by omega), nI_clamp (by omega)]; rfl
          exact R_zret (pc := 117) C dX2_sign_117 rfl (by rw [hx, hc]; exact char1 (sL 1 (by decide))) (Nat.le_of_ble_eq_true rfl) (Nat.le_of_ble_eq_true rfl) (fun h hh => Or.inl ⟨hk, by rw [hx, ix_nI (by omega), ix_nI (by omega)], _, su_s, hh⟩)
        · refine R_iload_n (pc := 71) C dX2_sign_71 rfl ?_
          refine R_iconst (pc := 72) C dX2_sign_72 (v := 5) (by decide) ?_
          refine R_icmp_ge (pc := 73) C dX2_sign_73 (tgt := 118) (by decide) (fun q9 => absurd q9 (by decide)) (fun _ => ?_)
          refine R_iload_n (pc := 76) C dX2_sign_76 rfl ?_
          refine R_if_ne (pc := 77) C dX2_sign_77 (tgt := 85) (by decide) (fun _ => ?_) (fun q9 => absurd q9 (by decide))
          refine R_iload_n (pc := 85) C dX2_sign_85 rfl ?_
          refine R_iconst (pc := 86) C dX2_sign_86 (v := 1) (by decide) ?_
          refine R_icmp_ne (pc := 87) C dX2_sign_87 (tgt := 95) (by decide) (fun _ => ?_) (fun q9 => absurd q9 (by decide))
          refine R_iload_n (pc := 95) C dX2_sign_95 rfl ?_
          refine R_iconst (pc := 96) C dX2_sign_96 (v := 2) (by decide) ?_
          refine R_icmp_ne (pc := 97) C dX2_sign_97 (tgt := 105) (by decide) (fun q9 => absurd q9 (by decide)) (fun _ => ?_)
          refine R_bipush (pc := 100) C dX2_sign_100 (v := 121) (by decide) ?_
          refine R_goto (pc := 102) C dX2_sign_102 (tgt := 117) (by decide) ?_
          refine R_topi (fun xv ev => ?_)
          have hx : xv = tbf F i 2 := ev.trans rfl
          have hc : tbf F i 2 = nI ((tx a d i).getD 2 0) := by unfold tbf; rw [ea, ed, nI_clamp (by omega), nI_clamp (by omega)]; rfl
          exact R_zret (pc := 117) C dX2_sign_117 rfl (by rw [hx, hc]; exact char1 (sL 2 (by decide))) (Nat.le_of_ble_eq_true rfl) (Nat.le_of_ble_eq_true rfl) (fun h hh => Or.inl ⟨hk, by rw [hx, ix_nI (by omega), ix_nI (by omega)], _, su_s, hh⟩)
        · refine R_iload_n (pc := 71) C dX2_sign_71 rfl ?_
          refine R_iconst (pc := 72) C dX2_sign_72 (v := 5) (by decide) ?_
          refine R_icmp_ge (pc := 73) C dX2_sign_73 (tgt := 118) (by decide) (fun q9 => absurd q9 (by decide)) (fun _ => ?_)
          refine R_iload_n (pc := 76) C dX2_sign_76 rfl ?_
          refine R_if_ne (pc := 77) C dX2_sign_77 (tgt := 85) (by decide) (fun _ => ?_) (fun q9 => absurd q9 (by decide))
          refine R_iload_n (pc := 85) C dX2_sign_85 rfl ?_
          refine R_iconst (pc := 86) C dX2_sign_86 (v := 1) (by decide) ?_
          refine R_icmp_ne (pc := 87) C dX2_sign_87 (tgt := 95) (by decide) (fun _ => ?_) (fun q9 => absurd q9 (by decide))
          refine R_iload_n (pc := 95) C dX2_sign_95 rfl ?_
          refine R_iconst (pc := 96) C dX2_sign_96 (v := 2) (by decide) ?_
          refine R_icmp_ne (pc := 97) C dX2_sign_97 (tgt := 105) (by decide) (fun _ => ?_) (fun q9 => absurd q9 (by decide))
          refine R_iload_n (pc := 105) C dX2_sign_105 rfl ?_
          refine R_iconst (pc := 106) C dX2_sign_106 (v := 3) (by decide) ?_
          refine R_icmp_ne (pc := 107) C dX2_sign_107 (tgt := 115) (by decide) (fun q9 => absurd q9 (by decide)) (fun _ => ?_)
          refine R_bipush (pc := 110) C dX2_sign_110 (v := 101) (by decide) ?_
          refine R_goto (pc := 112) C dX2_sign_112 (tgt := 117) (by decide) ?_
          refine R_topi (fun xv ev => ?_)
          have hx : xv = tbf F i 3 := ev.trans rfl
          have hc : tbf F i 3 = nI ((tx a d i).getD 3 0) := by unfold tbf; rw [ea, ed, nI_clamp (by omega), nI_clamp (by omega)]; rfl
          exact R_zret (pc := 117) C dX2_sign_117 rfl (by rw [hx, hc]; exact char1 (sL 3 (by decide))) (Nat.le_of_ble_eq_true rfl) (Nat.le_of_ble_eq_true rfl) (fun h hh => Or.inl ⟨hk, by rw [hx, ix_nI (by omega), ix_nI (by omega)], _, su_s, hh⟩)
        · refine R_iload_n (pc := 71) C dX2_sign_71 rfl ?_
          refine R_iconst (pc := 72) C dX2_sign_72 (v := 5) (by decide) ?_
          refine R_icmp_ge (pc := 73) C dX2_sign_73 (tgt := 118) (by decide) (fun q9 => absurd q9 (by decide)) (fun _ => ?_)
          refine R_iload_n (pc := 76) C dX2_sign_76 rfl ?_
          refine R_if_ne (pc := 77) C dX2_sign_77 (tgt := 85) (by decide) (fun _ => ?_) (fun q9 => absurd q9 (by decide))
          refine R_iload_n (pc := 85) C dX2_sign_85 rfl ?_
          refine R_iconst (pc := 86) C dX2_sign_86 (v := 1) (by decide) ?_
          refine R_icmp_ne (pc := 87) C dX2_sign_87 (tgt := 95) (by decide) (fun _ => ?_) (fun q9 => absurd q9 (by decide))
          refine R_iload_n (pc := 95) C dX2_sign_95 rfl ?_
          refine R_iconst (pc := 96) C dX2_sign_96 (v := 2) (by decide) ?_
          refine R_icmp_ne (pc := 97) C dX2_sign_97 (tgt := 105) (by decide) (fun _ => ?_) (fun q9 => absurd q9 (by decide))
          refine R_iload_n (pc := 105) C dX2_sign_105 rfl ?_
          refine R_iconst (pc := 106) C dX2_sign_106 (v := 3) (by decide) ?_
          refine R_icmp_ne (pc := 107) C dX2_sign_107 (tgt := 115) (by decide) (fun _ => ?_) (fun q9 => absurd q9 (by decide))
          refine R_bipush (pc := 115) C dX2_sign_115 (v := 114) (by decide) ?_
          refine R_topi (fun xv ev => ?_)
          have hx : xv = tbf F i 4 := ev.trans rfl
          have hc : tbf F i 4 = nI ((tx a d i).getD 4 0) := by unfold tbf; rw [ea, ed, nI_clamp (by omega), nI_clamp (by omega)]; rfl
          exact R_zret (pc := 117) C dX2_sign_117 rfl (by rw [hx, hc]; exact char1 (sL 4 (by decide))) (Nat.le_of_ble_eq_true rfl) (Nat.le_of_ble_eq_true rfl) (fun h hh => Or.inl ⟨hk, by rw [hx, ix_nI (by omega), ix_nI (by omega)], _, su_s, hh⟩)
        · refine R_iload_n (pc := 71) C dX2_sign_71 rfl ?_
          refine R_iconst (pc := 72) C dX2_sign_72 (v := 5) (by decide) ?_
          refine R_icmp_ge (pc := 73) C dX2_sign_73 (tgt := 118) (by decide) (fun _ => ?_) (fun q9 => absurd q9 (by decide))
          refine R_iload_n (pc := 118) C dX2_sign_118 rfl ?_
          refine R_bipush (pc := 119) C dX2_sign_119 (v := 7) (by decide) ?_
          refine R_icmp_ge (pc := 121) C dX2_sign_121 (tgt := 145) (by decide) (fun q9 => absurd q9 (by decide)) (fun _ => ?_)
          refine R_iload_n (pc := 124) C dX2_sign_124 rfl ?_
          refine R_iconst (pc := 125) C dX2_sign_125 (v := 5) (by decide) ?_
          refine R_icmp_ne (pc := 126) C dX2_sign_126 (tgt := 142) (by decide) (fun q9 => absurd q9 (by decide)) (fun _ => ?_)
          refine R_bipush (pc := 129) C dX2_sign_129 (v := 48) (by decide) ?_
          refine R_aload_n (pc := 131) C dX2_sign_131 rfl ?_
          refine R_getf (pc := 132) C dX2_sign_132 (i := 2) (wm0) rfl inlX2 (by decide) k_2_18 rfl ?_
          refine R_iload_n (pc := 135) C dX2_sign_135 rfl ?_
          refine R_iald (pc := 136) C dX2_sign_136 (wm_0) (rfl) (by omega) (by decide) rfl ?_
          refine R_iadd (pc := 137) C dX2_sign_137 ?_
          refine R_i2c (pc := 138) C dX2_sign_138 ?_
          refine R_goto (pc := 139) C dX2_sign_139 (tgt := 144) (by decide) ?_
          refine R_topi (fun xv ev => ?_)
          have hx : xv = tbf F i 5 := by rw [ev]; unfold tbf; rw [ea, ed, nI_clamp (by omega), nI_clamp (by omega)]; exact sE.1
          have hc : tbf F i 5 = nI ((tx a d i).getD 5 0) := by unfold tbf; rw [ea, ed, nI_clamp (by omega), nI_clamp (by omega)]; rfl
          exact R_zret (pc := 144) C dX2_sign_144 rfl (by rw [hx, hc]; exact char1 (sL 5 (by decide))) (Nat.le_of_ble_eq_true rfl) (Nat.le_of_ble_eq_true rfl) (fun h hh => Or.inl ⟨hk, by rw [hx, ix_nI (by omega), ix_nI (by omega)], _, su_s, hh⟩)
        · refine R_iload_n (pc := 71) C dX2_sign_71 rfl ?_
          refine R_iconst (pc := 72) C dX2_sign_72 (v := 5) (by decide) ?_
          refine R_icmp_ge (pc := 73) C dX2_sign_73 (tgt := 118) (by decide) (fun _ => ?_) (fun q9 => absurd q9 (by decide))
          refine R_iload_n (pc := 118) C dX2_sign_118 rfl ?_
          refine R_bipush (pc := 119) C dX2_sign_119 (v := 7) (by decide) ?_
          refine R_icmp_ge (pc := 121) C dX2_sign_121 (tgt := 145) (by decide) (fun q9 => absurd q9 (by decide)) (fun _ => ?_)
          refine R_iload_n (pc := 124) C dX2_sign_124 rfl ?_
          refine R_iconst (pc := 125) C dX2_sign_125 (v := 5) (by decide) ?_
          refine R_icmp_ne (pc := 126) C dX2_sign_126 (tgt := 142) (by decide) (fun _ => ?_) (fun q9 => absurd q9 (by decide))
          refine R_bipush (pc := 142) C dX2_sign_142 (v := 64) (by decide) ?_
          refine R_topi (fun xv ev => ?_)
          have hx : xv = tbf F i 6 := by rw [ev]; unfold tbf; rw [ea, ed, nI_clamp (by omega), nI_clamp (by omega)]; exact sE.2.1
          have hc : tbf F i 6 = nI ((tx a d i).getD 6 0) := by unfold tbf; rw [ea, ed, nI_clamp (by omega), nI_clamp (by omega)]; rfl
          exact R_zret (pc := 144) C dX2_sign_144 rfl (by rw [hx, hc]; exact char1 (sL 6 (by decide))) (Nat.le_of_ble_eq_true rfl) (Nat.le_of_ble_eq_true rfl) (fun h hh => Or.inl ⟨hk, by rw [hx, ix_nI (by omega), ix_nI (by omega)], _, su_s, hh⟩)
        · refine R_iload_n (pc := 71) C dX2_sign_71 rfl ?_
          refine R_iconst (pc := 72) C dX2_sign_72 (v := 5) (by decide) ?_
          refine R_icmp_ge (pc := 73) C dX2_sign_73 (tgt := 118) (by decide) (fun _ => ?_) (fun q9 => absurd q9 (by decide))
          refine R_iload_n (pc := 118) C dX2_sign_118 rfl ?_
          refine R_bipush (pc := 119) C dX2_sign_119 (v := 7) (by decide) ?_
          refine R_icmp_ge (pc := 121) C dX2_sign_121 (tgt := 145) (by decide) (fun _ => ?_) (fun q9 => absurd q9 (by decide))
          refine R_iload_n (pc := 145) C dX2_sign_145 rfl ?_
          refine R_bipush (pc := 146) C dX2_sign_146 (v := 7) (by decide) ?_
          refine R_iload_n (pc := 148) C dX2_sign_148 rfl ?_
          refine R_iadd (pc := 149) C dX2_sign_149 ?_
          refine R_icmp_ge (pc := 150) C dX2_sign_150 (tgt := 187) (by decide) (fun q9 => absurd q9 (by decide)) (fun _ => ?_)
          refine R_bipush (pc := 153) C dX2_sign_153 (v := 48) (by decide) ?_
          refine R_iload_n (pc := 155) C dX2_sign_155 rfl ?_
          refine R_bipush (pc := 156) C dX2_sign_156 (v := 6) (by decide) ?_
          refine R_iload_n (pc := 158) C dX2_sign_158 rfl ?_
          refine R_iadd (pc := 159) C dX2_sign_159 ?_
          refine R_icmp_ne (pc := 160) C dX2_sign_160 (tgt := 175) (by decide) (fun _ => ?_) (fun q9 => absurd q9 (by decide))
          refine R_aload_n (pc := 175) C dX2_sign_175 rfl ?_
          refine R_getf (pc := 176) C dX2_sign_176 (i := 3) (wm0) rfl inlX2 (by decide) k_2_19 rfl ?_
          refine R_iload_n (pc := 179) C dX2_sign_179 rfl ?_
          refine R_iald (pc := 180) C dX2_sign_180 (wm_1) (rfl) (by omega) (by decide) rfl ?_
          refine R_bipush (pc := 181) C dX2_sign_181 (v := 10) (by decide) ?_
          refine R_idiv (pc := 183) C dX2_sign_183 (by decide) ?_
          refine R_iadd (pc := 184) C dX2_sign_184 ?_
          refine R_i2c (pc := 185) C dX2_sign_185 ?_
          refine R_topi (fun xv ev => ?_)
          have hx : xv = tbf F i 7 := by rw [ev]; unfold tbf; rw [ea, ed, nI_clamp (by omega), nI_clamp (by omega)]; exact sE.2.2.1
          have hc : tbf F i 7 = nI ((tx a d i).getD 7 0) := by unfold tbf; rw [ea, ed, nI_clamp (by omega), nI_clamp (by omega)]; rfl
          exact R_zret (pc := 186) C dX2_sign_186 rfl (by rw [hx, hc]; exact char1 (sL 7 (by decide))) (Nat.le_of_ble_eq_true rfl) (Nat.le_of_ble_eq_true rfl) (fun h hh => Or.inl ⟨hk, by rw [hx, ix_nI (by omega), ix_nI (by omega)], _, su_s, hh⟩)
        · refine R_iload_n (pc := 71) C dX2_sign_71 rfl ?_
          refine R_iconst (pc := 72) C dX2_sign_72 (v := 5) (by decide) ?_
          refine R_icmp_ge (pc := 73) C dX2_sign_73 (tgt := 118) (by decide) (fun _ => ?_) (fun q9 => absurd q9 (by decide))
          refine R_iload_n (pc := 118) C dX2_sign_118 rfl ?_
          refine R_bipush (pc := 119) C dX2_sign_119 (v := 7) (by decide) ?_
          refine R_icmp_ge (pc := 121) C dX2_sign_121 (tgt := 145) (by decide) (fun _ => ?_) (fun q9 => absurd q9 (by decide))
          refine R_iload_n (pc := 145) C dX2_sign_145 rfl ?_
          refine R_bipush (pc := 146) C dX2_sign_146 (v := 7) (by decide) ?_
          refine R_iload_n (pc := 148) C dX2_sign_148 rfl ?_
          refine R_iadd (pc := 149) C dX2_sign_149 ?_
          refine R_icmp_ge (pc := 150) C dX2_sign_150 (tgt := 187) (by decide) (fun q9 => absurd q9 (by decide)) (fun _ => ?_)
          refine R_bipush (pc := 153) C dX2_sign_153 (v := 48) (by decide) ?_
          refine R_iload_n (pc := 155) C dX2_sign_155 rfl ?_
          refine R_bipush (pc := 156) C dX2_sign_156 (v := 6) (by decide) ?_
          refine R_iload_n (pc := 158) C dX2_sign_158 rfl ?_
          refine R_iadd (pc := 159) C dX2_sign_159 ?_
          refine R_icmp_ne (pc := 160) C dX2_sign_160 (tgt := 175) (by decide) (fun q9 => absurd q9 (by decide)) (fun _ => ?_)
          refine R_aload_n (pc := 163) C dX2_sign_163 rfl ?_
          refine R_getf (pc := 164) C dX2_sign_164 (i := 3) (wm0) rfl inlX2 (by decide) k_2_19 rfl ?_
          refine R_iload_n (pc := 167) C dX2_sign_167 rfl ?_
          refine R_iald (pc := 168) C dX2_sign_168 (wm_1) (rfl) (by omega) (by decide) rfl ?_
          refine R_bipush (pc := 169) C dX2_sign_169 (v := 10) (by decide) ?_
          refine R_irem (pc := 171) C dX2_sign_171 (by decide) ?_
          refine R_goto (pc := 172) C dX2_sign_172 (tgt := 184) (by decide) ?_
          refine R_iadd (pc := 184) C dX2_sign_184 ?_
          refine R_i2c (pc := 185) C dX2_sign_185 ?_
          refine R_topi (fun xv ev => ?_)
          have hx : xv = tbf F i 8 := by rw [ev]; unfold tbf; rw [ea, ed, nI_clamp (by omega), nI_clamp (by omega)]; exact sE.2.2.2.1
          have hc : tbf F i 8 = nI ((tx a d i).getD 8 0) := by unfold tbf; rw [ea, ed, nI_clamp (by omega), nI_clamp (by omega)]; rfl
          exact R_zret (pc := 186) C dX2_sign_186 rfl (by rw [hx, hc]; exact char1 (sL 8 (by decide))) (Nat.le_of_ble_eq_true rfl) (Nat.le_of_ble_eq_true rfl) (fun h hh => Or.inl ⟨hk, by rw [hx, ix_nI (by omega), ix_nI (by omega)], _, su_s, hh⟩)
        · refine R_iload_n (pc := 71) C dX2_sign_71 rfl ?_
          refine R_iconst (pc := 72) C dX2_sign_72 (v := 5) (by decide) ?_
          refine R_icmp_ge (pc := 73) C dX2_sign_73 (tgt := 118) (by decide) (fun _ => ?_) (fun q9 => absurd q9 (by decide))
          refine R_iload_n (pc := 118) C dX2_sign_118 rfl ?_
          refine R_bipush (pc := 119) C dX2_sign_119 (v := 7) (by decide) ?_
          refine R_icmp_ge (pc := 121) C dX2_sign_121 (tgt := 145) (by decide) (fun _ => ?_) (fun q9 => absurd q9 (by decide))
          refine R_iload_n (pc := 145) C dX2_sign_145 rfl ?_
          refine R_bipush (pc := 146) C dX2_sign_146 (v := 7) (by decide) ?_
          refine R_iload_n (pc := 148) C dX2_sign_148 rfl ?_
          refine R_iadd (pc := 149) C dX2_sign_149 ?_
          refine R_icmp_ge (pc := 150) C dX2_sign_150 (tgt := 187) (by decide) (fun _ => ?_) (fun q9 => absurd q9 (by decide))
          refine R_iload_n (pc := 187) C dX2_sign_187 rfl ?_
          refine R_bipush (pc := 188) C dX2_sign_188 (v := 7) (by decide) ?_
          refine R_iload_n (pc := 190) C dX2_sign_190 rfl ?_
          refine R_iadd (pc := 191) C dX2_sign_191 ?_
          refine R_icmp_ne (pc := 192) C dX2_sign_192 (tgt := 200) (by decide) (fun q9 => absurd q9 (by decide)) (fun _ => ?_)
          refine R_bipush (pc := 195) C dX2_sign_195 (v := 58) (by decide) ?_
          refine R_goto (pc := 197) C dX2_sign_197 (tgt := 205) (by decide) ?_
          refine R_topi (fun xv ev => ?_)
          have hx : xv = tbf F i 9 := by rw [ev]; unfold tbf; rw [ea, ed, nI_clamp (by omega), nI_clamp (by omega)]; exact sE.2.2.2.2.1
          have hc : tbf F i 9 = nI ((tx a d i).getD 9 0) := by unfold tbf; rw [ea, ed, nI_clamp (by omega), nI_clamp (by omega)]; rfl
          exact R_zret (pc := 205) C dX2_sign_205 rfl (by rw [hx, hc]; exact char1 (sL 9 (by decide))) (Nat.le_of_ble_eq_true rfl) (Nat.le_of_ble_eq_true rfl) (fun h hh => Or.inl ⟨hk, by rw [hx, ix_nI (by omega), ix_nI (by omega)], _, su_s, hh⟩)
        · refine R_iload_n (pc := 71) C dX2_sign_71 rfl ?_
          refine R_iconst (pc := 72) C dX2_sign_72 (v := 5) (by decide) ?_
          refine R_icmp_ge (pc := 73) C dX2_sign_73 (tgt := 118) (by decide) (fun _ => ?_) (fun q9 => absurd q9 (by decide))
          refine R_iload_n (pc := 118) C dX2_sign_118 rfl ?_
          refine R_bipush (pc := 119) C dX2_sign_119 (v := 7) (by decide) ?_
          refine R_icmp_ge (pc := 121) C dX2_sign_121 (tgt := 145) (by decide) (fun _ => ?_) (fun q9 => absurd q9 (by decide))
          refine R_iload_n (pc := 145) C dX2_sign_145 rfl ?_
          refine R_bipush (pc := 146) C dX2_sign_146 (v := 7) (by decide) ?_
          refine R_iload_n (pc := 148) C dX2_sign_148 rfl ?_
          refine R_iadd (pc := 149) C dX2_sign_149 ?_
          refine R_icmp_ge (pc := 150) C dX2_sign_150 (tgt := 187) (by decide) (fun _ => ?_) (fun q9 => absurd q9 (by decide))
          refine R_iload_n (pc := 187) C dX2_sign_187 rfl ?_
          refine R_bipush (pc := 188) C dX2_sign_188 (v := 7) (by decide) ?_
          refine R_iload_n (pc := 190) C dX2_sign_190 rfl ?_
          refine R_iadd (pc := 191) C dX2_sign_191 ?_
          refine R_icmp_ne (pc := 192) C dX2_sign_192 (tgt := 200) (by decide) (fun _ => ?_) (fun q9 => absurd q9 (by decide))
          refine R_bipush (pc := 200) C dX2_sign_200 (v := 48) (by decide) ?_
          refine R_iload_n (pc := 202) C dX2_sign_202 rfl ?_
          refine R_iadd (pc := 203) C dX2_sign_203 ?_
          refine R_i2c (pc := 204) C dX2_sign_204 ?_
          refine R_topi (fun xv ev => ?_)
          have hx : xv = tbf F i 10 := by rw [ev]; unfold tbf; rw [ea, ed, nI_clamp (by omega), nI_clamp (by omega)]; exact sE.2.2.2.2.2.1
          have hc : tbf F i 10 = nI ((tx a d i).getD 10 0) := by unfold tbf; rw [ea, ed, nI_clamp (by omega), nI_clamp (by omega)]; rfl
          exact R_zret (pc := 205) C dX2_sign_205 rfl (by rw [hx, hc]; exact char1 (sL 10 (by decide))) (Nat.le_of_ble_eq_true rfl) (Nat.le_of_ble_eq_true rfl) (fun h hh => Or.inl ⟨hk, by rw [hx, ix_nI (by omega), ix_nI (by omega)], _, su_s, hh⟩)
      · have hk0 : kSign n F (nI i) y = 1 := by unfold kSign; rw [if_pos (qW_t hn hi), ix_nI (by omega), tle, sN, if_neg (fun z => qR_n (b01 c61) ⟨z.1, le_lt9.2.mpr z.2⟩)]
        refine R_aload_n (pc := 64) C dX2_sign_64 rfl ?_
        refine R_iconst (pc := 65) C dX2_sign_65 (v := 1) (by decide) ?_
        refine R_callVN (pc := 66) C dX2_sign_66 (vs := [_]) (fun h hh => mX2_refuses hl h hh) (isOb_of (wm0) rfl) ⟨k_17_23, k_18_0, k_18_1, k_1_5, k_18_2⟩ (sgn (nv := 1) rfl ⟨by decide +kernel, by decide +kernel, by decide +kernel⟩) ⟨⟨Nat.le_of_ble_eq_true rfl, Nat.le_of_ble_eq_true rfl⟩, ⟨Nat.le_of_ble_eq_true rfl, Nat.le_of_ble_eq_true rfl⟩, Nat.le_of_ble_eq_true rfl⟩ rfl rfl (fun h9 hh9 v9 => ?_)
        refine WR.pr (fun e9 => ?_)
        subst e9
        show WR K G _ _ _ _ _ _ _ (.int _ :: _)
        refine R_i2c (pc := 69) C dX2_sign_69 ?_
        exact R_zret (pc := 70) C dX2_sign_70 rfl rfl (Nat.le_of_ble_eq_true rfl) (Nat.le_of_ble_eq_true rfl) (fun h hh => Or.inr ⟨by rw [hk0]; decide, ⟨_, rfl⟩, _, su_s.trans hk0.symm, hh⟩)
    · have sE := sA_e a (by omega) d (Nat.not_le.mp (fun z => c36 (by rw [ed]; exact nI_le (a := 10) z (by omega)))) i (by omega)
      have sL := sE.2.2.2.2.2.1
      have sN := sE.2.2.2.2.2.2
      have tle : tl F i = (tx a d i).length := by unfold tl; rw [ea, ed, nI_clamp (by omega), nI_clamp (by omega)]
      refine R_iconst (pc := 39) C dX2_sign_39 (v := 1) (by decide) ?_
      refine R_goto (pc := 40) C dX2_sign_40 (tgt := 44) (by decide) ?_
      refine R_istore_n (pc := 44) C dX2_sign_44 (Nat.le_of_ble_eq_true rfl) (lv' := [some (.ref _), some (.int _), some (.int _), some (.int _)]) rfl ?_
      refine R_aload_n (pc := 45) C dX2_sign_45 rfl ?_
      refine R_getf (pc := 46) C dX2_sign_46 (i := 0) (wm0) rfl inlX2 (by decide) k_17_18 rfl ?_
      rw [su_s]
      refine R_if_gt (pc := 49) C dX2_sign_49 (tgt := 64) (by decide) (fun c49 => absurd c49 (by decide)) (fun c49 => ?_)
      refine R_iload_n (pc := 52) C dX2_sign_52 rfl ?_
      refine R_iconst (pc := 53) C dX2_sign_53 (v := 0) (by decide) ?_
      refine R_bipush (pc := 54) C dX2_sign_54 (v := 8) (by decide) ?_
      refine R_iload_n (pc := 56) C dX2_sign_56 rfl ?_
      refine R_iadd (pc := 57) C dX2_sign_57 ?_
      refine R_callSN (pc := 58) C dX2_sign_58 (vs := [_, _, _]) (fun h hh => mX2_in hl h) ⟨k_17_20, k_17_21, k_1_5, k_17_22⟩ (sgn (nv := 3) rfl ⟨by decide +kernel, by decide +kernel, by decide +kernel⟩) ⟨⟨Nat.le_of_ble_eq_true rfl, Nat.le_of_ble_eq_true rfl⟩, ⟨Nat.le_of_ble_eq_true rfl, Nat.le_of_ble_eq_true rfl⟩, Nat.le_of_ble_eq_true rfl⟩ rfl rfl (fun h9 hh9 v9 => ?_)
      refine WR.pr (fun e9 => ?_)
      subst e9
      refine WR.imp (P' := Wd G (adr, Sc, (n, P, F), su mu 0 0 0, g)) (fun h1 e1 => e1 ▸ hh9) ?_
      show WR K G _ _ _ _ _ _ _ (.int _ :: _)
      refine R_if_ne (pc := 61) C dX2_sign_61 (tgt := 71) (by decide) (fun c61 => ?_) (fun c61 => ?_)
      · have hq := qR_e (b01' c61)
        obtain ⟨j, hj, ej⟩ := in_lt (m := 10) (by omega) hq.1 (le_lt9.1.mp hq.2)
        subst ej
        have hk : kSign n F (nI i) (nI j) = 0 := by unfold kSign; rw [if_pos (qW_t hn hi), ix_nI (by omega), tle, sN, if_pos ⟨nI_pos (by omega), nI_lt hj (by omega)⟩]
        have ej : j = 0 ∨ j = 1 ∨ j = 2 ∨ j = 3 ∨ j = 4 ∨ j = 5 ∨ j = 6 ∨ j = 7 ∨ j = 8 ∨ j = 9 := by omega
        rcases ej with rfl | rfl | rfl | rfl | rfl | rfl | rfl | rfl | rfl | rfl
        · refine R_iload_n (pc := 71) C dX2_sign_71 rfl ?_
          refine R_iconst (pc := 72) C dX2_sign_72 (v := 5) (by decide) ?_
          refine R_icmp_ge (pc := 73) C dX2_sign_73 (tgt := 118) (by decide) (fun q9 => absurd q9 (by decide)) (fun _ => ?_)
          refine R_iload_n (pc := 76) C dX2_sign_76 rfl ?_
          refine R_if_ne (pc := 77) C dX2_sign_77 (tgt := 85) (by decide) (fun q9 => absurd q9 (by decide)) (fun _ => ?_)
          refine R_bipush (pc := 80) C dX2_sign_80 (v := 108) (by decide) ?_
          refine R_goto (pc := 82) C dX2_sign_82 (tgt := 117) (by decide) ?_
          refine R_topi (fun xv ev => ?_)
          have hx : xv = tbf F i 0 := ev.trans rfl
          have hc : tbf F i 0 = nI ((tx a d i).getD 0 0) := by unfold tbf; rw [ea, ed, nI_clamp (by omega), nI_clamp (by omega)]; rfl
          exact R_zret (pc := 117) C dX2_sign_117 rfl (by rw [hx, hc]; exact char1 (sL 0 (by decide))) (Nat.le_of_ble_eq_true rfl) (Nat.le_of_ble_eq_true rfl) (fun h hh => Or.inl ⟨hk, by rw [hx, ix_nI (by omega), ix_nI (by omega)], _, su_s, hh⟩)
        · refine R_iload_n (pc := 71) C dX2_sign_71 rfl ?_
          refine R_iconst (pc := 72) C dX2_sign_72 (v := 5) (by decide) ?_
          refine R_icmp_ge (pc := 73) C dX2_sign_73 (tgt := 118) (by decide) (fun q9 => absurd q9 (by decide)) (fun _ => ?_)
          refine R_iload_n (pc := 76) C dX2_sign_76 rfl ?_
          refine R_if_ne (pc := 77) C dX2_sign_77 (tgt := 85) (by decide) (fun _ => ?_) (fun q9 => absurd q9 (by decide))
          refine R_iload_n (pc := 85) C dX2_sign_85 rfl ?_
          refine R_iconst (pc := 86) C dX2_sign_86 (v := 1) (by decide) ?_
          refine R_icmp_ne (pc := 87) C dX2_sign_87 (tgt := 95) (by decide) (fun q9 => absurd q9 (by decide)) (fun _ => ?_)
          refine R_bipush (pc := 90) C dX2_sign_90 (v := 97) (by decide) ?_
          refine R_goto (pc := 92) C dX2_sign_92 (tgt := 117) (by decide) ?_
          refine R_topi (fun xv ev => ?_)
          have hx : xv = tbf F i 1 := ev.trans rfl
          have hc : tbf F i 1 = nI ((tx a d i).getD 1 0) := by unfold tbf; rw [ea, ed, nI_clamp (by omega), nI_clamp (by omega)]; rfl
          exact R_zret (pc := 117) C dX2_sign_117 rfl (by rw [hx, hc]; exact char1 (sL 1 (by decide))) (Nat.le_of_ble_eq_true rfl) (Nat.le_of_ble_eq_true rfl) (fun h hh => Or.inl ⟨hk, by rw [hx, ix_nI (by omega), ix_nI (by omega)], _, su_s, hh⟩)
        · refine R_iload_n (pc := 71) C dX2_sign_71 rfl ?_
          refine R_iconst (pc := 72) C dX2_sign_72 (v := 5) (by decide) ?_
          refine R_icmp_ge (pc := 73) C dX2_sign_73 (tgt := 118) (by decide) (fun q9 => absurd q9 (by decide)) (fun _ => ?_)
          refine R_iload_n (pc := 76) C dX2_sign_76 rfl ?_
          refine R_if_ne (pc := 77) C dX2_sign_77 (tgt := 85) (by decide) (fun _ => ?_) (fun q9 => absurd q9 (by decide))
          refine R_iload_n (pc := 85) C dX2_sign_85 rfl ?_
          refine R_iconst (pc := 86) C dX2_sign_86 (v := 1) (by decide) ?_
          refine R_icmp_ne (pc := 87) C dX2_sign_87 (tgt := 95) (by decide) (fun _ => ?_) (fun q9 => absurd q9 (by decide))
          refine R_iload_n (pc := 95) C dX2_sign_95 rfl ?_
          refine R_iconst (pc := 96) C dX2_sign_96 (v := 2) (by decide) ?_
          refine R_icmp_ne (pc := 97) C dX2_sign_97 (tgt := 105) (by decide) (fun q9 => absurd q9 (by decide)) (fun _ => ?_)
          refine R_bipush (pc := 100) C dX2_sign_100 (v := 121) (by decide) ?_
          refine R_goto (pc := 102) C dX2_sign_102 (tgt := 117) (by decide) ?_
          refine R_topi (fun xv ev => ?_)
          have hx : xv = tbf F i 2 := ev.trans rfl
          have hc : tbf F i 2 = nI ((tx a d i).getD 2 0) := by unfold tbf; rw [ea, ed, nI_clamp (by omega), nI_clamp (by omega)]; rfl
          exact R_zret (pc := 117) C dX2_sign_117 rfl (by rw [hx, hc]; exact char1 (sL 2 (by decide))) (Nat.le_of_ble_eq_true rfl) (Nat.le_of_ble_eq_true rfl) (fun h hh => Or.inl ⟨hk, by rw [hx, ix_nI (by omega), ix_nI (by omega)], _, su_s, hh⟩)
        · refine R_iload_n (pc := 71) C dX2_sign_71 rfl ?_
          refine R_iconst (pc := 72) C dX2_sign_72 (v := 5) (by decide) ?_
          refine R_icmp_ge (pc := 73) C dX2_sign_73 (tgt := 118) (by decide) (fun q9 => absurd q9 (by decide)) (fun _ => ?_)
          refine R_iload_n (pc := 76) C dX2_sign_76 rfl ?_
          refine R_if_ne (pc := 77) C dX2_sign_77 (tgt := 85) (by decide) (fun _ => ?_) (fun q9 => absurd q9 (by decide))
          refine R_iload_n (pc := 85) C dX2_sign_85 rfl ?_
          refine R_iconst (pc := 86) C dX2_sign_86 (v := 1) (by decide) ?_
          refine R_icmp_ne (pc := 87) C dX2_sign_87 (tgt := 95) (by decide) (fun _ => ?_) (fun q9 => absurd q9 (by decide))
          refine R_iload_n (pc := 95) C dX2_sign_95 rfl ?_
          refine R_iconst (pc := 96) C dX2_sign_96 (v := 2) (by decide) ?_
          refine R_icmp_ne (pc := 97) C dX2_sign_97 (tgt := 105) (by decide) (fun _ => ?_) (fun q9 => absurd q9 (by decide))
          refine R_iload_n (pc := 105) C dX2_sign_105 rfl ?_
          refine R_iconst (pc := 106) C dX2_sign_106 (v := 3) (by decide) ?_
          refine R_icmp_ne (pc := 107) C dX2_sign_107 (tgt := 115) (by decide) (fun q9 => absurd q9 (by decide)) (fun _ => ?_)
          refine R_bipush (pc := 110) C dX2_sign_110 (v := 101) (by decide) ?_
          refine R_goto (pc := 112) C dX2_sign_112 (tgt := 117) (by decide) ?_
          refine R_topi (fun xv ev => ?_)
          have hx : xv = tbf F i 3 := ev.trans rfl
          have hc : tbf F i 3 = nI ((tx a d i).getD 3 0) := by unfold tbf; rw [ea, ed, nI_clamp (by omega), nI_clamp (by omega)]; rfl
          exact R_zret (pc := 117) C dX2_sign_117 rfl (by rw [hx, hc]; exact char1 (sL 3 (by decide))) (Nat.le_of_ble_eq_true rfl) (Nat.le_of_ble_eq_true rfl) (fun h hh => Or.inl ⟨hk, by rw [hx, ix_nI (by omega), ix_nI (by omega)], _, su_s, hh⟩)
        · refine R_iload_n (pc := 71) C dX2_sign_71 rfl ?_
          refine R_iconst (pc := 72) C dX2_sign_72 (v := 5) (by decide) ?_
          refine R_icmp_ge (pc := 73) C dX2_sign_73 (tgt := 118) (by decide) (fun q9 => absurd q9 (by decide)) (fun _ => ?_)
          refine R_iload_n (pc := 76) C dX2_sign_76 rfl ?_
          refine R_if_ne (pc := 77) C dX2_sign_77 (tgt := 85) (by decide) (fun _ => ?_) (fun q9 => absurd q9 (by decide))
          refine R_iload_n (pc := 85) C dX2_sign_85 rfl ?_
          refine R_iconst (pc := 86) C dX2_sign_86 (v := 1) (by decide) ?_
          refine R_icmp_ne (pc := 87) C dX2_sign_87 (tgt := 95) (by decide) (fun _ => ?_) (fun q9 => absurd q9 (by decide))
          refine R_iload_n (pc := 95) C dX2_sign_95 rfl ?_
          refine R_iconst (pc := 96) C dX2_sign_96 (v := 2) (by decide) ?_
          refine R_icmp_ne (pc := 97) C dX2_sign_97 (tgt := 105) (by decide) (fun _ => ?_) (fun q9 => absurd q9 (by decide))
          refine R_iload_n (pc := 105) C dX2_sign_105 rfl ?_
          refine R_iconst (pc := 106) C dX2_sign_106 (v := 3) (by decide) ?_
          refine R_icmp_ne (pc := 107) C dX2_sign_107 (tgt := 115) (by decide) (fun _ => ?_) (fun q9 => absurd q9 (by decide))
          refine R_bipush (pc := 115) C dX2_sign_115 (v := 114) (by decide) ?_
          refine R_topi (fun xv ev => ?_)
          have hx : xv = tbf F i 4 := ev.trans rfl
          have hc : tbf F i 4 = nI ((tx a d i).getD 4 0) := by unfold tbf; rw [ea, ed, nI_clamp (by omega), nI_clamp (by omega)]; rfl
          exact R_zret (pc := 117) C dX2_sign_117 rfl (by rw [hx, hc]; exact char1 (sL 4 (by decide))) (Nat.le_of_ble_eq_true rfl) (Nat.le_of_ble_eq_true rfl) (fun h hh => Or.inl ⟨hk, by rw [hx, ix_nI (by omega), ix_nI (by omega)], _, su_s, hh⟩)
        · refine R_iload_n (pc := 71) C dX2_sign_71 rfl ?_
          refine R_iconst (pc := 72) C dX2_sign_72 (v := 5) (by decide) ?_
          refine R_icmp_ge (pc := 73) C dX2_sign_73 (tgt := 118) (by decide) (fun _ => ?_) (fun q9 => absurd q9 (by decide))
          refine R_iload_n (pc := 118) C dX2_sign_118 rfl ?_
          refine R_bipush (pc := 119) C dX2_sign_119 (v := 7) (by decide) ?_
          refine R_icmp_ge (pc := 121) C dX2_sign_121 (tgt := 145) (by decide) (fun q9 => absurd q9 (by decide)) (fun _ => ?_)
          refine R_iload_n (pc := 124) C dX2_sign_124 rfl ?_
          refine R_iconst (pc := 125) C dX2_sign_125 (v := 5) (by decide) ?_
          refine R_icmp_ne (pc := 126) C dX2_sign_126 (tgt := 142) (by decide) (fun q9 => absurd q9 (by decide)) (fun _ => ?_)
          refine R_bipush (pc := 129) C dX2_sign_129 (v := 48) (by decide) ?_
          refine R_aload_n (pc := 131) C dX2_sign_131 rfl ?_
          refine R_getf (pc := 132) C dX2_sign_132 (i := 2) (wm0) rfl inlX2 (by decide) k_2_18 rfl ?_
          refine R_iload_n (pc := 135) C dX2_sign_135 rfl ?_
          refine R_iald (pc := 136) C dX2_sign_136 (wm_0) (rfl) (by omega) (by decide) rfl ?_
          refine R_iadd (pc := 137) C dX2_sign_137 ?_
          refine R_i2c (pc := 138) C dX2_sign_138 ?_
          refine R_goto (pc := 139) C dX2_sign_139 (tgt := 144) (by decide) ?_
          refine R_topi (fun xv ev => ?_)
          have hx : xv = tbf F i 5 := by rw [ev]; unfold tbf; rw [ea, ed, nI_clamp (by omega), nI_clamp (by omega)]; exact sE.1
          have hc : tbf F i 5 = nI ((tx a d i).getD 5 0) := by unfold tbf; rw [ea, ed, nI_clamp (by omega), nI_clamp (by omega)]; rfl
          exact R_zret (pc := 144) C dX2_sign_144 rfl (by rw [hx, hc]; exact char1 (sL 5 (by decide))) (Nat.le_of_ble_eq_true rfl) (Nat.le_of_ble_eq_true rfl) (fun h hh => Or.inl ⟨hk, by rw [hx, ix_nI (by omega), ix_nI (by omega)], _, su_s, hh⟩)
        · refine R_iload_n (pc := 71) C dX2_sign_71 rfl ?_
          refine R_iconst (pc := 72) C dX2_sign_72 (v := 5) (by decide) ?_
          refine R_icmp_ge (pc := 73) C dX2_sign_73 (tgt := 118) (by decide) (fun _ => ?_) (fun q9 => absurd q9 (by decide))
          refine R_iload_n (pc := 118) C dX2_sign_118 rfl ?_
          refine R_bipush (pc := 119) C dX2_sign_119 (v := 7) (by decide) ?_
          refine R_icmp_ge (pc := 121) C dX2_sign_121 (tgt := 145) (by decide) (fun q9 => absurd q9 (by decide)) (fun _ => ?_)
          refine R_iload_n (pc := 124) C dX2_sign_124 rfl ?_
          refine R_iconst (pc := 125) C dX2_sign_125 (v := 5) (by decide) ?_
          refine R_icmp_ne (pc := 126) C dX2_sign_126 (tgt := 142) (by decide) (fun _ => ?_) (fun q9 => absurd q9 (by decide))
          refine R_bipush (pc := 142) C dX2_sign_142 (v := 64) (by decide) ?_
          refine R_topi (fun xv ev => ?_)
          have hx : xv = tbf F i 6 := by rw [ev]; unfold tbf; rw [ea, ed, nI_clamp (by omega), nI_clamp (by omega)]; exact sE.2.1
          have hc : tbf F i 6 = nI ((tx a d i).getD 6 0) := by unfold tbf; rw [ea, ed, nI_clamp (by omega), nI_clamp (by omega)]; rfl
          exact R_zret (pc := 144) C dX2_sign_144 rfl (by rw [hx, hc]; exact char1 (sL 6 (by decide))) (Nat.le_of_ble_eq_true rfl) (Nat.le_of_ble_eq_true rfl) (fun h hh => Or.inl ⟨hk, by rw [hx, ix_nI (by omega), ix_nI (by omega)], _, su_s, hh⟩)
        · refine R_iload_n (pc := 71) C dX2_sign_71 rfl ?_
          refine R_iconst (pc := 72) C dX2_sign_72 (v := 5) (by decide) ?_
          refine R_icmp_ge (pc := 73) C dX2_sign_73 (tgt := 118) (by decide) (fun _ => ?_) (fun q9 => absurd q9 (by decide))
          refine R_iload_n (pc := 118) C dX2_sign_118 rfl ?_
          refine R_bipush (pc := 119) C dX2_sign_119 (v := 7) (by decide) ?_
          refine R_icmp_ge (pc := 121) C dX2_sign_121 (tgt := 145) (by decide) (fun _ => ?_) (fun q9 => absurd q9 (by decide))
          refine R_iload_n (pc := 145) C dX2_sign_145 rfl ?_
          refine R_bipush (pc := 146) C dX2_sign_146 (v := 7) (by decide) ?_
          refine R_iload_n (pc := 148) C dX2_sign_148 rfl ?_
          refine R_iadd (pc := 149) C dX2_sign_149 ?_
          refine R_icmp_ge (pc := 150) C dX2_sign_150 (tgt := 187) (by decide) (fun q9 => absurd q9 (by decide)) (fun _ => ?_)
          refine R_bipush (pc := 153) C dX2_sign_153 (v := 48) (by decide) ?_
          refine R_iload_n (pc := 155) C dX2_sign_155 rfl ?_
          refine R_bipush (pc := 156) C dX2_sign_156 (v := 6) (by decide) ?_
          refine R_iload_n (pc := 158) C dX2_sign_158 rfl ?_
          refine R_iadd (pc := 159) C dX2_sign_159 ?_
          refine R_icmp_ne (pc := 160) C dX2_sign_160 (tgt := 175) (by decide) (fun q9 => absurd q9 (by decide)) (fun _ => ?_)
          refine R_aload_n (pc := 163) C dX2_sign_163 rfl ?_
          refine R_getf (pc := 164) C dX2_sign_164 (i := 3) (wm0) rfl inlX2 (by decide) k_2_19 rfl ?_
          refine R_iload_n (pc := 167) C dX2_sign_167 rfl ?_
          refine R_iald (pc := 168) C dX2_sign_168 (wm_1) (rfl) (by omega) (by decide) rfl ?_
          refine R_bipush (pc := 169) C dX2_sign_169 (v := 10) (by decide) ?_
          refine R_irem (pc := 171) C dX2_sign_171 (by decide) ?_
          refine R_goto (pc := 172) C dX2_sign_172 (tgt := 184) (by decide) ?_
          refine R_iadd (pc := 184) C dX2_sign_184 ?_
          refine R_i2c (pc := 185) C dX2_sign_185 ?_
          refine R_topi (fun xv ev => ?_)
          have hx : xv = tbf F i 7 := by rw [ev]; unfold tbf; rw [ea, ed, nI_clamp (by omega), nI_clamp (by omega)]; exact sE.2.2.1
          have hc : tbf F i 7 = nI ((tx a d i).getD 7 0) := by unfold tbf; rw [ea, ed, nI_clamp (by omega), nI_clamp (by omega)]; rfl
          exact R_zret (pc := 186) C dX2_sign_186 rfl (by rw [hx, hc]; exact char1 (sL 7 (by decide))) (Nat.le_of_ble_eq_true rfl) (Nat.le_of_ble_eq_true rfl) (fun h hh => Or.inl ⟨hk, by rw [hx, ix_nI (by omega), ix_nI (by omega)], _, su_s, hh⟩)
        · refine R_iload_n (pc := 71) C dX2_sign_71 rfl ?_
          refine R_iconst (pc := 72) C dX2_sign_72 (v := 5) (by decide) ?_
          refine R_icmp_ge (pc := 73) C dX2_sign_73 (tgt := 118) (by decide) (fun _ => ?_) (fun q9 => absurd q9 (by decide))
          refine R_iload_n (pc := 118) C dX2_sign_118 rfl ?_
          refine R_bipush (pc := 119) C dX2_sign_119 (v := 7) (by decide) ?_
          refine R_icmp_ge (pc := 121) C dX2_sign_121 (tgt := 145) (by decide) (fun _ => ?_) (fun q9 => absurd q9 (by decide))
          refine R_iload_n (pc := 145) C dX2_sign_145 rfl ?_
          refine R_bipush (pc := 146) C dX2_sign_146 (v := 7) (by decide) ?_
          refine R_iload_n (pc := 148) C dX2_sign_148 rfl ?_
          refine R_iadd (pc := 149) C dX2_sign_149 ?_
          refine R_icmp_ge (pc := 150) C dX2_sign_150 (tgt := 187) (by decide) (fun _ => ?_) (fun q9 => absurd q9 (by decide))
          refine R_iload_n (pc := 187) C dX2_sign_187 rfl ?_
          refine R_bipush (pc := 188) C dX2_sign_188 (v := 7) (by decide) ?_
          refine R_iload_n (pc := 190) C dX2_sign_190 rfl ?_
          refine R_iadd (pc := 191) C dX2_sign_191 ?_
          refine R_icmp_ne (pc := 192) C dX2_sign_192 (tgt := 200) (by decide) (fun q9 => absurd q9 (by decide)) (fun _ => ?_)
          refine R_bipush (pc := 195) C dX2_sign_195 (v := 58) (by decide) ?_
          refine R_goto (pc := 197) C dX2_sign_197 (tgt := 205) (by decide) ?_
          refine R_topi (fun xv ev => ?_)
          have hx : xv = tbf F i 8 := by rw [ev]; unfold tbf; rw [ea, ed, nI_clamp (by omega), nI_clamp (by omega)]; exact sE.2.2.2.1
          have hc : tbf F i 8 = nI ((tx a d i).getD 8 0) := by unfold tbf; rw [ea, ed, nI_clamp (by omega), nI_clamp (by omega)]; rfl
          exact R_zret (pc := 205) C dX2_sign_205 rfl (by rw [hx, hc]; exact char1 (sL 8 (by decide))) (Nat.le_of_ble_eq_true rfl) (Nat.le_of_ble_eq_true rfl) (fun h hh => Or.inl ⟨hk, by rw [hx, ix_nI (by omega), ix_nI (by omega)], _, su_s, hh⟩)
        · refine R_iload_n (pc := 71) C dX2_sign_71 rfl ?_
          refine R_iconst (pc := 72) C dX2_sign_72 (v := 5) (by decide) ?_
          refine R_icmp_ge (pc := 73) C dX2_sign_73 (tgt := 118) (by decide) (fun _ => ?_) (fun q9 => absurd q9 (by decide))
          refine R_iload_n (pc := 118) C dX2_sign_118 rfl ?_
          refine R_bipush (pc := 119) C dX2_sign_119 (v := 7) (by decide) ?_
          refine R_icmp_ge (pc := 121) C dX2_sign_121 (tgt := 145) (by decide) (fun _ => ?_) (fun q9 => absurd q9 (by decide))
          refine R_iload_n (pc := 145) C dX2_sign_145 rfl ?_
          refine R_bipush (pc := 146) C dX2_sign_146 (v := 7) (by decide) ?_
          refine R_iload_n (pc := 148) C dX2_sign_148 rfl ?_
          refine R_iadd (pc := 149) C dX2_sign_149 ?_
          refine R_icmp_ge (pc := 150) C dX2_sign_150 (tgt := 187) (by decide) (fun _ => ?_) (fun q9 => absurd q9 (by decide))
          refine R_iload_n (pc := 187) C dX2_sign_187 rfl ?_
          refine R_bipush (pc := 188) C dX2_sign_188 (v := 7) (by decide) ?_
          refine R_iload_n (pc := 190) C dX2_sign_190 rfl ?_
          refine R_iadd (pc := 191) C dX2_sign_191 ?_
          refine R_icmp_ne (pc := 192) C dX2_sign_192 (tgt := 200) (by decide) (fun _ => ?_) (fun q9 => absurd q9 (by decide))
          refine R_bipush (pc := 200) C dX2_sign_200 (v := 48) (by decide) ?_
          refine R_iload_n (pc := 202) C dX2_sign_202 rfl ?_
          refine R_iadd (pc := 203) C dX2_sign_203 ?_
          refine R_i2c (pc := 204) C dX2_sign_204 ?_
          refine R_topi (fun xv ev => ?_)
          have hx : xv = tbf F i 9 := by rw [ev]; unfold tbf; rw [ea, ed, nI_clamp (by omega), nI_clamp (by omega)]; exact sE.2.2.2.2.1
          have hc : tbf F i 9 = nI ((tx a d i).getD 9 0) := by unfold tbf; rw [ea, ed, nI_clamp (by omega), nI_clamp (by omega)]; rfl
          exact R_zret (pc := 205) C dX2_sign_205 rfl (by rw [hx, hc]; exact char1 (sL 9 (by decide))) (Nat.le_of_ble_eq_true rfl) (Nat.le_of_ble_eq_true rfl) (fun h hh => Or.inl ⟨hk, by rw [hx, ix_nI (by omega), ix_nI (by omega)], _, su_s, hh⟩)
      · have hk0 : kSign n F (nI i) y = 1 := by unfold kSign; rw [if_pos (qW_t hn hi), ix_nI (by omega), tle, sN, if_neg (fun z => qR_n (b01 c61) ⟨z.1, le_lt9.1.mpr z.2⟩)]
        refine R_aload_n (pc := 64) C dX2_sign_64 rfl ?_
        refine R_iconst (pc := 65) C dX2_sign_65 (v := 1) (by decide) ?_
        refine R_callVN (pc := 66) C dX2_sign_66 (vs := [_]) (fun h hh => mX2_refuses hl h hh) (isOb_of (wm0) rfl) ⟨k_17_23, k_18_0, k_18_1, k_1_5, k_18_2⟩ (sgn (nv := 1) rfl ⟨by decide +kernel, by decide +kernel, by decide +kernel⟩) ⟨⟨Nat.le_of_ble_eq_true rfl, Nat.le_of_ble_eq_true rfl⟩, ⟨Nat.le_of_ble_eq_true rfl, Nat.le_of_ble_eq_true rfl⟩, Nat.le_of_ble_eq_true rfl⟩ rfl rfl (fun h9 hh9 v9 => ?_)
        refine WR.pr (fun e9 => ?_)
        subst e9
        show WR K G _ _ _ _ _ _ _ (.int _ :: _)
        refine R_i2c (pc := 69) C dX2_sign_69 ?_
        exact R_zret (pc := 70) C dX2_sign_70 rfl rfl (Nat.le_of_ble_eq_true rfl) (Nat.le_of_ble_eq_true rfl) (fun h hh => Or.inr ⟨by rw [hk0]; decide, ⟨_, rfl⟩, _, su_s.trans hk0.symm, hh⟩)
end
