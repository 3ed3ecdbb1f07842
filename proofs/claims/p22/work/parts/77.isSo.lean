/-! 77: the law: what the object shows is what the law reckons. Written by wip/p22/gen/m77.py -/
theorem lwA : ∀ a, a < 3 → ∀ d, d < 10 → ∀ i, i < 5 → (txb a d i 5 = 48 + nI a ∧ txb a d i 7 = 48 + nI d ∧ txb a d i 8 = 58 ∧ txb a d i 9 = 48 + nI i ∧ txb a d i 7 = 48 + (nI d - nI d / 10 * 10)) ∧ (∀ j, j < 10 → (tx a d i).getD j 0 < 128) ∧ (tx a d i).length = 10 := by decide +kernel
theorem lwB1 : ∀ a, a < 3 → ∀ d, d < 90 → ∀ i, i < 5 → (txb a (10 + d) i 5 = 48 + nI a ∧ txb a (10 + d) i 7 = 48 + nI (10 + d) / 10 ∧ txb a (10 + d) i 9 = 58 ∧ txb a (10 + d) i 10 = 48 + nI i ∧ txb a (10 + d) i 8 = 48 + (nI (10 + d) - nI (10 + d) / 10 * 10)) := by decide +kernel
theorem lwB2 : ∀ a, a < 3 → ∀ d, d < 90 → ∀ i, i < 5 → (∀ j, j < 11 → (tx a (10 + d) i).getD j 0 < 128) ∧ (tx a (10 + d) i).length = 11 := by decide +kernel
theorem lwB (a : Nat) (ha : a < 3) (d : Nat) (h1 : d < 100) (h2 : 10 ≤ d) (i : Nat) (hi : i < 5) : (txb a d i 5 = 48 + nI a ∧ txb a d i 7 = 48 + nI d / 10 ∧ txb a d i 9 = 58 ∧ txb a d i 10 = 48 + nI i ∧ txb a d i 8 = 48 + (nI d - nI d / 10 * 10)) ∧ (∀ j, j < 11 → (tx a d i).getD j 0 < 128) ∧ (tx a d i).length = 11 := by
  have e1 := lwB1 a ha (d - 10) (by omega) i hi
  have e2 := lwB2 a ha (d - 10) (by omega) i hi
  rw [show 10 + (d - 10) = d by omega] at e1 e2
  exact ⟨e1, e2⟩
theorem asc_of {n P : Nat} {F : Nat → Nat → Int32} (hn : n ≤ 5) (hrg : Rg n P F) : ∀ i j, i < n → j < tl F i → ∃ c, tbf F i j = nI c ∧ c < 128 := by
  intro i j hi hj
  obtain ⟨⟨a, ha, ea⟩, ⟨d, hd, ed⟩⟩ := hrg.1 i hi
  unfold tl at hj
  unfold tbf
  rw [ea, ed, nI_clamp (by omega), nI_clamp (by omega)] at hj ⊢
  refine ⟨(tx a d i).getD j 0, rfl, ?_⟩
  by_cases c : d < 10
  · have sE := lwA a (by omega) d c i (by omega)
    exact sE.2.1 j (by rw [sE.2.2] at hj; exact hj)
  · have sE := lwB a (by omega) d (by omega) (by omega) i (by omega)
    exact sE.2.1 j (by rw [sE.2.2] at hj; exact hj)
theorem ks_ok {n k L q a d : Nat} {F : Nat → Nat → Int32} {y : Int32} (hn : n ≤ 5) (hk : k < n) (ha : a < 3) (hd : d < 100) (ea : F 0 k = nI a) (ed : F 1 k = nI d) (hL : (tx a d k).length = L) (hy : y = nI q) (hq : q < L) (hL2 : L < 20) : kSign n F (nI k) y = 0 := by
  subst hy
  unfold kSign
  rw [if_pos (qW_t (by omega) hk), ix_nI (by omega)]
  refine if_pos ⟨nI_pos (by omega), ?_⟩
  unfold tl
  rw [ea, ed, nI_clamp (by omega), nI_clamp (by omega), hL]
  exact nI_lt hq (by omega)
theorem tb_v {k q a d : Nat} {F : Nat → Nat → Int32} {y v : Int32} (hk : k < 5) (ha : a < 3) (hd : d < 100) (ea : F 0 k = nI a) (ed : F 1 k = nI d) (hq : q < 20) (hy : y = nI q) (hv : txb a d k q = v) : tbf F (ix (nI k)) (ix y) = v := by
  subst hy
  rw [ix_nI (by omega), ix_nI (by omega)]
  unfold tbf
  rw [ea, ed, nI_clamp (by omega), nI_clamp (by omega)]
  exact hv
section
variable {l : Launch} {G : GT} {adr : Nat → Nat} {n P : Nat} {F mu : Nat → Nat → Int32} {g : Nat → Int64}
set_option maxHeartbeats 4000000 in
set_option maxRecDepth 100000 in
theorem mL_isSo (hl : l.stackTraces = false) {z : Int32} (hn : n ≤ 5) (hP : P ≤ 5) (hrg : Rg n P F) : ∀ h, Wd G (adr, (n, P, F), (n, P, F), mu, g) h → CN l yL_isSo cL_isSo 12 (some .boolean) 8 85 510 [.ref (adr 0), .int z, .ref (adr 5), .ref (adr 6), .ref (adr 8), .ref (adr 9), .ref (adr 10)] G h (fun v h1 => v = some (.int 1) ∧ ∃ m9 : Nat → Nat → Int32, Wd G (adr, (n, P, F), (n, P, F), m9, g) h1) := by
  intro h0 hwd
  refine CN.of hl (by decide +kernel) rfl (Nat.le_of_ble_eq_true rfl) (fun K sz hKl hin C => ?_)
  have C : CX K G (AH h0 sz) RL cL_isSo 12 (some .boolean) (rmD 8 85 510) [] := C
  subst hKl
  refine WR.imp (P' := Wd G (adr, (n, P, F), (n, P, F), mu, g)) (fun h e => e ▸ hwd) ?_
  show WR K G _ _ _ [some (.ref (adr 0)), some (.int z), some (.ref (adr 5)), some (.ref (adr 6)), some (.ref (adr 8)), some (.ref (adr 9)), some (.ref (adr 10)), none, none, none, none, none] 0 0 0 []
  refine R_aload_n (pc := 0) C dL_isSo_0 rfl ?_
  refine R_callVN (pc := 1) C dL_isSo_1 (vs := []) (fun h hh => mX1_years hl h hh) (isOb_of (wc0) rfl) ⟨k_24_2, k_24_3, k_24_4, k_1_2, k_24_5⟩ (sgn (nv := 0) rfl ⟨by decide +kernel, by decide +kernel, by decide +kernel⟩) ⟨⟨Nat.le_of_ble_eq_true rfl, Nat.le_of_ble_eq_true rfl⟩, ⟨Nat.le_of_ble_eq_true rfl, Nat.le_of_ble_eq_true rfl⟩, Nat.le_of_ble_eq_true rfl⟩ rfl rfl (fun h9 hh9 v9 => ?_)
  refine WR.pr (fun e9 => ?_)
  subst e9
  show WR K G _ _ _ _ _ _ _ (.int _ :: _)
  refine R_aload (pc := 4) C dL_isSo_4 rfl ?_
  refine R_iconst (pc := 6) C dL_isSo_6 (v := 1) (by decide) ?_
  refine R_iald (pc := 7) C dL_isSo_7 (wmq) (rfl) (by decide) (by decide) (rdq1) ?_
  refine R_icmp_ne (pc := 8) C dL_isSo_8 (tgt := 43) (by decide) (fun c8 => absurd c8 (fun q => q rfl)) (fun c8 => ?_)
  refine R_aload_n (pc := 11) C dL_isSo_11 rfl ?_
  refine R_callVN (pc := 12) C dL_isSo_12 (vs := []) (fun h hh => mX1_fund hl h hh) (isOb_of (wc0) rfl) ⟨k_24_6, k_24_7, k_24_8, k_1_2, k_24_9⟩ (sgn (nv := 0) rfl ⟨by decide +kernel, by decide +kernel, by decide +kernel⟩) ⟨⟨Nat.le_of_ble_eq_true rfl, Nat.le_of_ble_eq_true rfl⟩, ⟨Nat.le_of_ble_eq_true rfl, Nat.le_of_ble_eq_true rfl⟩, Nat.le_of_ble_eq_true rfl⟩ rfl rfl (fun h9 hh9 v9 => ?_)
  refine WR.pr (fun e9 => ?_)
  subst e9
  show WR K G _ _ _ _ _ _ _ (.int _ :: _)
  refine R_aload (pc := 15) C dL_isSo_15 rfl ?_
  refine R_iconst (pc := 17) C dL_isSo_17 (v := 2) (by decide) ?_
  refine R_iald (pc := 18) C dL_isSo_18 (wmq) (rfl) (by decide) (by decide) (rdq2) ?_
  refine R_icmp_ne (pc := 19) C dL_isSo_19 (tgt := 43) (by decide) (fun c19 => absurd c19 (fun q => q rfl)) (fun c19 => ?_)
  refine R_aload_n (pc := 22) C dL_isSo_22 rfl ?_
  refine R_callVN (pc := 23) C dL_isSo_23 (vs := []) (fun h hh => mX1_wouldStop hl (show n ≤ 8 by omega) hP (hlay_of hrg) h hh) (isOb_of (wc0) rfl) ⟨k_24_10, k_24_11, k_24_12, k_1_2, k_24_13⟩ (sgn (nv := 0) rfl ⟨by decide +kernel, by decide +kernel, by decide +kernel⟩) ⟨⟨Nat.le_of_ble_eq_true rfl, Nat.le_of_ble_eq_true rfl⟩, ⟨Nat.le_of_ble_eq_true rfl, Nat.le_of_ble_eq_true rfl⟩, Nat.le_of_ble_eq_true rfl⟩ rfl rfl (fun h9 hh9 v9 => ?_)
  refine WR.pr (fun e9 => ?_)
  subst e9
  show WR K G _ _ _ _ _ _ _ (.int _ :: _)
  refine R_aload_n (pc := 26) C dL_isSo_26 rfl ?_
  refine R_aload (pc := 27) C dL_isSo_27 rfl ?_
  refine R_aload (pc := 29) C dL_isSo_29 rfl ?_
  refine R_aload (pc := 31) C dL_isSo_31 rfl ?_
  refine R_callSN (pc := 33) C dL_isSo_33 (vs := [_, _, _, _]) (fun h hh => mL_stops hl hn hP hrg h hh) ⟨k_23_5, k_23_6, k_2_12, k_23_7⟩ (sgn (nv := 4) rfl ⟨by decide +kernel, by decide +kernel, by decide +kernel⟩) ⟨⟨Nat.le_of_ble_eq_true rfl, Nat.le_of_ble_eq_true rfl⟩, ⟨Nat.le_of_ble_eq_true rfl, Nat.le_of_ble_eq_true rfl⟩, Nat.le_of_ble_eq_true rfl⟩ rfl rfl (fun h9 hh9 v9 => ?_)
  refine WR.pr (fun e9 => ?_)
  subst e9
  refine WR.ex (fun m9 => WR.pr (fun _ => ?_))
  show WR K G _ _ _ _ _ _ _ (.int _ :: _)
  refine R_icmp_ne (pc := 36) C dL_isSo_36 (tgt := 43) (by decide) (fun c36 => absurd c36 (fun q => q rfl)) (fun c36 => ?_)
  refine R_iconst (pc := 39) C dL_isSo_39 (v := 1) (by decide) ?_
  refine R_goto (pc := 40) C dL_isSo_40 (tgt := 44) (by decide) ?_
  refine R_istore (pc := 44) C dL_isSo_44 (Nat.le_of_ble_eq_true rfl) (lv' := [some (.ref _), some (.int _), some (.ref _), some (.ref _), some (.ref _), some (.ref _), some (.ref _), some (.int _), none, none, none, none]) rfl ?_
  refine R_iconst (pc := 46) C dL_isSo_46 (v := 0) (by decide) ?_
  refine R_istore (pc := 47) C dL_isSo_47 (Nat.le_of_ble_eq_true rfl) (lv' := [some (.ref _), some (.int _), some (.ref _), some (.ref _), some (.ref _), some (.ref _), some (.ref _), some (.int _), some (.int _), none, none, none]) rfl ?_
  have LP49 : ∀ (m k : Nat), n < m + k → k ≤ n → WR K G (AH h0 sz) (QM K G h0 sz 85 510 (fun v h1 => v = some (.int 1) ∧ ∃ m9 : Nat → Nat → Int32, Wd G (adr, (n, P, F), (n, P, F), m9, g) h1)) (Wd G (adr, (n, P, F), (n, P, F), m9, g)) [some (.ref (adr 0)), some (.int z), some (.ref (adr 5)), some (.ref (adr 6)), some (.ref (adr 8)), some (.ref (adr 9)), some (.ref (adr 10)), some (.int 1), some (.int (nI k)), none, none, none] (17 * k) (102 * k) 49 [] := by
    intro m
    induction m with
    | zero => intro k h1 h2; exact absurd h1 (by omega)
    | succ m ih =>
      intro k h1 h2
      refine R_iload (pc := 49) C dL_isSo_49 rfl ?_
      refine R_aload (pc := 51) C dL_isSo_51 rfl ?_
      refine R_iconst (pc := 53) C dL_isSo_53 (v := 0) (by decide) ?_
      refine R_iald (pc := 54) C dL_isSo_54 (wmq) (rfl) (by decide) (by decide) (rdq0) ?_
      refine R_icmp_ge (pc := 55) C dL_isSo_55 (tgt := 348) (by decide) (fun c55 => ?_) (fun c55 => ?_)
      · have ek : n = k := Nat.le_antisymm (le_nI (by omega) (by omega) c55) h2
        subst ek
        refine R_iload (pc := 348) C dL_isSo_348 rfl ?_
        exact R_zret (pc := 350) C dL_isSo_350 rfl rfl (by omega) (by omega) (fun h hh => ⟨rfl, m9, hh⟩)
      · have hk : k < n := gt_nI (by omega) (by omega) c55
        have hask : kAsk n (nI k) = 0 := if_pos (qW_t (by omega) hk)
        obtain ⟨⟨a, ha, ea⟩, ⟨d, hd, ed⟩⟩ := hrg.1 k hk
        have ha : a < 3 := by omega
        have hd : d < 100 := by omega
        refine R_iload (pc := 58) C dL_isSo_58 rfl ?_
        refine R_if_eq (pc := 60) C dL_isSo_60 (tgt := 348) (by decide) (fun c60 => absurd c60 (by decide)) (fun c60 => ?_)
        refine R_iload_n (pc := 63) C dL_isSo_63 rfl ?_
        refine R_iload (pc := 64) C dL_isSo_64 rfl ?_
        refine R_ishr (pc := 66) C dL_isSo_66 ?_
        refine R_aload (pc := 67) C dL_isSo_67 rfl ?_
        refine R_iconst (pc := 69) C dL_isSo_69 (v := 0) (by decide) ?_
        refine R_iald (pc := 70) C dL_isSo_70 (wmq) (rfl) (by decide) (by decide) (rdq0) ?_
        refine R_callP (pc := 71) C dL_isSo_71 (vs := [_, _]) (mL_low hl (nI_ne0 (by omega) (by omega))) ⟨k_2_16, k_2_17, k_2_12, k_2_18⟩ (sgn (nv := 2) rfl ⟨by decide +kernel, by decide +kernel, by decide +kernel⟩) ⟨⟨Nat.le_of_ble_eq_true rfl, Nat.le_of_ble_eq_true rfl⟩, ⟨by show _ ≤ 85; omega, by show _ ≤ 510; omega⟩, Nat.le_of_ble_eq_true rfl⟩ rfl rfl ?_
        obtain ⟨o, ho, eo⟩ := lowV_ex (z >>> (nI k &&& 31)) (m := n) (by omega) (by omega)
        rw [eo]
        refine R_istore (pc := 74) C dL_isSo_74 (Nat.le_of_ble_eq_true rfl) (lv' := [some (.ref _), some (.int _), some (.ref _), some (.ref _), some (.ref _), some (.ref _), some (.ref _), some (.int _), some (.int _), some (.int _), none, none]) rfl ?_
        refine R_aload_n (pc := 76) C dL_isSo_76 rfl ?_
        refine R_iload (pc := 77) C dL_isSo_77 rfl ?_
        refine R_callVT (pc := 79) C dL_isSo_79 (vs := [_]) (fun h hh => mX1_level hl (show n ≤ 8 by omega) h hh) (isOb_of (wc0) rfl) ⟨k_24_14, k_24_15, k_24_16, k_1_2, k_24_17⟩ (sgn (nv := 1) rfl ⟨by decide +kernel, by decide +kernel, by decide +kernel⟩) ⟨⟨Nat.le_of_ble_eq_true rfl, Nat.le_of_ble_eq_true rfl⟩, ⟨by show _ ≤ 85; omega, by show _ ≤ 510; omega⟩, Nat.le_of_ble_eq_true rfl⟩ rfl rfl (fun h9 hh9 E9 => X_pr (fun q9 => (exA_0 q9 hask).elim)) (fun h9 hh9 v9 => ?_)
        refine WR.pr (fun e9 => ?_)
        obtain ⟨-, e9⟩ := e9
        subst e9
        show WR K G _ _ _ _ _ _ _ (.int _ :: _)
        rw [ix_nI (show k < 2 ^ 31 by omega)]
        refine R_aload_n (pc := 82) C dL_isSo_82 rfl ?_
        refine R_bipush (pc := 83) C dL_isSo_83 (v := 9) (by decide) ?_
        refine R_iload (pc := 85) C dL_isSo_85 rfl ?_
        refine R_imul (pc := 87) C dL_isSo_87 ?_
        refine R_iconst (pc := 88) C dL_isSo_88 (v := 2) (by decide) ?_
        refine R_iadd (pc := 89) C dL_isSo_89 ?_
        refine R_iald (pc := 90) C dL_isSo_90 (wmw) (i9 k 2) (by omega) (by decide) (rdw (by omega)) ?_
        refine R_icmp_ne (pc := 91) C dL_isSo_91 (tgt := 197) (by decide) (fun c91 => absurd c91 (fun q => q rfl)) (fun c91 => ?_)
        refine R_aload_n (pc := 94) C dL_isSo_94 rfl ?_
        refine R_iload (pc := 95) C dL_isSo_95 rfl ?_
        refine R_callVT (pc := 97) C dL_isSo_97 (vs := [_]) (fun h hh => mX1_bank hl (show n ≤ 8 by omega) h hh) (isOb_of (wc0) rfl) ⟨k_24_18, k_24_19, k_24_20, k_1_2, k_24_21⟩ (sgn (nv := 1) rfl ⟨by decide +kernel, by decide +kernel, by decide +kernel⟩) ⟨⟨Nat.le_of_ble_eq_true rfl, Nat.le_of_ble_eq_true rfl⟩, ⟨by show _ ≤ 85; omega, by show _ ≤ 510; omega⟩, Nat.le_of_ble_eq_true rfl⟩ rfl rfl (fun h9 hh9 E9 => X_pr (fun q9 => (exA_0 q9 hask).elim)) (fun h9 hh9 v9 => ?_)
        refine WR.pr (fun e9 => ?_)
        obtain ⟨-, e9⟩ := e9
        subst e9
        show WR K G _ _ _ _ _ _ _ (.int _ :: _)
        rw [ix_nI (show k < 2 ^ 31 by omega)]
        refine R_aload_n (pc := 100) C dL_isSo_100 rfl ?_
        refine R_iconst (pc := 101) C dL_isSo_101 (v := 4) (by decide) ?_
        refine R_iload (pc := 102) C dL_isSo_102 rfl ?_
        refine R_imul (pc := 104) C dL_isSo_104 ?_
        refine R_iald (pc := 105) C dL_isSo_105 (wmb) (i4z k) (by omega) (by decide) (rdb0) ?_
        refine R_icmp_ne (pc := 106) C dL_isSo_106 (tgt := 197) (by decide) (fun c106 => absurd c106 (fun q => q rfl)) (fun c106 => ?_)
        refine R_aload_n (pc := 109) C dL_isSo_109 rfl ?_
        refine R_iload (pc := 110) C dL_isSo_110 rfl ?_
        refine R_callVT (pc := 112) C dL_isSo_112 (vs := [_]) (fun h hh => mX1_fines hl (show n ≤ 8 by omega) h hh) (isOb_of (wc0) rfl) ⟨k_24_22, k_24_23, k_25_0, k_1_2, k_25_1⟩ (sgn (nv := 1) rfl ⟨by decide +kernel, by decide +kernel, by decide +kernel⟩) ⟨⟨Nat.le_of_ble_eq_true rfl, Nat.le_of_ble_eq_true rfl⟩, ⟨by show _ ≤ 85; omega, by show _ ≤ 510; omega⟩, Nat.le_of_ble_eq_true rfl⟩ rfl rfl (fun h9 hh9 E9 => X_pr (fun q9 => (exA_0 q9 hask).elim)) (fun h9 hh9 v9 => ?_)
        refine WR.pr (fun e9 => ?_)
        obtain ⟨-, e9⟩ := e9
        subst e9
        show WR K G _ _ _ _ _ _ _ (.int _ :: _)
        rw [ix_nI (show k < 2 ^ 31 by omega)]
        refine R_aload_n (pc := 115) C dL_isSo_115 rfl ?_
        refine R_iconst (pc := 116) C dL_isSo_116 (v := 4) (by decide) ?_
        refine R_iload (pc := 117) C dL_isSo_117 rfl ?_
        refine R_imul (pc := 119) C dL_isSo_119 ?_
        refine R_iconst (pc := 120) C dL_isSo_120 (v := 1) (by decide) ?_
        refine R_iadd (pc := 121) C dL_isSo_121 ?_
        refine R_iald (pc := 122) C dL_isSo_122 (wmb) (i4 k 1) (by omega) (by decide) (rdb1) ?_
        refine R_icmp_ne (pc := 123) C dL_isSo_123 (tgt := 197) (by decide) (fun c123 => absurd c123 (fun q => q rfl)) (fun c123 => ?_)
        refine R_aload_n (pc := 126) C dL_isSo_126 rfl ?_
        refine R_iload (pc := 127) C dL_isSo_127 rfl ?_
        refine R_callVT (pc := 129) C dL_isSo_129 (vs := [_]) (fun h hh => mX1_drew hl (show n ≤ 8 by omega) h hh) (isOb_of (wc0) rfl) ⟨k_25_2, k_25_3, k_25_4, k_1_2, k_25_5⟩ (sgn (nv := 1) rfl ⟨by decide +kernel, by decide +kernel, by decide +kernel⟩) ⟨⟨Nat.le_of_ble_eq_true rfl, Nat.le_of_ble_eq_true rfl⟩, ⟨by show _ ≤ 85; omega, by show _ ≤ 510; omega⟩, Nat.le_of_ble_eq_true rfl⟩ rfl rfl (fun h9 hh9 E9 => X_pr (fun q9 => (exA_0 q9 hask).elim)) (fun h9 hh9 v9 => ?_)
        refine WR.pr (fun e9 => ?_)
        obtain ⟨-, e9⟩ := e9
        subst e9
        show WR K G _ _ _ _ _ _ _ (.int _ :: _)
        rw [ix_nI (show k < 2 ^ 31 by omega)]
        refine R_aload_n (pc := 132) C dL_isSo_132 rfl ?_
        refine R_iconst (pc := 133) C dL_isSo_133 (v := 4) (by decide) ?_
        refine R_iload (pc := 134) C dL_isSo_134 rfl ?_
        refine R_imul (pc := 136) C dL_isSo_136 ?_
        refine R_iconst (pc := 137) C dL_isSo_137 (v := 2) (by decide) ?_
        refine R_iadd (pc := 138) C dL_isSo_138 ?_
        refine R_iald (pc := 139) C dL_isSo_139 (wmb) (i4 k 2) (by omega) (by decide) (rdb2) ?_
        refine R_icmp_ne (pc := 140) C dL_isSo_140 (tgt := 197) (by decide) (fun c140 => absurd c140 (fun q => q rfl)) (fun c140 => ?_)
        refine R_aload_n (pc := 143) C dL_isSo_143 rfl ?_
        refine R_iload (pc := 144) C dL_isSo_144 rfl ?_
        refine R_callVT (pc := 146) C dL_isSo_146 (vs := [_]) (fun h hh => mX1_told hl (show n ≤ 8 by omega) h hh) (isOb_of (wc0) rfl) ⟨k_25_6, k_25_7, k_25_8, k_1_2, k_25_9⟩ (sgn (nv := 1) rfl ⟨by decide +kernel, by decide +kernel, by decide +kernel⟩) ⟨⟨Nat.le_of_ble_eq_true rfl, Nat.le_of_ble_eq_true rfl⟩, ⟨by show _ ≤ 85; omega, by show _ ≤ 510; omega⟩, Nat.le_of_ble_eq_true rfl⟩ rfl rfl (fun h9 hh9 E9 => X_pr (fun q9 => (exA_0 q9 hask).elim)) (fun h9 hh9 v9 => ?_)
        refine WR.pr (fun e9 => ?_)
        obtain ⟨-, e9⟩ := e9
        subst e9
        show WR K G _ _ _ _ _ _ _ (.int _ :: _)
        rw [ix_nI (show k < 2 ^ 31 by omega)]
        refine R_aload_n (pc := 149) C dL_isSo_149 rfl ?_
        refine R_iconst (pc := 150) C dL_isSo_150 (v := 4) (by decide) ?_
        refine R_iload (pc := 151) C dL_isSo_151 rfl ?_
        refine R_imul (pc := 153) C dL_isSo_153 ?_
        refine R_iconst (pc := 154) C dL_isSo_154 (v := 3) (by decide) ?_
        refine R_iadd (pc := 155) C dL_isSo_155 ?_
        refine R_iald (pc := 156) C dL_isSo_156 (wmb) (i4 k 3) (by omega) (by decide) (rdb3) ?_
        refine R_icmp_ne (pc := 157) C dL_isSo_157 (tgt := 197) (by decide) (fun c157 => absurd c157 (fun q => q rfl)) (fun c157 => ?_)
        refine R_aload_n (pc := 160) C dL_isSo_160 rfl ?_
        refine R_iload (pc := 161) C dL_isSo_161 rfl ?_
        refine R_iload (pc := 163) C dL_isSo_163 rfl ?_
        have hkr : kReach n (nI k) (nI o) = 0 := if_pos ⟨qW_t (by omega) hk, qW_t (by omega) ho⟩
        refine R_callVT (pc := 165) C dL_isSo_165 (vs := [_, _]) (fun h hh => mX1_reach hl (show n ≤ 8 by omega) h hh) (isOb_of (wc0) rfl) ⟨k_25_10, k_25_11, k_25_12, k_1_2, k_25_13⟩ (sgn (nv := 2) rfl ⟨by decide +kernel, by decide +kernel, by decide +kernel⟩) ⟨⟨Nat.le_of_ble_eq_true rfl, Nat.le_of_ble_eq_true rfl⟩, ⟨by show _ ≤ 85; omega, by show _ ≤ 510; omega⟩, Nat.le_of_ble_eq_true rfl⟩ rfl rfl (fun h9 hh9 E9 => X_pr (fun q9 => (exA_0 q9 hkr).elim)) (fun h9 hh9 v9 => ?_)
        refine WR.pr (fun e9 => ?_)
        obtain ⟨-, e9⟩ := e9
        subst e9
        show WR K G _ _ _ _ _ _ _ (.int _ :: _)
        rw [ix_nI (show k < 2 ^ 31 by omega), ix_nI (show o < 2 ^ 31 by omega)]
        refine R_aload_n (pc := 168) C dL_isSo_168 rfl ?_
        refine R_bipush (pc := 169) C dL_isSo_169 (v := 9) (by decide) ?_
        refine R_iload (pc := 171) C dL_isSo_171 rfl ?_
        refine R_imul (pc := 173) C dL_isSo_173 ?_
        refine R_iald (pc := 174) C dL_isSo_174 (wmw) (i9z k) (by omega) (by decide) (rdw (by omega)) ?_
        refine R_aload_n (pc := 175) C dL_isSo_175 rfl ?_
        refine R_bipush (pc := 176) C dL_isSo_176 (v := 9) (by decide) ?_
        refine R_iload (pc := 178) C dL_isSo_178 rfl ?_
        refine R_imul (pc := 180) C dL_isSo_180 ?_
        refine R_iconst (pc := 181) C dL_isSo_181 (v := 1) (by decide) ?_
        refine R_iadd (pc := 182) C dL_isSo_182 ?_
        refine R_iald (pc := 183) C dL_isSo_183 (wmw) (i9 k 1) (by omega) (by decide) (rdw (by omega)) ?_
        refine R_iload (pc := 184) C dL_isSo_184 rfl ?_
        refine R_aload_n (pc := 186) C dL_isSo_186 rfl ?_
        refine R_callSN (pc := 187) C dL_isSo_187 (vs := [_, _, _, _]) (fun h hh => mL_reach hl (by omega) h hh) ⟨k_23_14, k_23_15, k_2_12, k_23_16⟩ (sgn (nv := 4) rfl ⟨by decide +kernel, by decide +kernel, by decide +kernel⟩) ⟨⟨Nat.le_of_ble_eq_true rfl, Nat.le_of_ble_eq_true rfl⟩, ⟨by show _ ≤ 85; omega, by show _ ≤ 510; omega⟩, Nat.le_of_ble_eq_true rfl⟩ rfl rfl (fun h9 hh9 v9 => ?_)
        refine WR.pr (fun e9 => ?_)
        subst e9
        show WR K G _ _ _ _ _ _ _ (.int _ :: _)
        rw [rL_eq (hrg.1 o ho).1 (hrg.1 o ho).2 (hrg.1 k hk).1 (hrg.1 k hk).2]
        refine R_icmp_ne (pc := 190) C dL_isSo_190 (tgt := 197) (by decide) (fun c190 => absurd c190 (fun q => q rfl)) (fun c190 => ?_)
        refine R_iconst (pc := 193) C dL_isSo_193 (v := 1) (by decide) ?_
        refine R_goto (pc := 194) C dL_isSo_194 (tgt := 198) (by decide) ?_
        refine R_istore (pc := 198) C dL_isSo_198 (Nat.le_of_ble_eq_true rfl) (lv' := [some (.ref _), some (.int _), some (.ref _), some (.ref _), some (.ref _), some (.ref _), some (.ref _), some (.int _), some (.int _), some (.int _), none, none]) rfl ?_
        refine R_aload_n (pc := 200) C dL_isSo_200 rfl ?_
        refine R_bipush (pc := 201) C dL_isSo_201 (v := 9) (by decide) ?_
        refine R_iload (pc := 203) C dL_isSo_203 rfl ?_
        refine R_imul (pc := 205) C dL_isSo_205 ?_
        refine R_iconst (pc := 206) C dL_isSo_206 (v := 1) (by decide) ?_
        refine R_iadd (pc := 207) C dL_isSo_207 ?_
        refine R_iald (pc := 208) C dL_isSo_208 (wmw) (i9 k 1) (by omega) (by decide) ((rdw (by omega)).trans ed) ?_
        refine R_istore (pc := 209) C dL_isSo_209 (Nat.le_of_ble_eq_true rfl) (lv' := [some (.ref _), some (.int _), some (.ref _), some (.ref _), some (.ref _), some (.ref _), some (.ref _), some (.int _), some (.int _), some (.int _), some (.int _), none]) rfl ?_
        refine R_iload (pc := 211) C dL_isSo_211 rfl ?_
        refine R_bipush (pc := 213) C dL_isSo_213 (v := 10) (by decide) ?_
        refine R_icmp_ge (pc := 215) C dL_isSo_215 (tgt := 223) (by decide) (fun c215 => ?_) (fun c215 => ?_)
        · have T := lwB a ha d hd (le_nI (a := 10) (by omega) (by omega) c215) k (by omega)
          refine R_bipush (pc := 223) C dL_isSo_223 (v := 9) (by decide) ?_
          refine R_istore (pc := 225) C dL_isSo_225 (Nat.le_of_ble_eq_true rfl) (lv' := [some (.ref _), some (.int _), some (.ref _), some (.ref _), some (.ref _), some (.ref _), some (.ref _), some (.int _), some (.int _), some (.int _), some (.int _), some (.int _)]) rfl ?_
          refine R_iload (pc := 227) C dL_isSo_227 rfl ?_
          refine R_if_eq (pc := 229) C dL_isSo_229 (tgt := 339) (by decide) (fun c229 => absurd c229 (by decide)) (fun c229 => ?_)
          refine R_aload_n (pc := 232) C dL_isSo_232 rfl ?_
          refine R_iload (pc := 233) C dL_isSo_233 rfl ?_
          refine R_iconst (pc := 235) C dL_isSo_235 (v := 5) (by decide) ?_
          have hs236 : kSign n F (nI k) 5 = 0 := ks_ok (q := 5) hn hk ha hd ea ed T.2.2 (by decide) (by decide) (by decide)
          refine R_callVT (pc := 236) C dL_isSo_236 (vs := [_, _]) (fun h hh => mX1_sign hl (show n ≤ 8 by omega) (asc_of hn hrg) h hh) (isOb_of (wc0) rfl) ⟨k_25_14, k_25_15, k_25_16, k_1_2, k_25_17⟩ (sgn (nv := 2) rfl ⟨by decide +kernel, by decide +kernel, by decide +kernel⟩) ⟨⟨Nat.le_of_ble_eq_true rfl, Nat.le_of_ble_eq_true rfl⟩, ⟨by show _ ≤ 85; omega, by show _ ≤ 510; omega⟩, Nat.le_of_ble_eq_true rfl⟩ rfl rfl (fun h9 hh9 E9 => X_pr (fun q9 => absurd (hs236.symm.trans q9.1) (by decide))) (fun h9 hh9 v9 => ?_)
          refine WR.pr (fun e9 => ?_)
          obtain ⟨-, e9⟩ := e9
          subst e9
          show WR K G _ _ _ _ _ _ _ (.int _ :: _)
          rw [tb_v (y := 5) (q := 5) (by omega) ha hd ea ed (by decide) (by decide) T.1.1]
          refine R_bipush (pc := 239) C dL_isSo_239 (v := 48) (by decide) ?_
          refine R_aload_n (pc := 241) C dL_isSo_241 rfl ?_
          refine R_bipush (pc := 242) C dL_isSo_242 (v := 9) (by decide) ?_
          refine R_iload (pc := 244) C dL_isSo_244 rfl ?_
          refine R_imul (pc := 246) C dL_isSo_246 ?_
          refine R_iald (pc := 247) C dL_isSo_247 (wmw) (i9z k) (by omega) (by decide) ((rdw (by omega)).trans ea) ?_
          refine R_iadd (pc := 248) C dL_isSo_248 ?_
          refine R_icmp_ne (pc := 249) C dL_isSo_249 (tgt := 339) (by decide) (fun c249 => absurd c249 (fun q => q rfl)) (fun c249 => ?_)
          refine R_aload_n (pc := 252) C dL_isSo_252 rfl ?_
          refine R_iload (pc := 253) C dL_isSo_253 rfl ?_
          refine R_bipush (pc := 255) C dL_isSo_255 (v := 7) (by decide) ?_
          have hs257 : kSign n F (nI k) 7 = 0 := ks_ok (q := 7) hn hk ha hd ea ed T.2.2 (by decide) (by decide) (by decide)
          refine R_callVT (pc := 257) C dL_isSo_257 (vs := [_, _]) (fun h hh => mX1_sign hl (show n ≤ 8 by omega) (asc_of hn hrg) h hh) (isOb_of (wc0) rfl) ⟨k_25_14, k_25_15, k_25_16, k_1_2, k_25_17⟩ (sgn (nv := 2) rfl ⟨by decide +kernel, by decide +kernel, by decide +kernel⟩) ⟨⟨Nat.le_of_ble_eq_true rfl, Nat.le_of_ble_eq_true rfl⟩, ⟨by show _ ≤ 85; omega, by show _ ≤ 510; omega⟩, Nat.le_of_ble_eq_true rfl⟩ rfl rfl (fun h9 hh9 E9 => X_pr (fun q9 => absurd (hs257.symm.trans q9.1) (by decide))) (fun h9 hh9 v9 => ?_)
          refine WR.pr (fun e9 => ?_)
          obtain ⟨-, e9⟩ := e9
          subst e9
          show WR K G _ _ _ _ _ _ _ (.int _ :: _)
          rw [tb_v (y := 7) (q := 7) (by omega) ha hd ea ed (by decide) (by decide) T.1.2.1]
          refine R_bipush (pc := 260) C dL_isSo_260 (v := 48) (by decide) ?_
          refine R_iload (pc := 262) C dL_isSo_262 rfl ?_
          refine R_bipush (pc := 264) C dL_isSo_264 (v := 10) (by decide) ?_
          refine R_icmp_ge (pc := 266) C dL_isSo_266 (tgt := 274) (by decide) (fun _ => ?_) (fun c266 => absurd c215 c266)
          refine R_iload (pc := 274) C dL_isSo_274 rfl ?_
          refine R_bipush (pc := 276) C dL_isSo_276 (v := 10) (by decide) ?_
          refine R_idiv (pc := 278) C dL_isSo_278 (by decide) ?_
          refine R_iadd (pc := 279) C dL_isSo_279 ?_
          refine R_icmp_ne (pc := 280) C dL_isSo_280 (tgt := 339) (by decide) (fun c280 => absurd c280 (fun q => q rfl)) (fun c280 => ?_)
          refine R_aload_n (pc := 283) C dL_isSo_283 rfl ?_
          refine R_iload (pc := 284) C dL_isSo_284 rfl ?_
          refine R_iload (pc := 286) C dL_isSo_286 rfl ?_
          have hs288 : kSign n F (nI k) 9 = 0 := ks_ok (q := 9) hn hk ha hd ea ed T.2.2 (by decide) (by decide) (by decide)
          refine R_callVT (pc := 288) C dL_isSo_288 (vs := [_, _]) (fun h hh => mX1_sign hl (show n ≤ 8 by omega) (asc_of hn hrg) h hh) (isOb_of (wc0) rfl) ⟨k_25_14, k_25_15, k_25_16, k_1_2, k_25_17⟩ (sgn (nv := 2) rfl ⟨by decide +kernel, by decide +kernel, by decide +kernel⟩) ⟨⟨Nat.le_of_ble_eq_true rfl, Nat.le_of_ble_eq_true rfl⟩, ⟨by show _ ≤ 85; omega, by show _ ≤ 510; omega⟩, Nat.le_of_ble_eq_true rfl⟩ rfl rfl (fun h9 hh9 E9 => X_pr (fun q9 => absurd (hs288.symm.trans q9.1) (by decide))) (fun h9 hh9 v9 => ?_)
          refine WR.pr (fun e9 => ?_)
          obtain ⟨-, e9⟩ := e9
          subst e9
          show WR K G _ _ _ _ _ _ _ (.int _ :: _)
          rw [tb_v (y := 9) (q := 9) (by omega) ha hd ea ed (by decide) (by decide) T.1.2.2.1]
          refine R_bipush (pc := 291) C dL_isSo_291 (v := 58) (by decide) ?_
          refine R_icmp_ne (pc := 293) C dL_isSo_293 (tgt := 339) (by decide) (fun c293 => absurd c293 (fun q => q rfl)) (fun c293 => ?_)
          refine R_aload_n (pc := 296) C dL_isSo_296 rfl ?_
          refine R_iload (pc := 297) C dL_isSo_297 rfl ?_
          refine R_iload (pc := 299) C dL_isSo_299 rfl ?_
          refine R_iconst (pc := 301) C dL_isSo_301 (v := 1) (by decide) ?_
          refine R_iadd (pc := 302) C dL_isSo_302 ?_
          have hs303 : kSign n F (nI k) (9 + 1) = 0 := ks_ok (q := 10) hn hk ha hd ea ed T.2.2 (by decide) (by decide) (by decide)
          refine R_callVT (pc := 303) C dL_isSo_303 (vs := [_, _]) (fun h hh => mX1_sign hl (show n ≤ 8 by omega) (asc_of hn hrg) h hh) (isOb_of (wc0) rfl) ⟨k_25_14, k_25_15, k_25_16, k_1_2, k_25_17⟩ (sgn (nv := 2) rfl ⟨by decide +kernel, by decide +kernel, by decide +kernel⟩) ⟨⟨Nat.le_of_ble_eq_true rfl, Nat.le_of_ble_eq_true rfl⟩, ⟨by show _ ≤ 85; omega, by show _ ≤ 510; omega⟩, Nat.le_of_ble_eq_true rfl⟩ rfl rfl (fun h9 hh9 E9 => X_pr (fun q9 => absurd (hs303.symm.trans q9.1) (by decide))) (fun h9 hh9 v9 => ?_)
          refine WR.pr (fun e9 => ?_)
          obtain ⟨-, e9⟩ := e9
          subst e9
          show WR K G _ _ _ _ _ _ _ (.int _ :: _)
          rw [tb_v (y := (9 + 1)) (q := 10) (by omega) ha hd ea ed (by decide) (by decide) T.1.2.2.2.1]
          refine R_bipush (pc := 306) C dL_isSo_306 (v := 48) (by decide) ?_
          refine R_iload (pc := 308) C dL_isSo_308 rfl ?_
          refine R_iadd (pc := 310) C dL_isSo_310 ?_
          refine R_icmp_ne (pc := 311) C dL_isSo_311 (tgt := 339) (by decide) (fun c311 => absurd c311 (fun q => q rfl)) (fun c311 => ?_)
          refine R_aload_n (pc := 314) C dL_isSo_314 rfl ?_
          refine R_iload (pc := 315) C dL_isSo_315 rfl ?_
          refine R_iload (pc := 317) C dL_isSo_317 rfl ?_
          refine R_iconst (pc := 319) C dL_isSo_319 (v := 1) (by decide) ?_
          refine R_isub (pc := 320) C dL_isSo_320 ?_
          have hs321 : kSign n F (nI k) (9 - 1) = 0 := ks_ok (q := 8) hn hk ha hd ea ed T.2.2 (by decide) (by decide) (by decide)
          refine R_callVT (pc := 321) C dL_isSo_321 (vs := [_, _]) (fun h hh => mX1_sign hl (show n ≤ 8 by omega) (asc_of hn hrg) h hh) (isOb_of (wc0) rfl) ⟨k_25_14, k_25_15, k_25_16, k_1_2, k_25_17⟩ (sgn (nv := 2) rfl ⟨by decide +kernel, by decide +kernel, by decide +kernel⟩) ⟨⟨Nat.le_of_ble_eq_true rfl, Nat.le_of_ble_eq_true rfl⟩, ⟨by show _ ≤ 85; omega, by show _ ≤ 510; omega⟩, Nat.le_of_ble_eq_true rfl⟩ rfl rfl (fun h9 hh9 E9 => X_pr (fun q9 => absurd (hs321.symm.trans q9.1) (by decide))) (fun h9 hh9 v9 => ?_)
          refine WR.pr (fun e9 => ?_)
          obtain ⟨-, e9⟩ := e9
          subst e9
          show WR K G _ _ _ _ _ _ _ (.int _ :: _)
          rw [tb_v (y := (9 - 1)) (q := 8) (by omega) ha hd ea ed (by decide) (by decide) T.1.2.2.2.2]
          refine R_bipush (pc := 324) C dL_isSo_324 (v := 48) (by decide) ?_
          refine R_iload (pc := 326) C dL_isSo_326 rfl ?_
          refine R_bipush (pc := 328) C dL_isSo_328 (v := 10) (by decide) ?_
          refine R_irem (pc := 330) C dL_isSo_330 (by decide) ?_
          refine R_iadd (pc := 331) C dL_isSo_331 ?_
          refine R_icmp_ne (pc := 332) C dL_isSo_332 (tgt := 339) (by decide) (fun c332 => absurd c332 (fun q => q rfl)) (fun c332 => ?_)
          refine R_iconst (pc := 335) C dL_isSo_335 (v := 1) (by decide) ?_
          refine R_goto (pc := 336) C dL_isSo_336 (tgt := 340) (by decide) ?_
          refine R_istore (pc := 340) C dL_isSo_340 (Nat.le_of_ble_eq_true rfl) (lv' := [some (.ref _), some (.int _), some (.ref _), some (.ref _), some (.ref _), some (.ref _), some (.ref _), some (.int _), some (.int _), some (.int _), some (.int _), some (.int _)]) rfl ?_
          refine R_iinc (pc := 342) C dL_isSo_342 rfl (inc1) (lv' := [some (.ref _), some (.int _), some (.ref _), some (.ref _), some (.ref _), some (.ref _), some (.ref _), some (.int _), some (.int _), some (.int _), some (.int _), some (.int _)]) rfl ?_
          refine R_goto (pc := 345) C dL_isSo_345 (tgt := 49) (by decide) ?_
          refine WR.ls (lv' := [some (.ref _), some (.int _), some (.ref _), some (.ref _), some (.ref _), some (.ref _), some (.ref _), some (.int _), some (.int _), none, none, none]) (ls_s (ls_s (ls_s (ls_s (ls_s (ls_s (ls_s (ls_s (ls_s (ls_n (ls_n (ls_n ls_e)))))))))))) ?_
          refine WR.wid (show _ ≤ 17 * (k + 1) by omega) (show _ ≤ 102 * (k + 1) by omega) ?_
          exact ih (k + 1) (by omega) (by omega)
        · have T := lwA a ha d (gt_nI (a := 10) (by omega) (by omega) c215) k (by omega)
          refine R_bipush (pc := 218) C dL_isSo_218 (v := 8) (by decide) ?_
          refine R_goto (pc := 220) C dL_isSo_220 (tgt := 225) (by decide) ?_
          refine R_istore (pc := 225) C dL_isSo_225 (Nat.le_of_ble_eq_true rfl) (lv' := [some (.ref _), some (.int _), some (.ref _), some (.ref _), some (.ref _), some (.ref _), some (.ref _), some (.int _), some (.int _), some (.int _), some (.int _), some (.int _)]) rfl ?_
          refine R_iload (pc := 227) C dL_isSo_227 rfl ?_
          refine R_if_eq (pc := 229) C dL_isSo_229 (tgt := 339) (by decide) (fun c229 => absurd c229 (by decide)) (fun c229 => ?_)
          refine R_aload_n (pc := 232) C dL_isSo_232 rfl ?_
          refine R_iload (pc := 233) C dL_isSo_233 rfl ?_
          refine R_iconst (pc := 235) C dL_isSo_235 (v := 5) (by decide) ?_
          have hs236 : kSign n F (nI k) 5 = 0 := ks_ok (q := 5) hn hk ha hd ea ed T.2.2 (by decide) (by decide) (by decide)
          refine R_callVT (pc := 236) C dL_isSo_236 (vs := [_, _]) (fun h hh => mX1_sign hl (show n ≤ 8 by omega) (asc_of hn hrg) h hh) (isOb_of (wc0) rfl) ⟨k_25_14, k_25_15, k_25_16, k_1_2, k_25_17⟩ (sgn (nv := 2) rfl ⟨by decide +kernel, by decide +kernel, by decide +kernel⟩) ⟨⟨Nat.le_of_ble_eq_true rfl, Nat.le_of_ble_eq_true rfl⟩, ⟨by show _ ≤ 85; omega, by show _ ≤ 510; omega⟩, Nat.le_of_ble_eq_true rfl⟩ rfl rfl (fun h9 hh9 E9 => X_pr (fun q9 => absurd (hs236.symm.trans q9.1) (by decide))) (fun h9 hh9 v9 => ?_)
          refine WR.pr (fun e9 => ?_)
          obtain ⟨-, e9⟩ := e9
          subst e9
          show WR K G _ _ _ _ _ _ _ (.int _ :: _)
          rw [tb_v (y := 5) (q := 5) (by omega) ha hd ea ed (by decide) (by decide) T.1.1]
          refine R_bipush (pc := 239) C dL_isSo_239 (v := 48) (by decide) ?_
          refine R_aload_n (pc := 241) C dL_isSo_241 rfl ?_
          refine R_bipush (pc := 242) C dL_isSo_242 (v := 9) (by decide) ?_
          refine R_iload (pc := 244) C dL_isSo_244 rfl ?_
          refine R_imul (pc := 246) C dL_isSo_246 ?_
          refine R_iald (pc := 247) C dL_isSo_247 (wmw) (i9z k) (by omega) (by decide) ((rdw (by omega)).trans ea) ?_
          refine R_iadd (pc := 248) C dL_isSo_248 ?_
          refine R_icmp_ne (pc := 249) C dL_isSo_249 (tgt := 339) (by decide) (fun c249 => absurd c249 (fun q => q rfl)) (fun c249 => ?_)
          refine R_aload_n (pc := 252) C dL_isSo_252 rfl ?_
          refine R_iload (pc := 253) C dL_isSo_253 rfl ?_
          refine R_bipush (pc := 255) C dL_isSo_255 (v := 7) (by decide) ?_
          have hs257 : kSign n F (nI k) 7 = 0 := ks_ok (q := 7) hn hk ha hd ea ed T.2.2 (by decide) (by decide) (by decide)
          refine R_callVT (pc := 257) C dL_isSo_257 (vs := [_, _]) (fun h hh => mX1_sign hl (show n ≤ 8 by omega) (asc_of hn hrg) h hh) (isOb_of (wc0) rfl) ⟨k_25_14, k_25_15, k_25_16, k_1_2, k_25_17⟩ (sgn (nv := 2) rfl ⟨by decide +kernel, by decide +kernel, by decide +kernel⟩) ⟨⟨Nat.le_of_ble_eq_true rfl, Nat.le_of_ble_eq_true rfl⟩, ⟨by show _ ≤ 85; omega, by show _ ≤ 510; omega⟩, Nat.le_of_ble_eq_true rfl⟩ rfl rfl (fun h9 hh9 E9 => X_pr (fun q9 => absurd (hs257.symm.trans q9.1) (by decide))) (fun h9 hh9 v9 => ?_)
          refine WR.pr (fun e9 => ?_)
          obtain ⟨-, e9⟩ := e9
          subst e9
          show WR K G _ _ _ _ _ _ _ (.int _ :: _)
          rw [tb_v (y := 7) (q := 7) (by omega) ha hd ea ed (by decide) (by decide) T.1.2.1]
          refine R_bipush (pc := 260) C dL_isSo_260 (v := 48) (by decide) ?_
          refine R_iload (pc := 262) C dL_isSo_262 rfl ?_
          refine R_bipush (pc := 264) C dL_isSo_264 (v := 10) (by decide) ?_
          refine R_icmp_ge (pc := 266) C dL_isSo_266 (tgt := 274) (by decide) (fun c266 => absurd c266 c215) (fun _ => ?_)
          refine R_iload (pc := 269) C dL_isSo_269 rfl ?_
          refine R_goto (pc := 271) C dL_isSo_271 (tgt := 279) (by decide) ?_
          refine R_iadd (pc := 279) C dL_isSo_279 ?_
          refine R_icmp_ne (pc := 280) C dL_isSo_280 (tgt := 339) (by decide) (fun c280 => absurd c280 (fun q => q rfl)) (fun c280 => ?_)
          refine R_aload_n (pc := 283) C dL_isSo_283 rfl ?_
          refine R_iload (pc := 284) C dL_isSo_284 rfl ?_
          refine R_iload (pc := 286) C dL_isSo_286 rfl ?_
          have hs288 : kSign n F (nI k) 8 = 0 := ks_ok (q := 8) hn hk ha hd ea ed T.2.2 (by decide) (by decide) (by decide)
          refine R_callVT (pc := 288) C dL_isSo_288 (vs := [_, _]) (fun h hh => mX1_sign hl (show n ≤ 8 by omega) (asc_of hn hrg) h hh) (isOb_of (wc0) rfl) ⟨k_25_14, k_25_15, k_25_16, k_1_2, k_25_17⟩ (sgn (nv := 2) rfl ⟨by decide +kernel, by decide +kernel, by decide +kernel⟩) ⟨⟨Nat.le_of_ble_eq_true rfl, Nat.le_of_ble_eq_true rfl⟩, ⟨by show _ ≤ 85; omega, by show _ ≤ 510; omega⟩, Nat.le_of_ble_eq_true rfl⟩ rfl rfl (fun h9 hh9 E9 => X_pr (fun q9 => absurd (hs288.symm.trans q9.1) (by decide))) (fun h9 hh9 v9 => ?_)
          refine WR.pr (fun e9 => ?_)
          obtain ⟨-, e9⟩ := e9
          subst e9
          show WR K G _ _ _ _ _ _ _ (.int _ :: _)
          rw [tb_v (y := 8) (q := 8) (by omega) ha hd ea ed (by decide) (by decide) T.1.2.2.1]
          refine R_bipush (pc := 291) C dL_isSo_291 (v := 58) (by decide) ?_
          refine R_icmp_ne (pc := 293) C dL_isSo_293 (tgt := 339) (by decide) (fun c293 => absurd c293 (fun q => q rfl)) (fun c293 => ?_)
          refine R_aload_n (pc := 296) C dL_isSo_296 rfl ?_
          refine R_iload (pc := 297) C dL_isSo_297 rfl ?_
          refine R_iload (pc := 299) C dL_isSo_299 rfl ?_
          refine R_iconst (pc := 301) C dL_isSo_301 (v := 1) (by decide) ?_
          refine R_iadd (pc := 302) C dL_isSo_302 ?_
          have hs303 : kSign n F (nI k) (8 + 1) = 0 := ks_ok (q := 9) hn hk ha hd ea ed T.2.2 (by decide) (by decide) (by decide)
          refine R_callVT (pc := 303) C dL_isSo_303 (vs := [_, _]) (fun h hh => mX1_sign hl (show n ≤ 8 by omega) (asc_of hn hrg) h hh) (isOb_of (wc0) rfl) ⟨k_25_14, k_25_15, k_25_16, k_1_2, k_25_17⟩ (sgn (nv := 2) rfl ⟨by decide +kernel, by decide +kernel, by decide +kernel⟩) ⟨⟨Nat.le_of_ble_eq_true rfl, Nat.le_of_ble_eq_true rfl⟩, ⟨by show _ ≤ 85; omega, by show _ ≤ 510; omega⟩, Nat.le_of_ble_eq_true rfl⟩ rfl rfl (fun h9 hh9 E9 => X_pr (fun q9 => absurd (hs303.symm.trans q9.1) (by decide))) (fun h9 hh9 v9 => ?_)
          refine WR.pr (fun e9 => ?_)
          obtain ⟨-, e9⟩ := e9
          subst e9
          show WR K G _ _ _ _ _ _ _ (.int _ :: _)
          rw [tb_v (y := (8 + 1)) (q := 9) (by omega) ha hd ea ed (by decide) (by decide) T.1.2.2.2.1]
          refine R_bipush (pc := 306) C dL_isSo_306 (v := 48) (by decide) ?_
          refine R_iload (pc := 308) C dL_isSo_308 rfl ?_
          refine R_iadd (pc := 310) C dL_isSo_310 ?_
          refine R_icmp_ne (pc := 311) C dL_isSo_311 (tgt := 339) (by decide) (fun c311 => absurd c311 (fun q => q rfl)) (fun c311 => ?_)
          refine R_aload_n (pc := 314) C dL_isSo_314 rfl ?_
          refine R_iload (pc := 315) C dL_isSo_315 rfl ?_
          refine R_iload (pc := 317) C dL_isSo_317 rfl ?_
          refine R_iconst (pc := 319) C dL_isSo_319 (v := 1) (by decide) ?_
          refine R_isub (pc := 320) C dL_isSo_320 ?_
          have hs321 : kSign n F (nI k) (8 - 1) = 0 := ks_ok (q := 7) hn hk ha hd ea ed T.2.2 (by decide) (by decide) (by decide)
          refine R_callVT (pc := 321) C dL_isSo_321 (vs := [_, _]) (fun h hh => mX1_sign hl (show n ≤ 8 by omega) (asc_of hn hrg) h hh) (isOb_of (wc0) rfl) ⟨k_25_14, k_25_15, k_25_16, k_1_2, k_25_17⟩ (sgn (nv := 2) rfl ⟨by decide +kernel, by decide +kernel, by decide +kernel⟩) ⟨⟨Nat.le_of_ble_eq_true rfl, Nat.le_of_ble_eq_true rfl⟩, ⟨by show _ ≤ 85; omega, by show _ ≤ 510; omega⟩, Nat.le_of_ble_eq_true rfl⟩ rfl rfl (fun h9 hh9 E9 => X_pr (fun q9 => absurd (hs321.symm.trans q9.1) (by decide))) (fun h9 hh9 v9 => ?_)
          refine WR.pr (fun e9 => ?_)
          obtain ⟨-, e9⟩ := e9
          subst e9
          show WR K G _ _ _ _ _ _ _ (.int _ :: _)
          rw [tb_v (y := (8 - 1)) (q := 7) (by omega) ha hd ea ed (by decide) (by decide) T.1.2.2.2.2]
          refine R_bipush (pc := 324) C dL_isSo_324 (v := 48) (by decide) ?_
          refine R_iload (pc := 326) C dL_isSo_326 rfl ?_
          refine R_bipush (pc := 328) C dL_isSo_328 (v := 10) (by decide) ?_
          refine R_irem (pc := 330) C dL_isSo_330 (by decide) ?_
          refine R_iadd (pc := 331) C dL_isSo_331 ?_
          refine R_icmp_ne (pc := 332) C dL_isSo_332 (tgt := 339) (by decide) (fun c332 => absurd c332 (fun q => q rfl)) (fun c332 => ?_)
          refine R_iconst (pc := 335) C dL_isSo_335 (v := 1) (by decide) ?_
          refine R_goto (pc := 336) C dL_isSo_336 (tgt := 340) (by decide) ?_
          refine R_istore (pc := 340) C dL_isSo_340 (Nat.le_of_ble_eq_true rfl) (lv' := [some (.ref _), some (.int _), some (.ref _), some (.ref _), some (.ref _), some (.ref _), some (.ref _), some (.int _), some (.int _), some (.int _), some (.int _), some (.int _)]) rfl ?_
          refine R_iinc (pc := 342) C dL_isSo_342 rfl (inc1) (lv' := [some (.ref _), some (.int _), some (.ref _), some (.ref _), some (.ref _), some (.ref _), some (.ref _), some (.int _), some (.int _), some (.int _), some (.int _), some (.int _)]) rfl ?_
          refine R_goto (pc := 345) C dL_isSo_345 (tgt := 49) (by decide) ?_
          refine WR.ls (lv' := [some (.ref _), some (.int _), some (.ref _), some (.ref _), some (.ref _), some (.ref _), some (.ref _), some (.int _), some (.int _), none, none, none]) (ls_s (ls_s (ls_s (ls_s (ls_s (ls_s (ls_s (ls_s (ls_s (ls_n (ls_n (ls_n ls_e)))))))))))) ?_
          refine WR.wid (show _ ≤ 17 * (k + 1) by omega) (show _ ≤ 102 * (k + 1) by omega) ?_
          exact ih (k + 1) (by omega) (by omega)
  exact LP49 (n + 1) 0 (by omega) (by omega)
end
