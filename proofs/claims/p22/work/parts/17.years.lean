/-! 17: the steps of a year in the class. Written by wip/p22/gen/m17.py -/
section
variable {l : Launch} {G : GT} {adr : Nat → Nat} {n P : Nat} {F mu : Nat → Nat → Int32} {g : Nat → Int64} {Sm : St}
set_option maxHeartbeats 4000000 in
set_option maxRecDepth 100000 in
theorem mX1_shrinkBanks (hl : l.stackTraces = false)  (hn : n ≤ 8) : ∀ h, Wd G (adr, (n, P, F), Sm, mu, g) h → CN l yX1_shrinkBanks cX1_shrinkBanks 4 (none) 4 0 0 [.ref (adr 0)] G h (fun v h1 => v = none ∧ Wd G (adr, (n, P, shr F n), Sm, mu, g) h1) := by
  intro h0 hwd
  refine CN.of hl (by decide +kernel) rfl (Nat.le_of_ble_eq_true rfl) (fun K sz hKl hin C => ?_)
  have C : CX K G (AH h0 sz) RX1 cX1_shrinkBanks 4 (none) (rmD 4 0 0) [] := C
  subst hKl
  refine WR.imp (P' := Wd G (adr, (n, P, F), Sm, mu, g)) (fun h e => e ▸ hwd) ?_
  show WR K G _ _ _ [some (.ref (adr 0)), none, none, none] 0 0 0 []
  refine R_iconst (pc := 0) C dX1_shrinkBanks_0 (v := 0) (by decide) ?_
  refine R_istore_n (pc := 1) C dX1_shrinkBanks_1 (Nat.le_of_ble_eq_true rfl) (lv' := [some (.ref _), some (.int _), none, none]) rfl ?_
  have LP2 : ∀ (m i : Nat), n < m + i → i ≤ n → WR K G (AH h0 sz) (QM K G h0 sz 0 0 (fun v h1 => v = none ∧ Wd G (adr, (n, P, shr F n), Sm, mu, g) h1)) (Wd G (adr, (n, P, shr F i), Sm, mu, g)) [some (.ref (adr 0)), some (.int (nI i)), none, none] 0 0 2 [] := by
    intro m
    induction m with
    | zero => intro i  h1 h2; exact absurd h1 (by omega)
    | succ m ih =>
      intro i  h1 h2 
      refine R_iload_n (pc := 2) C dX1_shrinkBanks_2 rfl ?_
      refine R_aload_n (pc := 3) C dX1_shrinkBanks_3 rfl ?_
      refine R_getf (pc := 4) C dX1_shrinkBanks_4 (i := 0) (wc0) rfl inlX1 (by decide) k_1_13 rfl ?_
      refine R_callVN (pc := 7) C dX1_shrinkBanks_7 (vs := []) (fun h hh => mJx4a65c_size_8abf5 hl h hh) (isOb_of (wc1) rfl) ⟨k_3_18, k_3_19, k_3_20, k_1_12, k_3_21⟩ (sgn (nv := 0) rfl ⟨by decide +kernel, by decide +kernel, by decide +kernel⟩) ⟨⟨Nat.le_of_ble_eq_true rfl, Nat.le_of_ble_eq_true rfl⟩, ⟨Nat.le_of_ble_eq_true rfl, Nat.le_of_ble_eq_true rfl⟩, Nat.le_of_ble_eq_true rfl⟩ rfl rfl (fun h9 hh9 v9 => ?_)
      refine WR.pr (fun e9 => ?_)
      subst e9
      show WR K G _ _ _ _ _ _ _ (.int _ :: _)
      refine R_icmp_ge (pc := 10) C dX1_shrinkBanks_10 (tgt := 52) (by decide) (fun c10 => ?_) (fun c10 => ?_)
      · have ei : n = i := Nat.le_antisymm (le_nI (by omega) (by omega) c10) h2
        subst ei
        exact R_vret (pc := 52) C dX1_shrinkBanks_52 rfl (Nat.le_of_ble_eq_true rfl) (Nat.le_of_ble_eq_true rfl) (fun h hh => ⟨rfl, hh⟩)
      · have hi : i < n := gt_nI (by omega) (by omega) c10
        refine R_aload_n (pc := 13) C dX1_shrinkBanks_13 rfl ?_
        refine R_getf (pc := 14) C dX1_shrinkBanks_14 (i := 0) (wc0) rfl inlX1 (by decide) k_1_13 rfl ?_
        refine R_iload_n (pc := 17) C dX1_shrinkBanks_17 rfl ?_
        refine R_callVN (pc := 18) C dX1_shrinkBanks_18 (vs := [_]) (fun h hh => mJx4a65c_get_915e3 hl hi hn h hh) (isOb_of (wc1) rfl) ⟨k_17_2, k_17_3, k_17_4, k_1_12, k_17_5⟩ (sgn (nv := 1) rfl ⟨by decide +kernel, by decide +kernel, by decide +kernel⟩) ⟨⟨Nat.le_of_ble_eq_true rfl, Nat.le_of_ble_eq_true rfl⟩, ⟨Nat.le_of_ble_eq_true rfl, Nat.le_of_ble_eq_true rfl⟩, Nat.le_of_ble_eq_true rfl⟩ rfl rfl (fun h9 hh9 v9 => ?_)
        refine WR.pr (fun e9 => ?_)
        subst e9
        show WR K G _ _ _ _ _ _ _ (.ref _ :: _)
        refine R_cast (pc := 21) C dX1_shrinkBanks_21 (wcw hi hn) rfl k_3_5 ?_
        refine R_astore_n (pc := 24) C dX1_shrinkBanks_24 (Nat.le_of_ble_eq_true rfl) (lv' := [some (.ref _), some (.int _), some (.ref _), none]) rfl ?_
        refine R_aload_n (pc := 25) C dX1_shrinkBanks_25 rfl ?_
        refine R_getf (pc := 26) C dX1_shrinkBanks_26 (i := 14) (wcw hi hn) rfl inlX0 (by decide) k_18_13 rfl ?_
        refine R_bipush (pc := 29) C dX1_shrinkBanks_29 (v := 9) (by decide) ?_
        refine R_iadd (pc := 31) C dX1_shrinkBanks_31 ?_
        refine R_bipush (pc := 32) C dX1_shrinkBanks_32 (v := 10) (by decide) ?_
        refine R_idiv (pc := 34) C dX1_shrinkBanks_34 (by decide) ?_
        refine R_istore_n (pc := 35) C dX1_shrinkBanks_35 (Nat.le_of_ble_eq_true rfl) (lv' := [some (.ref _), some (.int _), some (.ref _), some (.int _)]) rfl ?_
        refine R_aload_n (pc := 36) C dX1_shrinkBanks_36 rfl ?_
        refine R_dup (pc := 37) C dX1_shrinkBanks_37 rfl ?_
        refine R_getf (pc := 38) C dX1_shrinkBanks_38 (i := 14) (wcw hi hn) rfl inlX0 (by decide) k_18_13 rfl ?_
        refine R_iload_n (pc := 41) C dX1_shrinkBanks_41 rfl ?_
        refine R_isub (pc := 42) C dX1_shrinkBanks_42 ?_
        refine R_putf (pc := 43) C dX1_shrinkBanks_43 (i := 14) (wcw hi hn) rfl inlX0 tyX0_ok nmX0 (by decide) k_18_13 rfl rfl rfl (Nat.le_of_ble_eq_true rfl) (pw_9 hi hn) ?_
        refine R_iinc (pc := 46) C dX1_shrinkBanks_46 rfl (inc1) (lv' := [some (.ref _), some (.int _), some (.ref _), some (.int _)]) rfl ?_
        refine R_goto (pc := 49) C dX1_shrinkBanks_49 (tgt := 2) (by decide) ?_
        refine WR.ls (lv' := [some (.ref _), some (.int _), none, none]) (ls_s (ls_s (ls_n (ls_n ls_e)))) ?_
        exact ih (i + 1) (by omega) (by omega)
  exact LP2 (n + 1) 0 (by omega) (by omega)
set_option maxHeartbeats 4000000 in
set_option maxRecDepth 100000 in
theorem mX1_drawWater (hl : l.stackTraces = false) {D : Nat → Bool} (hn : n ≤ 8) (hP : P ≤ 5) (hlay : ∀ i, i < n → ∃ a, a < 3 ∧ F 0 i = nI a) : ∀ h, Wd G (adr, (n, P, F), Sm, mu, g) h → CN l yX1_drawWater cX1_drawWater 4 (none) 5 0 0 [.ref (adr 0), .int (mk D)] G h (fun v h1 => v = none ∧ Wd G (adr, (n, P, dra n P F D n), Sm, mu, g) h1) := by
  intro h0 hwd
  refine CN.of hl (by decide +kernel) rfl (Nat.le_of_ble_eq_true rfl) (fun K sz hKl hin C => ?_)
  have C : CX K G (AH h0 sz) RX1 cX1_drawWater 4 (none) (rmD 5 0 0) [] := C
  subst hKl
  refine WR.imp (P' := Wd G (adr, (n, P, F), Sm, mu, g)) (fun h e => e ▸ hwd) ?_
  show WR K G _ _ _ [some (.ref (adr 0)), some (.int (mk D)), none, none] 0 0 0 []
  refine R_iconst (pc := 0) C dX1_drawWater_0 (v := 0) (by decide) ?_
  refine R_istore_n (pc := 1) C dX1_drawWater_1 (Nat.le_of_ble_eq_true rfl) (lv' := [some (.ref _), some (.int _), some (.int _), none]) rfl ?_
  have LP2 : ∀ (m i : Nat), n < m + i → i ≤ n → WR K G (AH h0 sz) (QM K G h0 sz 0 0 (fun v h1 => v = none ∧ Wd G (adr, (n, P, dra n P F D n), Sm, mu, g) h1)) (Wd G (adr, (n, P, dra n P F D i), Sm, mu, g)) [some (.ref (adr 0)), some (.int (mk D)), some (.int (nI i)), none] 0 0 2 [] := by
    intro m
    induction m with
    | zero => intro i  h1 h2; exact absurd h1 (by omega)
    | succ m ih =>
      intro i  h1 h2 
      refine R_iload_n (pc := 2) C dX1_drawWater_2 rfl ?_
      refine R_aload_n (pc := 3) C dX1_drawWater_3 rfl ?_
      refine R_getf (pc := 4) C dX1_drawWater_4 (i := 0) (wc0) rfl inlX1 (by decide) k_1_13 rfl ?_
      refine R_callVN (pc := 7) C dX1_drawWater_7 (vs := []) (fun h hh => mJx4a65c_size_8abf5 hl h hh) (isOb_of (wc1) rfl) ⟨k_3_18, k_3_19, k_3_20, k_1_12, k_3_21⟩ (sgn (nv := 0) rfl ⟨by decide +kernel, by decide +kernel, by decide +kernel⟩) ⟨⟨Nat.le_of_ble_eq_true rfl, Nat.le_of_ble_eq_true rfl⟩, ⟨Nat.le_of_ble_eq_true rfl, Nat.le_of_ble_eq_true rfl⟩, Nat.le_of_ble_eq_true rfl⟩ rfl rfl (fun h9 hh9 v9 => ?_)
      refine WR.pr (fun e9 => ?_)
      subst e9
      show WR K G _ _ _ _ _ _ _ (.int _ :: _)
      refine R_icmp_ge (pc := 10) C dX1_drawWater_10 (tgt := 50) (by decide) (fun c10 => ?_) (fun c10 => ?_)
      · have ei : n = i := Nat.le_antisymm (le_nI (by omega) (by omega) c10) h2
        subst ei
        exact R_vret (pc := 50) C dX1_drawWater_50 rfl (Nat.le_of_ble_eq_true rfl) (Nat.le_of_ble_eq_true rfl) (fun h hh => ⟨rfl, hh⟩)
      · have hi : i < n := gt_nI (by omega) (by omega) c10
        refine R_aload_n (pc := 13) C dX1_drawWater_13 rfl ?_
        refine R_getf (pc := 14) C dX1_drawWater_14 (i := 0) (wc0) rfl inlX1 (by decide) k_1_13 rfl ?_
        refine R_iload_n (pc := 17) C dX1_drawWater_17 rfl ?_
        refine R_callVN (pc := 18) C dX1_drawWater_18 (vs := [_]) (fun h hh => mJx4a65c_get_915e3 hl hi hn h hh) (isOb_of (wc1) rfl) ⟨k_17_2, k_17_3, k_17_4, k_1_12, k_17_5⟩ (sgn (nv := 1) rfl ⟨by decide +kernel, by decide +kernel, by decide +kernel⟩) ⟨⟨Nat.le_of_ble_eq_true rfl, Nat.le_of_ble_eq_true rfl⟩, ⟨Nat.le_of_ble_eq_true rfl, Nat.le_of_ble_eq_true rfl⟩, Nat.le_of_ble_eq_true rfl⟩ rfl rfl (fun h9 hh9 v9 => ?_)
        refine WR.pr (fun e9 => ?_)
        subst e9
        show WR K G _ _ _ _ _ _ _ (.ref _ :: _)
        refine R_cast (pc := 21) C dX1_drawWater_21 (wcw hi hn) rfl k_3_5 ?_
        refine R_astore_n (pc := 24) C dX1_drawWater_24 (Nat.le_of_ble_eq_true rfl) (lv' := [some (.ref _), some (.int _), some (.int _), some (.ref _)]) rfl ?_
        refine R_aload_n (pc := 25) C dX1_drawWater_25 rfl ?_
        refine R_aload_n (pc := 26) C dX1_drawWater_26 rfl ?_
        refine R_aload_n (pc := 27) C dX1_drawWater_27 rfl ?_
        refine R_iload_n (pc := 28) C dX1_drawWater_28 rfl ?_
        refine R_callVN (pc := 29) C dX1_drawWater_29 (vs := [_, _]) (fun h hh => mX1_levelBehind hl hi hn hP (by obtain ⟨a, ha, e⟩ := hlay i hi; exact ⟨a, ha, by rw [dra_ne (by omega)]; exact e⟩) h hh) (isOb_of (wc0) rfl) ⟨k_19_15, k_19_16, k_19_17, k_1_2, k_19_18⟩ (sgn (nv := 2) rfl ⟨by decide +kernel, by decide +kernel, by decide +kernel⟩) ⟨⟨Nat.le_of_ble_eq_true rfl, Nat.le_of_ble_eq_true rfl⟩, ⟨Nat.le_of_ble_eq_true rfl, Nat.le_of_ble_eq_true rfl⟩, Nat.le_of_ble_eq_true rfl⟩ rfl rfl (fun h9 hh9 v9 => ?_)
        refine WR.pr (fun e9 => ?_)
        subst e9
        show WR K G _ _ _ _ _ _ _ (.int _ :: _)
        refine R_putf (pc := 32) C dX1_drawWater_32 (i := 8) (wcw hi hn) rfl inlX0 tyX0_ok nmX0 (by decide) k_19_19 rfl rfl rfl (Nat.le_of_ble_eq_true rfl) (pw_2 hi hn) ?_
        refine R_aload_n (pc := 35) C dX1_drawWater_35 rfl ?_
        refine R_aload_n (pc := 36) C dX1_drawWater_36 rfl ?_
        refine R_iload_n (pc := 37) C dX1_drawWater_37 rfl ?_
        refine R_callVN (pc := 38) C dX1_drawWater_38 (vs := [_]) (fun h hh => mX0_drawUnder hl hi hn h hh) (isOb_of (wcw hi hn) rfl) ⟨k_20_9, k_20_10, k_20_11, k_3_7, k_20_12⟩ (sgn (nv := 1) rfl ⟨by decide +kernel, by decide +kernel, by decide +kernel⟩) ⟨⟨Nat.le_of_ble_eq_true rfl, Nat.le_of_ble_eq_true rfl⟩, ⟨Nat.le_of_ble_eq_true rfl, Nat.le_of_ble_eq_true rfl⟩, Nat.le_of_ble_eq_true rfl⟩ rfl rfl (fun h9 hh9 v9 => ?_)
        refine WR.pr (fun e9 => ?_)
        subst e9
        show WR K G _ _ _ _ _ _ _ (.int _ :: _)
        refine R_putf (pc := 41) C dX1_drawWater_41 (i := 10) (wcw hi hn) rfl inlX0 tyX0_ok nmX0 (by decide) k_21_11 rfl rfl rfl (Nat.le_of_ble_eq_true rfl) (pe_11 (v0 := drw (dra n P F D i) D i) (by rw [drw_m (by omega)]; unfold drw; rw [su_f (by omega)]) hi hn) ?_
        refine R_iinc (pc := 44) C dX1_drawWater_44 rfl (inc1) (lv' := [some (.ref _), some (.int _), some (.int _), some (.ref _)]) rfl ?_
        refine R_goto (pc := 47) C dX1_drawWater_47 (tgt := 2) (by decide) ?_
        refine WR.ls (lv' := [some (.ref _), some (.int _), some (.int _), none]) (ls_s (ls_s (ls_s (ls_n ls_e)))) ?_
        exact ih (i + 1) (by omega) (by omega)
  exact LP2 (n + 1) 0 (by omega) (by omega)
set_option maxHeartbeats 4000000 in
set_option maxRecDepth 100000 in
theorem mX1_meanOfWorkingMeters (hl : l.stackTraces = false) {la : Int32} (hn : n ≤ 8) : ∀ h, Wd G (adr, (n, P, F), Sm, mu, g) h → CN l yX1_meanOfWorkingMeters cX1_meanOfWorkingMeters 6 (some .int) 4 0 0 [.ref (adr 0), .int la] G h (fun v h1 => v = some (.int (mean n F la)) ∧ Wd G (adr, (n, P, F), Sm, mu, g) h1) := by
  intro h0 hwd
  refine CN.of hl (by decide +kernel) rfl (Nat.le_of_ble_eq_true rfl) (fun K sz hKl hin C => ?_)
  have C : CX K G (AH h0 sz) RX1 cX1_meanOfWorkingMeters 6 (some .int) (rmD 4 0 0) [] := C
  subst hKl
  refine WR.imp (P' := Wd G (adr, (n, P, F), Sm, mu, g)) (fun h e => e ▸ hwd) ?_
  show WR K G _ _ _ [some (.ref (adr 0)), some (.int la), none, none, none, none] 0 0 0 []
  refine R_iconst (pc := 0) C dX1_meanOfWorkingMeters_0 (v := 0) (by decide) ?_
  refine R_istore_n (pc := 1) C dX1_meanOfWorkingMeters_1 (Nat.le_of_ble_eq_true rfl) (lv' := [some (.ref _), some (.int _), some (.int _), none, none, none]) rfl ?_
  refine R_iconst (pc := 2) C dX1_meanOfWorkingMeters_2 (v := 0) (by decide) ?_
  refine R_istore_n (pc := 3) C dX1_meanOfWorkingMeters_3 (Nat.le_of_ble_eq_true rfl) (lv' := [some (.ref _), some (.int _), some (.int _), some (.int _), none, none]) rfl ?_
  refine R_iconst (pc := 4) C dX1_meanOfWorkingMeters_4 (v := 0) (by decide) ?_
  refine R_istore (pc := 5) C dX1_meanOfWorkingMeters_5 (Nat.le_of_ble_eq_true rfl) (lv' := [some (.ref _), some (.int _), some (.int _), some (.int _), some (.int _), none]) rfl ?_
  have LP7 : ∀ (m i : Nat) (s c : Int32), n < m + i → i ≤ n → s = msum F la i → c = mcnt F la i → WR K G (AH h0 sz) (QM K G h0 sz 0 0 (fun v h1 => v = some (.int (mean n F la)) ∧ Wd G (adr, (n, P, F), Sm, mu, g) h1)) (Wd G (adr, (n, P, F), Sm, mu, g)) [some (.ref (adr 0)), some (.int la), some (.int s), some (.int c), some (.int (nI i)), none] 0 0 7 [] := by
    intro m
    induction m with
    | zero => intro i s c h1 h2; exact absurd h1 (by omega)
    | succ m ih =>
      intro i s c h1 h2 hs hc
      refine R_iload (pc := 7) C dX1_meanOfWorkingMeters_7 rfl ?_
      refine R_aload_n (pc := 9) C dX1_meanOfWorkingMeters_9 rfl ?_
      refine R_getf (pc := 10) C dX1_meanOfWorkingMeters_10 (i := 0) (wc0) rfl inlX1 (by decide) k_1_13 rfl ?_
      refine R_callVN (pc := 13) C dX1_meanOfWorkingMeters_13 (vs := []) (fun h hh => mJx4a65c_size_8abf5 hl h hh) (isOb_of (wc1) rfl) ⟨k_3_18, k_3_19, k_3_20, k_1_12, k_3_21⟩ (sgn (nv := 0) rfl ⟨by decide +kernel, by decide +kernel, by decide +kernel⟩) ⟨⟨Nat.le_of_ble_eq_true rfl, Nat.le_of_ble_eq_true rfl⟩, ⟨Nat.le_of_ble_eq_true rfl, Nat.le_of_ble_eq_true rfl⟩, Nat.le_of_ble_eq_true rfl⟩ rfl rfl (fun h9 hh9 v9 => ?_)
      refine WR.pr (fun e9 => ?_)
      subst e9
      show WR K G _ _ _ _ _ _ _ (.int _ :: _)
      refine R_icmp_ge (pc := 16) C dX1_meanOfWorkingMeters_16 (tgt := 67) (by decide) (fun c16 => ?_) (fun c16 => ?_)
      · have ei : n = i := Nat.le_antisymm (le_nI (by omega) (by omega) c16) h2
        subst ei
        refine R_iload_n (pc := 67) C dX1_meanOfWorkingMeters_67 rfl ?_
        refine R_if_le (pc := 68) C dX1_meanOfWorkingMeters_68 (tgt := 77) (by decide) (fun c68 => ?_) (fun c68 => ?_)
        · refine R_iconst (pc := 77) C dX1_meanOfWorkingMeters_77 (v := 0) (by decide) ?_
          exact R_iret (pc := 78) C dX1_meanOfWorkingMeters_78 rfl (Nat.le_of_ble_eq_true rfl) (Nat.le_of_ble_eq_true rfl) (fun h hh => ⟨by unfold mean; rw [← hc, if_neg (Int32.not_lt.mpr c68)], hh⟩)
        · refine R_iload_n (pc := 71) C dX1_meanOfWorkingMeters_71 rfl ?_
          refine R_iload_n (pc := 72) C dX1_meanOfWorkingMeters_72 rfl ?_
          refine R_idiv (pc := 73) C dX1_meanOfWorkingMeters_73 (fun q => absurd (q ▸ c68 : ¬ (0 : Int32) ≤ 0) (by decide)) ?_
          refine R_goto (pc := 74) C dX1_meanOfWorkingMeters_74 (tgt := 78) (by decide) ?_
          exact R_iret (pc := 78) C dX1_meanOfWorkingMeters_78 rfl (Nat.le_of_ble_eq_true rfl) (Nat.le_of_ble_eq_true rfl) (fun h hh => ⟨by unfold mean; rw [← hc, ← hs, if_pos (Int32.not_le.mp c68)], hh⟩)
      · have hi : i < n := gt_nI (by omega) (by omega) c16
        refine R_aload_n (pc := 19) C dX1_meanOfWorkingMeters_19 rfl ?_
        refine R_getf (pc := 20) C dX1_meanOfWorkingMeters_20 (i := 0) (wc0) rfl inlX1 (by decide) k_1_13 rfl ?_
        refine R_iload (pc := 23) C dX1_meanOfWorkingMeters_23 rfl ?_
        refine R_callVN (pc := 25) C dX1_meanOfWorkingMeters_25 (vs := [_]) (fun h hh => mJx4a65c_get_915e3 hl hi hn h hh) (isOb_of (wc1) rfl) ⟨k_17_2, k_17_3, k_17_4, k_1_12, k_17_5⟩ (sgn (nv := 1) rfl ⟨by decide +kernel, by decide +kernel, by decide +kernel⟩) ⟨⟨Nat.le_of_ble_eq_true rfl, Nat.le_of_ble_eq_true rfl⟩, ⟨Nat.le_of_ble_eq_true rfl, Nat.le_of_ble_eq_true rfl⟩, Nat.le_of_ble_eq_true rfl⟩ rfl rfl (fun h9 hh9 v9 => ?_)
        refine WR.pr (fun e9 => ?_)
        subst e9
        show WR K G _ _ _ _ _ _ _ (.ref _ :: _)
        refine R_cast (pc := 28) C dX1_meanOfWorkingMeters_28 (wcw hi hn) rfl k_3_5 ?_
        refine R_astore (pc := 31) C dX1_meanOfWorkingMeters_31 (Nat.le_of_ble_eq_true rfl) (lv' := [some (.ref _), some (.int _), some (.int _), some (.int _), some (.int _), some (.ref _)]) rfl ?_
        refine R_aload (pc := 33) C dX1_meanOfWorkingMeters_33 rfl ?_
        refine R_getf (pc := 35) C dX1_meanOfWorkingMeters_35 (i := 1) (wcw hi hn) rfl inlX0 (by decide) k_19_20 rfl ?_
        refine R_iload_n (pc := 38) C dX1_meanOfWorkingMeters_38 rfl ?_
        refine R_icmp_ne (pc := 39) C dX1_meanOfWorkingMeters_39 (tgt := 61) (by decide) (fun c39 => ?_) (fun c39 => ?_)
        · refine R_iinc (pc := 61) C dX1_meanOfWorkingMeters_61 rfl (inc1) (lv' := [some (.ref _), some (.int _), some (.int _), some (.int _), some (.int _), some (.ref _)]) rfl ?_
          refine R_goto (pc := 64) C dX1_meanOfWorkingMeters_64 (tgt := 7) (by decide) ?_
          refine WR.ls (lv' := [some (.ref _), some (.int _), some (.int _), some (.int _), some (.int _), none]) (ls_s (ls_s (ls_s (ls_s (ls_s (ls_n ls_e)))))) ?_
          exact ih (i + 1) _ _ (by omega) (by omega) (by rw [msum, if_neg (fun q => c39 q.1), hs]) (by rw [mcnt, if_neg (fun q => c39 q.1), hc])
        · refine R_aload (pc := 42) C dX1_meanOfWorkingMeters_42 rfl ?_
          refine R_getf (pc := 44) C dX1_meanOfWorkingMeters_44 (i := 12) (wcw hi hn) rfl inlX0 (by decide) k_17_23 rfl ?_
          refine R_if_eq (pc := 47) C dX1_meanOfWorkingMeters_47 (tgt := 61) (by decide) (fun c47 => ?_) (fun c47 => ?_)
          · refine R_iinc (pc := 61) C dX1_meanOfWorkingMeters_61 rfl (inc1) (lv' := [some (.ref _), some (.int _), some (.int _), some (.int _), some (.int _), some (.ref _)]) rfl ?_
            refine R_goto (pc := 64) C dX1_meanOfWorkingMeters_64 (tgt := 7) (by decide) ?_
            refine WR.ls (lv' := [some (.ref _), some (.int _), some (.int _), some (.int _), some (.int _), none]) (ls_s (ls_s (ls_s (ls_s (ls_s (ls_n ls_e)))))) ?_
            exact ih (i + 1) _ _ (by omega) (by omega) (by rw [msum, if_neg (fun q => q.2 c47), hs]) (by rw [mcnt, if_neg (fun q => q.2 c47), hc])
          · refine R_iload_n (pc := 50) C dX1_meanOfWorkingMeters_50 rfl ?_
            refine R_aload (pc := 51) C dX1_meanOfWorkingMeters_51 rfl ?_
            refine R_getf (pc := 53) C dX1_meanOfWorkingMeters_53 (i := 10) (wcw hi hn) rfl inlX0 (by decide) k_21_11 rfl ?_
            refine R_iadd (pc := 56) C dX1_meanOfWorkingMeters_56 ?_
            refine R_istore_n (pc := 57) C dX1_meanOfWorkingMeters_57 (Nat.le_of_ble_eq_true rfl) (lv' := [some (.ref _), some (.int _), some (.int _), some (.int _), some (.int _), some (.ref _)]) rfl ?_
            refine R_iinc (pc := 58) C dX1_meanOfWorkingMeters_58 rfl (rfl) (lv' := [some (.ref _), some (.int _), some (.int _), some (.int _), some (.int _), some (.ref _)]) rfl ?_
            refine R_iinc (pc := 61) C dX1_meanOfWorkingMeters_61 rfl (inc1) (lv' := [some (.ref _), some (.int _), some (.int _), some (.int _), some (.int _), some (.ref _)]) rfl ?_
            refine R_goto (pc := 64) C dX1_meanOfWorkingMeters_64 (tgt := 7) (by decide) ?_
            refine WR.ls (lv' := [some (.ref _), some (.int _), some (.int _), some (.int _), some (.int _), none]) (ls_s (ls_s (ls_s (ls_s (ls_s (ls_n ls_e)))))) ?_
            exact ih (i + 1) _ _ (by omega) (by omega) (by rw [msum, if_pos ⟨c39, c47⟩, hs]) (by rw [mcnt, if_pos ⟨c39, c47⟩, hc]; rfl)
  exact LP7 (n + 1) 0 _ _ (by omega) (by omega) rfl rfl
set_option maxHeartbeats 4000000 in
set_option maxRecDepth 100000 in
theorem mX1_tellWater (hl : l.stackTraces = false)  (hn : n ≤ 8) : ∀ h, Wd G (adr, (n, P, F), Sm, mu, g) h → CN l yX1_tellWater cX1_tellWater 3 (none) 5 0 0 [.ref (adr 0)] G h (fun v h1 => v = none ∧ Wd G (adr, (n, P, tel n F n), Sm, mu, g) h1) := by
  intro h0 hwd
  refine CN.of hl (by decide +kernel) rfl (Nat.le_of_ble_eq_true rfl) (fun K sz hKl hin C => ?_)
  have C : CX K G (AH h0 sz) RX1 cX1_tellWater 3 (none) (rmD 5 0 0) [] := C
  subst hKl
  refine WR.imp (P' := Wd G (adr, (n, P, F), Sm, mu, g)) (fun h e => e ▸ hwd) ?_
  show WR K G _ _ _ [some (.ref (adr 0)), none, none] 0 0 0 []
  refine R_iconst (pc := 0) C dX1_tellWater_0 (v := 0) (by decide) ?_
  refine R_istore_n (pc := 1) C dX1_tellWater_1 (Nat.le_of_ble_eq_true rfl) (lv' := [some (.ref _), some (.int _), none]) rfl ?_
  have LP2 : ∀ (m i : Nat), n < m + i → i ≤ n → WR K G (AH h0 sz) (QM K G h0 sz 0 0 (fun v h1 => v = none ∧ Wd G (adr, (n, P, tel n F n), Sm, mu, g) h1)) (Wd G (adr, (n, P, tel n F i), Sm, mu, g)) [some (.ref (adr 0)), some (.int (nI i)), none] 0 0 2 [] := by
    intro m
    induction m with
    | zero => intro i  h1 h2; exact absurd h1 (by omega)
    | succ m ih =>
      intro i  h1 h2 
      refine R_iload_n (pc := 2) C dX1_tellWater_2 rfl ?_
      refine R_aload_n (pc := 3) C dX1_tellWater_3 rfl ?_
      refine R_getf (pc := 4) C dX1_tellWater_4 (i := 0) (wc0) rfl inlX1 (by decide) k_1_13 rfl ?_
      refine R_callVN (pc := 7) C dX1_tellWater_7 (vs := []) (fun h hh => mJx4a65c_size_8abf5 hl h hh) (isOb_of (wc1) rfl) ⟨k_3_18, k_3_19, k_3_20, k_1_12, k_3_21⟩ (sgn (nv := 0) rfl ⟨by decide +kernel, by decide +kernel, by decide +kernel⟩) ⟨⟨Nat.le_of_ble_eq_true rfl, Nat.le_of_ble_eq_true rfl⟩, ⟨Nat.le_of_ble_eq_true rfl, Nat.le_of_ble_eq_true rfl⟩, Nat.le_of_ble_eq_true rfl⟩ rfl rfl (fun h9 hh9 v9 => ?_)
      refine WR.pr (fun e9 => ?_)
      subst e9
      show WR K G _ _ _ _ _ _ _ (.int _ :: _)
      refine R_icmp_ge (pc := 10) C dX1_tellWater_10 (tgt := 81) (by decide) (fun c10 => ?_) (fun c10 => ?_)
      · have ei : n = i := Nat.le_antisymm (le_nI (by omega) (by omega) c10) h2
        subst ei
        exact R_vret (pc := 81) C dX1_tellWater_81 rfl (Nat.le_of_ble_eq_true rfl) (Nat.le_of_ble_eq_true rfl) (fun h hh => ⟨rfl, hh⟩)
      · have hi : i < n := gt_nI (by omega) (by omega) c10
        refine R_aload_n (pc := 13) C dX1_tellWater_13 rfl ?_
        refine R_getf (pc := 14) C dX1_tellWater_14 (i := 0) (wc0) rfl inlX1 (by decide) k_1_13 rfl ?_
        refine R_iload_n (pc := 17) C dX1_tellWater_17 rfl ?_
        refine R_callVN (pc := 18) C dX1_tellWater_18 (vs := [_]) (fun h hh => mJx4a65c_get_915e3 hl hi hn h hh) (isOb_of (wc1) rfl) ⟨k_17_2, k_17_3, k_17_4, k_1_12, k_17_5⟩ (sgn (nv := 1) rfl ⟨by decide +kernel, by decide +kernel, by decide +kernel⟩) ⟨⟨Nat.le_of_ble_eq_true rfl, Nat.le_of_ble_eq_true rfl⟩, ⟨Nat.le_of_ble_eq_true rfl, Nat.le_of_ble_eq_true rfl⟩, Nat.le_of_ble_eq_true rfl⟩ rfl rfl (fun h9 hh9 v9 => ?_)
        refine WR.pr (fun e9 => ?_)
        subst e9
        show WR K G _ _ _ _ _ _ _ (.ref _ :: _)
        refine R_cast (pc := 21) C dX1_tellWater_21 (wcw hi hn) rfl k_3_5 ?_
        refine R_astore_n (pc := 24) C dX1_tellWater_24 (Nat.le_of_ble_eq_true rfl) (lv' := [some (.ref _), some (.int _), some (.ref _)]) rfl ?_
        refine R_aload_n (pc := 25) C dX1_tellWater_25 rfl ?_
        refine R_getf (pc := 26) C dX1_tellWater_26 (i := 12) (wcw hi hn) rfl inlX0 (by decide) k_17_23 rfl ?_
        refine R_if_eq (pc := 29) C dX1_tellWater_29 (tgt := 43) (by decide) (fun c29 => ?_) (fun c29 => ?_)
        · refine R_aload_n (pc := 43) C dX1_tellWater_43 rfl ?_
          refine R_getf (pc := 44) C dX1_tellWater_44 (i := 13) (wcw hi hn) rfl inlX0 (by decide) k_18_4 rfl ?_
          refine R_if_le (pc := 47) C dX1_tellWater_47 (tgt := 63) (by decide) (fun c47 => ?_) (fun c47 => ?_)
          · refine R_aload_n (pc := 63) C dX1_tellWater_63 rfl ?_
            refine R_aload_n (pc := 64) C dX1_tellWater_64 rfl ?_
            refine R_aload_n (pc := 65) C dX1_tellWater_65 rfl ?_
            refine R_getf (pc := 66) C dX1_tellWater_66 (i := 1) (wcw hi hn) rfl inlX0 (by decide) k_19_20 rfl ?_
            refine R_callVN (pc := 69) C dX1_tellWater_69 (vs := [_]) (fun h hh => mX1_meanOfWorkingMeters hl hn h hh) (isOb_of (wc0) rfl) ⟨k_21_17, k_21_18, k_21_19, k_1_2, k_21_20⟩ (sgn (nv := 1) rfl ⟨by decide +kernel, by decide +kernel, by decide +kernel⟩) ⟨⟨Nat.le_of_ble_eq_true rfl, Nat.le_of_ble_eq_true rfl⟩, ⟨Nat.le_of_ble_eq_true rfl, Nat.le_of_ble_eq_true rfl⟩, Nat.le_of_ble_eq_true rfl⟩ rfl rfl (fun h9 hh9 v9 => ?_)
            refine WR.pr (fun e9 => ?_)
            subst e9
            show WR K G _ _ _ _ _ _ _ (.int _ :: _)
            refine R_putf (pc := 72) C dX1_tellWater_72 (i := 11) (wcw hi hn) rfl inlX0 tyX0_ok nmX0 (by decide) k_21_16 rfl rfl rfl (Nat.le_of_ble_eq_true rfl) (pe_12 (v0 := tellV n (tel n F i) i) (by unfold tellV; rw [if_pos c29, if_neg (Int32.not_lt.mpr c47)]) hi hn) ?_
            refine R_iinc (pc := 75) C dX1_tellWater_75 rfl (inc1) (lv' := [some (.ref _), some (.int _), some (.ref _)]) rfl ?_
            refine R_goto (pc := 78) C dX1_tellWater_78 (tgt := 2) (by decide) ?_
            refine WR.ls (lv' := [some (.ref _), some (.int _), none]) (ls_s (ls_s (ls_n ls_e))) ?_
            exact ih (i + 1) (by omega) (by omega)
          · refine R_aload_n (pc := 50) C dX1_tellWater_50 rfl ?_
            refine R_iconst (pc := 51) C dX1_tellWater_51 (v := 3) (by decide) ?_
            refine R_aload_n (pc := 52) C dX1_tellWater_52 rfl ?_
            refine R_getf (pc := 53) C dX1_tellWater_53 (i := 13) (wcw hi hn) rfl inlX0 (by decide) k_18_4 rfl ?_
            refine R_imul (pc := 56) C dX1_tellWater_56 ?_
            refine R_putf (pc := 57) C dX1_tellWater_57 (i := 11) (wcw hi hn) rfl inlX0 tyX0_ok nmX0 (by decide) k_21_16 rfl rfl rfl (Nat.le_of_ble_eq_true rfl) (pe_12 (v0 := tellV n (tel n F i) i) (by unfold tellV; rw [if_pos c29, if_pos (Int32.not_le.mp c47)]) hi hn) ?_
            refine R_goto (pc := 60) C dX1_tellWater_60 (tgt := 75) (by decide) ?_
            refine R_iinc (pc := 75) C dX1_tellWater_75 rfl (inc1) (lv' := [some (.ref _), some (.int _), some (.ref _)]) rfl ?_
            refine R_goto (pc := 78) C dX1_tellWater_78 (tgt := 2) (by decide) ?_
            refine WR.ls (lv' := [some (.ref _), some (.int _), none]) (ls_s (ls_s (ls_n ls_e))) ?_
            exact ih (i + 1) (by omega) (by omega)
        · refine R_aload_n (pc := 32) C dX1_tellWater_32 rfl ?_
          refine R_aload_n (pc := 33) C dX1_tellWater_33 rfl ?_
          refine R_getf (pc := 34) C dX1_tellWater_34 (i := 10) (wcw hi hn) rfl inlX0 (by decide) k_21_11 rfl ?_
          refine R_putf (pc := 37) C dX1_tellWater_37 (i := 11) (wcw hi hn) rfl inlX0 tyX0_ok nmX0 (by decide) k_21_16 rfl rfl rfl (Nat.le_of_ble_eq_true rfl) (pe_12 (v0 := tellV n (tel n F i) i) (by unfold tellV; rw [if_neg c29]) hi hn) ?_
          refine R_goto (pc := 40) C dX1_tellWater_40 (tgt := 75) (by decide) ?_
          refine R_iinc (pc := 75) C dX1_tellWater_75 rfl (inc1) (lv' := [some (.ref _), some (.int _), some (.ref _)]) rfl ?_
          refine R_goto (pc := 78) C dX1_tellWater_78 (tgt := 2) (by decide) ?_
          refine WR.ls (lv' := [some (.ref _), some (.int _), none]) (ls_s (ls_s (ls_n ls_e))) ?_
          exact ih (i + 1) (by omega) (by omega)
  exact LP2 (n + 1) 0 (by omega) (by omega)
set_option maxHeartbeats 4000000 in
set_option maxRecDepth 100000 in
theorem mX1_chargeAbove (hl : l.stackTraces = false) {i : Nat} {a : Int32} (hi : i < n) (hn : n ≤ 8) : ∀ h, Wd G (adr, (n, P, F), Sm, mu, g) h → CN l yX1_chargeAbove cX1_chargeAbove 5 (none) 1 0 0 [.ref (adr 0), .ref (adr (30 + i)), .int a] G h (fun v h1 => v = none ∧ Wd G (adr, (n, P, chg F i a), Sm, mu, g) h1) := by
  intro h0 hwd
  refine CN.of hl (by decide +kernel) rfl (Nat.le_of_ble_eq_true rfl) (fun K sz hKl hin C => ?_)
  have C : CX K G (AH h0 sz) RX1 cX1_chargeAbove 5 (none) (rmD 1 0 0) [] := C
  subst hKl
  refine WR.imp (P' := Wd G (adr, (n, P, F), Sm, mu, g)) (fun h e => e ▸ hwd) ?_
  show WR K G _ _ _ [some (.ref (adr 0)), some (.ref (adr (30 + i))), some (.int a), none, none] 0 0 0 []
  refine R_iload_n (pc := 0) C dX1_chargeAbove_0 rfl ?_
  refine R_aload_n (pc := 1) C dX1_chargeAbove_1 rfl ?_
  refine R_getf (pc := 2) C dX1_chargeAbove_2 (i := 14) (wcw hi hn) rfl inlX0 (by decide) k_18_13 rfl ?_
  refine R_mmin (pc := 5) C dX1_chargeAbove_5 k_18_14 rfl ⟨Nat.le_of_ble_eq_true rfl, Nat.le_of_ble_eq_true rfl⟩ ⟨Nat.le_of_ble_eq_true rfl, Nat.le_of_ble_eq_true rfl⟩ ?_
  show WR K G _ _ _ _ _ _ _ (.int (minI a (F 9 i)) :: _)
  refine R_istore_n (pc := 8) C dX1_chargeAbove_8 (Nat.le_of_ble_eq_true rfl) (lv' := [some (.ref _), some (.ref _), some (.int _), some (.int _), none]) rfl ?_
  refine R_iconst (pc := 9) C dX1_chargeAbove_9 (v := 2) (by decide) ?_
  refine R_iload_n (pc := 10) C dX1_chargeAbove_10 rfl ?_
  refine R_iload_n (pc := 11) C dX1_chargeAbove_11 rfl ?_
  refine R_isub (pc := 12) C dX1_chargeAbove_12 ?_
  refine R_imul (pc := 13) C dX1_chargeAbove_13 ?_
  refine R_istore (pc := 14) C dX1_chargeAbove_14 (Nat.le_of_ble_eq_true rfl) (lv' := [some (.ref _), some (.ref _), some (.int _), some (.int _), some (.int _)]) rfl ?_
  refine R_aload_n (pc := 16) C dX1_chargeAbove_16 rfl ?_
  refine R_dup (pc := 17) C dX1_chargeAbove_17 rfl ?_
  refine R_getf (pc := 18) C dX1_chargeAbove_18 (i := 14) (wcw hi hn) rfl inlX0 (by decide) k_18_13 rfl ?_
  refine R_iload_n (pc := 21) C dX1_chargeAbove_21 rfl ?_
  refine R_isub (pc := 22) C dX1_chargeAbove_22 ?_
  refine R_putf (pc := 23) C dX1_chargeAbove_23 (i := 14) (wcw hi hn) rfl inlX0 tyX0_ok nmX0 (by decide) k_18_13 rfl rfl rfl (Nat.le_of_ble_eq_true rfl) (pw_9 hi hn) ?_
  refine R_aload_n (pc := 26) C dX1_chargeAbove_26 rfl ?_
  refine R_dup (pc := 27) C dX1_chargeAbove_27 rfl ?_
  refine R_getf (pc := 28) C dX1_chargeAbove_28 (i := 15) (wcw hi hn) rfl inlX0 (by decide) k_22_6 rfl ?_
  refine R_iload (pc := 31) C dX1_chargeAbove_31 rfl ?_
  refine R_iadd (pc := 33) C dX1_chargeAbove_33 ?_
  refine R_putf (pc := 34) C dX1_chargeAbove_34 (i := 15) (wcw hi hn) rfl inlX0 tyX0_ok nmX0 (by decide) k_22_6 rfl rfl rfl (Nat.le_of_ble_eq_true rfl) (pe_10 (v0 := F 10 i + 2 * (a - minI a (F 9 i))) (by rw [su_f (by omega)]) hi hn) ?_
  refine R_aload_n (pc := 37) C dX1_chargeAbove_37 rfl ?_
  refine R_dup (pc := 38) C dX1_chargeAbove_38 rfl ?_
  refine R_getf (pc := 39) C dX1_chargeAbove_39 (i := 4) (wc0) rfl inlX1 (by decide) k_1_17 rfl ?_
  refine R_iload (pc := 42) C dX1_chargeAbove_42 rfl ?_
  refine R_iadd (pc := 44) C dX1_chargeAbove_44 ?_
  refine R_putf (pc := 45) C dX1_chargeAbove_45 (i := 4) (wc0) rfl inlX1 tyX1_ok nmX1 (by decide) k_1_17 rfl rfl rfl (Nat.le_of_ble_eq_true rfl) (fun h hh => (by have z := pc_fund (v := F 16 0 + 2 * (a - minI a (F 9 i))) h hh; exact z)) ?_
  exact R_vret (pc := 48) C dX1_chargeAbove_48 rfl (Nat.le_of_ble_eq_true rfl) (Nat.le_of_ble_eq_true rfl) (fun h hh => ⟨rfl, hh⟩)
set_option maxHeartbeats 4000000 in
set_option maxRecDepth 100000 in
theorem mX1_settleRights (hl : l.stackTraces = false) {D : Nat → Bool} (hn : n ≤ 8) : ∀ h, Wd G (adr, (n, P, F), Sm, mu, g) h → CN l yX1_settleRights cX1_settleRights 4 (none) 4 0 0 [.ref (adr 0), .int (mk D)] G h (fun v h1 => v = none ∧ Wd G (adr, (n, P, setl D F n), Sm, mu, g) h1) := by
  intro h0 hwd
  refine CN.of hl (by decide +kernel) rfl (Nat.le_of_ble_eq_true rfl) (fun K sz hKl hin C => ?_)
  have C : CX K G (AH h0 sz) RX1 cX1_settleRights 4 (none) (rmD 4 0 0) [] := C
  subst hKl
  refine WR.imp (P' := Wd G (adr, (n, P, F), Sm, mu, g)) (fun h e => e ▸ hwd) ?_
  show WR K G _ _ _ [some (.ref (adr 0)), some (.int (mk D)), none, none] 0 0 0 []
  refine R_iconst (pc := 0) C dX1_settleRights_0 (v := 0) (by decide) ?_
  refine R_istore_n (pc := 1) C dX1_settleRights_1 (Nat.le_of_ble_eq_true rfl) (lv' := [some (.ref _), some (.int _), some (.int _), none]) rfl ?_
  have LP2 : ∀ (m i : Nat), n < m + i → i ≤ n → WR K G (AH h0 sz) (QM K G h0 sz 0 0 (fun v h1 => v = none ∧ Wd G (adr, (n, P, setl D F n), Sm, mu, g) h1)) (Wd G (adr, (n, P, setl D F i), Sm, mu, g)) [some (.ref (adr 0)), some (.int (mk D)), some (.int (nI i)), none] 0 0 2 [] := by
    intro m
    induction m with
    | zero => intro i  h1 h2; exact absurd h1 (by omega)
    | succ m ih =>
      intro i  h1 h2 
      refine R_iload_n (pc := 2) C dX1_settleRights_2 rfl ?_
      refine R_aload_n (pc := 3) C dX1_settleRights_3 rfl ?_
      refine R_getf (pc := 4) C dX1_settleRights_4 (i := 0) (wc0) rfl inlX1 (by decide) k_1_13 rfl ?_
      refine R_callVN (pc := 7) C dX1_settleRights_7 (vs := []) (fun h hh => mJx4a65c_size_8abf5 hl h hh) (isOb_of (wc1) rfl) ⟨k_3_18, k_3_19, k_3_20, k_1_12, k_3_21⟩ (sgn (nv := 0) rfl ⟨by decide +kernel, by decide +kernel, by decide +kernel⟩) ⟨⟨Nat.le_of_ble_eq_true rfl, Nat.le_of_ble_eq_true rfl⟩, ⟨Nat.le_of_ble_eq_true rfl, Nat.le_of_ble_eq_true rfl⟩, Nat.le_of_ble_eq_true rfl⟩ rfl rfl (fun h9 hh9 v9 => ?_)
      refine WR.pr (fun e9 => ?_)
      subst e9
      show WR K G _ _ _ _ _ _ _ (.int _ :: _)
      refine R_icmp_ge (pc := 10) C dX1_settleRights_10 (tgt := 85) (by decide) (fun c10 => ?_) (fun c10 => ?_)
      · have ei : n = i := Nat.le_antisymm (le_nI (by omega) (by omega) c10) h2
        subst ei
        exact R_vret (pc := 85) C dX1_settleRights_85 rfl (Nat.le_of_ble_eq_true rfl) (Nat.le_of_ble_eq_true rfl) (fun h hh => ⟨rfl, hh⟩)
      · have hi : i < n := gt_nI (by omega) (by omega) c10
        refine R_aload_n (pc := 13) C dX1_settleRights_13 rfl ?_
        refine R_getf (pc := 14) C dX1_settleRights_14 (i := 0) (wc0) rfl inlX1 (by decide) k_1_13 rfl ?_
        refine R_iload_n (pc := 17) C dX1_settleRights_17 rfl ?_
        refine R_callVN (pc := 18) C dX1_settleRights_18 (vs := [_]) (fun h hh => mJx4a65c_get_915e3 hl hi hn h hh) (isOb_of (wc1) rfl) ⟨k_17_2, k_17_3, k_17_4, k_1_12, k_17_5⟩ (sgn (nv := 1) rfl ⟨by decide +kernel, by decide +kernel, by decide +kernel⟩) ⟨⟨Nat.le_of_ble_eq_true rfl, Nat.le_of_ble_eq_true rfl⟩, ⟨Nat.le_of_ble_eq_true rfl, Nat.le_of_ble_eq_true rfl⟩, Nat.le_of_ble_eq_true rfl⟩ rfl rfl (fun h9 hh9 v9 => ?_)
        refine WR.pr (fun e9 => ?_)
        subst e9
        show WR K G _ _ _ _ _ _ _ (.ref _ :: _)
        refine R_cast (pc := 21) C dX1_settleRights_21 (wcw hi hn) rfl k_3_5 ?_
        refine R_astore_n (pc := 24) C dX1_settleRights_24 (Nat.le_of_ble_eq_true rfl) (lv' := [some (.ref _), some (.int _), some (.int _), some (.ref _)]) rfl ?_
        refine R_aload_n (pc := 25) C dX1_settleRights_25 rfl ?_
        refine R_getf (pc := 26) C dX1_settleRights_26 (i := 11) (wcw hi hn) rfl inlX0 (by decide) k_21_16 rfl ?_
        refine R_aload_n (pc := 29) C dX1_settleRights_29 rfl ?_
        refine R_getf (pc := 30) C dX1_settleRights_30 (i := 5) (wcw hi hn) rfl inlX0 (by decide) k_22_1 rfl ?_
        refine R_icmp_le (pc := 33) C dX1_settleRights_33 (tgt := 53) (by decide) (fun c33 => ?_) (fun c33 => ?_)
        · refine R_aload_n (pc := 53) C dX1_settleRights_53 rfl ?_
          refine R_iload_n (pc := 54) C dX1_settleRights_54 rfl ?_
          refine R_callVN (pc := 55) C dX1_settleRights_55 (vs := [_]) (fun h hh => mX0_isIn hl hi hn h hh) (isOb_of (wcw hi hn) rfl) ⟨k_22_7, k_20_15, k_20_16, k_3_7, k_20_17⟩ (sgn (nv := 1) rfl ⟨by decide +kernel, by decide +kernel, by decide +kernel⟩) ⟨⟨Nat.le_of_ble_eq_true rfl, Nat.le_of_ble_eq_true rfl⟩, ⟨Nat.le_of_ble_eq_true rfl, Nat.le_of_ble_eq_true rfl⟩, Nat.le_of_ble_eq_true rfl⟩ rfl rfl (fun h9 hh9 v9 => ?_)
          refine WR.pr (fun e9 => ?_)
          subst e9
          show WR K G _ _ _ _ _ _ _ (.int _ :: _)
          refine R_if_ne (pc := 58) C dX1_settleRights_58 (tgt := 79) (by decide) (fun c58 => ?_) (fun c58 => ?_)
          · refine R_iinc (pc := 79) C dX1_settleRights_79 rfl (inc1) (lv' := [some (.ref _), some (.int _), some (.int _), some (.ref _)]) rfl ?_
            refine R_goto (pc := 82) C dX1_settleRights_82 (tgt := 2) (by decide) ?_
            have hin58 := c58
            rw [mk_in (show i < 8 by omega)] at hin58
            refine WR.ls (lv' := [some (.ref _), some (.int _), some (.int _), none]) (ls_s (ls_s (ls_s (ls_n ls_e)))) ?_
            refine WR.imp (P' := Wd G (adr, (n, P, setl D F (i + 1)), Sm, mu, g)) (fun h hh => by rw [show setl D F (i + 1) = _ from (if_pos c33).trans (if_pos (if01' hin58))]; exact hh) ?_
            exact ih (i + 1) (by omega) (by omega)
          · refine R_aload_n (pc := 61) C dX1_settleRights_61 rfl ?_
            refine R_dup (pc := 62) C dX1_settleRights_62 rfl ?_
            refine R_getf (pc := 63) C dX1_settleRights_63 (i := 14) (wcw hi hn) rfl inlX0 (by decide) k_18_13 rfl ?_
            refine R_aload_n (pc := 66) C dX1_settleRights_66 rfl ?_
            refine R_getf (pc := 67) C dX1_settleRights_67 (i := 5) (wcw hi hn) rfl inlX0 (by decide) k_22_1 rfl ?_
            refine R_aload_n (pc := 70) C dX1_settleRights_70 rfl ?_
            refine R_getf (pc := 71) C dX1_settleRights_71 (i := 11) (wcw hi hn) rfl inlX0 (by decide) k_21_16 rfl ?_
            refine R_isub (pc := 74) C dX1_settleRights_74 ?_
            refine R_iadd (pc := 75) C dX1_settleRights_75 ?_
            refine R_putf (pc := 76) C dX1_settleRights_76 (i := 14) (wcw hi hn) rfl inlX0 tyX0_ok nmX0 (by decide) k_18_13 rfl rfl rfl (Nat.le_of_ble_eq_true rfl) (pw_9 hi hn) ?_
            refine R_iinc (pc := 79) C dX1_settleRights_79 rfl (inc1) (lv' := [some (.ref _), some (.int _), some (.int _), some (.ref _)]) rfl ?_
            refine R_goto (pc := 82) C dX1_settleRights_82 (tgt := 2) (by decide) ?_
            have hin58 := c58
            rw [mk_in (show i < 8 by omega)] at hin58
            refine WR.ls (lv' := [some (.ref _), some (.int _), some (.int _), none]) (ls_s (ls_s (ls_s (ls_n ls_e)))) ?_
            refine WR.imp (P' := Wd G (adr, (n, P, setl D F (i + 1)), Sm, mu, g)) (fun h hh => by rw [show setl D F (i + 1) = _ from (if_pos c33).trans (if_neg (if01 hin58))]; exact hh) ?_
            exact ih (i + 1) (by omega) (by omega)
        · refine R_aload_n (pc := 36) C dX1_settleRights_36 rfl ?_
          refine R_aload_n (pc := 37) C dX1_settleRights_37 rfl ?_
          refine R_aload_n (pc := 38) C dX1_settleRights_38 rfl ?_
          refine R_getf (pc := 39) C dX1_settleRights_39 (i := 11) (wcw hi hn) rfl inlX0 (by decide) k_21_16 rfl ?_
          refine R_aload_n (pc := 42) C dX1_settleRights_42 rfl ?_
          refine R_getf (pc := 43) C dX1_settleRights_43 (i := 5) (wcw hi hn) rfl inlX0 (by decide) k_22_1 rfl ?_
          refine R_isub (pc := 46) C dX1_settleRights_46 ?_
          refine R_callVN (pc := 47) C dX1_settleRights_47 (vs := [_, _]) (fun h hh => mX1_chargeAbove hl hi hn h hh) (isOb_of (wc0) rfl) ⟨k_22_2, k_22_3, k_22_4, k_1_2, k_22_5⟩ (sgn (nv := 2) rfl ⟨by decide +kernel, by decide +kernel, by decide +kernel⟩) ⟨⟨Nat.le_of_ble_eq_true rfl, Nat.le_of_ble_eq_true rfl⟩, ⟨Nat.le_of_ble_eq_true rfl, Nat.le_of_ble_eq_true rfl⟩, Nat.le_of_ble_eq_true rfl⟩ rfl rfl (fun h9 hh9 v9 => ?_)
          refine WR.pr (fun e9 => ?_)
          subst e9
          show WR K G _ _ _ _ _ _ _ _
          refine R_goto (pc := 50) C dX1_settleRights_50 (tgt := 79) (by decide) ?_
          refine R_iinc (pc := 79) C dX1_settleRights_79 rfl (inc1) (lv' := [some (.ref _), some (.int _), some (.int _), some (.ref _)]) rfl ?_
          refine R_goto (pc := 82) C dX1_settleRights_82 (tgt := 2) (by decide) ?_
          refine WR.ls (lv' := [some (.ref _), some (.int _), some (.int _), none]) (ls_s (ls_s (ls_s (ls_n ls_e)))) ?_
          refine WR.imp (P' := Wd G (adr, (n, P, setl D F (i + 1)), Sm, mu, g)) (fun h hh => by rw [show setl D F (i + 1) = _ from if_neg c33]; exact hh) ?_
          exact ih (i + 1) (by omega) (by omega)
  exact LP2 (n + 1) 0 (by omega) (by omega)
set_option maxHeartbeats 4000000 in
set_option maxRecDepth 100000 in
theorem mX1_forgetPower (hl : l.stackTraces = false)  (hn : n ≤ 8) : ∀ h, Wd G (adr, (n, P, F), Sm, mu, g) h → CN l yX1_forgetPower cX1_forgetPower 2 (none) 4 0 0 [.ref (adr 0)] G h (fun v h1 => v = none ∧ Wd G (adr, (n, P, fgt F n), Sm, mu, g) h1) := by
  intro h0 hwd
  refine CN.of hl (by decide +kernel) rfl (Nat.le_of_ble_eq_true rfl) (fun K sz hKl hin C => ?_)
  have C : CX K G (AH h0 sz) RX1 cX1_forgetPower 2 (none) (rmD 4 0 0) [] := C
  subst hKl
  refine WR.imp (P' := Wd G (adr, (n, P, F), Sm, mu, g)) (fun h e => e ▸ hwd) ?_
  show WR K G _ _ _ [some (.ref (adr 0)), none] 0 0 0 []
  refine R_iconst (pc := 0) C dX1_forgetPower_0 (v := 0) (by decide) ?_
  refine R_istore_n (pc := 1) C dX1_forgetPower_1 (Nat.le_of_ble_eq_true rfl) (lv' := [some (.ref _), some (.int _)]) rfl ?_
  have LP2 : ∀ (m i : Nat), n < m + i → i ≤ n → WR K G (AH h0 sz) (QM K G h0 sz 0 0 (fun v h1 => v = none ∧ Wd G (adr, (n, P, fgt F n), Sm, mu, g) h1)) (Wd G (adr, (n, P, fgt F i), Sm, mu, g)) [some (.ref (adr 0)), some (.int (nI i))] 0 0 2 [] := by
    intro m
    induction m with
    | zero => intro i  h1 h2; exact absurd h1 (by omega)
    | succ m ih =>
      intro i  h1 h2 
      refine R_iload_n (pc := 2) C dX1_forgetPower_2 rfl ?_
      refine R_aload_n (pc := 3) C dX1_forgetPower_3 rfl ?_
      refine R_getf (pc := 4) C dX1_forgetPower_4 (i := 0) (wc0) rfl inlX1 (by decide) k_1_13 rfl ?_
      refine R_callVN (pc := 7) C dX1_forgetPower_7 (vs := []) (fun h hh => mJx4a65c_size_8abf5 hl h hh) (isOb_of (wc1) rfl) ⟨k_3_18, k_3_19, k_3_20, k_1_12, k_3_21⟩ (sgn (nv := 0) rfl ⟨by decide +kernel, by decide +kernel, by decide +kernel⟩) ⟨⟨Nat.le_of_ble_eq_true rfl, Nat.le_of_ble_eq_true rfl⟩, ⟨Nat.le_of_ble_eq_true rfl, Nat.le_of_ble_eq_true rfl⟩, Nat.le_of_ble_eq_true rfl⟩ rfl rfl (fun h9 hh9 v9 => ?_)
      refine WR.pr (fun e9 => ?_)
      subst e9
      show WR K G _ _ _ _ _ _ _ (.int _ :: _)
      refine R_icmp_ge (pc := 10) C dX1_forgetPower_10 (tgt := 34) (by decide) (fun c10 => ?_) (fun c10 => ?_)
      · have ei : n = i := Nat.le_antisymm (le_nI (by omega) (by omega) c10) h2
        subst ei
        exact R_vret (pc := 34) C dX1_forgetPower_34 rfl (Nat.le_of_ble_eq_true rfl) (Nat.le_of_ble_eq_true rfl) (fun h hh => ⟨rfl, hh⟩)
      · have hi : i < n := gt_nI (by omega) (by omega) c10
        refine R_aload_n (pc := 13) C dX1_forgetPower_13 rfl ?_
        refine R_getf (pc := 14) C dX1_forgetPower_14 (i := 0) (wc0) rfl inlX1 (by decide) k_1_13 rfl ?_
        refine R_iload_n (pc := 17) C dX1_forgetPower_17 rfl ?_
        refine R_callVN (pc := 18) C dX1_forgetPower_18 (vs := [_]) (fun h hh => mJx4a65c_get_915e3 hl hi hn h hh) (isOb_of (wc1) rfl) ⟨k_17_2, k_17_3, k_17_4, k_1_12, k_17_5⟩ (sgn (nv := 1) rfl ⟨by decide +kernel, by decide +kernel, by decide +kernel⟩) ⟨⟨Nat.le_of_ble_eq_true rfl, Nat.le_of_ble_eq_true rfl⟩, ⟨Nat.le_of_ble_eq_true rfl, Nat.le_of_ble_eq_true rfl⟩, Nat.le_of_ble_eq_true rfl⟩ rfl rfl (fun h9 hh9 v9 => ?_)
        refine WR.pr (fun e9 => ?_)
        subst e9
        show WR K G _ _ _ _ _ _ _ (.ref _ :: _)
        refine R_cast (pc := 21) C dX1_forgetPower_21 (wcw hi hn) rfl k_3_5 ?_
        refine R_iconst (pc := 24) C dX1_forgetPower_24 (v := 0) (by decide) ?_
        refine R_putf (pc := 25) C dX1_forgetPower_25 (i := 13) (wcw hi hn) rfl inlX0 tyX0_ok nmX0 (by decide) k_18_4 rfl rfl rfl (Nat.le_of_ble_eq_true rfl) (pw_8 hi hn) ?_
        refine R_iinc (pc := 28) C dX1_forgetPower_28 rfl (inc1) (lv' := [some (.ref _), some (.int _)]) rfl ?_
        refine R_goto (pc := 31) C dX1_forgetPower_31 (tgt := 2) (by decide) ?_
        exact ih (i + 1) (by omega) (by omega)
  exact LP2 (n + 1) 0 (by omega) (by omega)
end
