/-! 50: the law's rounds, a call each. Written by wip/whole/gen/m50.py -/
theorem bt_of {a : Int32} {m : Nat} (hm : m < 100000) (h : qR a 0 (nI m) = true) : Bt a m := by
  obtain ⟨j, hj, e⟩ := in_lt (m := m + 1) (by omega) (qR_e h).1 (Int32.lt_of_le_of_lt (qR_e h).2 (nI_lt (by omega) (by omega)))
  exact ⟨j, by omega, e⟩
theorem ix_lt {n : Nat} {x : Int32} (hn : n ≤ 8) (h : qW n x = true) : ix x < n := by
  obtain ⟨i, hi, rfl⟩ := qW_e hn h
  rw [ix_nI (by omega)]; exact hi
theorem plan0 {n : Nat} {x a m : Int32} (h : kPlan n x a m = 0) : qW n x = true ∧ qR a 0 m = true := by
  unfold kPlan at h
  by_cases c : qW n x = true
  · rw [if_pos c] at h
    by_cases d : qR a 0 m = true
    · exact ⟨c, d⟩
    · rw [if_neg d] at h; exact absurd h (by decide)
  · rw [if_neg c] at h; exact absurd h (by decide)
theorem ask0 {n : Nat} {x : Int32} (h : kAsk n x = 0) : qW n x = true := by
  unfold kAsk at h
  by_cases c : qW n x = true
  · exact c
  · rw [if_neg c] at h; exact absurd h (by decide)
theorem inv_plan {n P : Nat} {F : Nat → Nat → Int32} {x a : Int32} (H : Inv n P F) (h : kPlan n x a 2000 = 0) : Inv n P (su F 6 (ix x) a) := H.w (ix_lt H.1 (plan0 h).1) (by omega) (fun _ => bt_of (m := 2000) (by omega) (plan0 h).2) (fun z => by omega) (fun z => by omega)
theorem inv_power {n P : Nat} {F : Nat → Nat → Int32} {x a : Int32} (H : Inv n P F) (h : kPlan n x a 1000 = 0) : Inv n P (su F 8 (ix x) a) := H.w (ix_lt H.1 (plan0 h).1) (by omega) (fun z => by omega) (fun z => by omega) (fun _ => bt_of (m := 1000) (by omega) (plan0 h).2)
theorem cmp0 (x : Int64) : lg_cmp x x = 0 := by simp [lg_cmp]
section
variable {K : KT} {G : GT} {A : Nat → Prop} {rt : Option FieldType} {rm : Room} {tb : List ExceptionTableEntry} {Q : State → Prop} {adr : Nat → Nat} {n P b N i k s9 : Nat} {F mu : Nat → Nat → Int32} {g : Nat → Int64} {xs : Nat → Int32}
set_option maxHeartbeats 4000000 in
set_option maxRecDepth 100000 in
theorem sg_level (hl : K.l.stackTraces = false) (C : CX K G A RL cL_law 7 rt rm tb) (hT : va_T .int b N (fun j => .int (xs j)) A K.s K.s.heap) (hi : i + 6 < N) (hN : N < 2 ^ 31) (hI : Inv n P F) (hrm : (30 ≤ rm.frames ∧ 2000 ≤ rm.locals) ∧ k + 14 ≤ rm.cells ∧ s9 + 116 ≤ rm.slots)
    (kk : ∀ adr9 : Nat → Nat, (∀ x, x < 30 → x ≠ 2 → adr9 x = adr x) → ∀ (n9 P9 : Nat) (F9 m9 : Nat → Nat → Int32) (g9 : Nat → Int64), Inv n9 P9 F9 → WR K G A Q (Wd G (adr9, (n9, P9, F9), (n9, P9, F9), m9, g9)) [some (.ref b), some (.ref (adr 0)), some (.ref (adr 5)), some (.ref (adr 24)), some (.int (nI i)), none, none] (k + 14) (s9 + 116) 1220 []) : WR K G A Q (Wd G (adr, (n, P, F), (n, P, F), mu, g)) [some (.ref b), some (.ref (adr 0)), some (.ref (adr 5)), some (.ref (adr 24)), some (.int (nI i)), none, none] k s9 454 [] := by
  obtain ⟨⟨hr1, hr2⟩, hr3, hr4⟩ := hrm
  refine R_aload_n (pc := 454) C dL_law_454 rfl ?_
  refine R_aload_n (pc := 455) C dL_law_455 rfl ?_
  refine R_iload (pc := 456) C dL_law_456 rfl ?_
  refine R_iconst (pc := 458) C dL_law_458 (v := 1) (by decide) ?_
  refine R_iadd (pc := 459) C dL_law_459 ?_
  rw [show nI i + 1 = nI (i + 1) from nI_add (a := i) (b := 1)]
  refine R_tial (pc := 460) C dL_law_460 hT rfl (by omega) hN rfl ?_
  refine R_aload_n (pc := 461) C dL_law_461 rfl ?_
  refine R_callSW (pc := 462) C dL_law_462 (vs := [_, _, _]) (fun h hh => mL_level hl hI.1 h hh) ⟨k_21_9, k_21_10, k_3_15, k_21_11⟩ (sgn (nv := 3) rfl ⟨by decide +kernel, by decide +kernel, by decide +kernel⟩) ⟨⟨by omega, by omega⟩, ⟨by omega, by omega⟩, Nat.le_of_ble_eq_true rfl⟩ rfl rfl (fun h9 hh9 v9 => ?_)
  refine WR.all (fun h1 hh1 => ?_)
  rcases hh1 with ⟨hk9, e9, hw9⟩ | ⟨hk9, e9, hw9⟩
  · subst e9
    refine WR.imp (P' := Wd G (adr, (n, P, F), (n, P, F), mu, vp_updL g 0 (F 2 (ix (xs (i + 1)))).toInt64)) (fun h e => e ▸ hw9) ?_
    show WR K G _ _ _ _ _ _ _ (.int _ :: _)
    refine R_istore (pc := 465) C dL_law_465 (Nat.le_of_ble_eq_true rfl) (lv' := [some (.ref _), some (.ref _), some (.ref _), some (.ref _), some (.int _), some (.int _), none]) rfl ?_
    refine R_aload_n (pc := 467) C dL_law_467 rfl ?_
    refine R_aload_n (pc := 468) C dL_law_468 rfl ?_
    refine R_iload (pc := 469) C dL_law_469 rfl ?_
    refine R_iconst (pc := 471) C dL_law_471 (v := 1) (by decide) ?_
    refine R_iadd (pc := 472) C dL_law_472 ?_
    rw [show nI i + 1 = nI (i + 1) from nI_add (a := i) (b := 1)]
    refine R_tial (pc := 473) C dL_law_473 hT rfl (by omega) hN rfl ?_
    refine R_callVN (pc := 474) C dL_law_474 (vs := [_]) (fun h hh => mX2_level hl hI.1 h hh) (isOb_of (wm0) rfl) ⟨k_21_17, k_21_18, k_21_19, k_1_5, k_21_20⟩ (sgn (nv := 1) rfl ⟨by decide +kernel, by decide +kernel, by decide +kernel⟩) ⟨⟨by omega, by omega⟩, ⟨by omega, by omega⟩, Nat.le_of_ble_eq_true rfl⟩ rfl rfl (fun h8 hh8 v8 => ?_)
    refine WR.all (fun h2 hh2 => ?_)
    obtain ⟨-, e8, m9, hm9, hw8⟩ := hh2.resolve_right (fun z => z.1 hk9)
    subst e8
    refine WR.imp (P' := Wd G (adr, (n, P, F), (n, P, F), m9, vp_updL g 0 (F 2 (ix (xs (i + 1)))).toInt64)) (fun h e => e ▸ hw8) ?_
    show WR K G _ _ _ _ _ _ _ (.int _ :: _)
    refine R_istore (pc := 477) C dL_law_477 (Nat.le_of_ble_eq_true rfl) (lv' := [some (.ref _), some (.ref _), some (.ref _), some (.ref _), some (.int _), some (.int _), some (.int _)]) rfl ?_
    refine R_aload_n (pc := 479) C dL_law_479 rfl ?_
    refine R_callVN (pc := 480) C dL_law_480 (vs := []) (fun h hh => mX2_thrown hl h hh) (isOb_of (wm0) rfl) ⟨k_18_3, k_18_4, k_18_5, k_1_5, k_18_6⟩ (sgn (nv := 0) rfl ⟨by decide +kernel, by decide +kernel, by decide +kernel⟩) ⟨⟨by omega, by omega⟩, ⟨by omega, by omega⟩, Nat.le_of_ble_eq_true rfl⟩ rfl rfl (fun h7 hh7 v7 => ?_)
    refine WR.pr (fun e7 => ?_)
    subst e7
    rw [hm9]
    show WR K G _ _ _ _ _ _ _ (.int _ :: _)
    refine R_iload (pc := 483) C dL_law_483 rfl ?_
    refine R_icmp_eq (pc := 485) C dL_law_485 (tgt := 490) (by decide) (fun c485 => ?_) (fun c485 => absurd (rfl) c485)
    refine R_iload (pc := 490) C dL_law_490 rfl ?_
    refine R_if_ne (pc := 492) C dL_law_492 (tgt := 507) (by decide) (fun c492 => absurd c492 (fun q => q rfl)) (fun c492 => ?_)
    refine R_aload_n (pc := 495) C dL_law_495 rfl ?_
    refine R_iconst (pc := 496) C dL_law_496 (v := 0) (by decide) ?_
    refine R_lald (pc := 497) C dL_law_497 (wm_g) rfl (by decide) (by decide) (if_pos rfl) ?_
    refine R_iload (pc := 498) C dL_law_498 rfl ?_
    refine R_i2l (pc := 500) C dL_law_500 ?_
    refine R_lcmp (pc := 501) C dL_law_501 ?_
    refine R_if_eq (pc := 502) C dL_law_502 (tgt := 507) (by decide) (fun c502 => ?_) (fun c502 => absurd (cmp0 _) c502)
    refine R_goto (pc := 507) C dL_law_507 (tgt := 1220) (by decide) ?_
    refine WR.wid (show _ ≤ k + 14 by omega) (show _ ≤ s9 + 116 by omega) ?_
    exact WR.ls (ls_s (ls_s (ls_s (ls_s (ls_s (ls_n (ls_n ls_e))))))) (kk adr (fun _ _ _ => rfl) _ _ _ m9 _ (hI))
  · subst e9
    refine WR.imp (P' := Wd G (adr, (n, P, F), (n, P, F), mu, g)) (fun h e => e ▸ hw9) ?_
    show WR K G _ _ _ _ _ _ _ (.int _ :: _)
    refine R_istore (pc := 465) C dL_law_465 (Nat.le_of_ble_eq_true rfl) (lv' := [some (.ref _), some (.ref _), some (.ref _), some (.ref _), some (.int _), some (.int _), none]) rfl ?_
    refine R_aload_n (pc := 467) C dL_law_467 rfl ?_
    refine R_aload_n (pc := 468) C dL_law_468 rfl ?_
    refine R_iload (pc := 469) C dL_law_469 rfl ?_
    refine R_iconst (pc := 471) C dL_law_471 (v := 1) (by decide) ?_
    refine R_iadd (pc := 472) C dL_law_472 ?_
    rw [show nI i + 1 = nI (i + 1) from nI_add (a := i) (b := 1)]
    refine R_tial (pc := 473) C dL_law_473 hT rfl (by omega) hN rfl ?_
    refine R_callVN (pc := 474) C dL_law_474 (vs := [_]) (fun h hh => mX2_level hl hI.1 h hh) (isOb_of (wm0) rfl) ⟨k_21_17, k_21_18, k_21_19, k_1_5, k_21_20⟩ (sgn (nv := 1) rfl ⟨by decide +kernel, by decide +kernel, by decide +kernel⟩) ⟨⟨by omega, by omega⟩, ⟨by omega, by omega⟩, Nat.le_of_ble_eq_true rfl⟩ rfl rfl (fun h8 hh8 v8 => ?_)
    refine WR.all (fun h2 hh2 => ?_)
    obtain ⟨-, ⟨r8, e8⟩, m9, hm9, hw8⟩ := hh2.resolve_left (fun z => hk9 z.1)
    subst e8
    refine WR.imp (P' := Wd G (adr, (n, P, F), (n, P, F), m9, g)) (fun h e => e ▸ hw8) ?_
    show WR K G _ _ _ _ _ _ _ (.int _ :: _)
    refine R_istore (pc := 477) C dL_law_477 (Nat.le_of_ble_eq_true rfl) (lv' := [some (.ref _), some (.ref _), some (.ref _), some (.ref _), some (.int _), some (.int _), some (.int _)]) rfl ?_
    refine R_aload_n (pc := 479) C dL_law_479 rfl ?_
    refine R_callVN (pc := 480) C dL_law_480 (vs := []) (fun h hh => mX2_thrown hl h hh) (isOb_of (wm0) rfl) ⟨k_18_3, k_18_4, k_18_5, k_1_5, k_18_6⟩ (sgn (nv := 0) rfl ⟨by decide +kernel, by decide +kernel, by decide +kernel⟩) ⟨⟨by omega, by omega⟩, ⟨by omega, by omega⟩, Nat.le_of_ble_eq_true rfl⟩ rfl rfl (fun h7 hh7 v7 => ?_)
    refine WR.pr (fun e7 => ?_)
    subst e7
    rw [hm9]
    show WR K G _ _ _ _ _ _ _ (.int _ :: _)
    refine R_iload (pc := 483) C dL_law_483 rfl ?_
    refine R_icmp_eq (pc := 485) C dL_law_485 (tgt := 490) (by decide) (fun c485 => ?_) (fun c485 => absurd (rfl) c485)
    refine R_iload (pc := 490) C dL_law_490 rfl ?_
    refine R_if_ne (pc := 492) C dL_law_492 (tgt := 507) (by decide) (fun _ => ?_) (fun c => absurd c hk9)
    refine R_goto (pc := 507) C dL_law_507 (tgt := 1220) (by decide) ?_
    refine WR.wid (show _ ≤ k + 14 by omega) (show _ ≤ s9 + 116 by omega) ?_
    exact WR.ls (ls_s (ls_s (ls_s (ls_s (ls_s (ls_n (ls_n ls_e))))))) (kk adr (fun _ _ _ => rfl) _ _ _ m9 _ hI)
set_option maxHeartbeats 4000000 in
set_option maxRecDepth 100000 in
theorem sg_drew (hl : K.l.stackTraces = false) (C : CX K G A RL cL_law 7 rt rm tb) (hT : va_T .int b N (fun j => .int (xs j)) A K.s K.s.heap) (hi : i + 6 < N) (hN : N < 2 ^ 31) (hI : Inv n P F) (hrm : (30 ≤ rm.frames ∧ 2000 ≤ rm.locals) ∧ k + 14 ≤ rm.cells ∧ s9 + 116 ≤ rm.slots)
    (kk : ∀ adr9 : Nat → Nat, (∀ x, x < 30 → x ≠ 2 → adr9 x = adr x) → ∀ (n9 P9 : Nat) (F9 m9 : Nat → Nat → Int32) (g9 : Nat → Int64), Inv n9 P9 F9 → WR K G A Q (Wd G (adr9, (n9, P9, F9), (n9, P9, F9), m9, g9)) [some (.ref b), some (.ref (adr 0)), some (.ref (adr 5)), some (.ref (adr 24)), some (.int (nI i)), none, none] (k + 14) (s9 + 116) 1220 []) : WR K G A Q (Wd G (adr, (n, P, F), (n, P, F), mu, g)) [some (.ref b), some (.ref (adr 0)), some (.ref (adr 5)), some (.ref (adr 24)), some (.int (nI i)), none, none] k s9 648 [] := by
  obtain ⟨⟨hr1, hr2⟩, hr3, hr4⟩ := hrm
  refine R_aload_n (pc := 648) C dL_law_648 rfl ?_
  refine R_aload_n (pc := 649) C dL_law_649 rfl ?_
  refine R_iload (pc := 650) C dL_law_650 rfl ?_
  refine R_iconst (pc := 652) C dL_law_652 (v := 1) (by decide) ?_
  refine R_iadd (pc := 653) C dL_law_653 ?_
  rw [show nI i + 1 = nI (i + 1) from nI_add (a := i) (b := 1)]
  refine R_tial (pc := 654) C dL_law_654 hT rfl (by omega) hN rfl ?_
  refine R_aload_n (pc := 655) C dL_law_655 rfl ?_
  refine R_callSW (pc := 656) C dL_law_656 (vs := [_, _, _]) (fun h hh => mL_drew hl hI.1 h hh) ⟨k_28_16, k_28_17, k_3_15, k_28_18⟩ (sgn (nv := 3) rfl ⟨by decide +kernel, by decide +kernel, by decide +kernel⟩) ⟨⟨by omega, by omega⟩, ⟨by omega, by omega⟩, Nat.le_of_ble_eq_true rfl⟩ rfl rfl (fun h9 hh9 v9 => ?_)
  refine WR.all (fun h1 hh1 => ?_)
  rcases hh1 with ⟨hk9, e9, hw9⟩ | ⟨hk9, e9, hw9⟩
  · subst e9
    refine WR.imp (P' := Wd G (adr, (n, P, F), (n, P, F), mu, vp_updL g 0 (F 11 (ix (xs (i + 1)))).toInt64)) (fun h e => e ▸ hw9) ?_
    show WR K G _ _ _ _ _ _ _ (.int _ :: _)
    refine R_istore (pc := 659) C dL_law_659 (Nat.le_of_ble_eq_true rfl) (lv' := [some (.ref _), some (.ref _), some (.ref _), some (.ref _), some (.int _), some (.int _), none]) rfl ?_
    refine R_aload_n (pc := 661) C dL_law_661 rfl ?_
    refine R_aload_n (pc := 662) C dL_law_662 rfl ?_
    refine R_iload (pc := 663) C dL_law_663 rfl ?_
    refine R_iconst (pc := 665) C dL_law_665 (v := 1) (by decide) ?_
    refine R_iadd (pc := 666) C dL_law_666 ?_
    rw [show nI i + 1 = nI (i + 1) from nI_add (a := i) (b := 1)]
    refine R_tial (pc := 667) C dL_law_667 hT rfl (by omega) hN rfl ?_
    refine R_callVN (pc := 668) C dL_law_668 (vs := [_]) (fun h hh => mX2_drew hl hI.1 h hh) (isOb_of (wm0) rfl) ⟨k_28_23, k_29_0, k_29_1, k_1_5, k_29_2⟩ (sgn (nv := 1) rfl ⟨by decide +kernel, by decide +kernel, by decide +kernel⟩) ⟨⟨by omega, by omega⟩, ⟨by omega, by omega⟩, Nat.le_of_ble_eq_true rfl⟩ rfl rfl (fun h8 hh8 v8 => ?_)
    refine WR.all (fun h2 hh2 => ?_)
    obtain ⟨-, e8, m9, hm9, hw8⟩ := hh2.resolve_right (fun z => z.1 hk9)
    subst e8
    refine WR.imp (P' := Wd G (adr, (n, P, F), (n, P, F), m9, vp_updL g 0 (F 11 (ix (xs (i + 1)))).toInt64)) (fun h e => e ▸ hw8) ?_
    show WR K G _ _ _ _ _ _ _ (.int _ :: _)
    refine R_istore (pc := 671) C dL_law_671 (Nat.le_of_ble_eq_true rfl) (lv' := [some (.ref _), some (.ref _), some (.ref _), some (.ref _), some (.int _), some (.int _), some (.int _)]) rfl ?_
    refine R_aload_n (pc := 673) C dL_law_673 rfl ?_
    refine R_callVN (pc := 674) C dL_law_674 (vs := []) (fun h hh => mX2_thrown hl h hh) (isOb_of (wm0) rfl) ⟨k_18_3, k_18_4, k_18_5, k_1_5, k_18_6⟩ (sgn (nv := 0) rfl ⟨by decide +kernel, by decide +kernel, by decide +kernel⟩) ⟨⟨by omega, by omega⟩, ⟨by omega, by omega⟩, Nat.le_of_ble_eq_true rfl⟩ rfl rfl (fun h7 hh7 v7 => ?_)
    refine WR.pr (fun e7 => ?_)
    subst e7
    rw [hm9]
    show WR K G _ _ _ _ _ _ _ (.int _ :: _)
    refine R_iload (pc := 677) C dL_law_677 rfl ?_
    refine R_icmp_eq (pc := 679) C dL_law_679 (tgt := 684) (by decide) (fun c679 => ?_) (fun c679 => absurd (rfl) c679)
    refine R_iload (pc := 684) C dL_law_684 rfl ?_
    refine R_if_ne (pc := 686) C dL_law_686 (tgt := 701) (by decide) (fun c686 => absurd c686 (fun q => q rfl)) (fun c686 => ?_)
    refine R_aload_n (pc := 689) C dL_law_689 rfl ?_
    refine R_iconst (pc := 690) C dL_law_690 (v := 0) (by decide) ?_
    refine R_lald (pc := 691) C dL_law_691 (wm_g) rfl (by decide) (by decide) (if_pos rfl) ?_
    refine R_iload (pc := 692) C dL_law_692 rfl ?_
    refine R_i2l (pc := 694) C dL_law_694 ?_
    refine R_lcmp (pc := 695) C dL_law_695 ?_
    refine R_if_eq (pc := 696) C dL_law_696 (tgt := 701) (by decide) (fun c696 => ?_) (fun c696 => absurd (cmp0 _) c696)
    refine R_goto (pc := 701) C dL_law_701 (tgt := 1220) (by decide) ?_
    refine WR.wid (show _ ≤ k + 14 by omega) (show _ ≤ s9 + 116 by omega) ?_
    exact WR.ls (ls_s (ls_s (ls_s (ls_s (ls_s (ls_n (ls_n ls_e))))))) (kk adr (fun _ _ _ => rfl) _ _ _ m9 _ (hI))
  · subst e9
    refine WR.imp (P' := Wd G (adr, (n, P, F), (n, P, F), mu, g)) (fun h e => e ▸ hw9) ?_
    show WR K G _ _ _ _ _ _ _ (.int _ :: _)
    refine R_istore (pc := 659) C dL_law_659 (Nat.le_of_ble_eq_true rfl) (lv' := [some (.ref _), some (.ref _), some (.ref _), some (.ref _), some (.int _), some (.int _), none]) rfl ?_
    refine R_aload_n (pc := 661) C dL_law_661 rfl ?_
    refine R_aload_n (pc := 662) C dL_law_662 rfl ?_
    refine R_iload (pc := 663) C dL_law_663 rfl ?_
    refine R_iconst (pc := 665) C dL_law_665 (v := 1) (by decide) ?_
    refine R_iadd (pc := 666) C dL_law_666 ?_
    rw [show nI i + 1 = nI (i + 1) from nI_add (a := i) (b := 1)]
    refine R_tial (pc := 667) C dL_law_667 hT rfl (by omega) hN rfl ?_
    refine R_callVN (pc := 668) C dL_law_668 (vs := [_]) (fun h hh => mX2_drew hl hI.1 h hh) (isOb_of (wm0) rfl) ⟨k_28_23, k_29_0, k_29_1, k_1_5, k_29_2⟩ (sgn (nv := 1) rfl ⟨by decide +kernel, by decide +kernel, by decide +kernel⟩) ⟨⟨by omega, by omega⟩, ⟨by omega, by omega⟩, Nat.le_of_ble_eq_true rfl⟩ rfl rfl (fun h8 hh8 v8 => ?_)
    refine WR.all (fun h2 hh2 => ?_)
    obtain ⟨-, ⟨r8, e8⟩, m9, hm9, hw8⟩ := hh2.resolve_left (fun z => hk9 z.1)
    subst e8
    refine WR.imp (P' := Wd G (adr, (n, P, F), (n, P, F), m9, g)) (fun h e => e ▸ hw8) ?_
    show WR K G _ _ _ _ _ _ _ (.int _ :: _)
    refine R_istore (pc := 671) C dL_law_671 (Nat.le_of_ble_eq_true rfl) (lv' := [some (.ref _), some (.ref _), some (.ref _), some (.ref _), some (.int _), some (.int _), some (.int _)]) rfl ?_
    refine R_aload_n (pc := 673) C dL_law_673 rfl ?_
    refine R_callVN (pc := 674) C dL_law_674 (vs := []) (fun h hh => mX2_thrown hl h hh) (isOb_of (wm0) rfl) ⟨k_18_3, k_18_4, k_18_5, k_1_5, k_18_6⟩ (sgn (nv := 0) rfl ⟨by decide +kernel, by decide +kernel, by decide +kernel⟩) ⟨⟨by omega, by omega⟩, ⟨by omega, by omega⟩, Nat.le_of_ble_eq_true rfl⟩ rfl rfl (fun h7 hh7 v7 => ?_)
    refine WR.pr (fun e7 => ?_)
    subst e7
    rw [hm9]
    show WR K G _ _ _ _ _ _ _ (.int _ :: _)
    refine R_iload (pc := 677) C dL_law_677 rfl ?_
    refine R_icmp_eq (pc := 679) C dL_law_679 (tgt := 684) (by decide) (fun c679 => ?_) (fun c679 => absurd (rfl) c679)
    refine R_iload (pc := 684) C dL_law_684 rfl ?_
    refine R_if_ne (pc := 686) C dL_law_686 (tgt := 701) (by decide) (fun _ => ?_) (fun c => absurd c hk9)
    refine R_goto (pc := 701) C dL_law_701 (tgt := 1220) (by decide) ?_
    refine WR.wid (show _ ≤ k + 14 by omega) (show _ ≤ s9 + 116 by omega) ?_
    exact WR.ls (ls_s (ls_s (ls_s (ls_s (ls_s (ls_n (ls_n ls_e))))))) (kk adr (fun _ _ _ => rfl) _ _ _ m9 _ hI)
set_option maxHeartbeats 4000000 in
set_option maxRecDepth 100000 in
theorem sg_told (hl : K.l.stackTraces = false) (C : CX K G A RL cL_law 7 rt rm tb) (hT : va_T .int b N (fun j => .int (xs j)) A K.s K.s.heap) (hi : i + 6 < N) (hN : N < 2 ^ 31) (hI : Inv n P F) (hrm : (30 ≤ rm.frames ∧ 2000 ≤ rm.locals) ∧ k + 14 ≤ rm.cells ∧ s9 + 116 ≤ rm.slots)
    (kk : ∀ adr9 : Nat → Nat, (∀ x, x < 30 → x ≠ 2 → adr9 x = adr x) → ∀ (n9 P9 : Nat) (F9 m9 : Nat → Nat → Int32) (g9 : Nat → Int64), Inv n9 P9 F9 → WR K G A Q (Wd G (adr9, (n9, P9, F9), (n9, P9, F9), m9, g9)) [some (.ref b), some (.ref (adr 0)), some (.ref (adr 5)), some (.ref (adr 24)), some (.int (nI i)), none, none] (k + 14) (s9 + 116) 1220 []) : WR K G A Q (Wd G (adr, (n, P, F), (n, P, F), mu, g)) [some (.ref b), some (.ref (adr 0)), some (.ref (adr 5)), some (.ref (adr 24)), some (.int (nI i)), none, none] k s9 704 [] := by
  obtain ⟨⟨hr1, hr2⟩, hr3, hr4⟩ := hrm
  refine R_aload_n (pc := 704) C dL_law_704 rfl ?_
  refine R_aload_n (pc := 705) C dL_law_705 rfl ?_
  refine R_iload (pc := 706) C dL_law_706 rfl ?_
  refine R_iconst (pc := 708) C dL_law_708 (v := 1) (by decide) ?_
  refine R_iadd (pc := 709) C dL_law_709 ?_
  rw [show nI i + 1 = nI (i + 1) from nI_add (a := i) (b := 1)]
  refine R_tial (pc := 710) C dL_law_710 hT rfl (by omega) hN rfl ?_
  refine R_aload_n (pc := 711) C dL_law_711 rfl ?_
  refine R_callSW (pc := 712) C dL_law_712 (vs := [_, _, _]) (fun h hh => mL_told hl hI.1 h hh) ⟨k_29_3, k_29_4, k_3_15, k_29_5⟩ (sgn (nv := 3) rfl ⟨by decide +kernel, by decide +kernel, by decide +kernel⟩) ⟨⟨by omega, by omega⟩, ⟨by omega, by omega⟩, Nat.le_of_ble_eq_true rfl⟩ rfl rfl (fun h9 hh9 v9 => ?_)
  refine WR.all (fun h1 hh1 => ?_)
  rcases hh1 with ⟨hk9, e9, hw9⟩ | ⟨hk9, e9, hw9⟩
  · subst e9
    refine WR.imp (P' := Wd G (adr, (n, P, F), (n, P, F), mu, vp_updL g 0 (F 12 (ix (xs (i + 1)))).toInt64)) (fun h e => e ▸ hw9) ?_
    show WR K G _ _ _ _ _ _ _ (.int _ :: _)
    refine R_istore (pc := 715) C dL_law_715 (Nat.le_of_ble_eq_true rfl) (lv' := [some (.ref _), some (.ref _), some (.ref _), some (.ref _), some (.int _), some (.int _), none]) rfl ?_
    refine R_aload_n (pc := 717) C dL_law_717 rfl ?_
    refine R_aload_n (pc := 718) C dL_law_718 rfl ?_
    refine R_iload (pc := 719) C dL_law_719 rfl ?_
    refine R_iconst (pc := 721) C dL_law_721 (v := 1) (by decide) ?_
    refine R_iadd (pc := 722) C dL_law_722 ?_
    rw [show nI i + 1 = nI (i + 1) from nI_add (a := i) (b := 1)]
    refine R_tial (pc := 723) C dL_law_723 hT rfl (by omega) hN rfl ?_
    refine R_callVN (pc := 724) C dL_law_724 (vs := [_]) (fun h hh => mX2_told hl hI.1 h hh) (isOb_of (wm0) rfl) ⟨k_29_10, k_29_11, k_29_12, k_1_5, k_29_13⟩ (sgn (nv := 1) rfl ⟨by decide +kernel, by decide +kernel, by decide +kernel⟩) ⟨⟨by omega, by omega⟩, ⟨by omega, by omega⟩, Nat.le_of_ble_eq_true rfl⟩ rfl rfl (fun h8 hh8 v8 => ?_)
    refine WR.all (fun h2 hh2 => ?_)
    obtain ⟨-, e8, m9, hm9, hw8⟩ := hh2.resolve_right (fun z => z.1 hk9)
    subst e8
    refine WR.imp (P' := Wd G (adr, (n, P, F), (n, P, F), m9, vp_updL g 0 (F 12 (ix (xs (i + 1)))).toInt64)) (fun h e => e ▸ hw8) ?_
    show WR K G _ _ _ _ _ _ _ (.int _ :: _)
    refine R_istore (pc := 727) C dL_law_727 (Nat.le_of_ble_eq_true rfl) (lv' := [some (.ref _), some (.ref _), some (.ref _), some (.ref _), some (.int _), some (.int _), some (.int _)]) rfl ?_
    refine R_aload_n (pc := 729) C dL_law_729 rfl ?_
    refine R_callVN (pc := 730) C dL_law_730 (vs := []) (fun h hh => mX2_thrown hl h hh) (isOb_of (wm0) rfl) ⟨k_18_3, k_18_4, k_18_5, k_1_5, k_18_6⟩ (sgn (nv := 0) rfl ⟨by decide +kernel, by decide +kernel, by decide +kernel⟩) ⟨⟨by omega, by omega⟩, ⟨by omega, by omega⟩, Nat.le_of_ble_eq_true rfl⟩ rfl rfl (fun h7 hh7 v7 => ?_)
    refine WR.pr (fun e7 => ?_)
    subst e7
    rw [hm9]
    show WR K G _ _ _ _ _ _ _ (.int _ :: _)
    refine R_iload (pc := 733) C dL_law_733 rfl ?_
    refine R_icmp_eq (pc := 735) C dL_law_735 (tgt := 740) (by decide) (fun c735 => ?_) (fun c735 => absurd (rfl) c735)
    refine R_iload (pc := 740) C dL_law_740 rfl ?_
    refine R_if_ne (pc := 742) C dL_law_742 (tgt := 757) (by decide) (fun c742 => absurd c742 (fun q => q rfl)) (fun c742 => ?_)
    refine R_aload_n (pc := 745) C dL_law_745 rfl ?_
    refine R_iconst (pc := 746) C dL_law_746 (v := 0) (by decide) ?_
    refine R_lald (pc := 747) C dL_law_747 (wm_g) rfl (by decide) (by decide) (if_pos rfl) ?_
    refine R_iload (pc := 748) C dL_law_748 rfl ?_
    refine R_i2l (pc := 750) C dL_law_750 ?_
    refine R_lcmp (pc := 751) C dL_law_751 ?_
    refine R_if_eq (pc := 752) C dL_law_752 (tgt := 757) (by decide) (fun c752 => ?_) (fun c752 => absurd (cmp0 _) c752)
    refine R_goto (pc := 757) C dL_law_757 (tgt := 1220) (by decide) ?_
    refine WR.wid (show _ ≤ k + 14 by omega) (show _ ≤ s9 + 116 by omega) ?_
    exact WR.ls (ls_s (ls_s (ls_s (ls_s (ls_s (ls_n (ls_n ls_e))))))) (kk adr (fun _ _ _ => rfl) _ _ _ m9 _ (hI))
  · subst e9
    refine WR.imp (P' := Wd G (adr, (n, P, F), (n, P, F), mu, g)) (fun h e => e ▸ hw9) ?_
    show WR K G _ _ _ _ _ _ _ (.int _ :: _)
    refine R_istore (pc := 715) C dL_law_715 (Nat.le_of_ble_eq_true rfl) (lv' := [some (.ref _), some (.ref _), some (.ref _), some (.ref _), some (.int _), some (.int _), none]) rfl ?_
    refine R_aload_n (pc := 717) C dL_law_717 rfl ?_
    refine R_aload_n (pc := 718) C dL_law_718 rfl ?_
    refine R_iload (pc := 719) C dL_law_719 rfl ?_
    refine R_iconst (pc := 721) C dL_law_721 (v := 1) (by decide) ?_
    refine R_iadd (pc := 722) C dL_law_722 ?_
    rw [show nI i + 1 = nI (i + 1) from nI_add (a := i) (b := 1)]
    refine R_tial (pc := 723) C dL_law_723 hT rfl (by omega) hN rfl ?_
    refine R_callVN (pc := 724) C dL_law_724 (vs := [_]) (fun h hh => mX2_told hl hI.1 h hh) (isOb_of (wm0) rfl) ⟨k_29_10, k_29_11, k_29_12, k_1_5, k_29_13⟩ (sgn (nv := 1) rfl ⟨by decide +kernel, by decide +kernel, by decide +kernel⟩) ⟨⟨by omega, by omega⟩, ⟨by omega, by omega⟩, Nat.le_of_ble_eq_true rfl⟩ rfl rfl (fun h8 hh8 v8 => ?_)
    refine WR.all (fun h2 hh2 => ?_)
    obtain ⟨-, ⟨r8, e8⟩, m9, hm9, hw8⟩ := hh2.resolve_left (fun z => hk9 z.1)
    subst e8
    refine WR.imp (P' := Wd G (adr, (n, P, F), (n, P, F), m9, g)) (fun h e => e ▸ hw8) ?_
    show WR K G _ _ _ _ _ _ _ (.int _ :: _)
    refine R_istore (pc := 727) C dL_law_727 (Nat.le_of_ble_eq_true rfl) (lv' := [some (.ref _), some (.ref _), some (.ref _), some (.ref _), some (.int _), some (.int _), some (.int _)]) rfl ?_
    refine R_aload_n (pc := 729) C dL_law_729 rfl ?_
    refine R_callVN (pc := 730) C dL_law_730 (vs := []) (fun h hh => mX2_thrown hl h hh) (isOb_of (wm0) rfl) ⟨k_18_3, k_18_4, k_18_5, k_1_5, k_18_6⟩ (sgn (nv := 0) rfl ⟨by decide +kernel, by decide +kernel, by decide +kernel⟩) ⟨⟨by omega, by omega⟩, ⟨by omega, by omega⟩, Nat.le_of_ble_eq_true rfl⟩ rfl rfl (fun h7 hh7 v7 => ?_)
    refine WR.pr (fun e7 => ?_)
    subst e7
    rw [hm9]
    show WR K G _ _ _ _ _ _ _ (.int _ :: _)
    refine R_iload (pc := 733) C dL_law_733 rfl ?_
    refine R_icmp_eq (pc := 735) C dL_law_735 (tgt := 740) (by decide) (fun c735 => ?_) (fun c735 => absurd (rfl) c735)
    refine R_iload (pc := 740) C dL_law_740 rfl ?_
    refine R_if_ne (pc := 742) C dL_law_742 (tgt := 757) (by decide) (fun _ => ?_) (fun c => absurd c hk9)
    refine R_goto (pc := 757) C dL_law_757 (tgt := 1220) (by decide) ?_
    refine WR.wid (show _ ≤ k + 14 by omega) (show _ ≤ s9 + 116 by omega) ?_
    exact WR.ls (ls_s (ls_s (ls_s (ls_s (ls_s (ls_n (ls_n ls_e))))))) (kk adr (fun _ _ _ => rfl) _ _ _ m9 _ hI)
set_option maxHeartbeats 4000000 in
set_option maxRecDepth 100000 in
theorem sg_bank (hl : K.l.stackTraces = false) (C : CX K G A RL cL_law 7 rt rm tb) (hT : va_T .int b N (fun j => .int (xs j)) A K.s K.s.heap) (hi : i + 6 < N) (hN : N < 2 ^ 31) (hI : Inv n P F) (hrm : (30 ≤ rm.frames ∧ 2000 ≤ rm.locals) ∧ k + 14 ≤ rm.cells ∧ s9 + 116 ≤ rm.slots)
    (kk : ∀ adr9 : Nat → Nat, (∀ x, x < 30 → x ≠ 2 → adr9 x = adr x) → ∀ (n9 P9 : Nat) (F9 m9 : Nat → Nat → Int32) (g9 : Nat → Int64), Inv n9 P9 F9 → WR K G A Q (Wd G (adr9, (n9, P9, F9), (n9, P9, F9), m9, g9)) [some (.ref b), some (.ref (adr 0)), some (.ref (adr 5)), some (.ref (adr 24)), some (.int (nI i)), none, none] (k + 14) (s9 + 116) 1220 []) : WR K G A Q (Wd G (adr, (n, P, F), (n, P, F), mu, g)) [some (.ref b), some (.ref (adr 0)), some (.ref (adr 5)), some (.ref (adr 24)), some (.int (nI i)), none, none] k s9 891 [] := by
  obtain ⟨⟨hr1, hr2⟩, hr3, hr4⟩ := hrm
  refine R_aload_n (pc := 891) C dL_law_891 rfl ?_
  refine R_aload_n (pc := 892) C dL_law_892 rfl ?_
  refine R_iload (pc := 893) C dL_law_893 rfl ?_
  refine R_iconst (pc := 895) C dL_law_895 (v := 1) (by decide) ?_
  refine R_iadd (pc := 896) C dL_law_896 ?_
  rw [show nI i + 1 = nI (i + 1) from nI_add (a := i) (b := 1)]
  refine R_tial (pc := 897) C dL_law_897 hT rfl (by omega) hN rfl ?_
  refine R_aload_n (pc := 898) C dL_law_898 rfl ?_
  refine R_callSW (pc := 899) C dL_law_899 (vs := [_, _, _]) (fun h hh => mL_bank hl hI.1 h hh) ⟨k_30_12, k_30_13, k_3_15, k_30_14⟩ (sgn (nv := 3) rfl ⟨by decide +kernel, by decide +kernel, by decide +kernel⟩) ⟨⟨by omega, by omega⟩, ⟨by omega, by omega⟩, Nat.le_of_ble_eq_true rfl⟩ rfl rfl (fun h9 hh9 v9 => ?_)
  refine WR.all (fun h1 hh1 => ?_)
  rcases hh1 with ⟨hk9, e9, hw9⟩ | ⟨hk9, e9, hw9⟩
  · subst e9
    refine WR.imp (P' := Wd G (adr, (n, P, F), (n, P, F), mu, vp_updL g 0 (F 9 (ix (xs (i + 1)))).toInt64)) (fun h e => e ▸ hw9) ?_
    show WR K G _ _ _ _ _ _ _ (.int _ :: _)
    refine R_istore (pc := 902) C dL_law_902 (Nat.le_of_ble_eq_true rfl) (lv' := [some (.ref _), some (.ref _), some (.ref _), some (.ref _), some (.int _), some (.int _), none]) rfl ?_
    refine R_aload_n (pc := 904) C dL_law_904 rfl ?_
    refine R_aload_n (pc := 905) C dL_law_905 rfl ?_
    refine R_iload (pc := 906) C dL_law_906 rfl ?_
    refine R_iconst (pc := 908) C dL_law_908 (v := 1) (by decide) ?_
    refine R_iadd (pc := 909) C dL_law_909 ?_
    rw [show nI i + 1 = nI (i + 1) from nI_add (a := i) (b := 1)]
    refine R_tial (pc := 910) C dL_law_910 hT rfl (by omega) hN rfl ?_
    refine R_callVN (pc := 911) C dL_law_911 (vs := [_]) (fun h hh => mX2_bank hl hI.1 h hh) (isOb_of (wm0) rfl) ⟨k_30_19, k_30_20, k_30_21, k_1_5, k_30_22⟩ (sgn (nv := 1) rfl ⟨by decide +kernel, by decide +kernel, by decide +kernel⟩) ⟨⟨by omega, by omega⟩, ⟨by omega, by omega⟩, Nat.le_of_ble_eq_true rfl⟩ rfl rfl (fun h8 hh8 v8 => ?_)
    refine WR.all (fun h2 hh2 => ?_)
    obtain ⟨-, e8, m9, hm9, hw8⟩ := hh2.resolve_right (fun z => z.1 hk9)
    subst e8
    refine WR.imp (P' := Wd G (adr, (n, P, F), (n, P, F), m9, vp_updL g 0 (F 9 (ix (xs (i + 1)))).toInt64)) (fun h e => e ▸ hw8) ?_
    show WR K G _ _ _ _ _ _ _ (.int _ :: _)
    refine R_istore (pc := 914) C dL_law_914 (Nat.le_of_ble_eq_true rfl) (lv' := [some (.ref _), some (.ref _), some (.ref _), some (.ref _), some (.int _), some (.int _), some (.int _)]) rfl ?_
    refine R_aload_n (pc := 916) C dL_law_916 rfl ?_
    refine R_callVN (pc := 917) C dL_law_917 (vs := []) (fun h hh => mX2_thrown hl h hh) (isOb_of (wm0) rfl) ⟨k_18_3, k_18_4, k_18_5, k_1_5, k_18_6⟩ (sgn (nv := 0) rfl ⟨by decide +kernel, by decide +kernel, by decide +kernel⟩) ⟨⟨by omega, by omega⟩, ⟨by omega, by omega⟩, Nat.le_of_ble_eq_true rfl⟩ rfl rfl (fun h7 hh7 v7 => ?_)
    refine WR.pr (fun e7 => ?_)
    subst e7
    rw [hm9]
    show WR K G _ _ _ _ _ _ _ (.int _ :: _)
    refine R_iload (pc := 920) C dL_law_920 rfl ?_
    refine R_icmp_eq (pc := 922) C dL_law_922 (tgt := 927) (by decide) (fun c922 => ?_) (fun c922 => absurd (rfl) c922)
    refine R_iload (pc := 927) C dL_law_927 rfl ?_
    refine R_if_ne (pc := 929) C dL_law_929 (tgt := 944) (by decide) (fun c929 => absurd c929 (fun q => q rfl)) (fun c929 => ?_)
    refine R_aload_n (pc := 932) C dL_law_932 rfl ?_
    refine R_iconst (pc := 933) C dL_law_933 (v := 0) (by decide) ?_
    refine R_lald (pc := 934) C dL_law_934 (wm_g) rfl (by decide) (by decide) (if_pos rfl) ?_
    refine R_iload (pc := 935) C dL_law_935 rfl ?_
    refine R_i2l (pc := 937) C dL_law_937 ?_
    refine R_lcmp (pc := 938) C dL_law_938 ?_
    refine R_if_eq (pc := 939) C dL_law_939 (tgt := 944) (by decide) (fun c939 => ?_) (fun c939 => absurd (cmp0 _) c939)
    refine R_goto (pc := 944) C dL_law_944 (tgt := 1220) (by decide) ?_
    refine WR.wid (show _ ≤ k + 14 by omega) (show _ ≤ s9 + 116 by omega) ?_
    exact WR.ls (ls_s (ls_s (ls_s (ls_s (ls_s (ls_n (ls_n ls_e))))))) (kk adr (fun _ _ _ => rfl) _ _ _ m9 _ (hI))
  · subst e9
    refine WR.imp (P' := Wd G (adr, (n, P, F), (n, P, F), mu, g)) (fun h e => e ▸ hw9) ?_
    show WR K G _ _ _ _ _ _ _ (.int _ :: _)
    refine R_istore (pc := 902) C dL_law_902 (Nat.le_of_ble_eq_true rfl) (lv' := [some (.ref _), some (.ref _), some (.ref _), some (.ref _), some (.int _), some (.int _), none]) rfl ?_
    refine R_aload_n (pc := 904) C dL_law_904 rfl ?_
    refine R_aload_n (pc := 905) C dL_law_905 rfl ?_
    refine R_iload (pc := 906) C dL_law_906 rfl ?_
    refine R_iconst (pc := 908) C dL_law_908 (v := 1) (by decide) ?_
    refine R_iadd (pc := 909) C dL_law_909 ?_
    rw [show nI i + 1 = nI (i + 1) from nI_add (a := i) (b := 1)]
    refine R_tial (pc := 910) C dL_law_910 hT rfl (by omega) hN rfl ?_
    refine R_callVN (pc := 911) C dL_law_911 (vs := [_]) (fun h hh => mX2_bank hl hI.1 h hh) (isOb_of (wm0) rfl) ⟨k_30_19, k_30_20, k_30_21, k_1_5, k_30_22⟩ (sgn (nv := 1) rfl ⟨by decide +kernel, by decide +kernel, by decide +kernel⟩) ⟨⟨by omega, by omega⟩, ⟨by omega, by omega⟩, Nat.le_of_ble_eq_true rfl⟩ rfl rfl (fun h8 hh8 v8 => ?_)
    refine WR.all (fun h2 hh2 => ?_)
    obtain ⟨-, ⟨r8, e8⟩, m9, hm9, hw8⟩ := hh2.resolve_left (fun z => hk9 z.1)
    subst e8
    refine WR.imp (P' := Wd G (adr, (n, P, F), (n, P, F), m9, g)) (fun h e => e ▸ hw8) ?_
    show WR K G _ _ _ _ _ _ _ (.int _ :: _)
    refine R_istore (pc := 914) C dL_law_914 (Nat.le_of_ble_eq_true rfl) (lv' := [some (.ref _), some (.ref _), some (.ref _), some (.ref _), some (.int _), some (.int _), some (.int _)]) rfl ?_
    refine R_aload_n (pc := 916) C dL_law_916 rfl ?_
    refine R_callVN (pc := 917) C dL_law_917 (vs := []) (fun h hh => mX2_thrown hl h hh) (isOb_of (wm0) rfl) ⟨k_18_3, k_18_4, k_18_5, k_1_5, k_18_6⟩ (sgn (nv := 0) rfl ⟨by decide +kernel, by decide +kernel, by decide +kernel⟩) ⟨⟨by omega, by omega⟩, ⟨by omega, by omega⟩, Nat.le_of_ble_eq_true rfl⟩ rfl rfl (fun h7 hh7 v7 => ?_)
    refine WR.pr (fun e7 => ?_)
    subst e7
    rw [hm9]
    show WR K G _ _ _ _ _ _ _ (.int _ :: _)
    refine R_iload (pc := 920) C dL_law_920 rfl ?_
    refine R_icmp_eq (pc := 922) C dL_law_922 (tgt := 927) (by decide) (fun c922 => ?_) (fun c922 => absurd (rfl) c922)
    refine R_iload (pc := 927) C dL_law_927 rfl ?_
    refine R_if_ne (pc := 929) C dL_law_929 (tgt := 944) (by decide) (fun _ => ?_) (fun c => absurd c hk9)
    refine R_goto (pc := 944) C dL_law_944 (tgt := 1220) (by decide) ?_
    refine WR.wid (show _ ≤ k + 14 by omega) (show _ ≤ s9 + 116 by omega) ?_
    exact WR.ls (ls_s (ls_s (ls_s (ls_s (ls_s (ls_n (ls_n ls_e))))))) (kk adr (fun _ _ _ => rfl) _ _ _ m9 _ hI)
set_option maxHeartbeats 4000000 in
set_option maxRecDepth 100000 in
theorem sg_fines (hl : K.l.stackTraces = false) (C : CX K G A RL cL_law 7 rt rm tb) (hT : va_T .int b N (fun j => .int (xs j)) A K.s K.s.heap) (hi : i + 6 < N) (hN : N < 2 ^ 31) (hI : Inv n P F) (hrm : (30 ≤ rm.frames ∧ 2000 ≤ rm.locals) ∧ k + 14 ≤ rm.cells ∧ s9 + 116 ≤ rm.slots)
    (kk : ∀ adr9 : Nat → Nat, (∀ x, x < 30 → x ≠ 2 → adr9 x = adr x) → ∀ (n9 P9 : Nat) (F9 m9 : Nat → Nat → Int32) (g9 : Nat → Int64), Inv n9 P9 F9 → WR K G A Q (Wd G (adr9, (n9, P9, F9), (n9, P9, F9), m9, g9)) [some (.ref b), some (.ref (adr 0)), some (.ref (adr 5)), some (.ref (adr 24)), some (.int (nI i)), none, none] (k + 14) (s9 + 116) 1220 []) : WR K G A Q (Wd G (adr, (n, P, F), (n, P, F), mu, g)) [some (.ref b), some (.ref (adr 0)), some (.ref (adr 5)), some (.ref (adr 24)), some (.int (nI i)), none, none] k s9 1095 [] := by
  obtain ⟨⟨hr1, hr2⟩, hr3, hr4⟩ := hrm
  refine R_aload_n (pc := 1095) C dL_law_1095 rfl ?_
  refine R_aload_n (pc := 1096) C dL_law_1096 rfl ?_
  refine R_iload (pc := 1097) C dL_law_1097 rfl ?_
  refine R_iconst (pc := 1099) C dL_law_1099 (v := 1) (by decide) ?_
  refine R_iadd (pc := 1100) C dL_law_1100 ?_
  rw [show nI i + 1 = nI (i + 1) from nI_add (a := i) (b := 1)]
  refine R_tial (pc := 1101) C dL_law_1101 hT rfl (by omega) hN rfl ?_
  refine R_aload_n (pc := 1102) C dL_law_1102 rfl ?_
  refine R_callSW (pc := 1103) C dL_law_1103 (vs := [_, _, _]) (fun h hh => mL_fines hl hI.1 h hh) ⟨k_32_1, k_32_2, k_3_15, k_32_3⟩ (sgn (nv := 3) rfl ⟨by decide +kernel, by decide +kernel, by decide +kernel⟩) ⟨⟨by omega, by omega⟩, ⟨by omega, by omega⟩, Nat.le_of_ble_eq_true rfl⟩ rfl rfl (fun h9 hh9 v9 => ?_)
  refine WR.all (fun h1 hh1 => ?_)
  rcases hh1 with ⟨hk9, e9, hw9⟩ | ⟨hk9, e9, hw9⟩
  · subst e9
    refine WR.imp (P' := Wd G (adr, (n, P, F), (n, P, F), mu, vp_updL g 0 (F 10 (ix (xs (i + 1)))).toInt64)) (fun h e => e ▸ hw9) ?_
    show WR K G _ _ _ _ _ _ _ (.int _ :: _)
    refine R_istore (pc := 1106) C dL_law_1106 (Nat.le_of_ble_eq_true rfl) (lv' := [some (.ref _), some (.ref _), some (.ref _), some (.ref _), some (.int _), some (.int _), none]) rfl ?_
    refine R_aload_n (pc := 1108) C dL_law_1108 rfl ?_
    refine R_aload_n (pc := 1109) C dL_law_1109 rfl ?_
    refine R_iload (pc := 1110) C dL_law_1110 rfl ?_
    refine R_iconst (pc := 1112) C dL_law_1112 (v := 1) (by decide) ?_
    refine R_iadd (pc := 1113) C dL_law_1113 ?_
    rw [show nI i + 1 = nI (i + 1) from nI_add (a := i) (b := 1)]
    refine R_tial (pc := 1114) C dL_law_1114 hT rfl (by omega) hN rfl ?_
    refine R_callVN (pc := 1115) C dL_law_1115 (vs := [_]) (fun h hh => mX2_fines hl hI.1 h hh) (isOb_of (wm0) rfl) ⟨k_32_8, k_32_9, k_32_10, k_1_5, k_32_11⟩ (sgn (nv := 1) rfl ⟨by decide +kernel, by decide +kernel, by decide +kernel⟩) ⟨⟨by omega, by omega⟩, ⟨by omega, by omega⟩, Nat.le_of_ble_eq_true rfl⟩ rfl rfl (fun h8 hh8 v8 => ?_)
    refine WR.all (fun h2 hh2 => ?_)
    obtain ⟨-, e8, m9, hm9, hw8⟩ := hh2.resolve_right (fun z => z.1 hk9)
    subst e8
    refine WR.imp (P' := Wd G (adr, (n, P, F), (n, P, F), m9, vp_updL g 0 (F 10 (ix (xs (i + 1)))).toInt64)) (fun h e => e ▸ hw8) ?_
    show WR K G _ _ _ _ _ _ _ (.int _ :: _)
    refine R_istore (pc := 1118) C dL_law_1118 (Nat.le_of_ble_eq_true rfl) (lv' := [some (.ref _), some (.ref _), some (.ref _), some (.ref _), some (.int _), some (.int _), some (.int _)]) rfl ?_
    refine R_aload_n (pc := 1120) C dL_law_1120 rfl ?_
    refine R_callVN (pc := 1121) C dL_law_1121 (vs := []) (fun h hh => mX2_thrown hl h hh) (isOb_of (wm0) rfl) ⟨k_18_3, k_18_4, k_18_5, k_1_5, k_18_6⟩ (sgn (nv := 0) rfl ⟨by decide +kernel, by decide +kernel, by decide +kernel⟩) ⟨⟨by omega, by omega⟩, ⟨by omega, by omega⟩, Nat.le_of_ble_eq_true rfl⟩ rfl rfl (fun h7 hh7 v7 => ?_)
    refine WR.pr (fun e7 => ?_)
    subst e7
    rw [hm9]
    show WR K G _ _ _ _ _ _ _ (.int _ :: _)
    refine R_iload (pc := 1124) C dL_law_1124 rfl ?_
    refine R_icmp_eq (pc := 1126) C dL_law_1126 (tgt := 1131) (by decide) (fun c1126 => ?_) (fun c1126 => absurd (rfl) c1126)
    refine R_iload (pc := 1131) C dL_law_1131 rfl ?_
    refine R_if_ne (pc := 1133) C dL_law_1133 (tgt := 1148) (by decide) (fun c1133 => absurd c1133 (fun q => q rfl)) (fun c1133 => ?_)
    refine R_aload_n (pc := 1136) C dL_law_1136 rfl ?_
    refine R_iconst (pc := 1137) C dL_law_1137 (v := 0) (by decide) ?_
    refine R_lald (pc := 1138) C dL_law_1138 (wm_g) rfl (by decide) (by decide) (if_pos rfl) ?_
    refine R_iload (pc := 1139) C dL_law_1139 rfl ?_
    refine R_i2l (pc := 1141) C dL_law_1141 ?_
    refine R_lcmp (pc := 1142) C dL_law_1142 ?_
    refine R_if_eq (pc := 1143) C dL_law_1143 (tgt := 1148) (by decide) (fun c1143 => ?_) (fun c1143 => absurd (cmp0 _) c1143)
    refine R_goto (pc := 1148) C dL_law_1148 (tgt := 1220) (by decide) ?_
    refine WR.wid (show _ ≤ k + 14 by omega) (show _ ≤ s9 + 116 by omega) ?_
    exact WR.ls (ls_s (ls_s (ls_s (ls_s (ls_s (ls_n (ls_n ls_e))))))) (kk adr (fun _ _ _ => rfl) _ _ _ m9 _ (hI))
  · subst e9
    refine WR.imp (P' := Wd G (adr, (n, P, F), (n, P, F), mu, g)) (fun h e => e ▸ hw9) ?_
    show WR K G _ _ _ _ _ _ _ (.int _ :: _)
    refine R_istore (pc := 1106) C dL_law_1106 (Nat.le_of_ble_eq_true rfl) (lv' := [some (.ref _), some (.ref _), some (.ref _), some (.ref _), some (.int _), some (.int _), none]) rfl ?_
    refine R_aload_n (pc := 1108) C dL_law_1108 rfl ?_
    refine R_aload_n (pc := 1109) C dL_law_1109 rfl ?_
    refine R_iload (pc := 1110) C dL_law_1110 rfl ?_
    refine R_iconst (pc := 1112) C dL_law_1112 (v := 1) (by decide) ?_
    refine R_iadd (pc := 1113) C dL_law_1113 ?_
    rw [show nI i + 1 = nI (i + 1) from nI_add (a := i) (b := 1)]
    refine R_tial (pc := 1114) C dL_law_1114 hT rfl (by omega) hN rfl ?_
    refine R_callVN (pc := 1115) C dL_law_1115 (vs := [_]) (fun h hh => mX2_fines hl hI.1 h hh) (isOb_of (wm0) rfl) ⟨k_32_8, k_32_9, k_32_10, k_1_5, k_32_11⟩ (sgn (nv := 1) rfl ⟨by decide +kernel, by decide +kernel, by decide +kernel⟩) ⟨⟨by omega, by omega⟩, ⟨by omega, by omega⟩, Nat.le_of_ble_eq_true rfl⟩ rfl rfl (fun h8 hh8 v8 => ?_)
    refine WR.all (fun h2 hh2 => ?_)
    obtain ⟨-, ⟨r8, e8⟩, m9, hm9, hw8⟩ := hh2.resolve_left (fun z => hk9 z.1)
    subst e8
    refine WR.imp (P' := Wd G (adr, (n, P, F), (n, P, F), m9, g)) (fun h e => e ▸ hw8) ?_
    show WR K G _ _ _ _ _ _ _ (.int _ :: _)
    refine R_istore (pc := 1118) C dL_law_1118 (Nat.le_of_ble_eq_true rfl) (lv' := [some (.ref _), some (.ref _), some (.ref _), some (.ref _), some (.int _), some (.int _), some (.int _)]) rfl ?_
    refine R_aload_n (pc := 1120) C dL_law_1120 rfl ?_
    refine R_callVN (pc := 1121) C dL_law_1121 (vs := []) (fun h hh => mX2_thrown hl h hh) (isOb_of (wm0) rfl) ⟨k_18_3, k_18_4, k_18_5, k_1_5, k_18_6⟩ (sgn (nv := 0) rfl ⟨by decide +kernel, by decide +kernel, by decide +kernel⟩) ⟨⟨by omega, by omega⟩, ⟨by omega, by omega⟩, Nat.le_of_ble_eq_true rfl⟩ rfl rfl (fun h7 hh7 v7 => ?_)
    refine WR.pr (fun e7 => ?_)
    subst e7
    rw [hm9]
    show WR K G _ _ _ _ _ _ _ (.int _ :: _)
    refine R_iload (pc := 1124) C dL_law_1124 rfl ?_
    refine R_icmp_eq (pc := 1126) C dL_law_1126 (tgt := 1131) (by decide) (fun c1126 => ?_) (fun c1126 => absurd (rfl) c1126)
    refine R_iload (pc := 1131) C dL_law_1131 rfl ?_
    refine R_if_ne (pc := 1133) C dL_law_1133 (tgt := 1148) (by decide) (fun _ => ?_) (fun c => absurd c hk9)
    refine R_goto (pc := 1148) C dL_law_1148 (tgt := 1220) (by decide) ?_
    refine WR.wid (show _ ≤ k + 14 by omega) (show _ ≤ s9 + 116 by omega) ?_
    exact WR.ls (ls_s (ls_s (ls_s (ls_s (ls_s (ls_n (ls_n ls_e))))))) (kk adr (fun _ _ _ => rfl) _ _ _ m9 _ hI)
set_option maxHeartbeats 4000000 in
set_option maxRecDepth 100000 in
theorem sg_plan (hl : K.l.stackTraces = false) (C : CX K G A RL cL_law 7 rt rm tb) (hT : va_T .int b N (fun j => .int (xs j)) A K.s K.s.heap) (hi : i + 6 < N) (hN : N < 2 ^ 31) (hI : Inv n P F) (hrm : (30 ≤ rm.frames ∧ 2000 ≤ rm.locals) ∧ k + 14 ≤ rm.cells ∧ s9 + 116 ≤ rm.slots)
    (kk : ∀ adr9 : Nat → Nat, (∀ x, x < 30 → x ≠ 2 → adr9 x = adr x) → ∀ (n9 P9 : Nat) (F9 m9 : Nat → Nat → Int32) (g9 : Nat → Int64), Inv n9 P9 F9 → WR K G A Q (Wd G (adr9, (n9, P9, F9), (n9, P9, F9), m9, g9)) [some (.ref b), some (.ref (adr 0)), some (.ref (adr 5)), some (.ref (adr 24)), some (.int (nI i)), none, none] (k + 14) (s9 + 116) 1220 []) : WR K G A Q (Wd G (adr, (n, P, F), (n, P, F), mu, g)) [some (.ref b), some (.ref (adr 0)), some (.ref (adr 5)), some (.ref (adr 24)), some (.int (nI i)), none, none] k s9 250 [] := by
  obtain ⟨⟨hr1, hr2⟩, hr3, hr4⟩ := hrm
  refine R_aload_n (pc := 250) C dL_law_250 rfl ?_
  refine R_aload_n (pc := 251) C dL_law_251 rfl ?_
  refine R_iload (pc := 252) C dL_law_252 rfl ?_
  refine R_iconst (pc := 254) C dL_law_254 (v := 1) (by decide) ?_
  refine R_iadd (pc := 255) C dL_law_255 ?_
  rw [show nI i + 1 = nI (i + 1) from nI_add (a := i) (b := 1)]
  refine R_tial (pc := 256) C dL_law_256 hT rfl (by omega) hN rfl ?_
  refine R_aload_n (pc := 257) C dL_law_257 rfl ?_
  refine R_iload (pc := 258) C dL_law_258 rfl ?_
  refine R_iconst (pc := 260) C dL_law_260 (v := 2) (by decide) ?_
  refine R_iadd (pc := 261) C dL_law_261 ?_
  rw [show nI i + 2 = nI (i + 2) from nI_add (a := i) (b := 2)]
  refine R_tial (pc := 262) C dL_law_262 hT rfl (by omega) hN rfl ?_
  refine R_aload_n (pc := 263) C dL_law_263 rfl ?_
  refine R_callSW (pc := 264) C dL_law_264 (vs := [_, _, _, _]) (fun h hh => mL_plan hl hI.1 h hh) ⟨k_18_7, k_18_8, k_3_15, k_18_9⟩ (sgn (nv := 4) rfl ⟨by decide +kernel, by decide +kernel, by decide +kernel⟩) ⟨⟨by omega, by omega⟩, ⟨by omega, by omega⟩, Nat.le_of_ble_eq_true rfl⟩ rfl rfl (fun h9 hh9 v9 => ?_)
  refine WR.all (fun h1 hh1 => ?_)
  rcases hh1 with ⟨hk9, e9, hw9⟩ | ⟨hk9, e9, hw9⟩
  · subst e9
    refine WR.imp (P' := Wd G (adr, (n, P, su F 6 (ix (xs (i + 1))) (xs (i + 2))), (n, P, F), mu, vp_updL g 0 (F 6 (ix (xs (i + 1)))).toInt64)) (fun h e => e ▸ hw9) ?_
    show WR K G _ _ _ _ _ _ _ (.int _ :: _)
    refine R_istore (pc := 267) C dL_law_267 (Nat.le_of_ble_eq_true rfl) (lv' := [some (.ref _), some (.ref _), some (.ref _), some (.ref _), some (.int _), some (.int _), none]) rfl ?_
    refine R_aload_n (pc := 269) C dL_law_269 rfl ?_
    refine R_aload_n (pc := 270) C dL_law_270 rfl ?_
    refine R_iload (pc := 271) C dL_law_271 rfl ?_
    refine R_iconst (pc := 273) C dL_law_273 (v := 1) (by decide) ?_
    refine R_iadd (pc := 274) C dL_law_274 ?_
    rw [show nI i + 1 = nI (i + 1) from nI_add (a := i) (b := 1)]
    refine R_tial (pc := 275) C dL_law_275 hT rfl (by omega) hN rfl ?_
    refine R_aload_n (pc := 276) C dL_law_276 rfl ?_
    refine R_iload (pc := 277) C dL_law_277 rfl ?_
    refine R_iconst (pc := 279) C dL_law_279 (v := 2) (by decide) ?_
    refine R_iadd (pc := 280) C dL_law_280 ?_
    rw [show nI i + 2 = nI (i + 2) from nI_add (a := i) (b := 2)]
    refine R_tial (pc := 281) C dL_law_281 hT rfl (by omega) hN rfl ?_
    refine R_callVN (pc := 282) C dL_law_282 (vs := [_, _]) (fun h hh => mX2_plan hl hI.1 h hh) (isOb_of (wm0) rfl) ⟨k_19_9, k_19_10, k_19_11, k_1_5, k_19_12⟩ (sgn (nv := 2) rfl ⟨by decide +kernel, by decide +kernel, by decide +kernel⟩) ⟨⟨by omega, by omega⟩, ⟨by omega, by omega⟩, Nat.le_of_ble_eq_true rfl⟩ rfl rfl (fun h8 hh8 v8 => ?_)
    refine WR.all (fun h2 hh2 => ?_)
    obtain ⟨-, e8, m9, hm9, hw8⟩ := hh2.resolve_right (fun z => z.1 hk9)
    subst e8
    refine WR.imp (P' := Wd G (adr, (n, P, su F 6 (ix (xs (i + 1))) (xs (i + 2))), (n, P, su F 6 (ix (xs (i + 1))) (xs (i + 2))), m9, vp_updL g 0 (F 6 (ix (xs (i + 1)))).toInt64)) (fun h e => e ▸ hw8) ?_
    show WR K G _ _ _ _ _ _ _ (.int _ :: _)
    refine R_istore (pc := 285) C dL_law_285 (Nat.le_of_ble_eq_true rfl) (lv' := [some (.ref _), some (.ref _), some (.ref _), some (.ref _), some (.int _), some (.int _), some (.int _)]) rfl ?_
    refine R_aload_n (pc := 287) C dL_law_287 rfl ?_
    refine R_callVN (pc := 288) C dL_law_288 (vs := []) (fun h hh => mX2_thrown hl h hh) (isOb_of (wm0) rfl) ⟨k_18_3, k_18_4, k_18_5, k_1_5, k_18_6⟩ (sgn (nv := 0) rfl ⟨by decide +kernel, by decide +kernel, by decide +kernel⟩) ⟨⟨by omega, by omega⟩, ⟨by omega, by omega⟩, Nat.le_of_ble_eq_true rfl⟩ rfl rfl (fun h7 hh7 v7 => ?_)
    refine WR.pr (fun e7 => ?_)
    subst e7
    rw [hm9]
    show WR K G _ _ _ _ _ _ _ (.int _ :: _)
    refine R_iload (pc := 291) C dL_law_291 rfl ?_
    refine R_icmp_eq (pc := 293) C dL_law_293 (tgt := 298) (by decide) (fun c293 => ?_) (fun c293 => absurd (rfl) c293)
    refine R_iload (pc := 298) C dL_law_298 rfl ?_
    refine R_if_ne (pc := 300) C dL_law_300 (tgt := 315) (by decide) (fun c300 => absurd c300 (fun q => q rfl)) (fun c300 => ?_)
    refine R_aload_n (pc := 303) C dL_law_303 rfl ?_
    refine R_iconst (pc := 304) C dL_law_304 (v := 0) (by decide) ?_
    refine R_lald (pc := 305) C dL_law_305 (wm_g) rfl (by decide) (by decide) (if_pos rfl) ?_
    refine R_iload (pc := 306) C dL_law_306 rfl ?_
    refine R_i2l (pc := 308) C dL_law_308 ?_
    refine R_lcmp (pc := 309) C dL_law_309 ?_
    refine R_if_eq (pc := 310) C dL_law_310 (tgt := 315) (by decide) (fun c310 => ?_) (fun c310 => absurd (cmp0 _) c310)
    refine R_goto (pc := 315) C dL_law_315 (tgt := 1220) (by decide) ?_
    refine WR.wid (show _ ≤ k + 14 by omega) (show _ ≤ s9 + 116 by omega) ?_
    exact WR.ls (ls_s (ls_s (ls_s (ls_s (ls_s (ls_n (ls_n ls_e))))))) (kk adr (fun _ _ _ => rfl) _ _ _ m9 _ (inv_plan hI hk9))
  · subst e9
    refine WR.imp (P' := Wd G (adr, (n, P, F), (n, P, F), mu, g)) (fun h e => e ▸ hw9) ?_
    show WR K G _ _ _ _ _ _ _ (.int _ :: _)
    refine R_istore (pc := 267) C dL_law_267 (Nat.le_of_ble_eq_true rfl) (lv' := [some (.ref _), some (.ref _), some (.ref _), some (.ref _), some (.int _), some (.int _), none]) rfl ?_
    refine R_aload_n (pc := 269) C dL_law_269 rfl ?_
    refine R_aload_n (pc := 270) C dL_law_270 rfl ?_
    refine R_iload (pc := 271) C dL_law_271 rfl ?_
    refine R_iconst (pc := 273) C dL_law_273 (v := 1) (by decide) ?_
    refine R_iadd (pc := 274) C dL_law_274 ?_
    rw [show nI i + 1 = nI (i + 1) from nI_add (a := i) (b := 1)]
    refine R_tial (pc := 275) C dL_law_275 hT rfl (by omega) hN rfl ?_
    refine R_aload_n (pc := 276) C dL_law_276 rfl ?_
    refine R_iload (pc := 277) C dL_law_277 rfl ?_
    refine R_iconst (pc := 279) C dL_law_279 (v := 2) (by decide) ?_
    refine R_iadd (pc := 280) C dL_law_280 ?_
    rw [show nI i + 2 = nI (i + 2) from nI_add (a := i) (b := 2)]
    refine R_tial (pc := 281) C dL_law_281 hT rfl (by omega) hN rfl ?_
    refine R_callVN (pc := 282) C dL_law_282 (vs := [_, _]) (fun h hh => mX2_plan hl hI.1 h hh) (isOb_of (wm0) rfl) ⟨k_19_9, k_19_10, k_19_11, k_1_5, k_19_12⟩ (sgn (nv := 2) rfl ⟨by decide +kernel, by decide +kernel, by decide +kernel⟩) ⟨⟨by omega, by omega⟩, ⟨by omega, by omega⟩, Nat.le_of_ble_eq_true rfl⟩ rfl rfl (fun h8 hh8 v8 => ?_)
    refine WR.all (fun h2 hh2 => ?_)
    obtain ⟨-, ⟨r8, e8⟩, m9, hm9, hw8⟩ := hh2.resolve_left (fun z => hk9 z.1)
    subst e8
    refine WR.imp (P' := Wd G (adr, (n, P, F), (n, P, F), m9, g)) (fun h e => e ▸ hw8) ?_
    show WR K G _ _ _ _ _ _ _ (.int _ :: _)
    refine R_istore (pc := 285) C dL_law_285 (Nat.le_of_ble_eq_true rfl) (lv' := [some (.ref _), some (.ref _), some (.ref _), some (.ref _), some (.int _), some (.int _), some (.int _)]) rfl ?_
    refine R_aload_n (pc := 287) C dL_law_287 rfl ?_
    refine R_callVN (pc := 288) C dL_law_288 (vs := []) (fun h hh => mX2_thrown hl h hh) (isOb_of (wm0) rfl) ⟨k_18_3, k_18_4, k_18_5, k_1_5, k_18_6⟩ (sgn (nv := 0) rfl ⟨by decide +kernel, by decide +kernel, by decide +kernel⟩) ⟨⟨by omega, by omega⟩, ⟨by omega, by omega⟩, Nat.le_of_ble_eq_true rfl⟩ rfl rfl (fun h7 hh7 v7 => ?_)
    refine WR.pr (fun e7 => ?_)
    subst e7
    rw [hm9]
    show WR K G _ _ _ _ _ _ _ (.int _ :: _)
    refine R_iload (pc := 291) C dL_law_291 rfl ?_
    refine R_icmp_eq (pc := 293) C dL_law_293 (tgt := 298) (by decide) (fun c293 => ?_) (fun c293 => absurd (rfl) c293)
    refine R_iload (pc := 298) C dL_law_298 rfl ?_
    refine R_if_ne (pc := 300) C dL_law_300 (tgt := 315) (by decide) (fun _ => ?_) (fun c => absurd c hk9)
    refine R_goto (pc := 315) C dL_law_315 (tgt := 1220) (by decide) ?_
    refine WR.wid (show _ ≤ k + 14 by omega) (show _ ≤ s9 + 116 by omega) ?_
    exact WR.ls (ls_s (ls_s (ls_s (ls_s (ls_s (ls_n (ls_n ls_e))))))) (kk adr (fun _ _ _ => rfl) _ _ _ m9 _ hI)
set_option maxHeartbeats 4000000 in
set_option maxRecDepth 100000 in
theorem sg_power (hl : K.l.stackTraces = false) (C : CX K G A RL cL_law 7 rt rm tb) (hT : va_T .int b N (fun j => .int (xs j)) A K.s K.s.heap) (hi : i + 6 < N) (hN : N < 2 ^ 31) (hI : Inv n P F) (hrm : (30 ≤ rm.frames ∧ 2000 ≤ rm.locals) ∧ k + 14 ≤ rm.cells ∧ s9 + 116 ≤ rm.slots)
    (kk : ∀ adr9 : Nat → Nat, (∀ x, x < 30 → x ≠ 2 → adr9 x = adr x) → ∀ (n9 P9 : Nat) (F9 m9 : Nat → Nat → Int32) (g9 : Nat → Int64), Inv n9 P9 F9 → WR K G A Q (Wd G (adr9, (n9, P9, F9), (n9, P9, F9), m9, g9)) [some (.ref b), some (.ref (adr 0)), some (.ref (adr 5)), some (.ref (adr 24)), some (.int (nI i)), none, none] (k + 14) (s9 + 116) 1220 []) : WR K G A Q (Wd G (adr, (n, P, F), (n, P, F), mu, g)) [some (.ref b), some (.ref (adr 0)), some (.ref (adr 5)), some (.ref (adr 24)), some (.int (nI i)), none, none] k s9 823 [] := by
  obtain ⟨⟨hr1, hr2⟩, hr3, hr4⟩ := hrm
  refine R_aload_n (pc := 823) C dL_law_823 rfl ?_
  refine R_aload_n (pc := 824) C dL_law_824 rfl ?_
  refine R_iload (pc := 825) C dL_law_825 rfl ?_
  refine R_iconst (pc := 827) C dL_law_827 (v := 1) (by decide) ?_
  refine R_iadd (pc := 828) C dL_law_828 ?_
  rw [show nI i + 1 = nI (i + 1) from nI_add (a := i) (b := 1)]
  refine R_tial (pc := 829) C dL_law_829 hT rfl (by omega) hN rfl ?_
  refine R_aload_n (pc := 830) C dL_law_830 rfl ?_
  refine R_iload (pc := 831) C dL_law_831 rfl ?_
  refine R_iconst (pc := 833) C dL_law_833 (v := 2) (by decide) ?_
  refine R_iadd (pc := 834) C dL_law_834 ?_
  rw [show nI i + 2 = nI (i + 2) from nI_add (a := i) (b := 2)]
  refine R_tial (pc := 835) C dL_law_835 hT rfl (by omega) hN rfl ?_
  refine R_aload_n (pc := 836) C dL_law_836 rfl ?_
  refine R_callSW (pc := 837) C dL_law_837 (vs := [_, _, _, _]) (fun h hh => mL_power hl hI.1 h hh) ⟨k_30_1, k_30_2, k_3_15, k_30_3⟩ (sgn (nv := 4) rfl ⟨by decide +kernel, by decide +kernel, by decide +kernel⟩) ⟨⟨by omega, by omega⟩, ⟨by omega, by omega⟩, Nat.le_of_ble_eq_true rfl⟩ rfl rfl (fun h9 hh9 v9 => ?_)
  refine WR.all (fun h1 hh1 => ?_)
  rcases hh1 with ⟨hk9, e9, hw9⟩ | ⟨hk9, e9, hw9⟩
  · subst e9
    refine WR.imp (P' := Wd G (adr, (n, P, su F 8 (ix (xs (i + 1))) (xs (i + 2))), (n, P, F), mu, vp_updL g 0 (F 8 (ix (xs (i + 1)))).toInt64)) (fun h e => e ▸ hw9) ?_
    show WR K G _ _ _ _ _ _ _ (.int _ :: _)
    refine R_istore (pc := 840) C dL_law_840 (Nat.le_of_ble_eq_true rfl) (lv' := [some (.ref _), some (.ref _), some (.ref _), some (.ref _), some (.int _), some (.int _), none]) rfl ?_
    refine R_aload_n (pc := 842) C dL_law_842 rfl ?_
    refine R_aload_n (pc := 843) C dL_law_843 rfl ?_
    refine R_iload (pc := 844) C dL_law_844 rfl ?_
    refine R_iconst (pc := 846) C dL_law_846 (v := 1) (by decide) ?_
    refine R_iadd (pc := 847) C dL_law_847 ?_
    rw [show nI i + 1 = nI (i + 1) from nI_add (a := i) (b := 1)]
    refine R_tial (pc := 848) C dL_law_848 hT rfl (by omega) hN rfl ?_
    refine R_aload_n (pc := 849) C dL_law_849 rfl ?_
    refine R_iload (pc := 850) C dL_law_850 rfl ?_
    refine R_iconst (pc := 852) C dL_law_852 (v := 2) (by decide) ?_
    refine R_iadd (pc := 853) C dL_law_853 ?_
    rw [show nI i + 2 = nI (i + 2) from nI_add (a := i) (b := 2)]
    refine R_tial (pc := 854) C dL_law_854 hT rfl (by omega) hN rfl ?_
    refine R_callVN (pc := 855) C dL_law_855 (vs := [_, _]) (fun h hh => mX2_power hl hI.1 h hh) (isOb_of (wm0) rfl) ⟨k_30_8, k_30_9, k_30_10, k_1_5, k_30_11⟩ (sgn (nv := 2) rfl ⟨by decide +kernel, by decide +kernel, by decide +kernel⟩) ⟨⟨by omega, by omega⟩, ⟨by omega, by omega⟩, Nat.le_of_ble_eq_true rfl⟩ rfl rfl (fun h8 hh8 v8 => ?_)
    refine WR.all (fun h2 hh2 => ?_)
    obtain ⟨-, e8, m9, hm9, hw8⟩ := hh2.resolve_right (fun z => z.1 hk9)
    subst e8
    refine WR.imp (P' := Wd G (adr, (n, P, su F 8 (ix (xs (i + 1))) (xs (i + 2))), (n, P, su F 8 (ix (xs (i + 1))) (xs (i + 2))), m9, vp_updL g 0 (F 8 (ix (xs (i + 1)))).toInt64)) (fun h e => e ▸ hw8) ?_
    show WR K G _ _ _ _ _ _ _ (.int _ :: _)
    refine R_istore (pc := 858) C dL_law_858 (Nat.le_of_ble_eq_true rfl) (lv' := [some (.ref _), some (.ref _), some (.ref _), some (.ref _), some (.int _), some (.int _), some (.int _)]) rfl ?_
    refine R_aload_n (pc := 860) C dL_law_860 rfl ?_
    refine R_callVN (pc := 861) C dL_law_861 (vs := []) (fun h hh => mX2_thrown hl h hh) (isOb_of (wm0) rfl) ⟨k_18_3, k_18_4, k_18_5, k_1_5, k_18_6⟩ (sgn (nv := 0) rfl ⟨by decide +kernel, by decide +kernel, by decide +kernel⟩) ⟨⟨by omega, by omega⟩, ⟨by omega, by omega⟩, Nat.le_of_ble_eq_true rfl⟩ rfl rfl (fun h7 hh7 v7 => ?_)
    refine WR.pr (fun e7 => ?_)
    subst e7
    rw [hm9]
    show WR K G _ _ _ _ _ _ _ (.int _ :: _)
    refine R_iload (pc := 864) C dL_law_864 rfl ?_
    refine R_icmp_eq (pc := 866) C dL_law_866 (tgt := 871) (by decide) (fun c866 => ?_) (fun c866 => absurd (rfl) c866)
    refine R_iload (pc := 871) C dL_law_871 rfl ?_
    refine R_if_ne (pc := 873) C dL_law_873 (tgt := 888) (by decide) (fun c873 => absurd c873 (fun q => q rfl)) (fun c873 => ?_)
    refine R_aload_n (pc := 876) C dL_law_876 rfl ?_
    refine R_iconst (pc := 877) C dL_law_877 (v := 0) (by decide) ?_
    refine R_lald (pc := 878) C dL_law_878 (wm_g) rfl (by decide) (by decide) (if_pos rfl) ?_
    refine R_iload (pc := 879) C dL_law_879 rfl ?_
    refine R_i2l (pc := 881) C dL_law_881 ?_
    refine R_lcmp (pc := 882) C dL_law_882 ?_
    refine R_if_eq (pc := 883) C dL_law_883 (tgt := 888) (by decide) (fun c883 => ?_) (fun c883 => absurd (cmp0 _) c883)
    refine R_goto (pc := 888) C dL_law_888 (tgt := 1220) (by decide) ?_
    refine WR.wid (show _ ≤ k + 14 by omega) (show _ ≤ s9 + 116 by omega) ?_
    exact WR.ls (ls_s (ls_s (ls_s (ls_s (ls_s (ls_n (ls_n ls_e))))))) (kk adr (fun _ _ _ => rfl) _ _ _ m9 _ (inv_power hI hk9))
  · subst e9
    refine WR.imp (P' := Wd G (adr, (n, P, F), (n, P, F), mu, g)) (fun h e => e ▸ hw9) ?_
    show WR K G _ _ _ _ _ _ _ (.int _ :: _)
    refine R_istore (pc := 840) C dL_law_840 (Nat.le_of_ble_eq_true rfl) (lv' := [some (.ref _), some (.ref _), some (.ref _), some (.ref _), some (.int _), some (.int _), none]) rfl ?_
    refine R_aload_n (pc := 842) C dL_law_842 rfl ?_
    refine R_aload_n (pc := 843) C dL_law_843 rfl ?_
    refine R_iload (pc := 844) C dL_law_844 rfl ?_
    refine R_iconst (pc := 846) C dL_law_846 (v := 1) (by decide) ?_
    refine R_iadd (pc := 847) C dL_law_847 ?_
    rw [show nI i + 1 = nI (i + 1) from nI_add (a := i) (b := 1)]
    refine R_tial (pc := 848) C dL_law_848 hT rfl (by omega) hN rfl ?_
    refine R_aload_n (pc := 849) C dL_law_849 rfl ?_
    refine R_iload (pc := 850) C dL_law_850 rfl ?_
    refine R_iconst (pc := 852) C dL_law_852 (v := 2) (by decide) ?_
    refine R_iadd (pc := 853) C dL_law_853 ?_
    rw [show nI i + 2 = nI (i + 2) from nI_add (a := i) (b := 2)]
    refine R_tial (pc := 854) C dL_law_854 hT rfl (by omega) hN rfl ?_
    refine R_callVN (pc := 855) C dL_law_855 (vs := [_, _]) (fun h hh => mX2_power hl hI.1 h hh) (isOb_of (wm0) rfl) ⟨k_30_8, k_30_9, k_30_10, k_1_5, k_30_11⟩ (sgn (nv := 2) rfl ⟨by decide +kernel, by decide +kernel, by decide +kernel⟩) ⟨⟨by omega, by omega⟩, ⟨by omega, by omega⟩, Nat.le_of_ble_eq_true rfl⟩ rfl rfl (fun h8 hh8 v8 => ?_)
    refine WR.all (fun h2 hh2 => ?_)
    obtain ⟨-, ⟨r8, e8⟩, m9, hm9, hw8⟩ := hh2.resolve_left (fun z => hk9 z.1)
    subst e8
    refine WR.imp (P' := Wd G (adr, (n, P, F), (n, P, F), m9, g)) (fun h e => e ▸ hw8) ?_
    show WR K G _ _ _ _ _ _ _ (.int _ :: _)
    refine R_istore (pc := 858) C dL_law_858 (Nat.le_of_ble_eq_true rfl) (lv' := [some (.ref _), some (.ref _), some (.ref _), some (.ref _), some (.int _), some (.int _), some (.int _)]) rfl ?_
    refine R_aload_n (pc := 860) C dL_law_860 rfl ?_
    refine R_callVN (pc := 861) C dL_law_861 (vs := []) (fun h hh => mX2_thrown hl h hh) (isOb_of (wm0) rfl) ⟨k_18_3, k_18_4, k_18_5, k_1_5, k_18_6⟩ (sgn (nv := 0) rfl ⟨by decide +kernel, by decide +kernel, by decide +kernel⟩) ⟨⟨by omega, by omega⟩, ⟨by omega, by omega⟩, Nat.le_of_ble_eq_true rfl⟩ rfl rfl (fun h7 hh7 v7 => ?_)
    refine WR.pr (fun e7 => ?_)
    subst e7
    rw [hm9]
    show WR K G _ _ _ _ _ _ _ (.int _ :: _)
    refine R_iload (pc := 864) C dL_law_864 rfl ?_
    refine R_icmp_eq (pc := 866) C dL_law_866 (tgt := 871) (by decide) (fun c866 => ?_) (fun c866 => absurd (rfl) c866)
    refine R_iload (pc := 871) C dL_law_871 rfl ?_
    refine R_if_ne (pc := 873) C dL_law_873 (tgt := 888) (by decide) (fun _ => ?_) (fun c => absurd c hk9)
    refine R_goto (pc := 888) C dL_law_888 (tgt := 1220) (by decide) ?_
    refine WR.wid (show _ ≤ k + 14 by omega) (show _ ≤ s9 + 116 by omega) ?_
    exact WR.ls (ls_s (ls_s (ls_s (ls_s (ls_s (ls_n (ls_n ls_e))))))) (kk adr (fun _ _ _ => rfl) _ _ _ m9 _ hI)
set_option maxHeartbeats 4000000 in
set_option maxRecDepth 100000 in
theorem sg_setRecharge (hl : K.l.stackTraces = false) (C : CX K G A RL cL_law 7 rt rm tb) (hT : va_T .int b N (fun j => .int (xs j)) A K.s K.s.heap) (hi : i + 6 < N) (hN : N < 2 ^ 31) (hI : Inv n P F) (hrm : (30 ≤ rm.frames ∧ 2000 ≤ rm.locals) ∧ k + 14 ≤ rm.cells ∧ s9 + 116 ≤ rm.slots)
    (kk : ∀ adr9 : Nat → Nat, (∀ x, x < 30 → x ≠ 2 → adr9 x = adr x) → ∀ (n9 P9 : Nat) (F9 m9 : Nat → Nat → Int32) (g9 : Nat → Int64), Inv n9 P9 F9 → WR K G A Q (Wd G (adr9, (n9, P9, F9), (n9, P9, F9), m9, g9)) [some (.ref b), some (.ref (adr 0)), some (.ref (adr 5)), some (.ref (adr 24)), some (.int (nI i)), none, none] (k + 14) (s9 + 116) 1220 []) : WR K G A Q (Wd G (adr, (n, P, F), (n, P, F), mu, g)) [some (.ref b), some (.ref (adr 0)), some (.ref (adr 5)), some (.ref (adr 24)), some (.int (nI i)), none, none] k s9 318 [] := by
  obtain ⟨⟨hr1, hr2⟩, hr3, hr4⟩ := hrm
  refine R_aload_n (pc := 318) C dL_law_318 rfl ?_
  refine R_aload_n (pc := 319) C dL_law_319 rfl ?_
  refine R_iload (pc := 320) C dL_law_320 rfl ?_
  refine R_iconst (pc := 322) C dL_law_322 (v := 1) (by decide) ?_
  refine R_iadd (pc := 323) C dL_law_323 ?_
  rw [show nI i + 1 = nI (i + 1) from nI_add (a := i) (b := 1)]
  refine R_tial (pc := 324) C dL_law_324 hT rfl (by omega) hN rfl ?_
  refine R_aload_n (pc := 325) C dL_law_325 rfl ?_
  refine R_iload (pc := 326) C dL_law_326 rfl ?_
  refine R_iconst (pc := 328) C dL_law_328 (v := 2) (by decide) ?_
  refine R_iadd (pc := 329) C dL_law_329 ?_
  rw [show nI i + 2 = nI (i + 2) from nI_add (a := i) (b := 2)]
  refine R_tial (pc := 330) C dL_law_330 hT rfl (by omega) hN rfl ?_
  refine R_aload_n (pc := 331) C dL_law_331 rfl ?_
  refine R_callSW (pc := 332) C dL_law_332 (vs := [_, _, _, _]) (fun h hh => mL_setRecharge hl h hh) ⟨k_19_21, k_19_22, k_3_15, k_19_23⟩ (sgn (nv := 4) rfl ⟨by decide +kernel, by decide +kernel, by decide +kernel⟩) ⟨⟨by omega, by omega⟩, ⟨by omega, by omega⟩, Nat.le_of_ble_eq_true rfl⟩ rfl rfl (fun h9 hh9 v9 => ?_)
  refine WR.all (fun h1 hh1 => ?_)
  rcases hh1 with ⟨hk9, e9, hw9⟩ | ⟨hk9, e9, hw9⟩
  · subst e9
    refine WR.imp (P' := Wd G (adr, (n, P, su F 14 (ix (xs (i + 1))) (xs (i + 2))), (n, P, F), mu, vp_updL g 0 (F 14 (ix (xs (i + 1)))).toInt64)) (fun h e => e ▸ hw9) ?_
    show WR K G _ _ _ _ _ _ _ (.int _ :: _)
    refine R_istore (pc := 335) C dL_law_335 (Nat.le_of_ble_eq_true rfl) (lv' := [some (.ref _), some (.ref _), some (.ref _), some (.ref _), some (.int _), some (.int _), none]) rfl ?_
    refine R_aload_n (pc := 337) C dL_law_337 rfl ?_
    refine R_aload_n (pc := 338) C dL_law_338 rfl ?_
    refine R_iload (pc := 339) C dL_law_339 rfl ?_
    refine R_iconst (pc := 341) C dL_law_341 (v := 1) (by decide) ?_
    refine R_iadd (pc := 342) C dL_law_342 ?_
    rw [show nI i + 1 = nI (i + 1) from nI_add (a := i) (b := 1)]
    refine R_tial (pc := 343) C dL_law_343 hT rfl (by omega) hN rfl ?_
    refine R_aload_n (pc := 344) C dL_law_344 rfl ?_
    refine R_iload (pc := 345) C dL_law_345 rfl ?_
    refine R_iconst (pc := 347) C dL_law_347 (v := 2) (by decide) ?_
    refine R_iadd (pc := 348) C dL_law_348 ?_
    rw [show nI i + 2 = nI (i + 2) from nI_add (a := i) (b := 2)]
    refine R_tial (pc := 349) C dL_law_349 hT rfl (by omega) hN rfl ?_
    refine R_callVN (pc := 350) C dL_law_350 (vs := [_, _]) (fun h hh => mX2_setRecharge hl h hh) (isOb_of (wm0) rfl) ⟨k_20_4, k_20_5, k_20_6, k_1_5, k_20_7⟩ (sgn (nv := 2) rfl ⟨by decide +kernel, by decide +kernel, by decide +kernel⟩) ⟨⟨by omega, by omega⟩, ⟨by omega, by omega⟩, Nat.le_of_ble_eq_true rfl⟩ rfl rfl (fun h8 hh8 v8 => ?_)
    refine WR.all (fun h2 hh2 => ?_)
    obtain ⟨-, e8, m9, hm9, hw8⟩ := hh2.resolve_right (fun z => z.1 hk9)
    subst e8
    refine WR.imp (P' := Wd G (adr, (n, P, su F 14 (ix (xs (i + 1))) (xs (i + 2))), (n, P, su F 14 (ix (xs (i + 1))) (xs (i + 2))), m9, vp_updL g 0 (F 14 (ix (xs (i + 1)))).toInt64)) (fun h e => e ▸ hw8) ?_
    show WR K G _ _ _ _ _ _ _ (.int _ :: _)
    refine R_istore (pc := 353) C dL_law_353 (Nat.le_of_ble_eq_true rfl) (lv' := [some (.ref _), some (.ref _), some (.ref _), some (.ref _), some (.int _), some (.int _), some (.int _)]) rfl ?_
    refine R_aload_n (pc := 355) C dL_law_355 rfl ?_
    refine R_callVN (pc := 356) C dL_law_356 (vs := []) (fun h hh => mX2_thrown hl h hh) (isOb_of (wm0) rfl) ⟨k_18_3, k_18_4, k_18_5, k_1_5, k_18_6⟩ (sgn (nv := 0) rfl ⟨by decide +kernel, by decide +kernel, by decide +kernel⟩) ⟨⟨by omega, by omega⟩, ⟨by omega, by omega⟩, Nat.le_of_ble_eq_true rfl⟩ rfl rfl (fun h7 hh7 v7 => ?_)
    refine WR.pr (fun e7 => ?_)
    subst e7
    rw [hm9]
    show WR K G _ _ _ _ _ _ _ (.int _ :: _)
    refine R_iload (pc := 359) C dL_law_359 rfl ?_
    refine R_icmp_eq (pc := 361) C dL_law_361 (tgt := 366) (by decide) (fun c361 => ?_) (fun c361 => absurd (rfl) c361)
    refine R_iload (pc := 366) C dL_law_366 rfl ?_
    refine R_if_ne (pc := 368) C dL_law_368 (tgt := 383) (by decide) (fun c368 => absurd c368 (fun q => q rfl)) (fun c368 => ?_)
    refine R_aload_n (pc := 371) C dL_law_371 rfl ?_
    refine R_iconst (pc := 372) C dL_law_372 (v := 0) (by decide) ?_
    refine R_lald (pc := 373) C dL_law_373 (wm_g) rfl (by decide) (by decide) (if_pos rfl) ?_
    refine R_iload (pc := 374) C dL_law_374 rfl ?_
    refine R_i2l (pc := 376) C dL_law_376 ?_
    refine R_lcmp (pc := 377) C dL_law_377 ?_
    refine R_if_eq (pc := 378) C dL_law_378 (tgt := 383) (by decide) (fun c378 => ?_) (fun c378 => absurd (cmp0 _) c378)
    refine R_goto (pc := 383) C dL_law_383 (tgt := 1220) (by decide) ?_
    refine WR.wid (show _ ≤ k + 14 by omega) (show _ ≤ s9 + 116 by omega) ?_
    exact WR.ls (ls_s (ls_s (ls_s (ls_s (ls_s (ls_n (ls_n ls_e))))))) (kk adr (fun _ _ _ => rfl) _ _ _ m9 _ (hI.o (Or.inl rfl)))
  · subst e9
    refine WR.imp (P' := Wd G (adr, (n, P, F), (n, P, F), mu, g)) (fun h e => e ▸ hw9) ?_
    show WR K G _ _ _ _ _ _ _ (.int _ :: _)
    refine R_istore (pc := 335) C dL_law_335 (Nat.le_of_ble_eq_true rfl) (lv' := [some (.ref _), some (.ref _), some (.ref _), some (.ref _), some (.int _), some (.int _), none]) rfl ?_
    refine R_aload_n (pc := 337) C dL_law_337 rfl ?_
    refine R_aload_n (pc := 338) C dL_law_338 rfl ?_
    refine R_iload (pc := 339) C dL_law_339 rfl ?_
    refine R_iconst (pc := 341) C dL_law_341 (v := 1) (by decide) ?_
    refine R_iadd (pc := 342) C dL_law_342 ?_
    rw [show nI i + 1 = nI (i + 1) from nI_add (a := i) (b := 1)]
    refine R_tial (pc := 343) C dL_law_343 hT rfl (by omega) hN rfl ?_
    refine R_aload_n (pc := 344) C dL_law_344 rfl ?_
    refine R_iload (pc := 345) C dL_law_345 rfl ?_
    refine R_iconst (pc := 347) C dL_law_347 (v := 2) (by decide) ?_
    refine R_iadd (pc := 348) C dL_law_348 ?_
    rw [show nI i + 2 = nI (i + 2) from nI_add (a := i) (b := 2)]
    refine R_tial (pc := 349) C dL_law_349 hT rfl (by omega) hN rfl ?_
    refine R_callVN (pc := 350) C dL_law_350 (vs := [_, _]) (fun h hh => mX2_setRecharge hl h hh) (isOb_of (wm0) rfl) ⟨k_20_4, k_20_5, k_20_6, k_1_5, k_20_7⟩ (sgn (nv := 2) rfl ⟨by decide +kernel, by decide +kernel, by decide +kernel⟩) ⟨⟨by omega, by omega⟩, ⟨by omega, by omega⟩, Nat.le_of_ble_eq_true rfl⟩ rfl rfl (fun h8 hh8 v8 => ?_)
    refine WR.all (fun h2 hh2 => ?_)
    obtain ⟨-, ⟨r8, e8⟩, m9, hm9, hw8⟩ := hh2.resolve_left (fun z => hk9 z.1)
    subst e8
    refine WR.imp (P' := Wd G (adr, (n, P, F), (n, P, F), m9, g)) (fun h e => e ▸ hw8) ?_
    show WR K G _ _ _ _ _ _ _ (.int _ :: _)
    refine R_istore (pc := 353) C dL_law_353 (Nat.le_of_ble_eq_true rfl) (lv' := [some (.ref _), some (.ref _), some (.ref _), some (.ref _), some (.int _), some (.int _), some (.int _)]) rfl ?_
    refine R_aload_n (pc := 355) C dL_law_355 rfl ?_
    refine R_callVN (pc := 356) C dL_law_356 (vs := []) (fun h hh => mX2_thrown hl h hh) (isOb_of (wm0) rfl) ⟨k_18_3, k_18_4, k_18_5, k_1_5, k_18_6⟩ (sgn (nv := 0) rfl ⟨by decide +kernel, by decide +kernel, by decide +kernel⟩) ⟨⟨by omega, by omega⟩, ⟨by omega, by omega⟩, Nat.le_of_ble_eq_true rfl⟩ rfl rfl (fun h7 hh7 v7 => ?_)
    refine WR.pr (fun e7 => ?_)
    subst e7
    rw [hm9]
    show WR K G _ _ _ _ _ _ _ (.int _ :: _)
    refine R_iload (pc := 359) C dL_law_359 rfl ?_
    refine R_icmp_eq (pc := 361) C dL_law_361 (tgt := 366) (by decide) (fun c361 => ?_) (fun c361 => absurd (rfl) c361)
    refine R_iload (pc := 366) C dL_law_366 rfl ?_
    refine R_if_ne (pc := 368) C dL_law_368 (tgt := 383) (by decide) (fun _ => ?_) (fun c => absurd c hk9)
    refine R_goto (pc := 383) C dL_law_383 (tgt := 1220) (by decide) ?_
    refine WR.wid (show _ ≤ k + 14 by omega) (show _ ≤ s9 + 116 by omega) ?_
    exact WR.ls (ls_s (ls_s (ls_s (ls_s (ls_s (ls_n (ls_n ls_e))))))) (kk adr (fun _ _ _ => rfl) _ _ _ m9 _ hI)
end
