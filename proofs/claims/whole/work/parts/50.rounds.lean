/-! 50: the law's rounds, a call each. Written by wip/whole/gen/m50.py -/
theorem cmp0 (x : Int64) : lg_cmp x x = 0 := by simp [lg_cmp]
section
variable {K : KT} {G : GT} {A : Nat → Prop} {rt : Option FieldType} {rm : Room} {tb : List ExceptionTableEntry} {Q : State → Prop} {adr : Nat → Nat} {n P b N i k s9 : Nat} {F mu : Nat → Nat → Int32} {g : Nat → Int64} {xs : Nat → Int32}
set_option maxHeartbeats 4000000 in
set_option maxRecDepth 100000 in
theorem sg_level (hl : K.l.stackTraces = false) (C : CX K G A RL cL_law 7 rt rm tb) (hT : va_T .int b N (fun j => .int (xs j)) A K.s K.s.heap) (hi : i + 6 < N) (hN : N < 2 ^ 31) (hI : Inv n P F) (hrm : (30 ≤ rm.frames ∧ 2000 ≤ rm.locals) ∧ k + 14 ≤ rm.cells ∧ s9 + 116 ≤ rm.slots)
    (kk : ∀ adr9 : Nat → Nat, (∀ x, x < 30 → x ≠ 2 → adr9 x = adr x) → ∀ (n9 P9 : Nat) (F9 m9 : Nat → Nat → Int32) (g9 : Nat → Int64), Inv n9 P9 F9 → WR K G A Q (Wd G (adr9, (n9, P9, F9), (n9, P9, F9), m9, g9)) [some (.ref b), some (.ref (adr 0)), some (.ref (adr 5)), some (.ref (adr 24)), some (.int (nI i)), none, none] (k + 14) (s9 + 116) 1220 []) : WR K G A Q (Wd G (adr, (n, P, F), (n, P, F), mu, g)) [some (.ref b), some (.ref (adr 0)), some (.ref (adr 5)), some (.ref (adr 24)), some (.int (nI i)), none, none] k s9 454 [] := by
  obtain ⟨⟨hr1, hr2⟩, hr3, hr4⟩ := hrm
  refine R_aload_n (pc := 454) C dL_law_454 rfl ?_
  refine R_aload_n (pc := 455) C dL_law_455 rfl ?_
  refine R_iload (pc := 456) C dL_law_456 rfl ?_
  refine R_iconst (pc := 458) C dL_law_458 (v := 1) (by decide) ?_
  refine R_iadd (pc := 459) C dL_law_459 ?_
  rw [show nI i + 1 = nI (i + 1) from nI_add (a := i) (b := 1)]
  refine R_tial (pc := 460) C dL_law_460 hT rfl (by omega) hN rfl ?_
  refine R_aload_n (pc := 461) C dL_law_461 rfl ?_
  refine R_callSW (pc := 462) C dL_law_462 (vs := [_, _, _]) (fun h hh => mL_level hl hI.1 h hh) ⟨k_21_9, k_21_10, k_3_15, k_21_11⟩ (sgn (nv := 3) rfl ⟨by decide +kernel, by decide +kernel, by decide +kernel⟩) ⟨⟨by omega, by omega⟩, ⟨by omega, by omega⟩, Nat.le_of_ble_eq_true rfl⟩ rfl rfl (fun h9 hh9 v9 => ?_)
  refine WR.all (fun h1 hh1 => ?_)
  rcases hh1 with ⟨hk9, e9, hw9⟩ | ⟨hk9, e9, hw9⟩
  · subst e9
    refine WR.imp (P' := Wd G (adr, (n, P, F), (n, P, F), mu, vp_updL g 0 (F 2 (ix (xs (i + 1)))).toInt64)) (fun h e => e ▸ hw9) ?_
    show WR K G _ _ _ _ _ _ _ (.int _ :: _)
    refine R_istore (pc := 465) C dL_law_465 (Nat.le_of_ble_eq_true rfl) (lv' := [some (.ref _), some (.ref _), some (.ref _), some (.ref _), some (.int _), some (.int _), none]) rfl ?_
    refine R_aload_n (pc := 467) C dL_law_467 rfl ?_
    refine R_aload_n (pc := 468) C dL_law_468 rfl ?_
    refine R_iload (pc := 469) C dL_law_469 rfl ?_
    refine R_iconst (pc := 471) C dL_law_471 (v := 1) (by decide) ?_
    refine R_iadd (pc := 472) C dL_law_472 ?_
    rw [show nI i + 1 = nI (i + 1) from nI_add (a := i) (b := 1)]
    refine R_tial (pc := 473) C dL_law_473 hT rfl (by omega) hN rfl ?_
    refine R_callVN (pc := 474) C dL_law_474 (vs := [_]) (fun h hh => mX2_level hl hI.1 h hh) (isOb_of (wm0) rfl) ⟨k_21_17, k_21_18, k_21_19, k_1_5, k_21_20⟩ (sgn (nv := 1) rfl ⟨by decide +kernel, by decide +kernel, by decide +kernel⟩) ⟨⟨by omega, by omega⟩, ⟨by omega, by omega⟩, Nat.le_of_ble_eq_true rfl⟩ rfl rfl (fun h8 hh8 v8 => ?_)
    refine WR.all (fun h2 hh2 => ?_)
    obtain ⟨-, e8, m9, hm9, hw8⟩ := hh2.resolve_right (fun z => z.1 hk9)
    subst e8
    refine WR.imp (P' := Wd G (adr, (n, P, F), (n, P, F), m9, vp_updL g 0 (F 2 (ix (xs (i + 1)))).toInt64)) (fun h e => e ▸ hw8) ?_
    show WR K G _ _ _ _ _ _ _ (.int _ :: _)
    refine R_istore (pc := 477) C dL_law_477 (Nat.le_of_ble_eq_true rfl) (lv' := [some (.ref _), some (.ref _), some (.ref _), some (.ref _), some (.int _), some (.int _), some (.int _)]) rfl ?_
    refine R_aload_n (pc := 479) C dL_law_479 rfl ?_
    refine R_callVN (pc := 480) C dL_law_480 (vs := []) (fun h hh => mX2_thrown hl h hh) (isOb_of (wm0) rfl) ⟨k_18_3, k_18_4, k_18_5, k_1_5, k_18_6⟩ (sgn (nv := 0) rfl ⟨by decide +kernel, by decide +kernel, by decide +kernel⟩) ⟨⟨by omega, by omega⟩, ⟨by omega, by omega⟩, Nat.le_of_ble_eq_true rfl⟩ rfl rfl (fun h7 hh7 v7 => ?_)
    refine WR.pr (fun e7 => ?_)
    subst e7
    rw [hm9]
    show WR K G _ _ _ _ _ _ _ (.int _ :: _)
    refine R_iload (pc := 483) C dL_law_483 rfl ?_
    refine R_icmp_eq (pc := 485) C dL_law_485 (tgt := 490) (by decide) (fun c485 => ?_) (fun c485 => absurd (rfl) c485)
    refine R_iload (pc := 490) C dL_law_490 rfl ?_
    refine R_if_ne (pc := 492) C dL_law_492 (tgt := 507) (by decide) (fun c492 => absurd c492 (fun q => q rfl)) (fun c492 => ?_)
    refine R_aload_n (pc := 495) C dL_law_495 rfl ?_
    refine R_iconst (pc := 496) C dL_law_496 (v := 0) (by decide) ?_
    refine R_lald (pc := 497) C dL_law_497 (wm_g) rfl (by decide) (by decide) (if_pos rfl) ?_
    refine R_iload (pc := 498) C dL_law_498 rfl ?_
    refine R_i2l (pc := 500) C dL_law_500 ?_
    refine R_lcmp (pc := 501) C dL_law_501 ?_
    refine R_if_eq (pc := 502) C dL_law_502 (tgt := 507) (by decide) (fun c502 => ?_) (fun c502 => absurd (cmp0 _) c502)
    refine R_goto (pc := 507) C dL_law_507 (tgt := 1220) (by decide) ?_
    refine WR.wid (show _ ≤ k + 14 by omega) (show _ ≤ s9 + 116 by omega) ?_
    exact WR.ls (ls_s (ls_s (ls_s (ls_s (ls_s (ls_n (ls_n ls_e))))))) (kk adr (fun _ _ _ => rfl) _ _ _ m9 _ (hI))
  · subst e9
    refine WR.imp (P' := Wd G (adr, (n, P, F), (n, P, F), mu, g)) (fun h e => e ▸ hw9) ?_
    show WR K G _ _ _ _ _ _ _ (.int _ :: _)
    refine R_istore (pc := 465) C dL_law_465 (Nat.le_of_ble_eq_true rfl) (lv' := [some (.ref _), some (.ref _), some (.ref _), some (.ref _), some (.int _), some (.int _), none]) rfl ?_
    refine R_aload_n (pc := 467) C dL_law_467 rfl ?_
    refine R_aload_n (pc := 468) C dL_law_468 rfl ?_
    refine R_iload (pc := 469) C dL_law_469 rfl ?_
    refine R_iconst (pc := 471) C dL_law_471 (v := 1) (by decide) ?_
    refine R_iadd (pc := 472) C dL_law_472 ?_
    rw [show nI i + 1 = nI (i + 1) from nI_add (a := i) (b := 1)]
    refine R_tial (pc := 473) C dL_law_473 hT rfl (by omega) hN rfl ?_
    refine R_callVN (pc := 474) C dL_law_474 (vs := [_]) (fun h hh => mX2_level hl hI.1 h hh) (isOb_of (wm0) rfl) ⟨k_21_17, k_21_18, k_21_19, k_1_5, k_21_20⟩ (sgn (nv := 1) rfl ⟨by decide +kernel, by decide +kernel, by decide +kernel⟩) ⟨⟨by omega, by omega⟩, ⟨by omega, by omega⟩, Nat.le_of_ble_eq_true rfl⟩ rfl rfl (fun h8 hh8 v8 => ?_)
    refine WR.all (fun h2 hh2 => ?_)
    obtain ⟨-, ⟨r8, e8⟩, m9, hm9, hw8⟩ := hh2.resolve_left (fun z => hk9 z.1)
    subst e8
    refine WR.imp (P' := Wd G (adr, (n, P, F), (n, P, F), m9, g)) (fun h e => e ▸ hw8) ?_
    show WR K G _ _ _ _ _ _ _ (.int _ :: _)
    refine R_istore (pc := 477) C dL_law_477 (Nat.le_of_ble_eq_true rfl) (lv' := [some (.ref _), some (.ref _), some (.ref _), some (.ref _), some (.int _), some (.int _), some (.int _)]) rfl ?_
    refine R_aload_n (pc := 479) C dL_law_479 rfl ?_
    refine R_callVN (pc := 480) C dL_law_480 (vs := []) (fun h hh => mX2_thrown hl h hh) (isOb_of (wm0) rfl) ⟨k_18_3, k_18_4, k_18_5, k_1_5, k_18_6⟩ (sgn (nv := 0) rfl ⟨by decide +kernel, by decide +kernel, by decide +kernel⟩) ⟨⟨by omega, by omega⟩, ⟨by omega, by omega⟩, Nat.le_of_ble_eq_true rfl⟩ rfl rfl (fun h7 hh7 v7 => ?_)
    refine WR.pr (fun e7 => ?_)
    subst e7
    rw [hm9]
    show WR K G _ _ _ _ _ _ _ (.int _ :: _)
    refine R_iload (pc := 483) C dL_law_483 rfl ?_
    refine R_icmp_eq (pc := 485) C dL_law_485 (tgt := 490) (by decide) (fun c485 => ?_) (fun c485 => absurd (rfl) c485)
    refine R_iload (pc := 490) C dL_law_490 rfl ?_
    refine R_if_ne (pc := 492) C dL_law_492 (tgt := 507) (by decide) (fun _ => ?_) (fun c => absurd c hk9)
    refine R_goto (pc := 507) C dL_law_507 (tgt := 1220) (by decide) ?_
    refine WR.wid (show _ ≤ k + 14 by omega) (show _ ≤ s9 + 116 by omega) ?_
    exact WR.ls (ls_s (ls_s (ls_s (ls_s (ls_s (ls_n (ls_n ls_e))))))) (kk adr (fun _ _ _ => rfl) _ _ _ m9 _ hI)
end
