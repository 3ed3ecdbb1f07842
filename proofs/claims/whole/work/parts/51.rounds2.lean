/-! 51: more rounds of the law. Written by wip/whole/gen/m51.py -/
theorem reach0 {n : Nat} {x y : Int32} (h : kReach n x y = 0) : qW n x = true ∧ qW n y = true := by
  unfold kReach at h
  by_cases c : qW n x = true ∧ qW n y = true
  · exact c
  · rw [if_neg c] at h; exact absurd h (by decide)
theorem lend0 {n : Nat} {F : Nat → Nat → Int32} {x y a : Int32} (h : kLend n F x y a = 0) : qW n x = true ∧ qW n y = true := by
  unfold kLend at h
  by_cases c : qW n x = true ∧ qW n y = true
  · exact c
  · rw [if_neg c] at h; exact absurd h (by decide)
theorem back0 {n : Nat} {x y : Int32} (h : kBack n x y = 0) : qW n x = true ∧ qW n y = true := by
  unfold kBack at h
  by_cases c : qW n x = true ∧ qW n y = true
  · exact c
  · rw [if_neg c] at h; exact absurd h (by decide)
theorem build0 {P : Nat} {F : Nat → Nat → Int32} {x : Int32} (h : kBuild P F x = 0) : qR x 0 99 = true ∧ P < 5 := by
  unfold kBuild at h
  by_cases c : qR x 0 99 = true
  · rw [if_pos c] at h
    by_cases d : F 16 0 < 100 ∨ 5 ≤ P
    · rw [if_pos d] at h; exact absurd h (by decide)
    · exact ⟨c, Nat.not_le.mp (fun z => d (Or.inr z))⟩
  · rw [if_neg c] at h; exact absurd h (by decide)
theorem lay_of {n P : Nat} {F : Nat → Nat → Int32} (H : Inv n P F) : ∀ i, i < n → ∃ a, a < 3 ∧ F 0 i = nI a := hlay_of H.2.2.1
theorem reach_eq {n P : Nat} {F : Nat → Nat → Int32} {x y : Int32} (H : Inv n P F) (h : kReach n x y = 0) : spReachM (F 0 (ix y)) (F 1 (ix y)) (F 0 (ix x)) (F 1 (ix x)) = spR F (ix x) (ix y) :=
  rM_eq (H.2.2.1.1 _ (ix_lt H.1 (reach0 h).2)).1 (H.2.2.1.1 _ (ix_lt H.1 (reach0 h).2)).2 (H.2.2.1.1 _ (ix_lt H.1 (reach0 h).1)).1 (H.2.2.1.1 _ (ix_lt H.1 (reach0 h).1)).2
section
variable {K : KT} {G : GT} {A : Nat → Prop} {rt : Option FieldType} {rm : Room} {tb : List ExceptionTableEntry} {Q : State → Prop} {adr : Nat → Nat} {n P b N i k s9 : Nat} {F mu : Nat → Nat → Int32} {g : Nat → Int64} {xs : Nat → Int32}
set_option maxHeartbeats 4000000 in
set_option maxRecDepth 100000 in
theorem sg_reach (hl : K.l.stackTraces = false) (C : CX K G A RL cL_law 7 rt rm tb) (hT : va_T .int b N (fun j => .int (xs j)) A K.s K.s.heap) (hi : i + 6 < N) (hN : N < 2 ^ 31) (hI : Inv n P F) (hrm : (30 ≤ rm.frames ∧ 2000 ≤ rm.locals) ∧ k + 14 ≤ rm.cells ∧ s9 + 116 ≤ rm.slots)
    (kk : ∀ adr9 : Nat → Nat, (∀ x, x < 30 → x ≠ 2 → adr9 x = adr x) → ∀ (n9 P9 : Nat) (F9 m9 : Nat → Nat → Int32) (g9 : Nat → Int64), Inv n9 P9 F9 → WR K G A Q (Wd G (adr9, (n9, P9, F9), (n9, P9, F9), m9, g9)) [some (.ref b), some (.ref (adr 0)), some (.ref (adr 5)), some (.ref (adr 24)), some (.int (nI i)), none, none] (k + 14) (s9 + 116) 1220 []) : WR K G A Q (Wd G (adr, (n, P, F), (n, P, F), mu, g)) [some (.ref b), some (.ref (adr 0)), some (.ref (adr 5)), some (.ref (adr 24)), some (.int (nI i)), none, none] k s9 386 [] := by
  obtain ⟨⟨hr1, hr2⟩, hr3, hr4⟩ := hrm
  refine R_aload_n (pc := 386) C dL_law_386 rfl ?_
  refine R_aload_n (pc := 387) C dL_law_387 rfl ?_
  refine R_iload (pc := 388) C dL_law_388 rfl ?_
  refine R_iconst (pc := 390) C dL_law_390 (v := 1) (by decide) ?_
  refine R_iadd (pc := 391) C dL_law_391 ?_
  rw [show nI i + 1 = nI (i + 1) from nI_add (a := i) (b := 1)]
  refine R_tial (pc := 392) C dL_law_392 hT rfl (by omega) hN rfl ?_
  refine R_aload_n (pc := 393) C dL_law_393 rfl ?_
  refine R_iload (pc := 394) C dL_law_394 rfl ?_
  refine R_iconst (pc := 396) C dL_law_396 (v := 2) (by decide) ?_
  refine R_iadd (pc := 397) C dL_law_397 ?_
  rw [show nI i + 2 = nI (i + 2) from nI_add (a := i) (b := 2)]
  refine R_tial (pc := 398) C dL_law_398 hT rfl (by omega) hN rfl ?_
  refine R_aload_n (pc := 399) C dL_law_399 rfl ?_
  refine R_callSW (pc := 400) C dL_law_400 (vs := [_, _, _, _]) (fun h hh => mL_reach hl hI.1 h hh) ⟨k_20_8, k_20_9, k_3_15, k_20_10⟩ (sgn (nv := 4) rfl ⟨by decide +kernel, by decide +kernel, by decide +kernel⟩) ⟨⟨by omega, by omega⟩, ⟨by omega, by omega⟩, Nat.le_of_ble_eq_true rfl⟩ rfl rfl (fun h9 hh9 v9 => ?_)
  refine WR.all (fun h1 hh1 => ?_)
  rcases hh1 with ⟨hk9, e9, hw9⟩ | ⟨hk9, e9, hw9⟩
  · subst e9
    refine WR.imp (P' := Wd G (adr, (n, P, F), (n, P, F), mu, vp_updL g 0 (spR F (ix (xs (i + 1))) (ix (xs (i + 2)))).toInt64)) (fun h e => e ▸ hw9) ?_
    show WR K G _ _ _ _ _ _ _ (.int _ :: _)
    refine R_istore (pc := 403) C dL_law_403 (Nat.le_of_ble_eq_true rfl) (lv' := [some (.ref _), some (.ref _), some (.ref _), some (.ref _), some (.int _), some (.int _), none]) rfl ?_
    refine R_aload_n (pc := 405) C dL_law_405 rfl ?_
    refine R_aload_n (pc := 406) C dL_law_406 rfl ?_
    refine R_iload (pc := 407) C dL_law_407 rfl ?_
    refine R_iconst (pc := 409) C dL_law_409 (v := 1) (by decide) ?_
    refine R_iadd (pc := 410) C dL_law_410 ?_
    rw [show nI i + 1 = nI (i + 1) from nI_add (a := i) (b := 1)]
    refine R_tial (pc := 411) C dL_law_411 hT rfl (by omega) hN rfl ?_
    refine R_aload_n (pc := 412) C dL_law_412 rfl ?_
    refine R_iload (pc := 413) C dL_law_413 rfl ?_
    refine R_iconst (pc := 415) C dL_law_415 (v := 2) (by decide) ?_
    refine R_iadd (pc := 416) C dL_law_416 ?_
    rw [show nI i + 2 = nI (i + 2) from nI_add (a := i) (b := 2)]
    refine R_tial (pc := 417) C dL_law_417 hT rfl (by omega) hN rfl ?_
    refine R_callVN (pc := 418) C dL_law_418 (vs := [_, _]) (fun h hh => mX2_reach hl hI.1 h hh) (isOb_of (wm0) rfl) ⟨k_21_1, k_21_2, k_21_3, k_1_5, k_21_4⟩ (sgn (nv := 2) rfl ⟨by decide +kernel, by decide +kernel, by decide +kernel⟩) ⟨⟨by omega, by omega⟩, ⟨by omega, by omega⟩, Nat.le_of_ble_eq_true rfl⟩ rfl rfl (fun h8 hh8 v8 => ?_)
    refine WR.all (fun h2 hh2 => ?_)
    obtain ⟨-, e8, m9, hm9, hw8⟩ := hh2.resolve_right (fun z => z.1 hk9)
    rw [reach_eq hI hk9] at e8
    subst e8
    refine WR.imp (P' := Wd G (adr, (n, P, F), (n, P, F), m9, vp_updL g 0 (spR F (ix (xs (i + 1))) (ix (xs (i + 2)))).toInt64)) (fun h e => e ▸ hw8) ?_
    show WR K G _ _ _ _ _ _ _ (.int _ :: _)
    refine R_istore (pc := 421) C dL_law_421 (Nat.le_of_ble_eq_true rfl) (lv' := [some (.ref _), some (.ref _), some (.ref _), some (.ref _), some (.int _), some (.int _), some (.int _)]) rfl ?_
    refine R_aload_n (pc := 423) C dL_law_423 rfl ?_
    refine R_callVN (pc := 424) C dL_law_424 (vs := []) (fun h hh => mX2_thrown hl h hh) (isOb_of (wm0) rfl) ⟨k_18_3, k_18_4, k_18_5, k_1_5, k_18_6⟩ (sgn (nv := 0) rfl ⟨by decide +kernel, by decide +kernel, by decide +kernel⟩) ⟨⟨by omega, by omega⟩, ⟨by omega, by omega⟩, Nat.le_of_ble_eq_true rfl⟩ rfl rfl (fun h7 hh7 v7 => ?_)
    refine WR.pr (fun e7 => ?_)
    subst e7
    rw [hm9]
    show WR K G _ _ _ _ _ _ _ (.int _ :: _)
    refine R_iload (pc := 427) C dL_law_427 rfl ?_
    refine R_icmp_eq (pc := 429) C dL_law_429 (tgt := 434) (by decide) (fun c429 => ?_) (fun c429 => absurd (rfl) c429)
    refine R_iload (pc := 434) C dL_law_434 rfl ?_
    refine R_if_ne (pc := 436) C dL_law_436 (tgt := 451) (by decide) (fun c436 => absurd c436 (fun q => q rfl)) (fun c436 => ?_)
    refine R_aload_n (pc := 439) C dL_law_439 rfl ?_
    refine R_iconst (pc := 440) C dL_law_440 (v := 0) (by decide) ?_
    refine R_lald (pc := 441) C dL_law_441 (wm_g) rfl (by decide) (by decide) (if_pos rfl) ?_
    refine R_iload (pc := 442) C dL_law_442 rfl ?_
    refine R_i2l (pc := 444) C dL_law_444 ?_
    refine R_lcmp (pc := 445) C dL_law_445 ?_
    refine R_if_eq (pc := 446) C dL_law_446 (tgt := 451) (by decide) (fun c446 => ?_) (fun c446 => absurd (cmp0 _) c446)
    refine R_goto (pc := 451) C dL_law_451 (tgt := 1220) (by decide) ?_
    refine WR.wid (show _ ≤ k + 14 by omega) (show _ ≤ s9 + 116 by omega) ?_
    exact WR.ls (ls_s (ls_s (ls_s (ls_s (ls_s (ls_n (ls_n ls_e))))))) (kk adr (fun _ _ _ => rfl) _ _ _ m9 _ (hI))
  · subst e9
    refine WR.imp (P' := Wd G (adr, (n, P, F), (n, P, F), mu, g)) (fun h e => e ▸ hw9) ?_
    show WR K G _ _ _ _ _ _ _ (.int _ :: _)
    refine R_istore (pc := 403) C dL_law_403 (Nat.le_of_ble_eq_true rfl) (lv' := [some (.ref _), some (.ref _), some (.ref _), some (.ref _), some (.int _), some (.int _), none]) rfl ?_
    refine R_aload_n (pc := 405) C dL_law_405 rfl ?_
    refine R_aload_n (pc := 406) C dL_law_406 rfl ?_
    refine R_iload (pc := 407) C dL_law_407 rfl ?_
    refine R_iconst (pc := 409) C dL_law_409 (v := 1) (by decide) ?_
    refine R_iadd (pc := 410) C dL_law_410 ?_
    rw [show nI i + 1 = nI (i + 1) from nI_add (a := i) (b := 1)]
    refine R_tial (pc := 411) C dL_law_411 hT rfl (by omega) hN rfl ?_
    refine R_aload_n (pc := 412) C dL_law_412 rfl ?_
    refine R_iload (pc := 413) C dL_law_413 rfl ?_
    refine R_iconst (pc := 415) C dL_law_415 (v := 2) (by decide) ?_
    refine R_iadd (pc := 416) C dL_law_416 ?_
    rw [show nI i + 2 = nI (i + 2) from nI_add (a := i) (b := 2)]
    refine R_tial (pc := 417) C dL_law_417 hT rfl (by omega) hN rfl ?_
    refine R_callVN (pc := 418) C dL_law_418 (vs := [_, _]) (fun h hh => mX2_reach hl hI.1 h hh) (isOb_of (wm0) rfl) ⟨k_21_1, k_21_2, k_21_3, k_1_5, k_21_4⟩ (sgn (nv := 2) rfl ⟨by decide +kernel, by decide +kernel, by decide +kernel⟩) ⟨⟨by omega, by omega⟩, ⟨by omega, by omega⟩, Nat.le_of_ble_eq_true rfl⟩ rfl rfl (fun h8 hh8 v8 => ?_)
    refine WR.all (fun h2 hh2 => ?_)
    obtain ⟨-, ⟨r8, e8⟩, m9, hm9, hw8⟩ := hh2.resolve_left (fun z => hk9 z.1)
    subst e8
    refine WR.imp (P' := Wd G (adr, (n, P, F), (n, P, F), m9, g)) (fun h e => e ▸ hw8) ?_
    show WR K G _ _ _ _ _ _ _ (.int _ :: _)
    refine R_istore (pc := 421) C dL_law_421 (Nat.le_of_ble_eq_true rfl) (lv' := [some (.ref _), some (.ref _), some (.ref _), some (.ref _), some (.int _), some (.int _), some (.int _)]) rfl ?_
    refine R_aload_n (pc := 423) C dL_law_423 rfl ?_
    refine R_callVN (pc := 424) C dL_law_424 (vs := []) (fun h hh => mX2_thrown hl h hh) (isOb_of (wm0) rfl) ⟨k_18_3, k_18_4, k_18_5, k_1_5, k_18_6⟩ (sgn (nv := 0) rfl ⟨by decide +kernel, by decide +kernel, by decide +kernel⟩) ⟨⟨by omega, by omega⟩, ⟨by omega, by omega⟩, Nat.le_of_ble_eq_true rfl⟩ rfl rfl (fun h7 hh7 v7 => ?_)
    refine WR.pr (fun e7 => ?_)
    subst e7
    rw [hm9]
    show WR K G _ _ _ _ _ _ _ (.int _ :: _)
    refine R_iload (pc := 427) C dL_law_427 rfl ?_
    refine R_icmp_eq (pc := 429) C dL_law_429 (tgt := 434) (by decide) (fun c429 => ?_) (fun c429 => absurd (rfl) c429)
    refine R_iload (pc := 434) C dL_law_434 rfl ?_
    refine R_if_ne (pc := 436) C dL_law_436 (tgt := 451) (by decide) (fun _ => ?_) (fun c => absurd c hk9)
    refine R_goto (pc := 451) C dL_law_451 (tgt := 1220) (by decide) ?_
    refine WR.wid (show _ ≤ k + 14 by omega) (show _ ≤ s9 + 116 by omega) ?_
    exact WR.ls (ls_s (ls_s (ls_s (ls_s (ls_s (ls_n (ls_n ls_e))))))) (kk adr (fun _ _ _ => rfl) _ _ _ m9 _ hI)
set_option maxHeartbeats 4000000 in
set_option maxRecDepth 100000 in
theorem sg_lend (hl : K.l.stackTraces = false) (C : CX K G A RL cL_law 7 rt rm tb) (hT : va_T .int b N (fun j => .int (xs j)) A K.s K.s.heap) (hi : i + 6 < N) (hN : N < 2 ^ 31) (hI : Inv n P F) (hrm : (30 ≤ rm.frames ∧ 2000 ≤ rm.locals) ∧ k + 14 ≤ rm.cells ∧ s9 + 116 ≤ rm.slots)
    (kk : ∀ adr9 : Nat → Nat, (∀ x, x < 30 → x ≠ 2 → adr9 x = adr x) → ∀ (n9 P9 : Nat) (F9 m9 : Nat → Nat → Int32) (g9 : Nat → Int64), Inv n9 P9 F9 → WR K G A Q (Wd G (adr9, (n9, P9, F9), (n9, P9, F9), m9, g9)) [some (.ref b), some (.ref (adr 0)), some (.ref (adr 5)), some (.ref (adr 24)), some (.int (nI i)), none, none] (k + 14) (s9 + 116) 1220 []) : WR K G A Q (Wd G (adr, (n, P, F), (n, P, F), mu, g)) [some (.ref b), some (.ref (adr 0)), some (.ref (adr 5)), some (.ref (adr 24)), some (.int (nI i)), none, none] k s9 947 [] := by
  obtain ⟨⟨hr1, hr2⟩, hr3, hr4⟩ := hrm
  refine R_aload_n (pc := 947) C dL_law_947 rfl ?_
  refine R_aload_n (pc := 948) C dL_law_948 rfl ?_
  refine R_iload (pc := 949) C dL_law_949 rfl ?_
  refine R_iconst (pc := 951) C dL_law_951 (v := 1) (by decide) ?_
  refine R_iadd (pc := 952) C dL_law_952 ?_
  rw [show nI i + 1 = nI (i + 1) from nI_add (a := i) (b := 1)]
  refine R_tial (pc := 953) C dL_law_953 hT rfl (by omega) hN rfl ?_
  refine R_aload_n (pc := 954) C dL_law_954 rfl ?_
  refine R_iload (pc := 955) C dL_law_955 rfl ?_
  refine R_iconst (pc := 957) C dL_law_957 (v := 2) (by decide) ?_
  refine R_iadd (pc := 958) C dL_law_958 ?_
  rw [show nI i + 2 = nI (i + 2) from nI_add (a := i) (b := 2)]
  refine R_tial (pc := 959) C dL_law_959 hT rfl (by omega) hN rfl ?_
  refine R_aload_n (pc := 960) C dL_law_960 rfl ?_
  refine R_iload (pc := 961) C dL_law_961 rfl ?_
  refine R_iconst (pc := 963) C dL_law_963 (v := 3) (by decide) ?_
  refine R_iadd (pc := 964) C dL_law_964 ?_
  rw [show nI i + 3 = nI (i + 3) from nI_add (a := i) (b := 3)]
  refine R_tial (pc := 965) C dL_law_965 hT rfl (by omega) hN rfl ?_
  refine R_aload_n (pc := 966) C dL_law_966 rfl ?_
  refine R_callSW (pc := 967) C dL_law_967 (vs := [_, _, _, _, _]) (fun h hh => mL_lend hl hI.1 h hh) ⟨k_30_23, k_31_0, k_3_15, k_31_1⟩ (sgn (nv := 5) rfl ⟨by decide +kernel, by decide +kernel, by decide +kernel⟩) ⟨⟨by omega, by omega⟩, ⟨by omega, by omega⟩, Nat.le_of_ble_eq_true rfl⟩ rfl rfl (fun h9 hh9 v9 => ?_)
  refine WR.all (fun h1 hh1 => ?_)
  rcases hh1 with ⟨hk9, e9, hw9⟩ | ⟨hk9, e9, hw9⟩
  · subst e9
    refine WR.imp (P' := Wd G (adr, (n, P, fLend F (ix (xs (i + 1))) (ix (xs (i + 2))) (xs (i + 3))), (n, P, F), mu, vp_updL g 0 (F 13 (8 * ix (xs (i + 1)) + ix (xs (i + 2))) + xs (i + 3)).toInt64)) (fun h e => e ▸ hw9) ?_
    show WR K G _ _ _ _ _ _ _ (.int _ :: _)
    refine R_istore (pc := 970) C dL_law_970 (Nat.le_of_ble_eq_true rfl) (lv' := [some (.ref _), some (.ref _), some (.ref _), some (.ref _), some (.int _), some (.int _), none]) rfl ?_
    refine R_aload_n (pc := 972) C dL_law_972 rfl ?_
    refine R_aload_n (pc := 973) C dL_law_973 rfl ?_
    refine R_iload (pc := 974) C dL_law_974 rfl ?_
    refine R_iconst (pc := 976) C dL_law_976 (v := 1) (by decide) ?_
    refine R_iadd (pc := 977) C dL_law_977 ?_
    rw [show nI i + 1 = nI (i + 1) from nI_add (a := i) (b := 1)]
    refine R_tial (pc := 978) C dL_law_978 hT rfl (by omega) hN rfl ?_
    refine R_aload_n (pc := 979) C dL_law_979 rfl ?_
    refine R_iload (pc := 980) C dL_law_980 rfl ?_
    refine R_iconst (pc := 982) C dL_law_982 (v := 2) (by decide) ?_
    refine R_iadd (pc := 983) C dL_law_983 ?_
    rw [show nI i + 2 = nI (i + 2) from nI_add (a := i) (b := 2)]
    refine R_tial (pc := 984) C dL_law_984 hT rfl (by omega) hN rfl ?_
    refine R_aload_n (pc := 985) C dL_law_985 rfl ?_
    refine R_iload (pc := 986) C dL_law_986 rfl ?_
    refine R_iconst (pc := 988) C dL_law_988 (v := 3) (by decide) ?_
    refine R_iadd (pc := 989) C dL_law_989 ?_
    rw [show nI i + 3 = nI (i + 3) from nI_add (a := i) (b := 3)]
    refine R_tial (pc := 990) C dL_law_990 hT rfl (by omega) hN rfl ?_
    refine R_callVN (pc := 991) C dL_law_991 (vs := [_, _, _]) (fun h hh => mX2_lend hl hI.1 h hh) (isOb_of (wm0) rfl) ⟨k_31_10, k_31_11, k_31_12, k_1_5, k_31_13⟩ (sgn (nv := 3) rfl ⟨by decide +kernel, by decide +kernel, by decide +kernel⟩) ⟨⟨by omega, by omega⟩, ⟨by omega, by omega⟩, Nat.le_of_ble_eq_true rfl⟩ rfl rfl (fun h8 hh8 v8 => ?_)
    refine WR.all (fun h2 hh2 => ?_)
    obtain ⟨-, e8, m9, hm9, hw8⟩ := hh2.resolve_right (fun z => z.1 hk9)
    subst e8
    refine WR.imp (P' := Wd G (adr, (n, P, fLend F (ix (xs (i + 1))) (ix (xs (i + 2))) (xs (i + 3))), (n, P, fLend F (ix (xs (i + 1))) (ix (xs (i + 2))) (xs (i + 3))), m9, vp_updL g 0 (F 13 (8 * ix (xs (i + 1)) + ix (xs (i + 2))) + xs (i + 3)).toInt64)) (fun h e => e ▸ hw8) ?_
    show WR K G _ _ _ _ _ _ _ (.int _ :: _)
    refine R_istore (pc := 994) C dL_law_994 (Nat.le_of_ble_eq_true rfl) (lv' := [some (.ref _), some (.ref _), some (.ref _), some (.ref _), some (.int _), some (.int _), some (.int _)]) rfl ?_
    refine R_aload_n (pc := 996) C dL_law_996 rfl ?_
    refine R_callVN (pc := 997) C dL_law_997 (vs := []) (fun h hh => mX2_thrown hl h hh) (isOb_of (wm0) rfl) ⟨k_18_3, k_18_4, k_18_5, k_1_5, k_18_6⟩ (sgn (nv := 0) rfl ⟨by decide +kernel, by decide +kernel, by decide +kernel⟩) ⟨⟨by omega, by omega⟩, ⟨by omega, by omega⟩, Nat.le_of_ble_eq_true rfl⟩ rfl rfl (fun h7 hh7 v7 => ?_)
    refine WR.pr (fun e7 => ?_)
    subst e7
    rw [hm9]
    show WR K G _ _ _ _ _ _ _ (.int _ :: _)
    refine R_iload (pc := 1000) C dL_law_1000 rfl ?_
    refine R_icmp_eq (pc := 1002) C dL_law_1002 (tgt := 1007) (by decide) (fun c1002 => ?_) (fun c1002 => absurd (rfl) c1002)
    refine R_iload (pc := 1007) C dL_law_1007 rfl ?_
    refine R_if_ne (pc := 1009) C dL_law_1009 (tgt := 1024) (by decide) (fun c1009 => absurd c1009 (fun q => q rfl)) (fun c1009 => ?_)
    refine R_aload_n (pc := 1012) C dL_law_1012 rfl ?_
    refine R_iconst (pc := 1013) C dL_law_1013 (v := 0) (by decide) ?_
    refine R_lald (pc := 1014) C dL_law_1014 (wm_g) rfl (by decide) (by decide) (if_pos rfl) ?_
    refine R_iload (pc := 1015) C dL_law_1015 rfl ?_
    refine R_i2l (pc := 1017) C dL_law_1017 ?_
    refine R_lcmp (pc := 1018) C dL_law_1018 ?_
    refine R_if_eq (pc := 1019) C dL_law_1019 (tgt := 1024) (by decide) (fun c1019 => ?_) (fun c1019 => absurd (cmp0 _) c1019)
    refine R_goto (pc := 1024) C dL_law_1024 (tgt := 1220) (by decide) ?_
    refine WR.wid (show _ ≤ k + 14 by omega) (show _ ≤ s9 + 116 by omega) ?_
    exact WR.ls (ls_s (ls_s (ls_s (ls_s (ls_s (ls_n (ls_n ls_e))))))) (kk adr (fun _ _ _ => rfl) _ _ _ m9 _ (hI.lend (ix_lt hI.1 (lend0 hk9).1) (ix_lt hI.1 (lend0 hk9).2)))
  · subst e9
    refine WR.imp (P' := Wd G (adr, (n, P, F), (n, P, F), mu, g)) (fun h e => e ▸ hw9) ?_
    show WR K G _ _ _ _ _ _ _ (.int _ :: _)
    refine R_istore (pc := 970) C dL_law_970 (Nat.le_of_ble_eq_true rfl) (lv' := [some (.ref _), some (.ref _), some (.ref _), some (.ref _), some (.int _), some (.int _), none]) rfl ?_
    refine R_aload_n (pc := 972) C dL_law_972 rfl ?_
    refine R_aload_n (pc := 973) C dL_law_973 rfl ?_
    refine R_iload (pc := 974) C dL_law_974 rfl ?_
    refine R_iconst (pc := 976) C dL_law_976 (v := 1) (by decide) ?_
    refine R_iadd (pc := 977) C dL_law_977 ?_
    rw [show nI i + 1 = nI (i + 1) from nI_add (a := i) (b := 1)]
    refine R_tial (pc := 978) C dL_law_978 hT rfl (by omega) hN rfl ?_
    refine R_aload_n (pc := 979) C dL_law_979 rfl ?_
    refine R_iload (pc := 980) C dL_law_980 rfl ?_
    refine R_iconst (pc := 982) C dL_law_982 (v := 2) (by decide) ?_
    refine R_iadd (pc := 983) C dL_law_983 ?_
    rw [show nI i + 2 = nI (i + 2) from nI_add (a := i) (b := 2)]
    refine R_tial (pc := 984) C dL_law_984 hT rfl (by omega) hN rfl ?_
    refine R_aload_n (pc := 985) C dL_law_985 rfl ?_
    refine R_iload (pc := 986) C dL_law_986 rfl ?_
    refine R_iconst (pc := 988) C dL_law_988 (v := 3) (by decide) ?_
    refine R_iadd (pc := 989) C dL_law_989 ?_
    rw [show nI i + 3 = nI (i + 3) from nI_add (a := i) (b := 3)]
    refine R_tial (pc := 990) C dL_law_990 hT rfl (by omega) hN rfl ?_
    refine R_callVN (pc := 991) C dL_law_991 (vs := [_, _, _]) (fun h hh => mX2_lend hl hI.1 h hh) (isOb_of (wm0) rfl) ⟨k_31_10, k_31_11, k_31_12, k_1_5, k_31_13⟩ (sgn (nv := 3) rfl ⟨by decide +kernel, by decide +kernel, by decide +kernel⟩) ⟨⟨by omega, by omega⟩, ⟨by omega, by omega⟩, Nat.le_of_ble_eq_true rfl⟩ rfl rfl (fun h8 hh8 v8 => ?_)
    refine WR.all (fun h2 hh2 => ?_)
    obtain ⟨-, ⟨r8, e8⟩, m9, hm9, hw8⟩ := hh2.resolve_left (fun z => hk9 z.1)
    subst e8
    refine WR.imp (P' := Wd G (adr, (n, P, F), (n, P, F), m9, g)) (fun h e => e ▸ hw8) ?_
    show WR K G _ _ _ _ _ _ _ (.int _ :: _)
    refine R_istore (pc := 994) C dL_law_994 (Nat.le_of_ble_eq_true rfl) (lv' := [some (.ref _), some (.ref _), some (.ref _), some (.ref _), some (.int _), some (.int _), some (.int _)]) rfl ?_
    refine R_aload_n (pc := 996) C dL_law_996 rfl ?_
    refine R_callVN (pc := 997) C dL_law_997 (vs := []) (fun h hh => mX2_thrown hl h hh) (isOb_of (wm0) rfl) ⟨k_18_3, k_18_4, k_18_5, k_1_5, k_18_6⟩ (sgn (nv := 0) rfl ⟨by decide +kernel, by decide +kernel, by decide +kernel⟩) ⟨⟨by omega, by omega⟩, ⟨by omega, by omega⟩, Nat.le_of_ble_eq_true rfl⟩ rfl rfl (fun h7 hh7 v7 => ?_)
    refine WR.pr (fun e7 => ?_)
    subst e7
    rw [hm9]
    show WR K G _ _ _ _ _ _ _ (.int _ :: _)
    refine R_iload (pc := 1000) C dL_law_1000 rfl ?_
    refine R_icmp_eq (pc := 1002) C dL_law_1002 (tgt := 1007) (by decide) (fun c1002 => ?_) (fun c1002 => absurd (rfl) c1002)
    refine R_iload (pc := 1007) C dL_law_1007 rfl ?_
    refine R_if_ne (pc := 1009) C dL_law_1009 (tgt := 1024) (by decide) (fun _ => ?_) (fun c => absurd c hk9)
    refine R_goto (pc := 1024) C dL_law_1024 (tgt := 1220) (by decide) ?_
    refine WR.wid (show _ ≤ k + 14 by omega) (show _ ≤ s9 + 116 by omega) ?_
    exact WR.ls (ls_s (ls_s (ls_s (ls_s (ls_s (ls_n (ls_n ls_e))))))) (kk adr (fun _ _ _ => rfl) _ _ _ m9 _ hI)
set_option maxHeartbeats 4000000 in
set_option maxRecDepth 100000 in
theorem sg_callBack (hl : K.l.stackTraces = false) (C : CX K G A RL cL_law 7 rt rm tb) (hT : va_T .int b N (fun j => .int (xs j)) A K.s K.s.heap) (hi : i + 6 < N) (hN : N < 2 ^ 31) (hI : Inv n P F) (hrm : (30 ≤ rm.frames ∧ 2000 ≤ rm.locals) ∧ k + 14 ≤ rm.cells ∧ s9 + 116 ≤ rm.slots)
    (kk : ∀ adr9 : Nat → Nat, (∀ x, x < 30 → x ≠ 2 → adr9 x = adr x) → ∀ (n9 P9 : Nat) (F9 m9 : Nat → Nat → Int32) (g9 : Nat → Int64), Inv n9 P9 F9 → WR K G A Q (Wd G (adr9, (n9, P9, F9), (n9, P9, F9), m9, g9)) [some (.ref b), some (.ref (adr 0)), some (.ref (adr 5)), some (.ref (adr 24)), some (.int (nI i)), none, none] (k + 14) (s9 + 116) 1220 []) : WR K G A Q (Wd G (adr, (n, P, F), (n, P, F), mu, g)) [some (.ref b), some (.ref (adr 0)), some (.ref (adr 5)), some (.ref (adr 24)), some (.int (nI i)), none, none] k s9 1027 [] := by
  obtain ⟨⟨hr1, hr2⟩, hr3, hr4⟩ := hrm
  refine R_aload_n (pc := 1027) C dL_law_1027 rfl ?_
  refine R_aload_n (pc := 1028) C dL_law_1028 rfl ?_
  refine R_iload (pc := 1029) C dL_law_1029 rfl ?_
  refine R_iconst (pc := 1031) C dL_law_1031 (v := 1) (by decide) ?_
  refine R_iadd (pc := 1032) C dL_law_1032 ?_
  rw [show nI i + 1 = nI (i + 1) from nI_add (a := i) (b := 1)]
  refine R_tial (pc := 1033) C dL_law_1033 hT rfl (by omega) hN rfl ?_
  refine R_aload_n (pc := 1034) C dL_law_1034 rfl ?_
  refine R_iload (pc := 1035) C dL_law_1035 rfl ?_
  refine R_iconst (pc := 1037) C dL_law_1037 (v := 2) (by decide) ?_
  refine R_iadd (pc := 1038) C dL_law_1038 ?_
  rw [show nI i + 2 = nI (i + 2) from nI_add (a := i) (b := 2)]
  refine R_tial (pc := 1039) C dL_law_1039 hT rfl (by omega) hN rfl ?_
  refine R_aload_n (pc := 1040) C dL_law_1040 rfl ?_
  refine R_callSW (pc := 1041) C dL_law_1041 (vs := [_, _, _, _]) (fun h hh => mL_callBack hl hI.1 h hh) ⟨k_31_14, k_31_15, k_3_15, k_31_16⟩ (sgn (nv := 4) rfl ⟨by decide +kernel, by decide +kernel, by decide +kernel⟩) ⟨⟨by omega, by omega⟩, ⟨by omega, by omega⟩, Nat.le_of_ble_eq_true rfl⟩ rfl rfl (fun h9 hh9 v9 => ?_)
  refine WR.all (fun h1 hh1 => ?_)
  rcases hh1 with ⟨hk9, e9, hw9⟩ | ⟨hk9, e9, hw9⟩
  · subst e9
    refine WR.imp (P' := Wd G (adr, (n, P, fBack F (ix (xs (i + 1))) (ix (xs (i + 2))) (minI (F 13 (8 * ix (xs (i + 1)) + ix (xs (i + 2)))) (F 9 (ix (xs (i + 2)))))), (n, P, F), mu, vp_updL g 0 (minI (F 13 (8 * ix (xs (i + 1)) + ix (xs (i + 2)))) (F 9 (ix (xs (i + 2))))).toInt64)) (fun h e => e ▸ hw9) ?_
    show WR K G _ _ _ _ _ _ _ (.int _ :: _)
    refine R_istore (pc := 1044) C dL_law_1044 (Nat.le_of_ble_eq_true rfl) (lv' := [some (.ref _), some (.ref _), some (.ref _), some (.ref _), some (.int _), some (.int _), none]) rfl ?_
    refine R_aload_n (pc := 1046) C dL_law_1046 rfl ?_
    refine R_aload_n (pc := 1047) C dL_law_1047 rfl ?_
    refine R_iload (pc := 1048) C dL_law_1048 rfl ?_
    refine R_iconst (pc := 1050) C dL_law_1050 (v := 1) (by decide) ?_
    refine R_iadd (pc := 1051) C dL_law_1051 ?_
    rw [show nI i + 1 = nI (i + 1) from nI_add (a := i) (b := 1)]
    refine R_tial (pc := 1052) C dL_law_1052 hT rfl (by omega) hN rfl ?_
    refine R_aload_n (pc := 1053) C dL_law_1053 rfl ?_
    refine R_iload (pc := 1054) C dL_law_1054 rfl ?_
    refine R_iconst (pc := 1056) C dL_law_1056 (v := 2) (by decide) ?_
    refine R_iadd (pc := 1057) C dL_law_1057 ?_
    rw [show nI i + 2 = nI (i + 2) from nI_add (a := i) (b := 2)]
    refine R_tial (pc := 1058) C dL_law_1058 hT rfl (by omega) hN rfl ?_
    refine R_callVN (pc := 1059) C dL_law_1059 (vs := [_, _]) (fun h hh => mX2_callBack hl hI.1 h hh) (isOb_of (wm0) rfl) ⟨k_31_21, k_31_22, k_31_23, k_1_5, k_32_0⟩ (sgn (nv := 2) rfl ⟨by decide +kernel, by decide +kernel, by decide +kernel⟩) ⟨⟨by omega, by omega⟩, ⟨by omega, by omega⟩, Nat.le_of_ble_eq_true rfl⟩ rfl rfl (fun h8 hh8 v8 => ?_)
    refine WR.all (fun h2 hh2 => ?_)
    obtain ⟨-, e8, m9, hm9, hw8⟩ := hh2.resolve_right (fun z => z.1 hk9)
    subst e8
    refine WR.imp (P' := Wd G (adr, (n, P, fBack F (ix (xs (i + 1))) (ix (xs (i + 2))) (minI (F 13 (8 * ix (xs (i + 1)) + ix (xs (i + 2)))) (F 9 (ix (xs (i + 2)))))), (n, P, fBack F (ix (xs (i + 1))) (ix (xs (i + 2))) (minI (F 13 (8 * ix (xs (i + 1)) + ix (xs (i + 2)))) (F 9 (ix (xs (i + 2)))))), m9, vp_updL g 0 (minI (F 13 (8 * ix (xs (i + 1)) + ix (xs (i + 2)))) (F 9 (ix (xs (i + 2))))).toInt64)) (fun h e => e ▸ hw8) ?_
    show WR K G _ _ _ _ _ _ _ (.int _ :: _)
    refine R_istore (pc := 1062) C dL_law_1062 (Nat.le_of_ble_eq_true rfl) (lv' := [some (.ref _), some (.ref _), some (.ref _), some (.ref _), some (.int _), some (.int _), some (.int _)]) rfl ?_
    refine R_aload_n (pc := 1064) C dL_law_1064 rfl ?_
    refine R_callVN (pc := 1065) C dL_law_1065 (vs := []) (fun h hh => mX2_thrown hl h hh) (isOb_of (wm0) rfl) ⟨k_18_3, k_18_4, k_18_5, k_1_5, k_18_6⟩ (sgn (nv := 0) rfl ⟨by decide +kernel, by decide +kernel, by decide +kernel⟩) ⟨⟨by omega, by omega⟩, ⟨by omega, by omega⟩, Nat.le_of_ble_eq_true rfl⟩ rfl rfl (fun h7 hh7 v7 => ?_)
    refine WR.pr (fun e7 => ?_)
    subst e7
    rw [hm9]
    show WR K G _ _ _ _ _ _ _ (.int _ :: _)
    refine R_iload (pc := 1068) C dL_law_1068 rfl ?_
    refine R_icmp_eq (pc := 1070) C dL_law_1070 (tgt := 1075) (by decide) (fun c1070 => ?_) (fun c1070 => absurd (rfl) c1070)
    refine R_iload (pc := 1075) C dL_law_1075 rfl ?_
    refine R_if_ne (pc := 1077) C dL_law_1077 (tgt := 1092) (by decide) (fun c1077 => absurd c1077 (fun q => q rfl)) (fun c1077 => ?_)
    refine R_aload_n (pc := 1080) C dL_law_1080 rfl ?_
    refine R_iconst (pc := 1081) C dL_law_1081 (v := 0) (by decide) ?_
    refine R_lald (pc := 1082) C dL_law_1082 (wm_g) rfl (by decide) (by decide) (if_pos rfl) ?_
    refine R_iload (pc := 1083) C dL_law_1083 rfl ?_
    refine R_i2l (pc := 1085) C dL_law_1085 ?_
    refine R_lcmp (pc := 1086) C dL_law_1086 ?_
    refine R_if_eq (pc := 1087) C dL_law_1087 (tgt := 1092) (by decide) (fun c1087 => ?_) (fun c1087 => absurd (cmp0 _) c1087)
    refine R_goto (pc := 1092) C dL_law_1092 (tgt := 1220) (by decide) ?_
    refine WR.wid (show _ ≤ k + 14 by omega) (show _ ≤ s9 + 116 by omega) ?_
    exact WR.ls (ls_s (ls_s (ls_s (ls_s (ls_s (ls_n (ls_n ls_e))))))) (kk adr (fun _ _ _ => rfl) _ _ _ m9 _ (hI.back (ix_lt hI.1 (back0 hk9).1) (ix_lt hI.1 (back0 hk9).2)))
  · subst e9
    refine WR.imp (P' := Wd G (adr, (n, P, F), (n, P, F), mu, g)) (fun h e => e ▸ hw9) ?_
    show WR K G _ _ _ _ _ _ _ (.int _ :: _)
    refine R_istore (pc := 1044) C dL_law_1044 (Nat.le_of_ble_eq_true rfl) (lv' := [some (.ref _), some (.ref _), some (.ref _), some (.ref _), some (.int _), some (.int _), none]) rfl ?_
    refine R_aload_n (pc := 1046) C dL_law_1046 rfl ?_
    refine R_aload_n (pc := 1047) C dL_law_1047 rfl ?_
    refine R_iload (pc := 1048) C dL_law_1048 rfl ?_
    refine R_iconst (pc := 1050) C dL_law_1050 (v := 1) (by decide) ?_
    refine R_iadd (pc := 1051) C dL_law_1051 ?_
    rw [show nI i + 1 = nI (i + 1) from nI_add (a := i) (b := 1)]
    refine R_tial (pc := 1052) C dL_law_1052 hT rfl (by omega) hN rfl ?_
    refine R_aload_n (pc := 1053) C dL_law_1053 rfl ?_
    refine R_iload (pc := 1054) C dL_law_1054 rfl ?_
    refine R_iconst (pc := 1056) C dL_law_1056 (v := 2) (by decide) ?_
    refine R_iadd (pc := 1057) C dL_law_1057 ?_
    rw [show nI i + 2 = nI (i + 2) from nI_add (a := i) (b := 2)]
    refine R_tial (pc := 1058) C dL_law_1058 hT rfl (by omega) hN rfl ?_
    refine R_callVN (pc := 1059) C dL_law_1059 (vs := [_, _]) (fun h hh => mX2_callBack hl hI.1 h hh) (isOb_of (wm0) rfl) ⟨k_31_21, k_31_22, k_31_23, k_1_5, k_32_0⟩ (sgn (nv := 2) rfl ⟨by decide +kernel, by decide +kernel, by decide +kernel⟩) ⟨⟨by omega, by omega⟩, ⟨by omega, by omega⟩, Nat.le_of_ble_eq_true rfl⟩ rfl rfl (fun h8 hh8 v8 => ?_)
    refine WR.all (fun h2 hh2 => ?_)
    obtain ⟨-, ⟨r8, e8⟩, m9, hm9, hw8⟩ := hh2.resolve_left (fun z => hk9 z.1)
    subst e8
    refine WR.imp (P' := Wd G (adr, (n, P, F), (n, P, F), m9, g)) (fun h e => e ▸ hw8) ?_
    show WR K G _ _ _ _ _ _ _ (.int _ :: _)
    refine R_istore (pc := 1062) C dL_law_1062 (Nat.le_of_ble_eq_true rfl) (lv' := [some (.ref _), some (.ref _), some (.ref _), some (.ref _), some (.int _), some (.int _), some (.int _)]) rfl ?_
    refine R_aload_n (pc := 1064) C dL_law_1064 rfl ?_
    refine R_callVN (pc := 1065) C dL_law_1065 (vs := []) (fun h hh => mX2_thrown hl h hh) (isOb_of (wm0) rfl) ⟨k_18_3, k_18_4, k_18_5, k_1_5, k_18_6⟩ (sgn (nv := 0) rfl ⟨by decide +kernel, by decide +kernel, by decide +kernel⟩) ⟨⟨by omega, by omega⟩, ⟨by omega, by omega⟩, Nat.le_of_ble_eq_true rfl⟩ rfl rfl (fun h7 hh7 v7 => ?_)
    refine WR.pr (fun e7 => ?_)
    subst e7
    rw [hm9]
    show WR K G _ _ _ _ _ _ _ (.int _ :: _)
    refine R_iload (pc := 1068) C dL_law_1068 rfl ?_
    refine R_icmp_eq (pc := 1070) C dL_law_1070 (tgt := 1075) (by decide) (fun c1070 => ?_) (fun c1070 => absurd (rfl) c1070)
    refine R_iload (pc := 1075) C dL_law_1075 rfl ?_
    refine R_if_ne (pc := 1077) C dL_law_1077 (tgt := 1092) (by decide) (fun _ => ?_) (fun c => absurd c hk9)
    refine R_goto (pc := 1092) C dL_law_1092 (tgt := 1220) (by decide) ?_
    refine WR.wid (show _ ≤ k + 14 by omega) (show _ ≤ s9 + 116 by omega) ?_
    exact WR.ls (ls_s (ls_s (ls_s (ls_s (ls_s (ls_n (ls_n ls_e))))))) (kk adr (fun _ _ _ => rfl) _ _ _ m9 _ hI)
set_option maxHeartbeats 4000000 in
set_option maxRecDepth 100000 in
theorem sg_build (hl : K.l.stackTraces = false) (C : CX K G A RL cL_law 7 rt rm tb) (hT : va_T .int b N (fun j => .int (xs j)) A K.s K.s.heap) (hi : i + 6 < N) (hN : N < 2 ^ 31) (hI : Inv n P F) (hrm : (30 ≤ rm.frames ∧ 2000 ≤ rm.locals) ∧ k + 14 ≤ rm.cells ∧ s9 + 116 ≤ rm.slots)
    (kk : ∀ adr9 : Nat → Nat, (∀ x, x < 30 → x ≠ 2 → adr9 x = adr x) → ∀ (n9 P9 : Nat) (F9 m9 : Nat → Nat → Int32) (g9 : Nat → Int64), Inv n9 P9 F9 → WR K G A Q (Wd G (adr9, (n9, P9, F9), (n9, P9, F9), m9, g9)) [some (.ref b), some (.ref (adr 0)), some (.ref (adr 5)), some (.ref (adr 24)), some (.int (nI i)), none, none] (k + 14) (s9 + 116) 1220 []) : WR K G A Q (Wd G (adr, (n, P, F), (n, P, F), mu, g)) [some (.ref b), some (.ref (adr 0)), some (.ref (adr 5)), some (.ref (adr 24)), some (.int (nI i)), none, none] k s9 1164 [] := by
  obtain ⟨⟨hr1, hr2⟩, hr3, hr4⟩ := hrm
  refine R_aload_n (pc := 1164) C dL_law_1164 rfl ?_
  refine R_aload_n (pc := 1165) C dL_law_1165 rfl ?_
  refine R_iload (pc := 1166) C dL_law_1166 rfl ?_
  refine R_iconst (pc := 1168) C dL_law_1168 (v := 1) (by decide) ?_
  refine R_iadd (pc := 1169) C dL_law_1169 ?_
  rw [show nI i + 1 = nI (i + 1) from nI_add (a := i) (b := 1)]
  refine R_tial (pc := 1170) C dL_law_1170 hT rfl (by omega) hN rfl ?_
  refine R_aload_n (pc := 1171) C dL_law_1171 rfl ?_
  refine R_callSW (pc := 1172) C dL_law_1172 (vs := [_, _, _]) (fun h hh => mL_build hl hI.2.1 h hh) ⟨k_32_20, k_32_21, k_3_15, k_32_22⟩ (sgn (nv := 3) rfl ⟨by decide +kernel, by decide +kernel, by decide +kernel⟩) ⟨⟨by omega, by omega⟩, ⟨by omega, by omega⟩, Nat.le_of_ble_eq_true rfl⟩ rfl rfl (fun h9 hh9 v9 => ?_)
  refine WR.all (fun h1 hh1 => ?_)
  rcases hh1 with ⟨hk9, e9, hw9⟩ | ⟨hk9, e9, hw9⟩
  · subst e9
    refine WR.imp (P' := Wd G (adr, (n, P + 1, fBuild F P (xs (i + 1))), (n, P, F), mu, vp_updL g 0 (nI (P + 1)).toInt64)) (fun h e => e ▸ hw9) ?_
    show WR K G _ _ _ _ _ _ _ (.int _ :: _)
    refine R_istore (pc := 1175) C dL_law_1175 (Nat.le_of_ble_eq_true rfl) (lv' := [some (.ref _), some (.ref _), some (.ref _), some (.ref _), some (.int _), some (.int _), none]) rfl ?_
    refine R_aload_n (pc := 1177) C dL_law_1177 rfl ?_
    refine R_aload_n (pc := 1178) C dL_law_1178 rfl ?_
    refine R_iload (pc := 1179) C dL_law_1179 rfl ?_
    refine R_iconst (pc := 1181) C dL_law_1181 (v := 1) (by decide) ?_
    refine R_iadd (pc := 1182) C dL_law_1182 ?_
    rw [show nI i + 1 = nI (i + 1) from nI_add (a := i) (b := 1)]
    refine R_tial (pc := 1183) C dL_law_1183 hT rfl (by omega) hN rfl ?_
    refine R_callVN (pc := 1184) C dL_law_1184 (vs := [_]) (fun h hh => mX2_build hl hI.2.1 h hh) (isOb_of (wm0) rfl) ⟨k_33_3, k_33_4, k_33_5, k_1_5, k_33_6⟩ (sgn (nv := 1) rfl ⟨by decide +kernel, by decide +kernel, by decide +kernel⟩) ⟨⟨by omega, by omega⟩, ⟨by omega, by omega⟩, Nat.le_of_ble_eq_true rfl⟩ rfl rfl (fun h8 hh8 v8 => ?_)
    refine WR.all (fun h2 hh2 => ?_)
    obtain ⟨-, e8, m9, hm9, hw8⟩ := hh2.resolve_right (fun z => z.1 hk9)
    subst e8
    refine WR.imp (P' := Wd G (adr, (n, P + 1, fBuild F P (xs (i + 1))), (n, P + 1, fBuild F P (xs (i + 1))), m9, vp_updL g 0 (nI (P + 1)).toInt64)) (fun h e => e ▸ hw8) ?_
    show WR K G _ _ _ _ _ _ _ (.int _ :: _)
    refine R_istore (pc := 1187) C dL_law_1187 (Nat.le_of_ble_eq_true rfl) (lv' := [some (.ref _), some (.ref _), some (.ref _), some (.ref _), some (.int _), some (.int _), some (.int _)]) rfl ?_
    refine R_aload_n (pc := 1189) C dL_law_1189 rfl ?_
    refine R_callVN (pc := 1190) C dL_law_1190 (vs := []) (fun h hh => mX2_thrown hl h hh) (isOb_of (wm0) rfl) ⟨k_18_3, k_18_4, k_18_5, k_1_5, k_18_6⟩ (sgn (nv := 0) rfl ⟨by decide +kernel, by decide +kernel, by decide +kernel⟩) ⟨⟨by omega, by omega⟩, ⟨by omega, by omega⟩, Nat.le_of_ble_eq_true rfl⟩ rfl rfl (fun h7 hh7 v7 => ?_)
    refine WR.pr (fun e7 => ?_)
    subst e7
    rw [hm9]
    show WR K G _ _ _ _ _ _ _ (.int _ :: _)
    refine R_iload (pc := 1193) C dL_law_1193 rfl ?_
    refine R_icmp_eq (pc := 1195) C dL_law_1195 (tgt := 1200) (by decide) (fun c1195 => ?_) (fun c1195 => absurd (rfl) c1195)
    refine R_iload (pc := 1200) C dL_law_1200 rfl ?_
    refine R_if_ne (pc := 1202) C dL_law_1202 (tgt := 1217) (by decide) (fun c1202 => absurd c1202 (fun q => q rfl)) (fun c1202 => ?_)
    refine R_aload_n (pc := 1205) C dL_law_1205 rfl ?_
    refine R_iconst (pc := 1206) C dL_law_1206 (v := 0) (by decide) ?_
    refine R_lald (pc := 1207) C dL_law_1207 (wm_g) rfl (by decide) (by decide) (if_pos rfl) ?_
    refine R_iload (pc := 1208) C dL_law_1208 rfl ?_
    refine R_i2l (pc := 1210) C dL_law_1210 ?_
    refine R_lcmp (pc := 1211) C dL_law_1211 ?_
    refine R_if_eq (pc := 1212) C dL_law_1212 (tgt := 1217) (by decide) (fun c1212 => ?_) (fun c1212 => absurd (cmp0 _) c1212)
    refine R_goto (pc := 1217) C dL_law_1217 (tgt := 1220) (by decide) ?_
    refine WR.wid (show _ ≤ k + 14 by omega) (show _ ≤ s9 + 116 by omega) ?_
    exact WR.ls (ls_s (ls_s (ls_s (ls_s (ls_s (ls_n (ls_n ls_e))))))) (kk adr (fun _ _ _ => rfl) _ _ _ m9 _ (hI.build (build0 hk9).2 (bt_of (m := 99) (by omega) (build0 hk9).1)))
  · subst e9
    refine WR.imp (P' := Wd G (adr, (n, P, F), (n, P, F), mu, g)) (fun h e => e ▸ hw9) ?_
    show WR K G _ _ _ _ _ _ _ (.int _ :: _)
    refine R_istore (pc := 1175) C dL_law_1175 (Nat.le_of_ble_eq_true rfl) (lv' := [some (.ref _), some (.ref _), some (.ref _), some (.ref _), some (.int _), some (.int _), none]) rfl ?_
    refine R_aload_n (pc := 1177) C dL_law_1177 rfl ?_
    refine R_aload_n (pc := 1178) C dL_law_1178 rfl ?_
    refine R_iload (pc := 1179) C dL_law_1179 rfl ?_
    refine R_iconst (pc := 1181) C dL_law_1181 (v := 1) (by decide) ?_
    refine R_iadd (pc := 1182) C dL_law_1182 ?_
    rw [show nI i + 1 = nI (i + 1) from nI_add (a := i) (b := 1)]
    refine R_tial (pc := 1183) C dL_law_1183 hT rfl (by omega) hN rfl ?_
    refine R_callVN (pc := 1184) C dL_law_1184 (vs := [_]) (fun h hh => mX2_build hl hI.2.1 h hh) (isOb_of (wm0) rfl) ⟨k_33_3, k_33_4, k_33_5, k_1_5, k_33_6⟩ (sgn (nv := 1) rfl ⟨by decide +kernel, by decide +kernel, by decide +kernel⟩) ⟨⟨by omega, by omega⟩, ⟨by omega, by omega⟩, Nat.le_of_ble_eq_true rfl⟩ rfl rfl (fun h8 hh8 v8 => ?_)
    refine WR.all (fun h2 hh2 => ?_)
    obtain ⟨-, ⟨r8, e8⟩, m9, hm9, hw8⟩ := hh2.resolve_left (fun z => hk9 z.1)
    subst e8
    refine WR.imp (P' := Wd G (adr, (n, P, F), (n, P, F), m9, g)) (fun h e => e ▸ hw8) ?_
    show WR K G _ _ _ _ _ _ _ (.int _ :: _)
    refine R_istore (pc := 1187) C dL_law_1187 (Nat.le_of_ble_eq_true rfl) (lv' := [some (.ref _), some (.ref _), some (.ref _), some (.ref _), some (.int _), some (.int _), some (.int _)]) rfl ?_
    refine R_aload_n (pc := 1189) C dL_law_1189 rfl ?_
    refine R_callVN (pc := 1190) C dL_law_1190 (vs := []) (fun h hh => mX2_thrown hl h hh) (isOb_of (wm0) rfl) ⟨k_18_3, k_18_4, k_18_5, k_1_5, k_18_6⟩ (sgn (nv := 0) rfl ⟨by decide +kernel, by decide +kernel, by decide +kernel⟩) ⟨⟨by omega, by omega⟩, ⟨by omega, by omega⟩, Nat.le_of_ble_eq_true rfl⟩ rfl rfl (fun h7 hh7 v7 => ?_)
    refine WR.pr (fun e7 => ?_)
    subst e7
    rw [hm9]
    show WR K G _ _ _ _ _ _ _ (.int _ :: _)
    refine R_iload (pc := 1193) C dL_law_1193 rfl ?_
    refine R_icmp_eq (pc := 1195) C dL_law_1195 (tgt := 1200) (by decide) (fun c1195 => ?_) (fun c1195 => absurd (rfl) c1195)
    refine R_iload (pc := 1200) C dL_law_1200 rfl ?_
    refine R_if_ne (pc := 1202) C dL_law_1202 (tgt := 1217) (by decide) (fun _ => ?_) (fun c => absurd c hk9)
    refine R_goto (pc := 1217) C dL_law_1217 (tgt := 1220) (by decide) ?_
    refine WR.wid (show _ ≤ k + 14 by omega) (show _ ≤ s9 + 116 by omega) ?_
    exact WR.ls (ls_s (ls_s (ls_s (ls_s (ls_s (ls_n (ls_n ls_e))))))) (kk adr (fun _ _ _ => rfl) _ _ _ m9 _ hI)
set_option maxHeartbeats 4000000 in
set_option maxRecDepth 100000 in
theorem sg_year (hl : K.l.stackTraces = false) (C : CX K G A RL cL_law 7 rt rm tb) (hT : va_T .int b N (fun j => .int (xs j)) A K.s K.s.heap) (hi : i + 6 < N) (hN : N < 2 ^ 31) (hI : Inv n P F) (hrm : (30 ≤ rm.frames ∧ 2000 ≤ rm.locals) ∧ k + 14 ≤ rm.cells ∧ s9 + 116 ≤ rm.slots)
    (kk : ∀ adr9 : Nat → Nat, (∀ x, x < 30 → x ≠ 2 → adr9 x = adr x) → ∀ (n9 P9 : Nat) (F9 m9 : Nat → Nat → Int32) (g9 : Nat → Int64), Inv n9 P9 F9 → WR K G A Q (Wd G (adr9, (n9, P9, F9), (n9, P9, F9), m9, g9)) [some (.ref b), some (.ref (adr 0)), some (.ref (adr 5)), some (.ref (adr 24)), some (.int (nI i)), none, none] (k + 14) (s9 + 116) 1220 []) : WR K G A Q (Wd G (adr, (n, P, F), (n, P, F), mu, g)) [some (.ref b), some (.ref (adr 0)), some (.ref (adr 5)), some (.ref (adr 24)), some (.int (nI i)), none, none] k s9 578 [] := by
  obtain ⟨⟨hr1, hr2⟩, hr3, hr4⟩ := hrm
  refine R_aload_n (pc := 578) C dL_law_578 rfl ?_
  refine R_aload_n (pc := 579) C dL_law_579 rfl ?_
  refine R_callSW (pc := 580) C dL_law_580 (vs := [_, _]) (fun h hh => mL_year hl hI.1 hI.2.1 (lay_of hI) h hh) ⟨k_23_1, k_23_2, k_3_15, k_23_3⟩ (sgn (nv := 2) rfl ⟨by decide +kernel, by decide +kernel, by decide +kernel⟩) ⟨⟨by omega, by omega⟩, ⟨by omega, by omega⟩, Nat.le_of_ble_eq_true rfl⟩ rfl rfl (fun h9 hh9 v9 => ?_)
  refine WR.all (fun h1 hh1 => ?_)
  rcases hh1 with ⟨hk9, e9, hw9⟩ | ⟨hk9, e9, hw9⟩
  · subst e9
    refine WR.imp (P' := Wd G (adr, (n, P, su (yrF n P F) 16 1 (yrF n P F 16 1 + 1)), (n, P, F), mu, vp_updL g 0 (nI (cnt (spSt n P (shr F n)) 8)).toInt64)) (fun h e => e ▸ hw9) ?_
    show WR K G _ _ _ _ _ _ _ (.int _ :: _)
    refine R_istore (pc := 583) C dL_law_583 (Nat.le_of_ble_eq_true rfl) (lv' := [some (.ref _), some (.ref _), some (.ref _), some (.ref _), some (.int _), some (.int _), none]) rfl ?_
    refine R_aload_n (pc := 585) C dL_law_585 rfl ?_
    refine R_callVN (pc := 586) C dL_law_586 (vs := []) (fun h hh => mX2_year hl hI.1 hI.2.1 hI.2.2.1 hI.2.2.2.1 h hh) (isOb_of (wm0) rfl) ⟨k_26_17, k_26_18, k_26_19, k_1_5, k_26_20⟩ (sgn (nv := 0) rfl ⟨by decide +kernel, by decide +kernel, by decide +kernel⟩) ⟨⟨by omega, by omega⟩, ⟨by omega, by omega⟩, Nat.le_of_ble_eq_true rfl⟩ rfl rfl (fun h8 hh8 v8 => ?_)
    refine WR.all (fun h2 hh2 => ?_)
    obtain ⟨-, e8, m9, hm9, hw8⟩ := hh2.resolve_right (fun z => z.1 hk9)
    rw [hI.same.1] at hw8
    rw [← spSt_shr (F := F)] at e8
    subst e8
    refine WR.imp (P' := Wd G (adr, (n, P, su (yrF n P F) 16 1 (yrF n P F 16 1 + 1)), (n, P, su (yrF n P F) 16 1 (yrF n P F 16 1 + 1)), m9, vp_updL g 0 (nI (cnt (spSt n P (shr F n)) 8)).toInt64)) (fun h e => e ▸ hw8) ?_
    show WR K G _ _ _ _ _ _ _ (.int _ :: _)
    refine R_istore (pc := 589) C dL_law_589 (Nat.le_of_ble_eq_true rfl) (lv' := [some (.ref _), some (.ref _), some (.ref _), some (.ref _), some (.int _), some (.int _), some (.int _)]) rfl ?_
    refine R_aload_n (pc := 591) C dL_law_591 rfl ?_
    refine R_callVN (pc := 592) C dL_law_592 (vs := []) (fun h hh => mX2_thrown hl h hh) (isOb_of (wm0) rfl) ⟨k_18_3, k_18_4, k_18_5, k_1_5, k_18_6⟩ (sgn (nv := 0) rfl ⟨by decide +kernel, by decide +kernel, by decide +kernel⟩) ⟨⟨by omega, by omega⟩, ⟨by omega, by omega⟩, Nat.le_of_ble_eq_true rfl⟩ rfl rfl (fun h7 hh7 v7 => ?_)
    refine WR.pr (fun e7 => ?_)
    subst e7
    rw [hm9]
    show WR K G _ _ _ _ _ _ _ (.int _ :: _)
    refine R_iload (pc := 595) C dL_law_595 rfl ?_
    refine R_icmp_eq (pc := 597) C dL_law_597 (tgt := 602) (by decide) (fun c597 => ?_) (fun c597 => absurd (rfl) c597)
    refine R_iload (pc := 602) C dL_law_602 rfl ?_
    refine R_if_ne (pc := 604) C dL_law_604 (tgt := 619) (by decide) (fun c604 => absurd c604 (fun q => q rfl)) (fun c604 => ?_)
    refine R_aload_n (pc := 607) C dL_law_607 rfl ?_
    refine R_iconst (pc := 608) C dL_law_608 (v := 0) (by decide) ?_
    refine R_lald (pc := 609) C dL_law_609 (wm_g) rfl (by decide) (by decide) (if_pos rfl) ?_
    refine R_iload (pc := 610) C dL_law_610 rfl ?_
    refine R_i2l (pc := 612) C dL_law_612 ?_
    refine R_lcmp (pc := 613) C dL_law_613 ?_
    refine R_if_eq (pc := 614) C dL_law_614 (tgt := 619) (by decide) (fun c614 => ?_) (fun c614 => absurd (cmp0 _) c614)
    refine R_goto (pc := 619) C dL_law_619 (tgt := 1220) (by decide) ?_
    refine WR.wid (show _ ≤ k + 14 by omega) (show _ ≤ s9 + 116 by omega) ?_
    exact WR.ls (ls_s (ls_s (ls_s (ls_s (ls_s (ls_n (ls_n ls_e))))))) (kk adr (fun _ _ _ => rfl) _ _ _ m9 _ (hI.year hk9))
  · subst e9
    refine WR.imp (P' := Wd G (adr, (n, P, F), (n, P, F), mu, g)) (fun h e => e ▸ hw9) ?_
    show WR K G _ _ _ _ _ _ _ (.int _ :: _)
    refine R_istore (pc := 583) C dL_law_583 (Nat.le_of_ble_eq_true rfl) (lv' := [some (.ref _), some (.ref _), some (.ref _), some (.ref _), some (.int _), some (.int _), none]) rfl ?_
    refine R_aload_n (pc := 585) C dL_law_585 rfl ?_
    refine R_callVN (pc := 586) C dL_law_586 (vs := []) (fun h hh => mX2_year hl hI.1 hI.2.1 hI.2.2.1 hI.2.2.2.1 h hh) (isOb_of (wm0) rfl) ⟨k_26_17, k_26_18, k_26_19, k_1_5, k_26_20⟩ (sgn (nv := 0) rfl ⟨by decide +kernel, by decide +kernel, by decide +kernel⟩) ⟨⟨by omega, by omega⟩, ⟨by omega, by omega⟩, Nat.le_of_ble_eq_true rfl⟩ rfl rfl (fun h8 hh8 v8 => ?_)
    refine WR.all (fun h2 hh2 => ?_)
    obtain ⟨-, ⟨r8, e8⟩, m9, hm9, hw8⟩ := hh2.resolve_left (fun z => hk9 z.1)
    subst e8
    refine WR.imp (P' := Wd G (adr, (n, P, F), (n, P, F), m9, g)) (fun h e => e ▸ hw8) ?_
    show WR K G _ _ _ _ _ _ _ (.int _ :: _)
    refine R_istore (pc := 589) C dL_law_589 (Nat.le_of_ble_eq_true rfl) (lv' := [some (.ref _), some (.ref _), some (.ref _), some (.ref _), some (.int _), some (.int _), some (.int _)]) rfl ?_
    refine R_aload_n (pc := 591) C dL_law_591 rfl ?_
    refine R_callVN (pc := 592) C dL_law_592 (vs := []) (fun h hh => mX2_thrown hl h hh) (isOb_of (wm0) rfl) ⟨k_18_3, k_18_4, k_18_5, k_1_5, k_18_6⟩ (sgn (nv := 0) rfl ⟨by decide +kernel, by decide +kernel, by decide +kernel⟩) ⟨⟨by omega, by omega⟩, ⟨by omega, by omega⟩, Nat.le_of_ble_eq_true rfl⟩ rfl rfl (fun h7 hh7 v7 => ?_)
    refine WR.pr (fun e7 => ?_)
    subst e7
    rw [hm9]
    show WR K G _ _ _ _ _ _ _ (.int _ :: _)
    refine R_iload (pc := 595) C dL_law_595 rfl ?_
    refine R_icmp_eq (pc := 597) C dL_law_597 (tgt := 602) (by decide) (fun c597 => ?_) (fun c597 => absurd (rfl) c597)
    refine R_iload (pc := 602) C dL_law_602 rfl ?_
    refine R_if_ne (pc := 604) C dL_law_604 (tgt := 619) (by decide) (fun _ => ?_) (fun c => absurd c hk9)
    refine R_goto (pc := 619) C dL_law_619 (tgt := 1220) (by decide) ?_
    refine WR.wid (show _ ≤ k + 14 by omega) (show _ ≤ s9 + 116 by omega) ?_
    exact WR.ls (ls_s (ls_s (ls_s (ls_s (ls_s (ls_n (ls_n ls_e))))))) (kk adr (fun _ _ _ => rfl) _ _ _ m9 _ hI)
end
