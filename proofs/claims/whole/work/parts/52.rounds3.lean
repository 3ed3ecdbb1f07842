/-! 52: rounds of the law: sign, addWell. Written by wip/whole/gen/m52.py -/
theorem asc_of {n P : Nat} {F : Nat → Nat → Int32} (H : Inv n P F) : ∀ i j, i < n → j < tl F i → ∃ c, tbf F i j = nI c ∧ c < 128 := by
  intro i j hi hj
  have hn8 := H.1
  obtain ⟨⟨a, ha, ea⟩, ⟨d, hd, ed⟩⟩ := H.2.2.1.1 i hi
  unfold tl at hj
  unfold tbf
  rw [ea, ed, nI_clamp (by omega), nI_clamp (by omega)] at hj ⊢
  refine ⟨(tx a d i).getD j 0, rfl, ?_⟩
  by_cases c : d < 10
  · have sE := sA_e a (by omega) d c i (by omega)
    exact sE.2.2.2.2.2.1 j (by rw [sE.2.2.2.2.2.2] at hj; exact hj)
  · have sE := sB_e a (by omega) d (by omega) (by omega) i (by omega)
    exact sE.2.2.2.2.2.2.1 j (by rw [sE.2.2.2.2.2.2.2] at hj; exact hj)
theorem add0 {n : Nat} {a b c d e f : Int32} (h : kAdd n a b c d e f = 0) : qR a 0 2 = true ∧ qR b 0 99 = true ∧ qR f 0 1000 = true ∧ ¬ n = 8 := by
  unfold kAdd at h
  by_cases q : qR a 0 2 = true
  · rw [if_pos q] at h
    by_cases z : qR b 0 99 = true ∧ qR c (-10000) 10000 = true ∧ qR d (-10000) 10000 = true ∧ qR e 0 1000 = true ∧ qR f 0 1000 = true
    · rw [if_pos z] at h
      by_cases y : n = 8
      · rw [if_pos y] at h; exact absurd h (by decide)
      · exact ⟨q, z.1, z.2.2.2.2, y⟩
    · rw [if_neg z] at h; exact absurd h (by decide)
  · rw [if_neg q] at h; exact absurd h (by decide)
section
variable {K : KT} {G : GT} {A : Nat → Prop} {rt : Option FieldType} {rm : Room} {tb : List ExceptionTableEntry} {Q : State → Prop} {adr : Nat → Nat} {n P b N i k s9 : Nat} {F mu : Nat → Nat → Int32} {g : Nat → Int64} {xs : Nat → Int32}
set_option maxHeartbeats 4000000 in
set_option maxRecDepth 100000 in
theorem sg_sign (hl : K.l.stackTraces = false) (C : CX K G A RL cL_law 7 rt rm tb) (hT : va_T .int b N (fun j => .int (xs j)) A K.s K.s.heap) (hi : i + 6 < N) (hN : N < 2 ^ 31) (hI : Inv n P F) (hrm : (30 ≤ rm.frames ∧ 2000 ≤ rm.locals) ∧ k + 14 ≤ rm.cells ∧ s9 + 116 ≤ rm.slots)
    (kk : ∀ adr9 : Nat → Nat, (∀ x, x < 30 → x ≠ 2 → adr9 x = adr x) → ∀ (n9 P9 : Nat) (F9 m9 : Nat → Nat → Int32) (g9 : Nat → Int64), Inv n9 P9 F9 → WR K G A Q (Wd G (adr9, (n9, P9, F9), (n9, P9, F9), m9, g9)) [some (.ref b), some (.ref (adr 0)), some (.ref (adr 5)), some (.ref (adr 24)), some (.int (nI i)), none, none] (k + 14) (s9 + 116) 1220 []) : WR K G A Q (Wd G (adr, (n, P, F), (n, P, F), mu, g)) [some (.ref b), some (.ref (adr 0)), some (.ref (adr 5)), some (.ref (adr 24)), some (.int (nI i)), none, none] k s9 510 [] := by
  obtain ⟨⟨hr1, hr2⟩, hr3, hr4⟩ := hrm
  refine R_aload_n (pc := 510) C dL_law_510 rfl ?_
  refine R_aload_n (pc := 511) C dL_law_511 rfl ?_
  refine R_iload (pc := 512) C dL_law_512 rfl ?_
  refine R_iconst (pc := 514) C dL_law_514 (v := 1) (by decide) ?_
  refine R_iadd (pc := 515) C dL_law_515 ?_
  rw [show nI i + 1 = nI (i + 1) from nI_add (a := i) (b := 1)]
  refine R_tial (pc := 516) C dL_law_516 hT rfl (by omega) hN rfl ?_
  refine R_aload_n (pc := 517) C dL_law_517 rfl ?_
  refine R_iload (pc := 518) C dL_law_518 rfl ?_
  refine R_iconst (pc := 520) C dL_law_520 (v := 2) (by decide) ?_
  refine R_iadd (pc := 521) C dL_law_521 ?_
  rw [show nI i + 2 = nI (i + 2) from nI_add (a := i) (b := 2)]
  refine R_tial (pc := 522) C dL_law_522 hT rfl (by omega) hN rfl ?_
  refine R_aload_n (pc := 523) C dL_law_523 rfl ?_
  refine R_callSW (pc := 524) C dL_law_524 (vs := [_, _, _, _]) (fun h hh => mL_sign hl hI.1 (asc_of hI) h hh) ⟨k_21_21, k_21_22, k_3_15, k_21_23⟩ (sgn (nv := 4) rfl ⟨by decide +kernel, by decide +kernel, by decide +kernel⟩) ⟨⟨by omega, by omega⟩, ⟨by omega, by omega⟩, Nat.le_of_ble_eq_true rfl⟩ rfl rfl (fun h9 hh9 v9 => ?_)
  refine WR.all (fun h1 hh1 => ?_)
  rcases hh1 with ⟨hk9, e9, hw9⟩ | ⟨hk9, e9, hw9⟩
  · subst e9
    refine WR.imp (P' := Wd G (adr, (n, P, F), (n, P, F), mu, vp_updL g 0 (tbf F (ix (xs (i + 1))) (ix (xs (i + 2)))).toInt64)) (fun h e => e ▸ hw9) ?_
    show WR K G _ _ _ _ _ _ _ (.int _ :: _)
    refine R_istore (pc := 527) C dL_law_527 (Nat.le_of_ble_eq_true rfl) (lv' := [some (.ref _), some (.ref _), some (.ref _), some (.ref _), some (.int _), some (.int _), none]) rfl ?_
    refine R_aload_n (pc := 529) C dL_law_529 rfl ?_
    refine R_aload_n (pc := 530) C dL_law_530 rfl ?_
    refine R_iload (pc := 531) C dL_law_531 rfl ?_
    refine R_iconst (pc := 533) C dL_law_533 (v := 1) (by decide) ?_
    refine R_iadd (pc := 534) C dL_law_534 ?_
    rw [show nI i + 1 = nI (i + 1) from nI_add (a := i) (b := 1)]
    refine R_tial (pc := 535) C dL_law_535 hT rfl (by omega) hN rfl ?_
    refine R_aload_n (pc := 536) C dL_law_536 rfl ?_
    refine R_iload (pc := 537) C dL_law_537 rfl ?_
    refine R_iconst (pc := 539) C dL_law_539 (v := 2) (by decide) ?_
    refine R_iadd (pc := 540) C dL_law_540 ?_
    rw [show nI i + 2 = nI (i + 2) from nI_add (a := i) (b := 2)]
    refine R_tial (pc := 541) C dL_law_541 hT rfl (by omega) hN rfl ?_
    refine R_callVN (pc := 542) C dL_law_542 (vs := [_, _]) (fun h hh => mX2_sign hl hI.1 hI.2.2.1 h hh) (isOb_of (wm0) rfl) ⟨k_22_21, k_22_22, k_22_23, k_1_5, k_23_0⟩ (sgn (nv := 2) rfl ⟨by decide +kernel, by decide +kernel, by decide +kernel⟩) ⟨⟨by omega, by omega⟩, ⟨by omega, by omega⟩, Nat.le_of_ble_eq_true rfl⟩ rfl rfl (fun h8 hh8 v8 => ?_)
    refine WR.all (fun h2 hh2 => ?_)
    obtain ⟨-, e8, m9, hm9, hw8⟩ := hh2.resolve_right (fun z => z.1 hk9)
    subst e8
    refine WR.imp (P' := Wd G (adr, (n, P, F), (n, P, F), m9, vp_updL g 0 (tbf F (ix (xs (i + 1))) (ix (xs (i + 2)))).toInt64)) (fun h e => e ▸ hw8) ?_
    show WR K G _ _ _ _ _ _ _ (.int _ :: _)
    refine R_istore (pc := 545) C dL_law_545 (Nat.le_of_ble_eq_true rfl) (lv' := [some (.ref _), some (.ref _), some (.ref _), some (.ref _), some (.int _), some (.int _), some (.int _)]) rfl ?_
    refine R_aload_n (pc := 547) C dL_law_547 rfl ?_
    refine R_callVN (pc := 548) C dL_law_548 (vs := []) (fun h hh => mX2_thrown hl h hh) (isOb_of (wm0) rfl) ⟨k_18_3, k_18_4, k_18_5, k_1_5, k_18_6⟩ (sgn (nv := 0) rfl ⟨by decide +kernel, by decide +kernel, by decide +kernel⟩) ⟨⟨by omega, by omega⟩, ⟨by omega, by omega⟩, Nat.le_of_ble_eq_true rfl⟩ rfl rfl (fun h7 hh7 v7 => ?_)
    refine WR.pr (fun e7 => ?_)
    subst e7
    rw [hm9]
    show WR K G _ _ _ _ _ _ _ (.int _ :: _)
    refine R_iload (pc := 551) C dL_law_551 rfl ?_
    refine R_icmp_eq (pc := 553) C dL_law_553 (tgt := 558) (by decide) (fun c553 => ?_) (fun c553 => absurd (rfl) c553)
    refine R_iload (pc := 558) C dL_law_558 rfl ?_
    refine R_if_ne (pc := 560) C dL_law_560 (tgt := 575) (by decide) (fun c560 => absurd c560 (fun q => q rfl)) (fun c560 => ?_)
    refine R_aload_n (pc := 563) C dL_law_563 rfl ?_
    refine R_iconst (pc := 564) C dL_law_564 (v := 0) (by decide) ?_
    refine R_lald (pc := 565) C dL_law_565 (wm_g) rfl (by decide) (by decide) (if_pos rfl) ?_
    refine R_iload (pc := 566) C dL_law_566 rfl ?_
    refine R_i2l (pc := 568) C dL_law_568 ?_
    refine R_lcmp (pc := 569) C dL_law_569 ?_
    refine R_if_eq (pc := 570) C dL_law_570 (tgt := 575) (by decide) (fun c570 => ?_) (fun c570 => absurd (cmp0 _) c570)
    refine R_goto (pc := 575) C dL_law_575 (tgt := 1220) (by decide) ?_
    refine WR.wid (show _ ≤ k + 14 by omega) (show _ ≤ s9 + 116 by omega) ?_
    exact WR.ls (ls_s (ls_s (ls_s (ls_s (ls_s (ls_n (ls_n ls_e))))))) (kk adr (fun _ _ _ => rfl) _ _ _ m9 _ (hI))
  · subst e9
    refine WR.imp (P' := Wd G (adr, (n, P, F), (n, P, F), mu, g)) (fun h e => e ▸ hw9) ?_
    show WR K G _ _ _ _ _ _ _ (.int _ :: _)
    refine R_istore (pc := 527) C dL_law_527 (Nat.le_of_ble_eq_true rfl) (lv' := [some (.ref _), some (.ref _), some (.ref _), some (.ref _), some (.int _), some (.int _), none]) rfl ?_
    refine R_aload_n (pc := 529) C dL_law_529 rfl ?_
    refine R_aload_n (pc := 530) C dL_law_530 rfl ?_
    refine R_iload (pc := 531) C dL_law_531 rfl ?_
    refine R_iconst (pc := 533) C dL_law_533 (v := 1) (by decide) ?_
    refine R_iadd (pc := 534) C dL_law_534 ?_
    rw [show nI i + 1 = nI (i + 1) from nI_add (a := i) (b := 1)]
    refine R_tial (pc := 535) C dL_law_535 hT rfl (by omega) hN rfl ?_
    refine R_aload_n (pc := 536) C dL_law_536 rfl ?_
    refine R_iload (pc := 537) C dL_law_537 rfl ?_
    refine R_iconst (pc := 539) C dL_law_539 (v := 2) (by decide) ?_
    refine R_iadd (pc := 540) C dL_law_540 ?_
    rw [show nI i + 2 = nI (i + 2) from nI_add (a := i) (b := 2)]
    refine R_tial (pc := 541) C dL_law_541 hT rfl (by omega) hN rfl ?_
    refine R_callVN (pc := 542) C dL_law_542 (vs := [_, _]) (fun h hh => mX2_sign hl hI.1 hI.2.2.1 h hh) (isOb_of (wm0) rfl) ⟨k_22_21, k_22_22, k_22_23, k_1_5, k_23_0⟩ (sgn (nv := 2) rfl ⟨by decide +kernel, by decide +kernel, by decide +kernel⟩) ⟨⟨by omega, by omega⟩, ⟨by omega, by omega⟩, Nat.le_of_ble_eq_true rfl⟩ rfl rfl (fun h8 hh8 v8 => ?_)
    refine WR.all (fun h2 hh2 => ?_)
    obtain ⟨-, ⟨r8, e8⟩, m9, hm9, hw8⟩ := hh2.resolve_left (fun z => hk9 z.1)
    subst e8
    refine WR.imp (P' := Wd G (adr, (n, P, F), (n, P, F), m9, g)) (fun h e => e ▸ hw8) ?_
    show WR K G _ _ _ _ _ _ _ (.int _ :: _)
    refine R_istore (pc := 545) C dL_law_545 (Nat.le_of_ble_eq_true rfl) (lv' := [some (.ref _), some (.ref _), some (.ref _), some (.ref _), some (.int _), some (.int _), some (.int _)]) rfl ?_
    refine R_aload_n (pc := 547) C dL_law_547 rfl ?_
    refine R_callVN (pc := 548) C dL_law_548 (vs := []) (fun h hh => mX2_thrown hl h hh) (isOb_of (wm0) rfl) ⟨k_18_3, k_18_4, k_18_5, k_1_5, k_18_6⟩ (sgn (nv := 0) rfl ⟨by decide +kernel, by decide +kernel, by decide +kernel⟩) ⟨⟨by omega, by omega⟩, ⟨by omega, by omega⟩, Nat.le_of_ble_eq_true rfl⟩ rfl rfl (fun h7 hh7 v7 => ?_)
    refine WR.pr (fun e7 => ?_)
    subst e7
    rw [hm9]
    show WR K G _ _ _ _ _ _ _ (.int _ :: _)
    refine R_iload (pc := 551) C dL_law_551 rfl ?_
    refine R_icmp_eq (pc := 553) C dL_law_553 (tgt := 558) (by decide) (fun c553 => ?_) (fun c553 => absurd (rfl) c553)
    refine R_iload (pc := 558) C dL_law_558 rfl ?_
    refine R_if_ne (pc := 560) C dL_law_560 (tgt := 575) (by decide) (fun _ => ?_) (fun c => absurd c hk9)
    refine R_goto (pc := 575) C dL_law_575 (tgt := 1220) (by decide) ?_
    refine WR.wid (show _ ≤ k + 14 by omega) (show _ ≤ s9 + 116 by omega) ?_
    exact WR.ls (ls_s (ls_s (ls_s (ls_s (ls_s (ls_n (ls_n ls_e))))))) (kk adr (fun _ _ _ => rfl) _ _ _ m9 _ hI)
set_option maxHeartbeats 4000000 in
set_option maxRecDepth 100000 in
theorem sg_addWell (hl : K.l.stackTraces = false) (C : CX K G A RL cL_law 7 rt rm tb) (hT : va_T .int b N (fun j => .int (xs j)) A K.s K.s.heap) (hi : i + 6 < N) (hN : N < 2 ^ 31) (hI : Inv n P F) (hrm : (30 ≤ rm.frames ∧ 2000 ≤ rm.locals) ∧ k + 14 ≤ rm.cells ∧ s9 + 116 ≤ rm.slots)
    (kk : ∀ adr9 : Nat → Nat, (∀ x, x < 30 → x ≠ 2 → adr9 x = adr x) → ∀ (n9 P9 : Nat) (F9 m9 : Nat → Nat → Int32) (g9 : Nat → Int64), Inv n9 P9 F9 → WR K G A Q (Wd G (adr9, (n9, P9, F9), (n9, P9, F9), m9, g9)) [some (.ref b), some (.ref (adr 0)), some (.ref (adr 5)), some (.ref (adr 24)), some (.int (nI i)), none, none] (k + 14) (s9 + 116) 1220 []) : WR K G A Q (Wd G (adr, (n, P, F), (n, P, F), mu, g)) [some (.ref b), some (.ref (adr 0)), some (.ref (adr 5)), some (.ref (adr 24)), some (.int (nI i)), none, none] k s9 132 [] := by
  obtain ⟨⟨hr1, hr2⟩, hr3, hr4⟩ := hrm
  refine R_aload_n (pc := 132) C dL_law_132 rfl ?_
  refine R_aload_n (pc := 133) C dL_law_133 rfl ?_
  refine R_iload (pc := 134) C dL_law_134 rfl ?_
  refine R_iconst (pc := 136) C dL_law_136 (v := 1) (by decide) ?_
  refine R_iadd (pc := 137) C dL_law_137 ?_
  rw [show nI i + 1 = nI (i + 1) from nI_add (a := i) (b := 1)]
  refine R_tial (pc := 138) C dL_law_138 hT rfl (by omega) hN rfl ?_
  refine R_aload_n (pc := 139) C dL_law_139 rfl ?_
  refine R_iload (pc := 140) C dL_law_140 rfl ?_
  refine R_iconst (pc := 142) C dL_law_142 (v := 2) (by decide) ?_
  refine R_iadd (pc := 143) C dL_law_143 ?_
  rw [show nI i + 2 = nI (i + 2) from nI_add (a := i) (b := 2)]
  refine R_tial (pc := 144) C dL_law_144 hT rfl (by omega) hN rfl ?_
  refine R_aload_n (pc := 145) C dL_law_145 rfl ?_
  refine R_iload (pc := 146) C dL_law_146 rfl ?_
  refine R_iconst (pc := 148) C dL_law_148 (v := 3) (by decide) ?_
  refine R_iadd (pc := 149) C dL_law_149 ?_
  rw [show nI i + 3 = nI (i + 3) from nI_add (a := i) (b := 3)]
  refine R_tial (pc := 150) C dL_law_150 hT rfl (by omega) hN rfl ?_
  refine R_aload_n (pc := 151) C dL_law_151 rfl ?_
  refine R_iload (pc := 152) C dL_law_152 rfl ?_
  refine R_iconst (pc := 154) C dL_law_154 (v := 4) (by decide) ?_
  refine R_iadd (pc := 155) C dL_law_155 ?_
  rw [show nI i + 4 = nI (i + 4) from nI_add (a := i) (b := 4)]
  refine R_tial (pc := 156) C dL_law_156 hT rfl (by omega) hN rfl ?_
  refine R_aload_n (pc := 157) C dL_law_157 rfl ?_
  refine R_iload (pc := 158) C dL_law_158 rfl ?_
  refine R_iconst (pc := 160) C dL_law_160 (v := 5) (by decide) ?_
  refine R_iadd (pc := 161) C dL_law_161 ?_
  rw [show nI i + 5 = nI (i + 5) from nI_add (a := i) (b := 5)]
  refine R_tial (pc := 162) C dL_law_162 hT rfl (by omega) hN rfl ?_
  refine R_aload_n (pc := 163) C dL_law_163 rfl ?_
  refine R_iload (pc := 164) C dL_law_164 rfl ?_
  refine R_bipush (pc := 166) C dL_law_166 (v := 6) (by decide) ?_
  refine R_iadd (pc := 168) C dL_law_168 ?_
  rw [show nI i + 6 = nI (i + 6) from nI_add (a := i) (b := 6)]
  refine R_tial (pc := 169) C dL_law_169 hT rfl (by omega) hN rfl ?_
  refine R_aload_n (pc := 170) C dL_law_170 rfl ?_
  refine R_callSW (pc := 171) C dL_law_171 (vs := [_, _, _, _, _, _, _, _]) (fun h hh => mL_addWell hl hI.1 (fun f h1 h2 => hI.2.2.2.2.2.1 f n h1 h2 (Nat.le_refl n)) (fun j hj => hI.2.2.2.2.2.2 (8 * n + j) (by omega)) h hh) ⟨k_3_13, k_3_14, k_3_15, k_3_16⟩ (sgn (nv := 8) rfl ⟨by decide +kernel, by decide +kernel, by decide +kernel⟩) ⟨⟨by omega, by omega⟩, ⟨by omega, by omega⟩, Nat.le_of_ble_eq_true rfl⟩ rfl rfl (fun h9 hh9 v9 => ?_)
  refine WR.all (fun h1 hh1 => ?_)
  rcases hh1 with ⟨hk9, e9, hw9⟩ | ⟨hk9, e9, hw9⟩
  · subst e9
    obtain ⟨adr9, hadr, hw9⟩ := hw9
    rw [← hadr 0 (by decide) (by decide), ← hadr 5 (by decide) (by decide), ← hadr 24 (by decide) (by decide)]
    refine WR.imp (P' := Wd G (adr9, (n + 1, P, fAdd F n (xs (i + 1)) (xs (i + 2)) (xs (i + 3)) (xs (i + 4)) (xs (i + 5)) (xs (i + 6))), (n, P, F), mu, vp_updL g 0 (nI n).toInt64)) (fun h e => e ▸ hw9) ?_
    show WR K G _ _ _ _ _ _ _ (.int _ :: _)
    refine R_istore (pc := 174) C dL_law_174 (Nat.le_of_ble_eq_true rfl) (lv' := [some (.ref _), some (.ref _), some (.ref _), some (.ref _), some (.int _), some (.int _), none]) rfl ?_
    refine R_aload_n (pc := 176) C dL_law_176 rfl ?_
    refine R_aload_n (pc := 177) C dL_law_177 rfl ?_
    refine R_iload (pc := 178) C dL_law_178 rfl ?_
    refine R_iconst (pc := 180) C dL_law_180 (v := 1) (by decide) ?_
    refine R_iadd (pc := 181) C dL_law_181 ?_
    rw [show nI i + 1 = nI (i + 1) from nI_add (a := i) (b := 1)]
    refine R_tial (pc := 182) C dL_law_182 hT rfl (by omega) hN rfl ?_
    refine R_aload_n (pc := 183) C dL_law_183 rfl ?_
    refine R_iload (pc := 184) C dL_law_184 rfl ?_
    refine R_iconst (pc := 186) C dL_law_186 (v := 2) (by decide) ?_
    refine R_iadd (pc := 187) C dL_law_187 ?_
    rw [show nI i + 2 = nI (i + 2) from nI_add (a := i) (b := 2)]
    refine R_tial (pc := 188) C dL_law_188 hT rfl (by omega) hN rfl ?_
    refine R_aload_n (pc := 189) C dL_law_189 rfl ?_
    refine R_iload (pc := 190) C dL_law_190 rfl ?_
    refine R_iconst (pc := 192) C dL_law_192 (v := 3) (by decide) ?_
    refine R_iadd (pc := 193) C dL_law_193 ?_
    rw [show nI i + 3 = nI (i + 3) from nI_add (a := i) (b := 3)]
    refine R_tial (pc := 194) C dL_law_194 hT rfl (by omega) hN rfl ?_
    refine R_aload_n (pc := 195) C dL_law_195 rfl ?_
    refine R_iload (pc := 196) C dL_law_196 rfl ?_
    refine R_iconst (pc := 198) C dL_law_198 (v := 4) (by decide) ?_
    refine R_iadd (pc := 199) C dL_law_199 ?_
    rw [show nI i + 4 = nI (i + 4) from nI_add (a := i) (b := 4)]
    refine R_tial (pc := 200) C dL_law_200 hT rfl (by omega) hN rfl ?_
    refine R_aload_n (pc := 201) C dL_law_201 rfl ?_
    refine R_iload (pc := 202) C dL_law_202 rfl ?_
    refine R_iconst (pc := 204) C dL_law_204 (v := 5) (by decide) ?_
    refine R_iadd (pc := 205) C dL_law_205 ?_
    rw [show nI i + 5 = nI (i + 5) from nI_add (a := i) (b := 5)]
    refine R_tial (pc := 206) C dL_law_206 hT rfl (by omega) hN rfl ?_
    refine R_aload_n (pc := 207) C dL_law_207 rfl ?_
    refine R_iload (pc := 208) C dL_law_208 rfl ?_
    refine R_bipush (pc := 210) C dL_law_210 (v := 6) (by decide) ?_
    refine R_iadd (pc := 212) C dL_law_212 ?_
    rw [show nI i + 6 = nI (i + 6) from nI_add (a := i) (b := 6)]
    refine R_tial (pc := 213) C dL_law_213 hT rfl (by omega) hN rfl ?_
    refine R_callVN (pc := 214) C dL_law_214 (vs := [_, _, _, _, _, _]) (fun h hh => mX2_addWell hl hI.1 h hh) (isOb_of (wm0) rfl) ⟨k_17_14, k_17_15, k_17_16, k_1_5, k_17_17⟩ (sgn (nv := 6) rfl ⟨by decide +kernel, by decide +kernel, by decide +kernel⟩) ⟨⟨by omega, by omega⟩, ⟨by omega, by omega⟩, Nat.le_of_ble_eq_true rfl⟩ rfl rfl (fun h8 hh8 v8 => ?_)
    refine WR.all (fun h2 hh2 => ?_)
    obtain ⟨-, e8, m9, hm9, hw8⟩ := hh2.resolve_right (fun z => z.1 hk9)
    subst e8
    refine WR.imp (P' := Wd G (adr9, (n + 1, P, fAdd F n (xs (i + 1)) (xs (i + 2)) (xs (i + 3)) (xs (i + 4)) (xs (i + 5)) (xs (i + 6))), (n + 1, P, fAdd F n (xs (i + 1)) (xs (i + 2)) (xs (i + 3)) (xs (i + 4)) (xs (i + 5)) (xs (i + 6))), m9, vp_updL g 0 (nI n).toInt64)) (fun h e => e ▸ hw8) ?_
    show WR K G _ _ _ _ _ _ _ (.int _ :: _)
    refine R_istore (pc := 217) C dL_law_217 (Nat.le_of_ble_eq_true rfl) (lv' := [some (.ref _), some (.ref _), some (.ref _), some (.ref _), some (.int _), some (.int _), some (.int _)]) rfl ?_
    refine R_aload_n (pc := 219) C dL_law_219 rfl ?_
    refine R_callVN (pc := 220) C dL_law_220 (vs := []) (fun h hh => mX2_thrown hl h hh) (isOb_of (wm0) rfl) ⟨k_18_3, k_18_4, k_18_5, k_1_5, k_18_6⟩ (sgn (nv := 0) rfl ⟨by decide +kernel, by decide +kernel, by decide +kernel⟩) ⟨⟨by omega, by omega⟩, ⟨by omega, by omega⟩, Nat.le_of_ble_eq_true rfl⟩ rfl rfl (fun h7 hh7 v7 => ?_)
    refine WR.pr (fun e7 => ?_)
    subst e7
    rw [hm9]
    show WR K G _ _ _ _ _ _ _ (.int _ :: _)
    refine R_iload (pc := 223) C dL_law_223 rfl ?_
    refine R_icmp_eq (pc := 225) C dL_law_225 (tgt := 230) (by decide) (fun c225 => ?_) (fun c225 => absurd (rfl) c225)
    refine R_iload (pc := 230) C dL_law_230 rfl ?_
    refine R_if_ne (pc := 232) C dL_law_232 (tgt := 247) (by decide) (fun c232 => absurd c232 (fun q => q rfl)) (fun c232 => ?_)
    refine R_aload_n (pc := 235) C dL_law_235 rfl ?_
    refine R_iconst (pc := 236) C dL_law_236 (v := 0) (by decide) ?_
    refine R_lald (pc := 237) C dL_law_237 (wm_g) rfl (by decide) (by decide) (if_pos rfl) ?_
    refine R_iload (pc := 238) C dL_law_238 rfl ?_
    refine R_i2l (pc := 240) C dL_law_240 ?_
    refine R_lcmp (pc := 241) C dL_law_241 ?_
    refine R_if_eq (pc := 242) C dL_law_242 (tgt := 247) (by decide) (fun c242 => ?_) (fun c242 => absurd (cmp0 _) c242)
    refine R_goto (pc := 247) C dL_law_247 (tgt := 1220) (by decide) ?_
    rw [hadr 0 (by decide) (by decide), hadr 5 (by decide) (by decide), hadr 24 (by decide) (by decide)]
    refine WR.wid (show _ ≤ k + 14 by omega) (show _ ≤ s9 + 116 by omega) ?_
    exact WR.ls (ls_s (ls_s (ls_s (ls_s (ls_s (ls_n (ls_n ls_e))))))) (kk adr9 hadr _ _ _ m9 _ (hI.add (Nat.lt_of_le_of_ne hI.1 (add0 hk9).2.2.2) (bt_of (m := 2) (by omega) (add0 hk9).1) (bt_of (m := 99) (by omega) (add0 hk9).2.1) (bt_of (m := 1000) (by omega) (add0 hk9).2.2.1)))
  · subst e9
    refine WR.imp (P' := Wd G (adr, (n, P, F), (n, P, F), mu, g)) (fun h e => e ▸ hw9) ?_
    show WR K G _ _ _ _ _ _ _ (.int _ :: _)
    refine R_istore (pc := 174) C dL_law_174 (Nat.le_of_ble_eq_true rfl) (lv' := [some (.ref _), some (.ref _), some (.ref _), some (.ref _), some (.int _), some (.int _), none]) rfl ?_
    refine R_aload_n (pc := 176) C dL_law_176 rfl ?_
    refine R_aload_n (pc := 177) C dL_law_177 rfl ?_
    refine R_iload (pc := 178) C dL_law_178 rfl ?_
    refine R_iconst (pc := 180) C dL_law_180 (v := 1) (by decide) ?_
    refine R_iadd (pc := 181) C dL_law_181 ?_
    rw [show nI i + 1 = nI (i + 1) from nI_add (a := i) (b := 1)]
    refine R_tial (pc := 182) C dL_law_182 hT rfl (by omega) hN rfl ?_
    refine R_aload_n (pc := 183) C dL_law_183 rfl ?_
    refine R_iload (pc := 184) C dL_law_184 rfl ?_
    refine R_iconst (pc := 186) C dL_law_186 (v := 2) (by decide) ?_
    refine R_iadd (pc := 187) C dL_law_187 ?_
    rw [show nI i + 2 = nI (i + 2) from nI_add (a := i) (b := 2)]
    refine R_tial (pc := 188) C dL_law_188 hT rfl (by omega) hN rfl ?_
    refine R_aload_n (pc := 189) C dL_law_189 rfl ?_
    refine R_iload (pc := 190) C dL_law_190 rfl ?_
    refine R_iconst (pc := 192) C dL_law_192 (v := 3) (by decide) ?_
    refine R_iadd (pc := 193) C dL_law_193 ?_
    rw [show nI i + 3 = nI (i + 3) from nI_add (a := i) (b := 3)]
    refine R_tial (pc := 194) C dL_law_194 hT rfl (by omega) hN rfl ?_
    refine R_aload_n (pc := 195) C dL_law_195 rfl ?_
    refine R_iload (pc := 196) C dL_law_196 rfl ?_
    refine R_iconst (pc := 198) C dL_law_198 (v := 4) (by decide) ?_
    refine R_iadd (pc := 199) C dL_law_199 ?_
    rw [show nI i + 4 = nI (i + 4) from nI_add (a := i) (b := 4)]
    refine R_tial (pc := 200) C dL_law_200 hT rfl (by omega) hN rfl ?_
    refine R_aload_n (pc := 201) C dL_law_201 rfl ?_
    refine R_iload (pc := 202) C dL_law_202 rfl ?_
    refine R_iconst (pc := 204) C dL_law_204 (v := 5) (by decide) ?_
    refine R_iadd (pc := 205) C dL_law_205 ?_
    rw [show nI i + 5 = nI (i + 5) from nI_add (a := i) (b := 5)]
    refine R_tial (pc := 206) C dL_law_206 hT rfl (by omega) hN rfl ?_
    refine R_aload_n (pc := 207) C dL_law_207 rfl ?_
    refine R_iload (pc := 208) C dL_law_208 rfl ?_
    refine R_bipush (pc := 210) C dL_law_210 (v := 6) (by decide) ?_
    refine R_iadd (pc := 212) C dL_law_212 ?_
    rw [show nI i + 6 = nI (i + 6) from nI_add (a := i) (b := 6)]
    refine R_tial (pc := 213) C dL_law_213 hT rfl (by omega) hN rfl ?_
    refine R_callVN (pc := 214) C dL_law_214 (vs := [_, _, _, _, _, _]) (fun h hh => mX2_addWell hl hI.1 h hh) (isOb_of (wm0) rfl) ⟨k_17_14, k_17_15, k_17_16, k_1_5, k_17_17⟩ (sgn (nv := 6) rfl ⟨by decide +kernel, by decide +kernel, by decide +kernel⟩) ⟨⟨by omega, by omega⟩, ⟨by omega, by omega⟩, Nat.le_of_ble_eq_true rfl⟩ rfl rfl (fun h8 hh8 v8 => ?_)
    refine WR.all (fun h2 hh2 => ?_)
    obtain ⟨-, ⟨r8, e8⟩, m9, hm9, hw8⟩ := hh2.resolve_left (fun z => hk9 z.1)
    subst e8
    refine WR.imp (P' := Wd G (adr, (n, P, F), (n, P, F), m9, g)) (fun h e => e ▸ hw8) ?_
    show WR K G _ _ _ _ _ _ _ (.int _ :: _)
    refine R_istore (pc := 217) C dL_law_217 (Nat.le_of_ble_eq_true rfl) (lv' := [some (.ref _), some (.ref _), some (.ref _), some (.ref _), some (.int _), some (.int _), some (.int _)]) rfl ?_
    refine R_aload_n (pc := 219) C dL_law_219 rfl ?_
    refine R_callVN (pc := 220) C dL_law_220 (vs := []) (fun h hh => mX2_thrown hl h hh) (isOb_of (wm0) rfl) ⟨k_18_3, k_18_4, k_18_5, k_1_5, k_18_6⟩ (sgn (nv := 0) rfl ⟨by decide +kernel, by decide +kernel, by decide +kernel⟩) ⟨⟨by omega, by omega⟩, ⟨by omega, by omega⟩, Nat.le_of_ble_eq_true rfl⟩ rfl rfl (fun h7 hh7 v7 => ?_)
    refine WR.pr (fun e7 => ?_)
    subst e7
    rw [hm9]
    show WR K G _ _ _ _ _ _ _ (.int _ :: _)
    refine R_iload (pc := 223) C dL_law_223 rfl ?_
    refine R_icmp_eq (pc := 225) C dL_law_225 (tgt := 230) (by decide) (fun c225 => ?_) (fun c225 => absurd (rfl) c225)
    refine R_iload (pc := 230) C dL_law_230 rfl ?_
    refine R_if_ne (pc := 232) C dL_law_232 (tgt := 247) (by decide) (fun _ => ?_) (fun c => absurd c hk9)
    refine R_goto (pc := 247) C dL_law_247 (tgt := 1220) (by decide) ?_
    refine WR.wid (show _ ≤ k + 14 by omega) (show _ ≤ s9 + 116 by omega) ?_
    exact WR.ls (ls_s (ls_s (ls_s (ls_s (ls_s (ls_n (ls_n ls_e))))))) (kk adr (fun _ _ _ => rfl) _ _ _ m9 _ hI)
end
