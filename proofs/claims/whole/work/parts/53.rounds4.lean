/-! 53: rounds of the law: toggleMeter, years, fund, wouldStop. Written by wip/whole/gen/m53.py -/
theorem tog7 {x : Int32} (h : x = 0 ∨ x = 1) : 1 - x = 0 ∨ 1 - x = 1 := by rcases h with rfl | rfl <;> decide
section
variable {K : KT} {G : GT} {A : Nat → Prop} {rt : Option FieldType} {rm : Room} {tb : List ExceptionTableEntry} {Q : State → Prop} {adr : Nat → Nat} {n P b N i k s9 : Nat} {F mu : Nat → Nat → Int32} {g : Nat → Int64} {xs : Nat → Int32}
set_option maxHeartbeats 4000000 in
set_option maxRecDepth 100000 in
theorem sg_toggleMeter (hl : K.l.stackTraces = false) (C : CX K G A RL cL_law 7 rt rm tb) (hT : va_T .int b N (fun j => .int (xs j)) A K.s K.s.heap) (hi : i + 6 < N) (hN : N < 2 ^ 31) (hI : Inv n P F) (hrm : (30 ≤ rm.frames ∧ 2000 ≤ rm.locals) ∧ k + 14 ≤ rm.cells ∧ s9 + 116 ≤ rm.slots)
    (kk : ∀ adr9 : Nat → Nat, (∀ x, x < 30 → x ≠ 2 → adr9 x = adr x) → ∀ (n9 P9 : Nat) (F9 m9 : Nat → Nat → Int32) (g9 : Nat → Int64), Inv n9 P9 F9 → WR K G A Q (Wd G (adr9, (n9, P9, F9), (n9, P9, F9), m9, g9)) [some (.ref b), some (.ref (adr 0)), some (.ref (adr 5)), some (.ref (adr 24)), some (.int (nI i)), none, none] (k + 14) (s9 + 116) 1220 []) : WR K G A Q (Wd G (adr, (n, P, F), (n, P, F), mu, g)) [some (.ref b), some (.ref (adr 0)), some (.ref (adr 5)), some (.ref (adr 24)), some (.int (nI i)), none, none] k s9 760 [] := by
  obtain ⟨⟨hr1, hr2⟩, hr3, hr4⟩ := hrm
  refine R_aload_n (pc := 760) C dL_law_760 rfl ?_
  refine R_aload_n (pc := 761) C dL_law_761 rfl ?_
  refine R_iload (pc := 762) C dL_law_762 rfl ?_
  refine R_iconst (pc := 764) C dL_law_764 (v := 1) (by decide) ?_
  refine R_iadd (pc := 765) C dL_law_765 ?_
  rw [show nI i + 1 = nI (i + 1) from nI_add (a := i) (b := 1)]
  refine R_tial (pc := 766) C dL_law_766 hT rfl (by omega) hN rfl ?_
  refine R_aload_n (pc := 767) C dL_law_767 rfl ?_
  refine R_callSW (pc := 768) C dL_law_768 (vs := [_, _, _]) (fun h hh => mL_toggleMeter hl hI.1 (fun i hi => (hI.2.2.2.2.1 i (Nat.lt_of_lt_of_le hi hI.1)).2.2.1) h hh) ⟨k_29_14, k_29_15, k_3_15, k_29_16⟩ (sgn (nv := 3) rfl ⟨by decide +kernel, by decide +kernel, by decide +kernel⟩) ⟨⟨by omega, by omega⟩, ⟨by omega, by omega⟩, Nat.le_of_ble_eq_true rfl⟩ rfl rfl (fun h9 hh9 v9 => ?_)
  refine WR.all (fun h1 hh1 => ?_)
  rcases hh1 with ⟨hk9, e9, hw9⟩ | ⟨hk9, e9, hw9⟩
  · subst e9
    refine WR.imp (P' := Wd G (adr, (n, P, su F 7 (ix (xs (i + 1))) (1 - F 7 (ix (xs (i + 1))))), (n, P, F), mu, vp_updL g 0 (F 7 (ix (xs (i + 1)))).toInt64)) (fun h e => e ▸ hw9) ?_
    show WR K G _ _ _ _ _ _ _ (.int _ :: _)
    refine R_istore (pc := 771) C dL_law_771 (Nat.le_of_ble_eq_true rfl) (lv' := [some (.ref _), some (.ref _), some (.ref _), some (.ref _), some (.int _), some (.int _), none]) rfl ?_
    refine R_aload_n (pc := 773) C dL_law_773 rfl ?_
    refine R_aload_n (pc := 774) C dL_law_774 rfl ?_
    refine R_iload (pc := 775) C dL_law_775 rfl ?_
    refine R_iconst (pc := 777) C dL_law_777 (v := 1) (by decide) ?_
    refine R_iadd (pc := 778) C dL_law_778 ?_
    rw [show nI i + 1 = nI (i + 1) from nI_add (a := i) (b := 1)]
    refine R_tial (pc := 779) C dL_law_779 hT rfl (by omega) hN rfl ?_
    refine R_callVN (pc := 780) C dL_law_780 (vs := [_]) (fun h hh => mX2_toggleMeter hl hI.1 (fun i hi => (hI.2.2.2.2.1 i hi).2.2.1) h hh) (isOb_of (wm0) rfl) ⟨k_29_21, k_29_22, k_29_23, k_1_5, k_30_0⟩ (sgn (nv := 1) rfl ⟨by decide +kernel, by decide +kernel, by decide +kernel⟩) ⟨⟨by omega, by omega⟩, ⟨by omega, by omega⟩, Nat.le_of_ble_eq_true rfl⟩ rfl rfl (fun h8 hh8 v8 => ?_)
    refine WR.all (fun h2 hh2 => ?_)
    obtain ⟨-, e8, m9, hm9, hw8⟩ := hh2.resolve_right (fun z => z.1 hk9)
    subst e8
    refine WR.imp (P' := Wd G (adr, (n, P, su F 7 (ix (xs (i + 1))) (1 - F 7 (ix (xs (i + 1))))), (n, P, su F 7 (ix (xs (i + 1))) (1 - F 7 (ix (xs (i + 1))))), m9, vp_updL g 0 (F 7 (ix (xs (i + 1)))).toInt64)) (fun h e => e ▸ hw8) ?_
    show WR K G _ _ _ _ _ _ _ (.int _ :: _)
    refine R_istore (pc := 783) C dL_law_783 (Nat.le_of_ble_eq_true rfl) (lv' := [some (.ref _), some (.ref _), some (.ref _), some (.ref _), some (.int _), some (.int _), some (.int _)]) rfl ?_
    refine R_aload_n (pc := 785) C dL_law_785 rfl ?_
    refine R_callVN (pc := 786) C dL_law_786 (vs := []) (fun h hh => mX2_thrown hl h hh) (isOb_of (wm0) rfl) ⟨k_18_3, k_18_4, k_18_5, k_1_5, k_18_6⟩ (sgn (nv := 0) rfl ⟨by decide +kernel, by decide +kernel, by decide +kernel⟩) ⟨⟨by omega, by omega⟩, ⟨by omega, by omega⟩, Nat.le_of_ble_eq_true rfl⟩ rfl rfl (fun h7 hh7 v7 => ?_)
    refine WR.pr (fun e7 => ?_)
    subst e7
    rw [hm9]
    show WR K G _ _ _ _ _ _ _ (.int _ :: _)
    refine R_iload (pc := 789) C dL_law_789 rfl ?_
    refine R_icmp_eq (pc := 791) C dL_law_791 (tgt := 796) (by decide) (fun c791 => ?_) (fun c791 => absurd (rfl) c791)
    refine R_iload (pc := 796) C dL_law_796 rfl ?_
    refine R_if_ne (pc := 798) C dL_law_798 (tgt := 820) (by decide) (fun c798 => absurd c798 (fun q => q rfl)) (fun c798 => ?_)
    refine R_aload_n (pc := 801) C dL_law_801 rfl ?_
    refine R_iconst (pc := 802) C dL_law_802 (v := 0) (by decide) ?_
    refine R_lald (pc := 803) C dL_law_803 (wm_g) rfl (by decide) (by decide) (if_pos rfl) ?_
    refine R_iload (pc := 804) C dL_law_804 rfl ?_
    refine R_if_eq (pc := 806) C dL_law_806 (tgt := 813) (by decide) (fun c806 => ?_) (fun c806 => ?_)
    · refine R_lconst (pc := 813) C dL_law_813 rfl ?_
      refine R_lcmp (pc := 814) C dL_law_814 ?_
      refine R_if_eq (pc := 815) C dL_law_815 (tgt := 820) (by decide) (fun c815 => ?_) (fun c815 => absurd (by rw [show (F 7 (ix (xs (i + 1)))).toInt64 = 0 by rw [c806]; rfl]; exact cmp0 _) c815)
      refine R_goto (pc := 820) C dL_law_820 (tgt := 1220) (by decide) ?_
      refine WR.wid (show _ ≤ k + 14 by omega) (show _ ≤ s9 + 116 by omega) ?_
      exact WR.ls (ls_s (ls_s (ls_s (ls_s (ls_s (ls_n (ls_n ls_e))))))) (kk adr (fun _ _ _ => rfl) _ _ _ m9 _ (hI.w (ix_lt hI.1 (ask0 hk9)) (by omega) (fun z => by omega) (fun _ => tog7 (hI.2.2.2.2.1 _ (Nat.lt_of_lt_of_le (ix_lt hI.1 (ask0 hk9)) hI.1)).2.2.1) (fun z => by omega)))
    · refine R_lconst (pc := 809) C dL_law_809 rfl ?_
      refine R_goto (pc := 810) C dL_law_810 (tgt := 814) (by decide) ?_
      refine R_lcmp (pc := 814) C dL_law_814 ?_
      refine R_if_eq (pc := 815) C dL_law_815 (tgt := 820) (by decide) (fun c815 => ?_) (fun c815 => absurd (by rw [show (F 7 (ix (xs (i + 1)))).toInt64 = 1 by rw [t1_7 hI.1 (fun i hi => (hI.2.2.2.2.1 i (Nat.lt_of_lt_of_le hi hI.1)).2.2.1) hk9 c806]; rfl]; exact cmp0 _) c815)
      refine R_goto (pc := 820) C dL_law_820 (tgt := 1220) (by decide) ?_
      refine WR.wid (show _ ≤ k + 14 by omega) (show _ ≤ s9 + 116 by omega) ?_
      exact WR.ls (ls_s (ls_s (ls_s (ls_s (ls_s (ls_n (ls_n ls_e))))))) (kk adr (fun _ _ _ => rfl) _ _ _ m9 _ (hI.w (ix_lt hI.1 (ask0 hk9)) (by omega) (fun z => by omega) (fun _ => tog7 (hI.2.2.2.2.1 _ (Nat.lt_of_lt_of_le (ix_lt hI.1 (ask0 hk9)) hI.1)).2.2.1) (fun z => by omega)))
  · subst e9
    refine WR.imp (P' := Wd G (adr, (n, P, F), (n, P, F), mu, g)) (fun h e => e ▸ hw9) ?_
    show WR K G _ _ _ _ _ _ _ (.int _ :: _)
    refine R_istore (pc := 771) C dL_law_771 (Nat.le_of_ble_eq_true rfl) (lv' := [some (.ref _), some (.ref _), some (.ref _), some (.ref _), some (.int _), some (.int _), none]) rfl ?_
    refine R_aload_n (pc := 773) C dL_law_773 rfl ?_
    refine R_aload_n (pc := 774) C dL_law_774 rfl ?_
    refine R_iload (pc := 775) C dL_law_775 rfl ?_
    refine R_iconst (pc := 777) C dL_law_777 (v := 1) (by decide) ?_
    refine R_iadd (pc := 778) C dL_law_778 ?_
    rw [show nI i + 1 = nI (i + 1) from nI_add (a := i) (b := 1)]
    refine R_tial (pc := 779) C dL_law_779 hT rfl (by omega) hN rfl ?_
    refine R_callVN (pc := 780) C dL_law_780 (vs := [_]) (fun h hh => mX2_toggleMeter hl hI.1 (fun i hi => (hI.2.2.2.2.1 i hi).2.2.1) h hh) (isOb_of (wm0) rfl) ⟨k_29_21, k_29_22, k_29_23, k_1_5, k_30_0⟩ (sgn (nv := 1) rfl ⟨by decide +kernel, by decide +kernel, by decide +kernel⟩) ⟨⟨by omega, by omega⟩, ⟨by omega, by omega⟩, Nat.le_of_ble_eq_true rfl⟩ rfl rfl (fun h8 hh8 v8 => ?_)
    refine WR.all (fun h2 hh2 => ?_)
    obtain ⟨-, ⟨r8, e8⟩, m9, hm9, hw8⟩ := hh2.resolve_left (fun z => hk9 z.1)
    subst e8
    refine WR.imp (P' := Wd G (adr, (n, P, F), (n, P, F), m9, g)) (fun h e => e ▸ hw8) ?_
    show WR K G _ _ _ _ _ _ _ (.int _ :: _)
    refine R_istore (pc := 783) C dL_law_783 (Nat.le_of_ble_eq_true rfl) (lv' := [some (.ref _), some (.ref _), some (.ref _), some (.ref _), some (.int _), some (.int _), some (.int _)]) rfl ?_
    refine R_aload_n (pc := 785) C dL_law_785 rfl ?_
    refine R_callVN (pc := 786) C dL_law_786 (vs := []) (fun h hh => mX2_thrown hl h hh) (isOb_of (wm0) rfl) ⟨k_18_3, k_18_4, k_18_5, k_1_5, k_18_6⟩ (sgn (nv := 0) rfl ⟨by decide +kernel, by decide +kernel, by decide +kernel⟩) ⟨⟨by omega, by omega⟩, ⟨by omega, by omega⟩, Nat.le_of_ble_eq_true rfl⟩ rfl rfl (fun h7 hh7 v7 => ?_)
    refine WR.pr (fun e7 => ?_)
    subst e7
    rw [hm9]
    show WR K G _ _ _ _ _ _ _ (.int _ :: _)
    refine R_iload (pc := 789) C dL_law_789 rfl ?_
    refine R_icmp_eq (pc := 791) C dL_law_791 (tgt := 796) (by decide) (fun c791 => ?_) (fun c791 => absurd (rfl) c791)
    refine R_iload (pc := 796) C dL_law_796 rfl ?_
    refine R_if_ne (pc := 798) C dL_law_798 (tgt := 820) (by decide) (fun _ => ?_) (fun c => absurd c hk9)
    refine R_goto (pc := 820) C dL_law_820 (tgt := 1220) (by decide) ?_
    refine WR.wid (show _ ≤ k + 14 by omega) (show _ ≤ s9 + 116 by omega) ?_
    exact WR.ls (ls_s (ls_s (ls_s (ls_s (ls_s (ls_n (ls_n ls_e))))))) (kk adr (fun _ _ _ => rfl) _ _ _ m9 _ hI)
theorem sg_years (hl : K.l.stackTraces = false) (C : CX K G A RL cL_law 7 rt rm tb) (hI : Inv n P F) (hrm : (30 ≤ rm.frames ∧ 2000 ≤ rm.locals) ∧ k + 14 ≤ rm.cells ∧ s9 + 116 ≤ rm.slots)
    (kk : ∀ adr9 : Nat → Nat, (∀ x, x < 30 → x ≠ 2 → adr9 x = adr x) → ∀ (n9 P9 : Nat) (F9 m9 : Nat → Nat → Int32) (g9 : Nat → Int64), Inv n9 P9 F9 → WR K G A Q (Wd G (adr9, (n9, P9, F9), (n9, P9, F9), m9, g9)) [some (.ref b), some (.ref (adr 0)), some (.ref (adr 5)), some (.ref (adr 24)), some (.int (nI i)), none, none] (k + 14) (s9 + 116) 1220 []) : WR K G A Q (Wd G (adr, (n, P, F), (n, P, F), mu, g)) [some (.ref b), some (.ref (adr 0)), some (.ref (adr 5)), some (.ref (adr 24)), some (.int (nI i)), none, none] k s9 622 [] := by
  obtain ⟨⟨hr1, hr2⟩, hr3, hr4⟩ := hrm
  refine R_aload_n (pc := 622) C dL_law_622 rfl ?_
  refine R_callVN (pc := 623) C dL_law_623 (vs := []) (fun h hh => mX1_years hl h hh) (isOb_of (wc0) rfl) ⟨k_28_0, k_28_1, k_28_2, k_1_2, k_28_3⟩ (sgn (nv := 0) rfl ⟨by decide +kernel, by decide +kernel, by decide +kernel⟩) ⟨⟨by omega, by omega⟩, ⟨by omega, by omega⟩, Nat.le_of_ble_eq_true rfl⟩ rfl rfl (fun h7 hh7 v7 => ?_)
  refine WR.pr (fun e7 => ?_)
  subst e7
  show WR K G _ _ _ _ _ _ _ (.int _ :: _)
  refine R_aload_n (pc := 626) C dL_law_626 rfl ?_
  refine R_callVN (pc := 627) C dL_law_627 (vs := []) (fun h hh => mX2_years hl h hh) (isOb_of (wm0) rfl) ⟨k_28_4, k_28_5, k_28_6, k_1_5, k_28_7⟩ (sgn (nv := 0) rfl ⟨by decide +kernel, by decide +kernel, by decide +kernel⟩) ⟨⟨by omega, by omega⟩, ⟨by omega, by omega⟩, Nat.le_of_ble_eq_true rfl⟩ rfl rfl (fun h7 hh7 v7 => ?_)
  refine WR.pr (fun e7 => ?_)
  subst e7
  show WR K G _ _ _ _ _ _ _ (.int _ :: _)
  refine R_icmp_eq (pc := 630) C dL_law_630 (tgt := 1220) (by decide) (fun c630 => ?_) (fun c630 => absurd (rfl) c630)
  refine WR.wid (show _ ≤ k + 14 by omega) (show _ ≤ s9 + 116 by omega) ?_
  exact kk adr (fun _ _ _ => rfl) _ _ _ _ _ hI
theorem sg_fund (hl : K.l.stackTraces = false) (C : CX K G A RL cL_law 7 rt rm tb) (hI : Inv n P F) (hrm : (30 ≤ rm.frames ∧ 2000 ≤ rm.locals) ∧ k + 14 ≤ rm.cells ∧ s9 + 116 ≤ rm.slots)
    (kk : ∀ adr9 : Nat → Nat, (∀ x, x < 30 → x ≠ 2 → adr9 x = adr x) → ∀ (n9 P9 : Nat) (F9 m9 : Nat → Nat → Int32) (g9 : Nat → Int64), Inv n9 P9 F9 → WR K G A Q (Wd G (adr9, (n9, P9, F9), (n9, P9, F9), m9, g9)) [some (.ref b), some (.ref (adr 0)), some (.ref (adr 5)), some (.ref (adr 24)), some (.int (nI i)), none, none] (k + 14) (s9 + 116) 1220 []) : WR K G A Q (Wd G (adr, (n, P, F), (n, P, F), mu, g)) [some (.ref b), some (.ref (adr 0)), some (.ref (adr 5)), some (.ref (adr 24)), some (.int (nI i)), none, none] k s9 1151 [] := by
  obtain ⟨⟨hr1, hr2⟩, hr3, hr4⟩ := hrm
  refine R_aload_n (pc := 1151) C dL_law_1151 rfl ?_
  refine R_callVN (pc := 1152) C dL_law_1152 (vs := []) (fun h hh => mX1_fund hl h hh) (isOb_of (wc0) rfl) ⟨k_32_12, k_32_13, k_32_14, k_1_2, k_32_15⟩ (sgn (nv := 0) rfl ⟨by decide +kernel, by decide +kernel, by decide +kernel⟩) ⟨⟨by omega, by omega⟩, ⟨by omega, by omega⟩, Nat.le_of_ble_eq_true rfl⟩ rfl rfl (fun h7 hh7 v7 => ?_)
  refine WR.pr (fun e7 => ?_)
  subst e7
  show WR K G _ _ _ _ _ _ _ (.int _ :: _)
  refine R_aload_n (pc := 1155) C dL_law_1155 rfl ?_
  refine R_callVN (pc := 1156) C dL_law_1156 (vs := []) (fun h hh => mX2_fund hl h hh) (isOb_of (wm0) rfl) ⟨k_32_16, k_32_17, k_32_18, k_1_5, k_32_19⟩ (sgn (nv := 0) rfl ⟨by decide +kernel, by decide +kernel, by decide +kernel⟩) ⟨⟨by omega, by omega⟩, ⟨by omega, by omega⟩, Nat.le_of_ble_eq_true rfl⟩ rfl rfl (fun h7 hh7 v7 => ?_)
  refine WR.pr (fun e7 => ?_)
  subst e7
  show WR K G _ _ _ _ _ _ _ (.int _ :: _)
  refine R_icmp_eq (pc := 1159) C dL_law_1159 (tgt := 1220) (by decide) (fun c1159 => ?_) (fun c1159 => absurd (rfl) c1159)
  refine WR.wid (show _ ≤ k + 14 by omega) (show _ ≤ s9 + 116 by omega) ?_
  exact kk adr (fun _ _ _ => rfl) _ _ _ _ _ hI
theorem sg_wouldStop (hl : K.l.stackTraces = false) (C : CX K G A RL cL_law 7 rt rm tb) (hI : Inv n P F) (hrm : (30 ≤ rm.frames ∧ 2000 ≤ rm.locals) ∧ k + 14 ≤ rm.cells ∧ s9 + 116 ≤ rm.slots)
    (kk : ∀ adr9 : Nat → Nat, (∀ x, x < 30 → x ≠ 2 → adr9 x = adr x) → ∀ (n9 P9 : Nat) (F9 m9 : Nat → Nat → Int32) (g9 : Nat → Int64), Inv n9 P9 F9 → WR K G A Q (Wd G (adr9, (n9, P9, F9), (n9, P9, F9), m9, g9)) [some (.ref b), some (.ref (adr 0)), some (.ref (adr 5)), some (.ref (adr 24)), some (.int (nI i)), none, none] (k + 14) (s9 + 116) 1220 []) : WR K G A Q (Wd G (adr, (n, P, F), (n, P, F), mu, g)) [some (.ref b), some (.ref (adr 0)), some (.ref (adr 5)), some (.ref (adr 24)), some (.int (nI i)), none, none] k s9 635 [] := by
  obtain ⟨⟨hr1, hr2⟩, hr3, hr4⟩ := hrm
  refine R_aload_n (pc := 635) C dL_law_635 rfl ?_
  refine R_callVN (pc := 636) C dL_law_636 (vs := []) (fun h hh => mX1_wouldStop hl hI.1 hI.2.1 (lay_of hI) h hh) (isOb_of (wc0) rfl) ⟨k_28_8, k_28_9, k_28_10, k_1_2, k_28_11⟩ (sgn (nv := 0) rfl ⟨by decide +kernel, by decide +kernel, by decide +kernel⟩) ⟨⟨by omega, by omega⟩, ⟨by omega, by omega⟩, Nat.le_of_ble_eq_true rfl⟩ rfl rfl (fun h7 hh7 v7 => ?_)
  refine WR.pr (fun e7 => ?_)
  subst e7
  show WR K G _ _ _ _ _ _ _ (.int _ :: _)
  refine R_aload_n (pc := 639) C dL_law_639 rfl ?_
  refine R_callVN (pc := 640) C dL_law_640 (vs := []) (fun h hh => mX2_wouldStop hl hI.1 hI.2.1 hI.2.2.1 h hh) (isOb_of (wm0) rfl) ⟨k_28_12, k_28_13, k_28_14, k_1_5, k_28_15⟩ (sgn (nv := 0) rfl ⟨by decide +kernel, by decide +kernel, by decide +kernel⟩) ⟨⟨by omega, by omega⟩, ⟨by omega, by omega⟩, Nat.le_of_ble_eq_true rfl⟩ rfl rfl (fun h7 hh7 v7 => ?_)
  refine WR.pr (fun e7 => ?_)
  subst e7
  refine WR.ex (fun m9 => WR.pr (fun hm9 => ?_))
  show WR K G _ _ _ _ _ _ _ (.int _ :: _)
  refine R_icmp_eq (pc := 643) C dL_law_643 (tgt := 1220) (by decide) (fun c643 => ?_) (fun c643 => absurd (rfl) c643)
  refine WR.wid (show _ ≤ k + 14 by omega) (show _ ≤ s9 + 116 by omega) ?_
  exact kk adr (fun _ _ _ => rfl) _ _ _ _ _ hI
end
