/-! 80: a turn of the law, whichever call; the law's loop. Written by wip/p22/gen/m80.py -/
section
variable {K : KT} {G : GT} {A : Nat → Prop} {rt : Option FieldType} {rm : Room} {tb : List ExceptionTableEntry} {Q : State → Prop} {adr : Nat → Nat} {n P t b c9 s9 : Nat} {F mu : Nat → Nat → Int32} {g : Nat → Int64} {z y kx : Int32}
set_option maxHeartbeats 4000000 in
set_option maxRecDepth 100000 in
theorem sg_act (hl : K.l.stackTraces = false) (C : CX K G A RL cL_law 15 rt rm tb) (ht : t < 90) (hI : IV t n P F) (hkx : n = 0 ∨ ∃ k0, k0 < n ∧ kx = nI k0) (hrm : (16 ≤ rm.frames ∧ 654 ≤ rm.locals) ∧ c9 + 13 ≤ rm.cells ∧ s9 + 110 ≤ rm.slots)
    (kk : ∀ adr9 : Nat → Nat, (∀ x, x < 30 → x ≠ 2 → adr9 x = adr x) → ∀ (n9 P9 : Nat) (F9 m9 : Nat → Nat → Int32), IV (t + 1) n9 P9 F9 → WR K G A Q (Wd G (adr9, (n9, P9, F9), (n9, P9, F9), m9, g)) [some (.ref b), some (.ref (adr 0)), some (.ref (adr 10)), some (.ref (adr 5)), some (.ref (adr 6)), some (.ref (adr 7)), some (.ref (adr 8)), some (.ref (adr 9)), some (.int (nI t)), some (.int z), none, none, some (.int 1), none, none] (c9 + 13) (s9 + 110) 662 []) : WR K G A Q (Wd G (adr, (n, P, F), (n, P, F), mu, g)) [some (.ref b), some (.ref (adr 0)), some (.ref (adr 10)), some (.ref (adr 5)), some (.ref (adr 6)), some (.ref (adr 7)), some (.ref (adr 8)), some (.ref (adr 9)), some (.int (nI t)), some (.int z), some (.int y), some (.int kx), some (.int 1), none, none] c9 s9 92 [] := by
  obtain ⟨⟨hr1, hr2⟩, hr3, hr4⟩ := hrm
  have hn5 : n ≤ 5 := hI.2.1
  refine R_aload_n (pc := 92) C dL_law_92 rfl ?_
  refine R_iconst (pc := 93) C dL_law_93 (v := 0) (by decide) ?_
  refine R_iald (pc := 94) C dL_law_94 (wmq) (rfl) (by decide) (by decide) (rdq0) ?_
  refine R_iconst (pc := 95) C dL_law_95 (v := 2) (by decide) ?_
  refine R_icmp_lt (pc := 96) C dL_law_96 (tgt := 111) (by decide) (fun c96 => ?_) (fun c96 => ?_)
  · exact sg_adds hl C ht hI (by have := lt2 (show n ≤ 8 by omega) c96; omega) ⟨⟨hr1, hr2⟩, hr3, hr4⟩ kk
  · have hn2 : 2 ≤ n := le2 (by omega) c96
    refine R_iload (pc := 99) C dL_law_99 rfl ?_
    refine R_if_ne (pc := 101) C dL_law_101 (tgt := 126) (by decide) (fun c101 => ?_) (fun c101 => ?_)
    · refine R_iload (pc := 126) C dL_law_126 rfl ?_
      refine R_iconst (pc := 128) C dL_law_128 (v := 5) (by decide) ?_
      refine R_icmp_ge (pc := 129) C dL_law_129 (tgt := 213) (by decide) (fun c129 => ?_) (fun c129 => ?_)
      · refine R_iload (pc := 213) C dL_law_213 rfl ?_
        refine R_iconst (pc := 215) C dL_law_215 (v := 5) (by decide) ?_
        refine R_icmp_ne (pc := 216) C dL_law_216 (tgt := 298) (by decide) (fun c216 => ?_) (fun c216 => ?_)
        · refine R_iload (pc := 298) C dL_law_298 rfl ?_
          refine R_bipush (pc := 300) C dL_law_300 (v := 6) (by decide) ?_
          refine R_icmp_ne (pc := 302) C dL_law_302 (tgt := 364) (by decide) (fun c302 => ?_) (fun c302 => ?_)
          · refine R_iload (pc := 364) C dL_law_364 rfl ?_
            refine R_bipush (pc := 366) C dL_law_366 (v := 7) (by decide) ?_
            refine R_icmp_ne (pc := 368) C dL_law_368 (tgt := 452) (by decide) (fun c368 => ?_) (fun c368 => ?_)
            · refine R_iload (pc := 452) C dL_law_452 rfl ?_
              refine R_bipush (pc := 454) C dL_law_454 (v := 11) (by decide) ?_
              refine R_icmp_ge (pc := 456) C dL_law_456 (tgt := 477) (by decide) (fun c456 => ?_) (fun c456 => ?_)
              · refine R_iload (pc := 477) C dL_law_477 rfl ?_
                refine R_bipush (pc := 479) C dL_law_479 (v := 11) (by decide) ?_
                refine R_icmp_ne (pc := 481) C dL_law_481 (tgt := 616) (by decide) (fun c481 => ?_) (fun c481 => ?_)
                · exact sg_year hl C ht hI ⟨⟨hr1, hr2⟩, hr3, hr4⟩ kk
                · exact sg_build hl C ht hI ⟨⟨hr1, hr2⟩, hr3, hr4⟩ kk
              · exact sg_lends hl C ht hI hn2 ⟨⟨hr1, hr2⟩, hr3, hr4⟩ kk
            · obtain ⟨k0, hk, rfl⟩ := hkx.resolve_left (by omega)
              exact sg_power hl C ht hI hk ⟨⟨hr1, hr2⟩, hr3, hr4⟩ kk
          · obtain ⟨k0, hk, rfl⟩ := hkx.resolve_left (by omega)
            exact sg_tog hl C ht hI hk ⟨⟨hr1, hr2⟩, hr3, hr4⟩ kk
        · exact sg_rech hl C ht hI ⟨⟨hr1, hr2⟩, hr3, hr4⟩ kk
      · obtain ⟨k0, hk, rfl⟩ := hkx.resolve_left (by omega)
        exact sg_plan hl C ht hI hk ⟨⟨hr1, hr2⟩, hr3, hr4⟩ kk
    · refine R_aload_n (pc := 104) C dL_law_104 rfl ?_
      refine R_iconst (pc := 105) C dL_law_105 (v := 0) (by decide) ?_
      refine R_iald (pc := 106) C dL_law_106 (wmq) (rfl) (by decide) (by decide) (rdq0) ?_
      refine R_iconst (pc := 107) C dL_law_107 (v := 5) (by decide) ?_
      refine R_icmp_ge (pc := 108) C dL_law_108 (tgt := 126) (by decide) (fun c108 => ?_) (fun c108 => ?_)
      · refine R_iload (pc := 126) C dL_law_126 rfl ?_
        refine R_iconst (pc := 128) C dL_law_128 (v := 5) (by decide) ?_
        refine R_icmp_ge (pc := 129) C dL_law_129 (tgt := 213) (by decide) (fun c129 => ?_) (fun c129 => ?_)
        · refine R_iload (pc := 213) C dL_law_213 rfl ?_
          refine R_iconst (pc := 215) C dL_law_215 (v := 5) (by decide) ?_
          refine R_icmp_ne (pc := 216) C dL_law_216 (tgt := 298) (by decide) (fun c216 => ?_) (fun c216 => ?_)
          · refine R_iload (pc := 298) C dL_law_298 rfl ?_
            refine R_bipush (pc := 300) C dL_law_300 (v := 6) (by decide) ?_
            refine R_icmp_ne (pc := 302) C dL_law_302 (tgt := 364) (by decide) (fun c302 => ?_) (fun c302 => ?_)
            · refine R_iload (pc := 364) C dL_law_364 rfl ?_
              refine R_bipush (pc := 366) C dL_law_366 (v := 7) (by decide) ?_
              refine R_icmp_ne (pc := 368) C dL_law_368 (tgt := 452) (by decide) (fun c368 => ?_) (fun c368 => ?_)
              · refine R_iload (pc := 452) C dL_law_452 rfl ?_
                refine R_bipush (pc := 454) C dL_law_454 (v := 11) (by decide) ?_
                refine R_icmp_ge (pc := 456) C dL_law_456 (tgt := 477) (by decide) (fun c456 => ?_) (fun c456 => ?_)
                · refine R_iload (pc := 477) C dL_law_477 rfl ?_
                  refine R_bipush (pc := 479) C dL_law_479 (v := 11) (by decide) ?_
                  refine R_icmp_ne (pc := 481) C dL_law_481 (tgt := 616) (by decide) (fun c481 => ?_) (fun c481 => ?_)
                  · exact sg_year hl C ht hI ⟨⟨hr1, hr2⟩, hr3, hr4⟩ kk
                  · exact sg_build hl C ht hI ⟨⟨hr1, hr2⟩, hr3, hr4⟩ kk
                · exact sg_lends hl C ht hI hn2 ⟨⟨hr1, hr2⟩, hr3, hr4⟩ kk
              · obtain ⟨k0, hk, rfl⟩ := hkx.resolve_left (by omega)
                exact sg_power hl C ht hI hk ⟨⟨hr1, hr2⟩, hr3, hr4⟩ kk
            · obtain ⟨k0, hk, rfl⟩ := hkx.resolve_left (by omega)
              exact sg_tog hl C ht hI hk ⟨⟨hr1, hr2⟩, hr3, hr4⟩ kk
          · exact sg_rech hl C ht hI ⟨⟨hr1, hr2⟩, hr3, hr4⟩ kk
        · obtain ⟨k0, hk, rfl⟩ := hkx.resolve_left (by omega)
          exact sg_plan hl C ht hI hk ⟨⟨hr1, hr2⟩, hr3, hr4⟩ kk
      · exact sg_adds hl C ht hI (by have := lt5 (show n ≤ 8 by omega) c108; omega) ⟨⟨hr1, hr2⟩, hr3, hr4⟩ kk
set_option maxHeartbeats 4000000 in
set_option maxRecDepth 100000 in
theorem lp_all (hl : K.l.stackTraces = false) (C : CX K G A RL cL_law 15 rt rm tb) (hLs : G.2.2 201 < 2 ^ 31) (hrm : 16 ≤ rm.frames ∧ 654 ≤ rm.locals) (CE SE : Nat) (hc : CE ≤ rm.cells ∧ SE ≤ rm.slots)
    (kend : ∀ (lv : List (Option Value)), lv.length = 15 → WR K G A Q (fun _ => True) lv CE SE 694 []) : ∀ (m t c9 s9 : Nat) (adr : Nat → Nat) (n P : Nat) (F mu : Nat → Nat → Int32), t + m = 90 → c9 + 98 * m ≤ CE → s9 + 620 * m ≤ SE → IV t n P F → WR K G A Q (Wd G (adr, (n, P, F), (n, P, F), mu, g)) [some (.ref (G.2.2 200)), some (.ref (adr 0)), some (.ref (adr 10)), some (.ref (adr 5)), some (.ref (adr 6)), some (.ref (adr 7)), some (.ref (adr 8)), some (.ref (adr 9)), some (.int (nI t)), none, none, none, none, none, none] c9 s9 43 [] := by
  obtain ⟨hr1, hr2⟩ := hrm
  intro m
  induction m with
  | zero =>
    intro t c9 s9 adr n P F mu h1 h3 h4 hI
    refine R_iload (pc := 43) C dL_law_43 rfl ?_
    refine R_bipush (pc := 45) C dL_law_45 (v := 90) (by decide) ?_
    refine R_icmp_ge (pc := 47) C dL_law_47 (tgt := 694) (by decide) (fun _ => ?_) (fun c => absurd (show (90 : Int32) ≤ nI t from nI_le (a := 90) (by omega) (by omega)) c)
    exact WR.imp (fun _ _ => trivial) (WR.wid (show c9 ≤ CE by omega) (show s9 ≤ SE by omega) (kend _ rfl))
  | succ m ih =>
    intro t c9 s9 adr n P F mu h1 h3 h4 hI
    have hn5 : n ≤ 5 := hI.2.1
    refine R_iload (pc := 43) C dL_law_43 rfl ?_
    refine R_bipush (pc := 45) C dL_law_45 (v := 90) (by decide) ?_
    refine R_icmp_ge (pc := 47) C dL_law_47 (tgt := 694) (by decide) (fun c47 => absurd c47 (fun q => absurd (show (90 : Int32) ≤ nI t from q) (nI_ge (b := 90) (by omega) (by omega)))) (fun c47 => ?_)
    refine R_aload_n (pc := 50) C dL_law_50 rfl ?_
    refine R_iload (pc := 51) C dL_law_51 rfl ?_
    refine R_callSN (pc := 53) C dL_law_53 (vs := [_, _]) (fun h hh => mL_cell hl (k := t) (by omega) hLs h) ⟨k_2_10, k_2_11, k_2_12, k_2_13⟩ (sgn (nv := 2) rfl ⟨by decide +kernel, by decide +kernel, by decide +kernel⟩) ⟨⟨by omega, by omega⟩, ⟨by omega, by omega⟩, Nat.le_of_ble_eq_true rfl⟩ rfl rfl (fun h9 hh9 v9 => ?_)
    refine WR.pr (fun e9 => ?_)
    obtain ⟨z, e9⟩ := e9
    subst e9
    refine WR.imp (P' := Wd G (adr, (n, P, F), (n, P, F), mu, g)) (fun h1 e1 => e1 ▸ hh9) ?_
    show WR K G _ _ _ _ _ _ _ (.int _ :: _)
    refine R_istore (pc := 56) C dL_law_56 (Nat.le_of_ble_eq_true rfl) (lv' := [some (.ref _), some (.ref _), some (.ref _), some (.ref _), some (.ref _), some (.ref _), some (.ref _), some (.ref _), some (.int _), some (.int _), none, none, none, none, none]) rfl ?_
    refine R_iload (pc := 58) C dL_law_58 rfl ?_
    refine R_bipush (pc := 60) C dL_law_60 (v := 18) (by decide) ?_
    refine R_callP (pc := 62) C dL_law_62 (vs := [_, _]) (mL_low hl (by decide)) ⟨k_2_16, k_2_17, k_2_12, k_2_18⟩ (sgn (nv := 2) rfl ⟨by decide +kernel, by decide +kernel, by decide +kernel⟩) ⟨⟨by omega, by omega⟩, ⟨by omega, by omega⟩, Nat.le_of_ble_eq_true rfl⟩ rfl rfl ?_
    refine R_istore (pc := 65) C dL_law_65 (Nat.le_of_ble_eq_true rfl) (lv' := [some (.ref _), some (.ref _), some (.ref _), some (.ref _), some (.ref _), some (.ref _), some (.ref _), some (.ref _), some (.int _), some (.int _), some (.int _), none, none, none, none]) rfl ?_
    refine R_aload_n (pc := 67) C dL_law_67 rfl ?_
    refine R_iconst (pc := 68) C dL_law_68 (v := 0) (by decide) ?_
    refine R_iald (pc := 69) C dL_law_69 (wmq) (rfl) (by decide) (by decide) (rdq0) ?_
    refine R_if_ne (pc := 70) C dL_law_70 (tgt := 77) (by decide) (fun c70 => ?_) (fun c70 => ?_)
    · have hn0 : n ≠ 0 := fun q => c70 (by rw [q]; rfl)
      refine R_iload (pc := 77) C dL_law_77 rfl ?_
      refine R_iconst (pc := 79) C dL_law_79 (v := 5) (by decide) ?_
      refine R_ishr (pc := 80) C dL_law_80 ?_
      refine R_aload_n (pc := 81) C dL_law_81 rfl ?_
      refine R_iconst (pc := 82) C dL_law_82 (v := 0) (by decide) ?_
      refine R_iald (pc := 83) C dL_law_83 (wmq) (rfl) (by decide) (by decide) (rdq0) ?_
      refine R_callP (pc := 84) C dL_law_84 (vs := [_, _]) (mL_low hl (nI_ne0 (by omega) (by omega))) ⟨k_2_16, k_2_17, k_2_12, k_2_18⟩ (sgn (nv := 2) rfl ⟨by decide +kernel, by decide +kernel, by decide +kernel⟩) ⟨⟨by omega, by omega⟩, ⟨by omega, by omega⟩, Nat.le_of_ble_eq_true rfl⟩ rfl rfl ?_
      obtain ⟨k0, hk0, ek0⟩ := lowV_ex (z >>> ((5 : Int32) &&& 31)) (m := n) (by omega) (by omega)
      rw [ek0]
      refine R_istore (pc := 87) C dL_law_87 (Nat.le_of_ble_eq_true rfl) (lv' := [some (.ref _), some (.ref _), some (.ref _), some (.ref _), some (.ref _), some (.ref _), some (.ref _), some (.ref _), some (.int _), some (.int _), some (.int _), some (.int _), none, none, none]) rfl ?_
      refine R_iconst (pc := 89) C dL_law_89 (v := 1) (by decide) ?_
      refine R_istore (pc := 90) C dL_law_90 (Nat.le_of_ble_eq_true rfl) (lv' := [some (.ref _), some (.ref _), some (.ref _), some (.ref _), some (.ref _), some (.ref _), some (.ref _), some (.ref _), some (.int _), some (.int _), some (.int _), some (.int _), some (.int _), none, none]) rfl ?_
      refine sg_act hl C (show t < 90 by omega) hI (Or.inr ⟨k0, hk0, rfl⟩) ⟨⟨hr1, hr2⟩, by omega, by omega⟩ (fun adr9 hadr n9 P9 F9 m9 hI9 => ?_)
      rw [← hadr 0 (by decide) (by decide), ← hadr 10 (by decide) (by decide), ← hadr 5 (by decide) (by decide), ← hadr 6 (by decide) (by decide), ← hadr 7 (by decide) (by decide), ← hadr 8 (by decide) (by decide), ← hadr 9 (by decide) (by decide)]
      refine R_iload (pc := 662) C dL_law_662 rfl ?_
      refine R_if_eq (pc := 664) C dL_law_664 (tgt := 686) (by decide) (fun c664 => absurd c664 (by decide)) (fun c664 => ?_)
      refine R_aload_n (pc := 667) C dL_law_667 rfl ?_
      refine R_iload (pc := 668) C dL_law_668 rfl ?_
      refine R_iconst (pc := 670) C dL_law_670 (v := 2) (by decide) ?_
      refine R_ishr (pc := 671) C dL_law_671 ?_
      refine R_aload_n (pc := 672) C dL_law_672 rfl ?_
      refine R_aload (pc := 673) C dL_law_673 rfl ?_
      refine R_aload (pc := 675) C dL_law_675 rfl ?_
      refine R_aload (pc := 677) C dL_law_677 rfl ?_
      refine R_aload_n (pc := 679) C dL_law_679 rfl ?_
      refine R_callSN (pc := 680) C dL_law_680 (vs := [_, _, _, _, _, _, _]) (fun h hh => mL_isSo hl hI9.2.1 hI9.1.2.1 hI9.1.2.2.1 h hh) ⟨k_23_23, k_24_0, k_2_12, k_24_1⟩ (sgn (nv := 7) rfl ⟨by decide +kernel, by decide +kernel, by decide +kernel⟩) ⟨⟨by omega, by omega⟩, ⟨by omega, by omega⟩, Nat.le_of_ble_eq_true rfl⟩ rfl rfl (fun h9 hh9 v9 => ?_)
      refine WR.pr (fun e9 => ?_)
      subst e9
      refine WR.ex (fun m8 => ?_)
      show WR K G _ _ _ _ _ _ _ (.int _ :: _)
      refine R_if_ne (pc := 683) C dL_law_683 (tgt := 688) (by decide) (fun _ => ?_) (fun c => absurd c (by decide))
      refine R_iinc (pc := 688) C dL_law_688 rfl (inc1) (lv' := [some (.ref _), some (.ref _), some (.ref _), some (.ref _), some (.ref _), some (.ref _), some (.ref _), some (.ref _), some (.int _), some (.int _), none, none, some (.int _), none, none]) rfl ?_
      refine R_goto (pc := 691) C dL_law_691 (tgt := 43) (by decide) ?_
      refine WR.ls (lv' := [some (.ref _), some (.ref _), some (.ref _), some (.ref _), some (.ref _), some (.ref _), some (.ref _), some (.ref _), some (.int _), none, none, none, none, none, none]) (ls_s (ls_s (ls_s (ls_s (ls_s (ls_s (ls_s (ls_s (ls_s (ls_n (ls_n (ls_n (ls_n (ls_n (ls_n ls_e))))))))))))))) ?_
      refine WR.wid (show _ ≤ c9 + 98 by omega) (show _ ≤ s9 + 620 by omega) ?_
      exact ih (t + 1) (c9 + 98) (s9 + 620) adr9 n9 P9 F9 m8 (by omega) (by omega) (by omega) hI9
    · refine R_iconst (pc := 73) C dL_law_73 (v := 0) (by decide) ?_
      refine R_goto (pc := 74) C dL_law_74 (tgt := 87) (by decide) ?_
      refine R_istore (pc := 87) C dL_law_87 (Nat.le_of_ble_eq_true rfl) (lv' := [some (.ref _), some (.ref _), some (.ref _), some (.ref _), some (.ref _), some (.ref _), some (.ref _), some (.ref _), some (.int _), some (.int _), some (.int _), some (.int _), none, none, none]) rfl ?_
      refine R_iconst (pc := 89) C dL_law_89 (v := 1) (by decide) ?_
      refine R_istore (pc := 90) C dL_law_90 (Nat.le_of_ble_eq_true rfl) (lv' := [some (.ref _), some (.ref _), some (.ref _), some (.ref _), some (.ref _), some (.ref _), some (.ref _), some (.ref _), some (.int _), some (.int _), some (.int _), some (.int _), some (.int _), none, none]) rfl ?_
      refine sg_act hl C (show t < 90 by omega) hI (Or.inl ((nI_eq (b := 0) (by omega) (by omega)).mp c70)) ⟨⟨hr1, hr2⟩, by omega, by omega⟩ (fun adr9 hadr n9 P9 F9 m9 hI9 => ?_)
      rw [← hadr 0 (by decide) (by decide), ← hadr 10 (by decide) (by decide), ← hadr 5 (by decide) (by decide), ← hadr 6 (by decide) (by decide), ← hadr 7 (by decide) (by decide), ← hadr 8 (by decide) (by decide), ← hadr 9 (by decide) (by decide)]
      refine R_iload (pc := 662) C dL_law_662 rfl ?_
      refine R_if_eq (pc := 664) C dL_law_664 (tgt := 686) (by decide) (fun c664 => absurd c664 (by decide)) (fun c664 => ?_)
      refine R_aload_n (pc := 667) C dL_law_667 rfl ?_
      refine R_iload (pc := 668) C dL_law_668 rfl ?_
      refine R_iconst (pc := 670) C dL_law_670 (v := 2) (by decide) ?_
      refine R_ishr (pc := 671) C dL_law_671 ?_
      refine R_aload_n (pc := 672) C dL_law_672 rfl ?_
      refine R_aload (pc := 673) C dL_law_673 rfl ?_
      refine R_aload (pc := 675) C dL_law_675 rfl ?_
      refine R_aload (pc := 677) C dL_law_677 rfl ?_
      refine R_aload_n (pc := 679) C dL_law_679 rfl ?_
      refine R_callSN (pc := 680) C dL_law_680 (vs := [_, _, _, _, _, _, _]) (fun h hh => mL_isSo hl hI9.2.1 hI9.1.2.1 hI9.1.2.2.1 h hh) ⟨k_23_23, k_24_0, k_2_12, k_24_1⟩ (sgn (nv := 7) rfl ⟨by decide +kernel, by decide +kernel, by decide +kernel⟩) ⟨⟨by omega, by omega⟩, ⟨by omega, by omega⟩, Nat.le_of_ble_eq_true rfl⟩ rfl rfl (fun h9 hh9 v9 => ?_)
      refine WR.pr (fun e9 => ?_)
      subst e9
      refine WR.ex (fun m8 => ?_)
      show WR K G _ _ _ _ _ _ _ (.int _ :: _)
      refine R_if_ne (pc := 683) C dL_law_683 (tgt := 688) (by decide) (fun _ => ?_) (fun c => absurd c (by decide))
      refine R_iinc (pc := 688) C dL_law_688 rfl (inc1) (lv' := [some (.ref _), some (.ref _), some (.ref _), some (.ref _), some (.ref _), some (.ref _), some (.ref _), some (.ref _), some (.int _), some (.int _), none, none, some (.int _), none, none]) rfl ?_
      refine R_goto (pc := 691) C dL_law_691 (tgt := 43) (by decide) ?_
      refine WR.ls (lv' := [some (.ref _), some (.ref _), some (.ref _), some (.ref _), some (.ref _), some (.ref _), some (.ref _), some (.ref _), some (.int _), none, none, none, none, none, none]) (ls_s (ls_s (ls_s (ls_s (ls_s (ls_s (ls_s (ls_s (ls_s (ls_n (ls_n (ls_n (ls_n (ls_n (ls_n ls_e))))))))))))))) ?_
      refine WR.wid (show _ ≤ c9 + 98 by omega) (show _ ≤ s9 + 620 by omega) ?_
      exact ih (t + 1) (c9 + 98) (s9 + 620) adr9 n9 P9 F9 m8 (by omega) (by omega) (by omega) hI9
end
