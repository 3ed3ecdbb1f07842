/-! 22: the model: who is stopped. Written by wip/whole/gen/m22.py -/
theorem st0 {b : Bool} {x : Int32} (e : x = if b = true then 1 else 0) (h : x = 0) : ¬ b = true := fun q => by rw [if_pos q, h] at e; exact absurd e (by decide)
theorem st1 {b : Bool} {x : Int32} (e : x = if b = true then 1 else 0) (h : ¬ x = 0) : b = true := by
  cases b with
  | true => rfl
  | false => exact absurd e (by simpa using h)
theorem bD_Dp {mu : Nat → Nat → Int32} {D : Nat → Bool} {y : Nat} {x : Int32} (h : bD mu D) (hx : x = 1) : bD (su mu 1 y x) (Dp D y) := fun j hj => by
  by_cases e : j = y
  · subst e; rw [su_s, hx]; exact (if_pos (if_pos rfl)).symm
  · rw [su_i e, h j hj]; unfold Dp; rw [if_neg e]
theorem oS_no {n P : Nat} {F : Nat → Nat → Int32} {D : Nat → Bool} {b : Option (Nat × Nat)} {i : Nat} (h : bh n P F D i < F 3 i) (hy : yng F D i n = none) : oS n P F D b i = b := by
  unfold oS
  rw [if_pos h]
  cases b with
  | none => rw [hy]; rfl
  | some u =>
    by_cases q : spOld F i u.1
    · exact (if_pos q).trans (by rw [hy])
    · exact if_neg q
section
variable {l : Launch} {G : GT} {adr : Nat → Nat} {n P : Nat} {F mu : Nat → Nat → Int32} {g : Nat → Int64} {Sc : St}
set_option maxHeartbeats 4000000 in
set_option maxRecDepth 100000 in
theorem mX2_levels (hl : l.stackTraces = false) {D : Nat → Bool} (hn : n ≤ 8) (hP : P ≤ 5) (hrg : Rg n P F) (hbD : bD mu D) : ∀ h, Wd G (adr, Sc, (n, P, F), mu, g) h → CN l yX2_levels cX2_levels 3 (none) 1 0 0 [.ref (adr 5)] G h (fun v h1 => v = none ∧ ∃ m9 : Nat → Nat → Int32, (m9 0 = mu 0 ∧ m9 1 = mu 1 ∧ ∀ j, j < n → m9 2 j = bh n P F D j) ∧ Wd G (adr, Sc, (n, P, F), m9, g) h1) := by
  intro h0 hwd
  refine CN.of hl (by decide +kernel) rfl (Nat.le_of_ble_eq_true rfl) (fun K sz hKl hin C => ?_)
  have C : CX K G (AH h0 sz) RX2 cX2_levels 3 (none) (rmD 1 0 0) [] := C
  subst hKl
  refine WR.imp (P' := Wd G (adr, Sc, (n, P, F), mu, g)) (fun h e => e ▸ hwd) ?_
  show WR K G _ _ _ [some (.ref (adr 5)), none, none] 0 0 0 []
  refine R_iconst (pc := 0) C dX2_levels_0 (v := 0) (by decide) ?_
  refine R_istore_n (pc := 1) C dX2_levels_1 (Nat.le_of_ble_eq_true rfl) (lv' := [some (.ref _), some (.int _), none]) rfl ?_
  have LP2 : ∀ (mw w : Nat) (m9 : Nat → Nat → Int32), n < mw + w → w ≤ n → m9 0 = mu 0 → m9 1 = mu 1 → (∀ j, j < w → m9 2 j = bh n P F D j) → WR K G (AH h0 sz) (QM K G h0 sz 0 0 (fun v h1 => v = none ∧ ∃ m9 : Nat → Nat → Int32, (m9 0 = mu 0 ∧ m9 1 = mu 1 ∧ ∀ j, j < n → m9 2 j = bh n P F D j) ∧ Wd G (adr, Sc, (n, P, F), m9, g) h1)) (Wd G (adr, Sc, (n, P, F), m9, g)) [some (.ref (adr 5)), some (.int (nI w)), none] 0 0 2 [] := by
    intro mw
    induction mw with
    | zero => intro w m9 h1 h2; exact absurd h1 (by omega)
    | succ mw ihw =>
      intro w m9 h1 h2 f1 f2 f3
      refine R_iload_n (pc := 2) C dX2_levels_2 rfl ?_
      refine R_aload_n (pc := 3) C dX2_levels_3 rfl ?_
      refine R_getf (pc := 4) C dX2_levels_4 (i := 1) (wm0) rfl inlX2 (by decide) k_17_19 rfl ?_
      refine R_icmp_ge (pc := 7) C dX2_levels_7 (tgt := 148) (by decide) (fun c7 => ?_) (fun c7 => ?_)
      · have ew : n = w := Nat.le_antisymm (le_nI (by omega) (by omega) c7) h2
        subst ew
        exact R_vret (pc := 148) C dX2_levels_148 rfl (Nat.le_of_ble_eq_true rfl) (Nat.le_of_ble_eq_true rfl) (fun h hh => ⟨rfl, m9, ⟨f1, f2, f3⟩, hh⟩)
      · have hw : w < n := gt_nI (by omega) (by omega) c7
        obtain ⟨a, ha, hla⟩ := hlay_of hrg w hw
        have hix : F 14 a = F 14 (ix (F 0 w)) := by rw [hla, ix_nI (by omega)]
        refine R_aload_n (pc := 10) C dX2_levels_10 rfl ?_
        refine R_getf (pc := 11) C dX2_levels_11 (i := 22) (wm0) rfl inlX2 (by decide) k_3_12 rfl ?_
        refine R_iload_n (pc := 14) C dX2_levels_14 rfl ?_
        refine R_aload_n (pc := 15) C dX2_levels_15 rfl ?_
        refine R_getf (pc := 16) C dX2_levels_16 (i := 4) (wm0) rfl inlX2 (by decide) k_2_20 rfl ?_
        refine R_iload_n (pc := 19) C dX2_levels_19 rfl ?_
        refine R_iald (pc := 20) C dX2_levels_20 (wm_2) (rfl) (by omega) (by decide) rfl ?_
        refine R_aload_n (pc := 21) C dX2_levels_21 rfl ?_
        refine R_getf (pc := 22) C dX2_levels_22 (i := 16) (wm0) rfl inlX2 (by decide) k_3_9 rfl ?_
        refine R_aload_n (pc := 25) C dX2_levels_25 rfl ?_
        refine R_getf (pc := 26) C dX2_levels_26 (i := 2) (wm0) rfl inlX2 (by decide) k_2_18 rfl ?_
        refine R_iload_n (pc := 29) C dX2_levels_29 rfl ?_
        refine R_iald (pc := 30) C dX2_levels_30 (wm_0) (rfl) (by omega) (by decide) rfl ?_
        refine R_iald (pc := 31) C dX2_levels_31 (wm_14) (hla) (ha) (by decide) rfl ?_
        refine R_iadd (pc := 32) C dX2_levels_32 ?_
        refine R_iast (pc := 33) C dX2_levels_33 (wm_b) (rfl) (by omega) (by decide) (pm_beh) ?_
        refine R_iconst (pc := 34) C dX2_levels_34 (v := 0) (by decide) ?_
        refine R_istore_n (pc := 35) C dX2_levels_35 (Nat.le_of_ble_eq_true rfl) (lv' := [some (.ref _), some (.int _), some (.int _)]) rfl ?_
        have LP36 : ∀ (mp q : Nat) (m9 : Nat → Nat → Int32), P < mp + q → q ≤ P → m9 0 = mu 0 → m9 1 = mu 1 → (∀ j, j < w → m9 2 j = bh n P F D j) → m9 2 w = bhP F w (F 2 w + F 14 (ix (F 0 w))) q → WR K G (AH h0 sz) (QM K G h0 sz 0 0 (fun v h1 => v = none ∧ ∃ m9 : Nat → Nat → Int32, (m9 0 = mu 0 ∧ m9 1 = mu 1 ∧ ∀ j, j < n → m9 2 j = bh n P F D j) ∧ Wd G (adr, Sc, (n, P, F), m9, g) h1)) (Wd G (adr, Sc, (n, P, F), m9, g)) [some (.ref (adr 5)), some (.int (nI w)), some (.int (nI q))] 0 0 36 [] := by
          intro mp
          induction mp with
          | zero => intro q m9 h1 h2; exact absurd h1 (by omega)
          | succ mp ihp =>
            intro q m9 h1 h2 f1 f2 f3 f4
            refine R_iload_n (pc := 36) C dX2_levels_36 rfl ?_
            refine R_aload_n (pc := 37) C dX2_levels_37 rfl ?_
            refine R_getf (pc := 38) C dX2_levels_38 (i := 17) (wm0) rfl inlX2 (by decide) k_27_6 rfl ?_
            refine R_icmp_ge (pc := 41) C dX2_levels_41 (tgt := 77) (by decide) (fun c41 => ?_) (fun c41 => ?_)
            · have eq : P = q := Nat.le_antisymm (le_nI (by omega) (by omega) c41) h2
              subst eq
              refine R_iconst (pc := 77) C dX2_levels_77 (v := 0) (by decide) ?_
              refine R_istore_n (pc := 78) C dX2_levels_78 (Nat.le_of_ble_eq_true rfl) (lv' := [some (.ref _), some (.int _), some (.int _)]) rfl ?_
              have LP79 : ∀ (md d : Nat) (m9 : Nat → Nat → Int32), n < md + d → d ≤ n → m9 0 = mu 0 → m9 1 = mu 1 → (∀ j, j < w → m9 2 j = bh n P F D j) → m9 2 w = bhD F D w (bhP F w (F 2 w + F 14 (ix (F 0 w))) P) d → WR K G (AH h0 sz) (QM K G h0 sz 0 0 (fun v h1 => v = none ∧ ∃ m9 : Nat → Nat → Int32, (m9 0 = mu 0 ∧ m9 1 = mu 1 ∧ ∀ j, j < n → m9 2 j = bh n P F D j) ∧ Wd G (adr, Sc, (n, P, F), m9, g) h1)) (Wd G (adr, Sc, (n, P, F), m9, g)) [some (.ref (adr 5)), some (.int (nI w)), some (.int (nI d))] 0 0 79 [] := by
                intro md
                induction md with
                | zero => intro d m9 h1 h2; exact absurd h1 (by omega)
                | succ md ihd =>
                  intro d m9 h1 h2 f1 f2 f3 f4
                  refine R_iload_n (pc := 79) C dX2_levels_79 rfl ?_
                  refine R_aload_n (pc := 80) C dX2_levels_80 rfl ?_
                  refine R_getf (pc := 81) C dX2_levels_81 (i := 1) (wm0) rfl inlX2 (by decide) k_17_19 rfl ?_
                  refine R_icmp_ge (pc := 84) C dX2_levels_84 (tgt := 142) (by decide) (fun c84 => ?_) (fun c84 => ?_)
                  · have ed : n = d := Nat.le_antisymm (le_nI (by omega) (by omega) c84) h2
                    subst ed
                    refine R_iinc (pc := 142) C dX2_levels_142 rfl (inc1) (lv' := [some (.ref _), some (.int _), some (.int _)]) rfl ?_
                    refine R_goto (pc := 145) C dX2_levels_145 (tgt := 2) (by decide) ?_
                    refine WR.ls (lv' := [some (.ref _), some (.int _), none]) (ls_s (ls_s (ls_n ls_e))) ?_
                    exact ihw (w + 1) m9 (by omega) (by omega) f1 f2 (fun j hj => if e : j = w then by rw [e, f4]; rfl else f3 j (by omega))
                  · have hd : d < n := gt_nI (by omega) (by omega) c84
                    refine R_aload_n (pc := 87) C dX2_levels_87 rfl ?_
                    refine R_getf (pc := 88) C dX2_levels_88 (i := 22) (wm0) rfl inlX2 (by decide) k_3_12 rfl ?_
                    refine R_iload_n (pc := 91) C dX2_levels_91 rfl ?_
                    refine R_dup2 (pc := 92) C dX2_levels_92 rfl rfl ?_
                    refine R_iald (pc := 93) C dX2_levels_93 (wm_b) (rfl) (by omega) (by decide) rfl ?_
                    refine R_aload_n (pc := 94) C dX2_levels_94 rfl ?_
                    refine R_getf (pc := 95) C dX2_levels_95 (i := 21) (wm0) rfl inlX2 (by decide) k_3_11 rfl ?_
                    refine R_iload_n (pc := 98) C dX2_levels_98 rfl ?_
                    refine R_zald (pc := 99) C dX2_levels_99 (wm_s) (rfl) (by omega) (by decide) rfl ?_
                    refine R_if_eq (pc := 100) C dX2_levels_100 (tgt := 107) (by decide) (fun c100 => ?_) (fun c100 => ?_)
                    · have dq0 : drw F D d = F 6 d := by unfold drw; rw [if_neg (st0 (hbD d (by omega)) (by rw [← f2]; exact c100))]
                      refine R_aload_n (pc := 107) C dX2_levels_107 rfl ?_
                      refine R_getf (pc := 108) C dX2_levels_108 (i := 8) (wm0) rfl inlX2 (by decide) k_3_0 rfl ?_
                      refine R_iload_n (pc := 111) C dX2_levels_111 rfl ?_
                      refine R_iald (pc := 112) C dX2_levels_112 (wm_6) (rfl) (by omega) (by decide) rfl ?_
                      refine R_aload_n (pc := 113) C dX2_levels_113 rfl ?_
                      refine R_aload_n (pc := 114) C dX2_levels_114 rfl ?_
                      refine R_getf (pc := 115) C dX2_levels_115 (i := 2) (wm0) rfl inlX2 (by decide) k_2_18 rfl ?_
                      refine R_iload_n (pc := 118) C dX2_levels_118 rfl ?_
                      refine R_iald (pc := 119) C dX2_levels_119 (wm_0) (rfl) (by omega) (by decide) rfl ?_
                      refine R_aload_n (pc := 120) C dX2_levels_120 rfl ?_
                      refine R_getf (pc := 121) C dX2_levels_121 (i := 3) (wm0) rfl inlX2 (by decide) k_2_19 rfl ?_
                      refine R_iload_n (pc := 124) C dX2_levels_124 rfl ?_
                      refine R_iald (pc := 125) C dX2_levels_125 (wm_1) (rfl) (by omega) (by decide) rfl ?_
                      refine R_iload_n (pc := 126) C dX2_levels_126 rfl ?_
                      refine R_callVN (pc := 127) C dX2_levels_127 (vs := [_, _, _]) (fun h hh => mX2_reaches hl (by omega) h hh) (isOb_of (wm0) rfl) ⟨k_21_5, k_21_6, k_21_7, k_1_5, k_21_8⟩ (sgn (nv := 3) rfl ⟨by decide +kernel, by decide +kernel, by decide +kernel⟩) ⟨⟨Nat.le_of_ble_eq_true rfl, Nat.le_of_ble_eq_true rfl⟩, ⟨Nat.le_of_ble_eq_true rfl, Nat.le_of_ble_eq_true rfl⟩, Nat.le_of_ble_eq_true rfl⟩ rfl rfl (fun h9 hh9 v9 => ?_)
                      refine WR.pr (fun e9 => ?_)
                      subst e9
                      show WR K G _ _ _ _ _ _ _ (.int _ :: _)
                      rw [rM_eq (hrg.1 w hw).1 (hrg.1 w hw).2 (hrg.1 d hd).1 (hrg.1 d hd).2]
                      refine R_imul (pc := 130) C dX2_levels_130 ?_
                      refine R_bipush (pc := 131) C dX2_levels_131 (v := 100) (by decide) ?_
                      refine R_idiv (pc := 133) C dX2_levels_133 (by decide) ?_
                      refine R_isub (pc := 134) C dX2_levels_134 ?_
                      refine R_iast (pc := 135) C dX2_levels_135 (wm_b) (rfl) (by omega) (by decide) (pm_beh) ?_
                      refine R_iinc (pc := 136) C dX2_levels_136 rfl (inc1) (lv' := [some (.ref _), some (.int _), some (.int _)]) rfl ?_
                      refine R_goto (pc := 139) C dX2_levels_139 (tgt := 79) (by decide) ?_
                      exact ihd (d + 1) _ (by omega) (by omega) (by rw [su_f (by omega)]; exact f1) (by rw [su_f (by omega)]; exact f2) (fun j hj => by rw [su_i (by omega)]; exact f3 j hj) (by rw [su_s, bhD, f4, dq0])
                    · have dq : drw F D d * spR F d w / 100 = 0 := by unfold drw; rw [if_pos (st1 (hbD d (by omega)) (by rw [← f2]; exact c100))]; exact zr100 _
                      refine R_iconst (pc := 103) C dX2_levels_103 (v := 0) (by decide) ?_
                      refine R_goto (pc := 104) C dX2_levels_104 (tgt := 134) (by decide) ?_
                      refine R_isub (pc := 134) C dX2_levels_134 ?_
                      refine R_iast (pc := 135) C dX2_levels_135 (wm_b) (rfl) (by omega) (by decide) (pm_beh) ?_
                      refine R_iinc (pc := 136) C dX2_levels_136 rfl (inc1) (lv' := [some (.ref _), some (.int _), some (.int _)]) rfl ?_
                      refine R_goto (pc := 139) C dX2_levels_139 (tgt := 79) (by decide) ?_
                      exact ihd (d + 1) _ (by omega) (by omega) (by rw [su_f (by omega)]; exact f1) (by rw [su_f (by omega)]; exact f2) (fun j hj => by rw [su_i (by omega)]; exact f3 j hj) (by rw [su_s, bhD, f4, dq])
              exact LP79 (n + 1) 0 m9 (by omega) (by omega) f1 f2 f3 f4
            · have hq : q < P := gt_nI (by omega) (by omega) c41
              refine R_aload_n (pc := 44) C dX2_levels_44 rfl ?_
              refine R_getf (pc := 45) C dX2_levels_45 (i := 22) (wm0) rfl inlX2 (by decide) k_3_12 rfl ?_
              refine R_iload_n (pc := 48) C dX2_levels_48 rfl ?_
              refine R_dup2 (pc := 49) C dX2_levels_49 rfl rfl ?_
              refine R_iald (pc := 50) C dX2_levels_50 (wm_b) (rfl) (by omega) (by decide) rfl ?_
              refine R_bipush (pc := 51) C dX2_levels_51 (v := 20) (by decide) ?_
              refine R_aload_n (pc := 53) C dX2_levels_53 rfl ?_
              refine R_iconst (pc := 54) C dX2_levels_54 (v := 0) (by decide) ?_
              refine R_aload_n (pc := 55) C dX2_levels_55 rfl ?_
              refine R_getf (pc := 56) C dX2_levels_56 (i := 18) (wm0) rfl inlX2 (by decide) k_3_10 rfl ?_
              refine R_iload_n (pc := 59) C dX2_levels_59 rfl ?_
              refine R_iald (pc := 60) C dX2_levels_60 (wm_15) (rfl) (by omega) (by decide) rfl ?_
              refine R_iload_n (pc := 61) C dX2_levels_61 rfl ?_
              refine R_callVN (pc := 62) C dX2_levels_62 (vs := [_, _, _]) (fun h hh => mX2_reaches hl (by omega) h hh) (isOb_of (wm0) rfl) ⟨k_21_5, k_21_6, k_21_7, k_1_5, k_21_8⟩ (sgn (nv := 3) rfl ⟨by decide +kernel, by decide +kernel, by decide +kernel⟩) ⟨⟨Nat.le_of_ble_eq_true rfl, Nat.le_of_ble_eq_true rfl⟩, ⟨Nat.le_of_ble_eq_true rfl, Nat.le_of_ble_eq_true rfl⟩, Nat.le_of_ble_eq_true rfl⟩ rfl rfl (fun h9 hh9 v9 => ?_)
              refine WR.pr (fun e9 => ?_)
              subst e9
              show WR K G _ _ _ _ _ _ _ (.int _ :: _)
              rw [rM_eq (lo := 0) (hrg.1 w hw).1 (hrg.1 w hw).2 ⟨0, by omega, rfl⟩ (hrg.2 q hq)]
              refine R_imul (pc := 65) C dX2_levels_65 ?_
              refine R_bipush (pc := 66) C dX2_levels_66 (v := 100) (by decide) ?_
              refine R_idiv (pc := 68) C dX2_levels_68 (by decide) ?_
              refine R_iadd (pc := 69) C dX2_levels_69 ?_
              refine R_iast (pc := 70) C dX2_levels_70 (wm_b) (rfl) (by omega) (by decide) (pm_beh) ?_
              refine R_iinc (pc := 71) C dX2_levels_71 rfl (inc1) (lv' := [some (.ref _), some (.int _), some (.int _)]) rfl ?_
              refine R_goto (pc := 74) C dX2_levels_74 (tgt := 36) (by decide) ?_
              exact ihp (q + 1) _ (by omega) (by omega) (by rw [su_f (by omega)]; exact f1) (by rw [su_f (by omega)]; exact f2) (fun j hj => by rw [su_i (by omega)]; exact f3 j hj) (by rw [su_s, bhP, f4])
        exact LP36 (P + 1) 0 _ (by omega) (by omega) (by rw [su_f (by omega)]; exact f1) (by rw [su_f (by omega)]; exact f2) (fun j hj => by rw [su_i (by omega)]; exact f3 j hj) (by rw [su_s, hix]; rfl)
  exact LP2 (n + 1) 0 mu (by omega) (by omega) rfl rfl (fun j hj => absurd hj (Nat.not_lt_zero j))
set_option maxHeartbeats 4000000 in
set_option maxRecDepth 100000 in
theorem mX2_isYounger (hl : l.stackTraces = false) {a b : Nat} (ha : a < 8) (hb : b < 8) : ∀ h, Wd G (adr, Sc, (n, P, F), mu, g) h → CN l yX2_isYounger cX2_isYounger 3 (some .boolean) 0 0 0 [.ref (adr 5), .int (nI a), .int (nI b)] G h (fun v h1 => v = some (.int (if spOld F b a then 1 else 0)) ∧ Wd G (adr, Sc, (n, P, F), mu, g) h1) := by
  intro h0 hwd
  refine CN.of hl (by decide +kernel) rfl (Nat.le_of_ble_eq_true rfl) (fun K sz hKl hin C => ?_)
  have C : CX K G (AH h0 sz) RX2 cX2_isYounger 3 (some .boolean) (rmD 0 0 0) [] := C
  subst hKl
  refine WR.imp (P' := Wd G (adr, Sc, (n, P, F), mu, g)) (fun h e => e ▸ hwd) ?_
  show WR K G _ _ _ [some (.ref (adr 5)), some (.int (nI a)), some (.int (nI b))] 0 0 0 []
  refine R_aload_n (pc := 0) C dX2_isYounger_0 rfl ?_
  refine R_getf (pc := 1) C dX2_isYounger_1 (i := 6) (wm0) rfl inlX2 (by decide) k_2_22 rfl ?_
  refine R_iload_n (pc := 4) C dX2_isYounger_4 rfl ?_
  refine R_iald (pc := 5) C dX2_isYounger_5 (wm_4) (rfl) (by omega) (by decide) rfl ?_
  refine R_aload_n (pc := 6) C dX2_isYounger_6 rfl ?_
  refine R_getf (pc := 7) C dX2_isYounger_7 (i := 6) (wm0) rfl inlX2 (by decide) k_2_22 rfl ?_
  refine R_iload_n (pc := 10) C dX2_isYounger_10 rfl ?_
  refine R_iald (pc := 11) C dX2_isYounger_11 (wm_4) (rfl) (by omega) (by decide) rfl ?_
  refine R_icmp_gt (pc := 12) C dX2_isYounger_12 (tgt := 35) (by decide) (fun c12 => ?_) (fun c12 => ?_)
  · refine R_iconst (pc := 35) C dX2_isYounger_35 (v := 1) (by decide) ?_
    refine R_goto (pc := 36) C dX2_isYounger_36 (tgt := 40) (by decide) ?_
    exact R_zret (pc := 40) C dX2_isYounger_40 rfl rfl (Nat.le_of_ble_eq_true rfl) (Nat.le_of_ble_eq_true rfl) (fun h hh => ⟨by rw [if_pos (Or.inl c12)], hh⟩)
  · refine R_aload_n (pc := 15) C dX2_isYounger_15 rfl ?_
    refine R_getf (pc := 16) C dX2_isYounger_16 (i := 6) (wm0) rfl inlX2 (by decide) k_2_22 rfl ?_
    refine R_iload_n (pc := 19) C dX2_isYounger_19 rfl ?_
    refine R_iald (pc := 20) C dX2_isYounger_20 (wm_4) (rfl) (by omega) (by decide) rfl ?_
    refine R_aload_n (pc := 21) C dX2_isYounger_21 rfl ?_
    refine R_getf (pc := 22) C dX2_isYounger_22 (i := 6) (wm0) rfl inlX2 (by decide) k_2_22 rfl ?_
    refine R_iload_n (pc := 25) C dX2_isYounger_25 rfl ?_
    refine R_iald (pc := 26) C dX2_isYounger_26 (wm_4) (rfl) (by omega) (by decide) rfl ?_
    refine R_icmp_ne (pc := 27) C dX2_isYounger_27 (tgt := 39) (by decide) (fun c27 => ?_) (fun c27 => ?_)
    · refine R_iconst (pc := 39) C dX2_isYounger_39 (v := 0) (by decide) ?_
      exact R_zret (pc := 40) C dX2_isYounger_40 rfl rfl (Nat.le_of_ble_eq_true rfl) (Nat.le_of_ble_eq_true rfl) (fun h hh => ⟨by rw [if_neg (fun q => q.elim c12 (fun z => c27 z.1.symm))], hh⟩)
    · refine R_iload_n (pc := 30) C dX2_isYounger_30 rfl ?_
      refine R_iload_n (pc := 31) C dX2_isYounger_31 rfl ?_
      refine R_icmp_le (pc := 32) C dX2_isYounger_32 (tgt := 39) (by decide) (fun c32 => ?_) (fun c32 => ?_)
      · refine R_iconst (pc := 39) C dX2_isYounger_39 (v := 0) (by decide) ?_
        exact R_zret (pc := 40) C dX2_isYounger_40 rfl rfl (Nat.le_of_ble_eq_true rfl) (Nat.le_of_ble_eq_true rfl) (fun h hh => ⟨by rw [if_neg (fun q => q.elim c12 (fun z => absurd z.2 (Int32.not_lt.mpr c32)))], hh⟩)
      · refine R_iconst (pc := 35) C dX2_isYounger_35 (v := 1) (by decide) ?_
        refine R_goto (pc := 36) C dX2_isYounger_36 (tgt := 40) (by decide) ?_
        exact R_zret (pc := 40) C dX2_isYounger_40 rfl rfl (Nat.le_of_ble_eq_true rfl) (Nat.le_of_ble_eq_true rfl) (fun h hh => ⟨by rw [if_pos (Or.inr ⟨c27.symm, Int32.not_le.mp c32⟩)], hh⟩)
set_option maxHeartbeats 4000000 in
set_option maxRecDepth 100000 in
theorem mX2_youngest (hl : l.stackTraces = false) {w : Nat} {D : Nat → Bool} (hw : w < n) (hn : n ≤ 8) (hrg : Rg n P F) (hbD : bD mu D) : ∀ h, Wd G (adr, Sc, (n, P, F), mu, g) h → CN l yX2_youngest cX2_youngest 5 (some .int) 1 0 0 [.ref (adr 5), .int (nI w)] G h (fun v h1 => v = some (.int (oI (yng F D w n))) ∧ Wd G (adr, Sc, (n, P, F), mu, g) h1) := by
  intro h0 hwd
  refine CN.of hl (by decide +kernel) rfl (Nat.le_of_ble_eq_true rfl) (fun K sz hKl hin C => ?_)
  have C : CX K G (AH h0 sz) RX2 cX2_youngest 5 (some .int) (rmD 1 0 0) [] := C
  subst hKl
  refine WR.imp (P' := Wd G (adr, Sc, (n, P, F), mu, g)) (fun h e => e ▸ hwd) ?_
  show WR K G _ _ _ [some (.ref (adr 5)), some (.int (nI w)), none, none, none] 0 0 0 []
  refine R_iconst (pc := 0) C dX2_youngest_0 (v := -1) (by decide) ?_
  refine R_istore_n (pc := 1) C dX2_youngest_1 (Nat.le_of_ble_eq_true rfl) (lv' := [some (.ref _), some (.int _), some (.int _), none, none]) rfl ?_
  refine R_iconst (pc := 2) C dX2_youngest_2 (v := 0) (by decide) ?_
  refine R_istore_n (pc := 3) C dX2_youngest_3 (Nat.le_of_ble_eq_true rfl) (lv' := [some (.ref _), some (.int _), some (.int _), some (.int _), none]) rfl ?_
  have LP4 : ∀ (m d : Nat) (yo : Option Nat), n < m + d → d ≤ n → yo = yng F D w d → WR K G (AH h0 sz) (QM K G h0 sz 0 0 (fun v h1 => v = some (.int (oI (yng F D w n))) ∧ Wd G (adr, Sc, (n, P, F), mu, g) h1)) (Wd G (adr, Sc, (n, P, F), mu, g)) [some (.ref (adr 5)), some (.int (nI w)), some (.int (oI yo)), some (.int (nI d)), none] 0 0 4 [] := by
    intro m
    induction m with
    | zero => intro d yo h1 h2; exact absurd h1 (by omega)
    | succ m ih =>
      intro d yo h1 h2 hyo
      refine R_iload_n (pc := 4) C dX2_youngest_4 rfl ?_
      refine R_aload_n (pc := 5) C dX2_youngest_5 rfl ?_
      refine R_getf (pc := 6) C dX2_youngest_6 (i := 1) (wm0) rfl inlX2 (by decide) k_17_19 rfl ?_
      refine R_icmp_ge (pc := 9) C dX2_youngest_9 (tgt := 97) (by decide) (fun c9 => ?_) (fun c9 => ?_)
      · have ed : n = d := Nat.le_antisymm (le_nI (by omega) (by omega) c9) h2
        subst ed
        refine R_iload_n (pc := 97) C dX2_youngest_97 rfl ?_
        exact R_iret (pc := 98) C dX2_youngest_98 rfl (Nat.le_of_ble_eq_true rfl) (Nat.le_of_ble_eq_true rfl) (fun h hh => ⟨by rw [← hyo], hh⟩)
      · have hd : d < n := gt_nI (by omega) (by omega) c9
        refine R_aload_n (pc := 12) C dX2_youngest_12 rfl ?_
        refine R_iload_n (pc := 13) C dX2_youngest_13 rfl ?_
        refine R_iload_n (pc := 14) C dX2_youngest_14 rfl ?_
        refine R_callVN (pc := 15) C dX2_youngest_15 (vs := [_, _]) (fun h hh => mX2_isYounger hl (by omega) (by omega) h hh) (isOb_of (wm0) rfl) ⟨k_27_11, k_27_12, k_27_13, k_1_5, k_27_14⟩ (sgn (nv := 2) rfl ⟨by decide +kernel, by decide +kernel, by decide +kernel⟩) ⟨⟨Nat.le_of_ble_eq_true rfl, Nat.le_of_ble_eq_true rfl⟩, ⟨Nat.le_of_ble_eq_true rfl, Nat.le_of_ble_eq_true rfl⟩, Nat.le_of_ble_eq_true rfl⟩ rfl rfl (fun h9 hh9 v9 => ?_)
        refine WR.pr (fun e9 => ?_)
        subst e9
        show WR K G _ _ _ _ _ _ _ (.int _ :: _)
        refine R_if_eq (pc := 18) C dX2_youngest_18 (tgt := 63) (by decide) (fun c18 => ?_) (fun c18 => ?_)
        · refine R_iconst (pc := 63) C dX2_youngest_63 (v := 0) (by decide) ?_
          refine R_istore (pc := 64) C dX2_youngest_64 (Nat.le_of_ble_eq_true rfl) (lv' := [some (.ref _), some (.int _), some (.int _), some (.int _), some (.int _)]) rfl ?_
          refine R_iload (pc := 66) C dX2_youngest_66 rfl ?_
          refine R_if_eq (pc := 68) C dX2_youngest_68 (tgt := 89) (by decide) (fun c68 => ?_) (fun c68 => absurd (rfl) c68)
          refine R_iload_n (pc := 89) C dX2_youngest_89 rfl ?_
          refine R_istore_n (pc := 90) C dX2_youngest_90 (Nat.le_of_ble_eq_true rfl) (lv' := [some (.ref _), some (.int _), some (.int _), some (.int _), some (.int _)]) rfl ?_
          refine R_iinc (pc := 91) C dX2_youngest_91 rfl (inc1) (lv' := [some (.ref _), some (.int _), some (.int _), some (.int _), some (.int _)]) rfl ?_
          refine R_goto (pc := 94) C dX2_youngest_94 (tgt := 4) (by decide) ?_
          refine WR.ls (lv' := [some (.ref _), some (.int _), some (.int _), some (.int _), none]) (ls_s (ls_s (ls_s (ls_s (ls_n ls_e))))) ?_
          exact ih (d + 1) yo (by omega) (by omega) (by rw [yng, ← hyo]; exact (yS_skip (fun q => if01 c18 q.1)).symm)
        · refine R_aload_n (pc := 21) C dX2_youngest_21 rfl ?_
          refine R_getf (pc := 22) C dX2_youngest_22 (i := 21) (wm0) rfl inlX2 (by decide) k_3_11 rfl ?_
          refine R_iload_n (pc := 25) C dX2_youngest_25 rfl ?_
          refine R_zald (pc := 26) C dX2_youngest_26 (wm_s) (rfl) (by omega) (by decide) rfl ?_
          refine R_if_ne (pc := 27) C dX2_youngest_27 (tgt := 63) (by decide) (fun c27 => ?_) (fun c27 => ?_)
          · refine R_iconst (pc := 63) C dX2_youngest_63 (v := 0) (by decide) ?_
            refine R_istore (pc := 64) C dX2_youngest_64 (Nat.le_of_ble_eq_true rfl) (lv' := [some (.ref _), some (.int _), some (.int _), some (.int _), some (.int _)]) rfl ?_
            refine R_iload (pc := 66) C dX2_youngest_66 rfl ?_
            refine R_if_eq (pc := 68) C dX2_youngest_68 (tgt := 89) (by decide) (fun c68 => ?_) (fun c68 => absurd (rfl) c68)
            refine R_iload_n (pc := 89) C dX2_youngest_89 rfl ?_
            refine R_istore_n (pc := 90) C dX2_youngest_90 (Nat.le_of_ble_eq_true rfl) (lv' := [some (.ref _), some (.int _), some (.int _), some (.int _), some (.int _)]) rfl ?_
            refine R_iinc (pc := 91) C dX2_youngest_91 rfl (inc1) (lv' := [some (.ref _), some (.int _), some (.int _), some (.int _), some (.int _)]) rfl ?_
            refine R_goto (pc := 94) C dX2_youngest_94 (tgt := 4) (by decide) ?_
            refine WR.ls (lv' := [some (.ref _), some (.int _), some (.int _), some (.int _), none]) (ls_s (ls_s (ls_s (ls_s (ls_n ls_e))))) ?_
            exact ih (d + 1) yo (by omega) (by omega) (by rw [yng, ← hyo]; exact (yS_skip (fun q => absurd q.2.1 (by unfold drw; rw [if_pos (st1 (hbD d (by omega)) c27)]; decide))).symm)
          · refine R_aload_n (pc := 30) C dX2_youngest_30 rfl ?_
            refine R_getf (pc := 31) C dX2_youngest_31 (i := 8) (wm0) rfl inlX2 (by decide) k_3_0 rfl ?_
            refine R_iload_n (pc := 34) C dX2_youngest_34 rfl ?_
            refine R_iald (pc := 35) C dX2_youngest_35 (wm_6) (rfl) (by omega) (by decide) rfl ?_
            refine R_if_le (pc := 36) C dX2_youngest_36 (tgt := 63) (by decide) (fun c36 => ?_) (fun c36 => ?_)
            · refine R_iconst (pc := 63) C dX2_youngest_63 (v := 0) (by decide) ?_
              refine R_istore (pc := 64) C dX2_youngest_64 (Nat.le_of_ble_eq_true rfl) (lv' := [some (.ref _), some (.int _), some (.int _), some (.int _), some (.int _)]) rfl ?_
              refine R_iload (pc := 66) C dX2_youngest_66 rfl ?_
              refine R_if_eq (pc := 68) C dX2_youngest_68 (tgt := 89) (by decide) (fun c68 => ?_) (fun c68 => absurd (rfl) c68)
              refine R_iload_n (pc := 89) C dX2_youngest_89 rfl ?_
              refine R_istore_n (pc := 90) C dX2_youngest_90 (Nat.le_of_ble_eq_true rfl) (lv' := [some (.ref _), some (.int _), some (.int _), some (.int _), some (.int _)]) rfl ?_
              refine R_iinc (pc := 91) C dX2_youngest_91 rfl (inc1) (lv' := [some (.ref _), some (.int _), some (.int _), some (.int _), some (.int _)]) rfl ?_
              refine R_goto (pc := 94) C dX2_youngest_94 (tgt := 4) (by decide) ?_
              refine WR.ls (lv' := [some (.ref _), some (.int _), some (.int _), some (.int _), none]) (ls_s (ls_s (ls_s (ls_s (ls_n ls_e))))) ?_
              exact ih (d + 1) yo (by omega) (by omega) (by rw [yng, ← hyo]; exact (yS_skip (fun q => absurd q.2.1 (by unfold drw; rw [if_neg (st0 (hbD d (by omega)) c27)]; exact Int32.not_lt.mpr c36))).symm)
            · refine R_aload_n (pc := 39) C dX2_youngest_39 rfl ?_
              refine R_aload_n (pc := 40) C dX2_youngest_40 rfl ?_
              refine R_getf (pc := 41) C dX2_youngest_41 (i := 2) (wm0) rfl inlX2 (by decide) k_2_18 rfl ?_
              refine R_iload_n (pc := 44) C dX2_youngest_44 rfl ?_
              refine R_iald (pc := 45) C dX2_youngest_45 (wm_0) (rfl) (by omega) (by decide) rfl ?_
              refine R_aload_n (pc := 46) C dX2_youngest_46 rfl ?_
              refine R_getf (pc := 47) C dX2_youngest_47 (i := 3) (wm0) rfl inlX2 (by decide) k_2_19 rfl ?_
              refine R_iload_n (pc := 50) C dX2_youngest_50 rfl ?_
              refine R_iald (pc := 51) C dX2_youngest_51 (wm_1) (rfl) (by omega) (by decide) rfl ?_
              refine R_iload_n (pc := 52) C dX2_youngest_52 rfl ?_
              refine R_callVN (pc := 53) C dX2_youngest_53 (vs := [_, _, _]) (fun h hh => mX2_reaches hl (by omega) h hh) (isOb_of (wm0) rfl) ⟨k_21_5, k_21_6, k_21_7, k_1_5, k_21_8⟩ (sgn (nv := 3) rfl ⟨by decide +kernel, by decide +kernel, by decide +kernel⟩) ⟨⟨Nat.le_of_ble_eq_true rfl, Nat.le_of_ble_eq_true rfl⟩, ⟨Nat.le_of_ble_eq_true rfl, Nat.le_of_ble_eq_true rfl⟩, Nat.le_of_ble_eq_true rfl⟩ rfl rfl (fun h9 hh9 v9 => ?_)
              refine WR.pr (fun e9 => ?_)
              subst e9
              show WR K G _ _ _ _ _ _ _ (.int _ :: _)
              rw [rM_eq (hrg.1 w hw).1 (hrg.1 w hw).2 (hrg.1 d hd).1 (hrg.1 d hd).2]
              refine R_if_le (pc := 56) C dX2_youngest_56 (tgt := 63) (by decide) (fun c56 => ?_) (fun c56 => ?_)
              · refine R_iconst (pc := 63) C dX2_youngest_63 (v := 0) (by decide) ?_
                refine R_istore (pc := 64) C dX2_youngest_64 (Nat.le_of_ble_eq_true rfl) (lv' := [some (.ref _), some (.int _), some (.int _), some (.int _), some (.int _)]) rfl ?_
                refine R_iload (pc := 66) C dX2_youngest_66 rfl ?_
                refine R_if_eq (pc := 68) C dX2_youngest_68 (tgt := 89) (by decide) (fun c68 => ?_) (fun c68 => absurd (rfl) c68)
                refine R_iload_n (pc := 89) C dX2_youngest_89 rfl ?_
                refine R_istore_n (pc := 90) C dX2_youngest_90 (Nat.le_of_ble_eq_true rfl) (lv' := [some (.ref _), some (.int _), some (.int _), some (.int _), some (.int _)]) rfl ?_
                refine R_iinc (pc := 91) C dX2_youngest_91 rfl (inc1) (lv' := [some (.ref _), some (.int _), some (.int _), some (.int _), some (.int _)]) rfl ?_
                refine R_goto (pc := 94) C dX2_youngest_94 (tgt := 4) (by decide) ?_
                refine WR.ls (lv' := [some (.ref _), some (.int _), some (.int _), some (.int _), none]) (ls_s (ls_s (ls_s (ls_s (ls_n ls_e))))) ?_
                exact ih (d + 1) yo (by omega) (by omega) (by rw [yng, ← hyo]; exact (yS_skip (fun q => absurd q.2.2 (Int32.not_lt.mpr c56))).symm)
              · refine R_iconst (pc := 59) C dX2_youngest_59 (v := 1) (by decide) ?_
                refine R_goto (pc := 60) C dX2_youngest_60 (tgt := 64) (by decide) ?_
                refine R_istore (pc := 64) C dX2_youngest_64 (Nat.le_of_ble_eq_true rfl) (lv' := [some (.ref _), some (.int _), some (.int _), some (.int _), some (.int _)]) rfl ?_
                refine R_iload (pc := 66) C dX2_youngest_66 rfl ?_
                refine R_if_eq (pc := 68) C dX2_youngest_68 (tgt := 89) (by decide) (fun c68 => absurd c68 ((by decide))) (fun c68 => ?_)
                rcases yo with _ | y
                · refine R_iload_n (pc := 71) C dX2_youngest_71 rfl ?_
                  refine R_iconst (pc := 72) C dX2_youngest_72 (v := -1) (by decide) ?_
                  refine R_icmp_eq (pc := 73) C dX2_youngest_73 (tgt := 85) (by decide) (fun c73 => ?_) (fun c73 => absurd ((rfl : oI none = -1)) c73)
                  refine R_iload_n (pc := 85) C dX2_youngest_85 rfl ?_
                  refine R_goto (pc := 86) C dX2_youngest_86 (tgt := 90) (by decide) ?_
                  refine R_istore_n (pc := 90) C dX2_youngest_90 (Nat.le_of_ble_eq_true rfl) (lv' := [some (.ref _), some (.int _), some (.int _), some (.int _), some (.int _)]) rfl ?_
                  refine R_iinc (pc := 91) C dX2_youngest_91 rfl (inc1) (lv' := [some (.ref _), some (.int _), some (.int _), some (.int _), some (.int _)]) rfl ?_
                  refine R_goto (pc := 94) C dX2_youngest_94 (tgt := 4) (by decide) ?_
                  refine WR.ls (lv' := [some (.ref _), some (.int _), some (.int _), some (.int _), none]) (ls_s (ls_s (ls_s (ls_s (ls_n ls_e))))) ?_
                  exact ih (d + 1) (some d) (by omega) (by omega) (by rw [yng, ← hyo]; exact (yS_none ⟨if01' c18, by unfold drw; rw [if_neg (st0 (hbD d (by omega)) c27)]; exact Int32.not_le.mp c36, Int32.not_le.mp c56⟩).symm)
                · have hy : y < n := by have := (yng_lt hyo.symm).1; omega
                  change WR K G _ _ _ [some (.ref (adr 5)), some (.int (nI w)), some (.int (nI y)), some (.int (nI d)), some (.int _)] _ _ _ _
                  refine R_iload_n (pc := 71) C dX2_youngest_71 rfl ?_
                  refine R_iconst (pc := 72) C dX2_youngest_72 (v := -1) (by decide) ?_
                  refine R_icmp_eq (pc := 73) C dX2_youngest_73 (tgt := 85) (by decide) (fun c73 => absurd c73 (nI_m1 (by omega))) (fun c73 => ?_)
                  refine R_aload_n (pc := 76) C dX2_youngest_76 rfl ?_
                  refine R_iload_n (pc := 77) C dX2_youngest_77 rfl ?_
                  refine R_iload_n (pc := 78) C dX2_youngest_78 rfl ?_
                  refine R_callVN (pc := 79) C dX2_youngest_79 (vs := [_, _]) (fun h hh => mX2_isYounger hl (by omega) (by omega) h hh) (isOb_of (wm0) rfl) ⟨k_27_11, k_27_12, k_27_13, k_1_5, k_27_14⟩ (sgn (nv := 2) rfl ⟨by decide +kernel, by decide +kernel, by decide +kernel⟩) ⟨⟨Nat.le_of_ble_eq_true rfl, Nat.le_of_ble_eq_true rfl⟩, ⟨Nat.le_of_ble_eq_true rfl, Nat.le_of_ble_eq_true rfl⟩, Nat.le_of_ble_eq_true rfl⟩ rfl rfl (fun h9 hh9 v9 => ?_)
                  refine WR.pr (fun e9 => ?_)
                  subst e9
                  show WR K G _ _ _ _ _ _ _ (.int _ :: _)
                  refine R_if_eq (pc := 82) C dX2_youngest_82 (tgt := 89) (by decide) (fun c82 => ?_) (fun c82 => ?_)
                  · refine R_iload_n (pc := 89) C dX2_youngest_89 rfl ?_
                    refine R_istore_n (pc := 90) C dX2_youngest_90 (Nat.le_of_ble_eq_true rfl) (lv' := [some (.ref _), some (.int _), some (.int _), some (.int _), some (.int _)]) rfl ?_
                    refine R_iinc (pc := 91) C dX2_youngest_91 rfl (inc1) (lv' := [some (.ref _), some (.int _), some (.int _), some (.int _), some (.int _)]) rfl ?_
                    refine R_goto (pc := 94) C dX2_youngest_94 (tgt := 4) (by decide) ?_
                    refine WR.ls (lv' := [some (.ref _), some (.int _), some (.int _), some (.int _), none]) (ls_s (ls_s (ls_s (ls_s (ls_n ls_e))))) ?_
                    exact ih (d + 1) (some y) (by omega) (by omega) (by rw [yng, ← hyo]; exact (yS_keep ⟨if01' c18, by unfold drw; rw [if_neg (st0 (hbD d (by omega)) c27)]; exact Int32.not_le.mp c36, Int32.not_le.mp c56⟩ (if01 c82)).symm)
                  · refine R_iload_n (pc := 85) C dX2_youngest_85 rfl ?_
                    refine R_goto (pc := 86) C dX2_youngest_86 (tgt := 90) (by decide) ?_
                    refine R_istore_n (pc := 90) C dX2_youngest_90 (Nat.le_of_ble_eq_true rfl) (lv' := [some (.ref _), some (.int _), some (.int _), some (.int _), some (.int _)]) rfl ?_
                    refine R_iinc (pc := 91) C dX2_youngest_91 rfl (inc1) (lv' := [some (.ref _), some (.int _), some (.int _), some (.int _), some (.int _)]) rfl ?_
                    refine R_goto (pc := 94) C dX2_youngest_94 (tgt := 4) (by decide) ?_
                    refine WR.ls (lv' := [some (.ref _), some (.int _), some (.int _), some (.int _), none]) (ls_s (ls_s (ls_s (ls_s (ls_n ls_e))))) ?_
                    exact ih (d + 1) (some d) (by omega) (by omega) (by rw [yng, ← hyo]; exact (yS_take ⟨if01' c18, by unfold drw; rw [if_neg (st0 (hbD d (by omega)) c27)]; exact Int32.not_le.mp c36, Int32.not_le.mp c56⟩ (if01' c82)).symm)
  exact LP4 (n + 1) 0 none (by omega) (by omega) rfl
set_option maxHeartbeats 4000000 in
set_option maxRecDepth 100000 in
theorem mX2_stops (hl : l.stackTraces = false)  (hn : n ≤ 8) (hP : P ≤ 5) (hrg : Rg n P F) : ∀ h, Wd G (adr, Sc, (n, P, F), mu, g) h → CN l yX2_stops cX2_stops 6 (some .int) 2 0 0 [.ref (adr 5)] G h (fun v h1 => v = some (.int (nI (cnt (spSt n P F) 8))) ∧ ∃ m9 : Nat → Nat → Int32, (m9 0 = mu 0 ∧ bD m9 (spSt n P F) ∧ ∀ j, j < n → m9 2 j = bh n P F (spSt n P F) j) ∧ Wd G (adr, Sc, (n, P, F), m9, g) h1) := by
  intro h0 hwd
  refine CN.of hl (by decide +kernel) rfl (Nat.le_of_ble_eq_true rfl) (fun K sz hKl hin C => ?_)
  have C : CX K G (AH h0 sz) RX2 cX2_stops 6 (some .int) (rmD 2 0 0) [] := C
  subst hKl
  refine WR.imp (P' := Wd G (adr, Sc, (n, P, F), mu, g)) (fun h e => e ▸ hwd) ?_
  show WR K G _ _ _ [some (.ref (adr 5)), none, none, none, none, none] 0 0 0 []
  refine R_iconst (pc := 0) C dX2_stops_0 (v := 0) (by decide) ?_
  refine R_istore_n (pc := 1) C dX2_stops_1 (Nat.le_of_ble_eq_true rfl) (lv' := [some (.ref _), some (.int _), none, none, none, none]) rfl ?_
  have LP2 : ∀ (ma w : Nat) (m9 : Nat → Nat → Int32), 8 < ma + w → w ≤ 8 → m9 0 = mu 0 → (∀ j, j < w → m9 1 j = 0) → WR K G (AH h0 sz) (QM K G h0 sz 0 0 (fun v h1 => v = some (.int (nI (cnt (spSt n P F) 8))) ∧ ∃ m9 : Nat → Nat → Int32, (m9 0 = mu 0 ∧ bD m9 (spSt n P F) ∧ ∀ j, j < n → m9 2 j = bh n P F (spSt n P F) j) ∧ Wd G (adr, Sc, (n, P, F), m9, g) h1)) (Wd G (adr, Sc, (n, P, F), m9, g)) [some (.ref (adr 5)), some (.int (nI w)), none, none, none, none] 0 0 2 [] := by
    intro ma
    induction ma with
    | zero => intro w m9 h1 h2; exact absurd h1 (by omega)
    | succ ma iha =>
      intro w m9 h1 h2 f1 f3
      refine R_iload_n (pc := 2) C dX2_stops_2 rfl ?_
      refine R_bipush (pc := 3) C dX2_stops_3 (v := 8) (by decide) ?_
      refine R_icmp_ge (pc := 5) C dX2_stops_5 (tgt := 21) (by decide) (fun c5 => ?_) (fun c5 => ?_)
      · have ew : 8 = w := Nat.le_antisymm (le_nI (by omega) (by omega) (show nI 8 ≤ nI w from c5)) h2
        subst ew
        refine R_iconst (pc := 21) C dX2_stops_21 (v := 0) (by decide) ?_
        refine R_istore_n (pc := 22) C dX2_stops_22 (Nat.le_of_ble_eq_true rfl) (lv' := [some (.ref _), some (.int _), none, none, none, none]) rfl ?_
        refine R_iconst (pc := 23) C dX2_stops_23 (v := 1) (by decide) ?_
        refine R_istore_n (pc := 24) C dX2_stops_24 (Nat.le_of_ble_eq_true rfl) (lv' := [some (.ref _), some (.int _), some (.int _), none, none, none]) rfl ?_
        have LP25 : ∀ (mk9 k : Nat) (m9 : Nat → Nat → Int32), 8 < mk9 + k → k ≤ 8 → (∀ j, j < k → spNx n P F (Dn n P F j) ≠ none) → bD m9 (Dn n P F k) → m9 0 = mu 0 → WR K G (AH h0 sz) (QM K G h0 sz 0 0 (fun v h1 => v = some (.int (nI (cnt (spSt n P F) 8))) ∧ ∃ m9 : Nat → Nat → Int32, (m9 0 = mu 0 ∧ bD m9 (spSt n P F) ∧ ∀ j, j < n → m9 2 j = bh n P F (spSt n P F) j) ∧ Wd G (adr, Sc, (n, P, F), m9, g) h1)) (Wd G (adr, Sc, (n, P, F), m9, g)) [some (.ref (adr 5)), some (.int (nI k)), some (.int 1), none, none, none] 0 0 25 [] := by
          intro mk9
          induction mk9 with
          | zero => intro k m9 h1 h2; exact absurd h1 (by omega)
          | succ mk9 ihk =>
            intro k m9 h1 h2 hall fb f1
            refine R_iload_n (pc := 25) C dX2_stops_25 rfl ?_
            refine R_if_eq (pc := 26) C dX2_stops_26 (tgt := 146) (by decide) (fun c26 => absurd c26 (by decide)) (fun c26 => ?_)
            refine R_aload_n (pc := 29) C dX2_stops_29 rfl ?_
            refine R_callVN (pc := 30) C dX2_stops_30 (vs := []) (fun h hh => mX2_levels hl hn hP hrg fb h hh) (isOb_of (wm0) rfl) ⟨k_27_2, k_27_3, k_27_4, k_1_5, k_27_5⟩ (sgn (nv := 0) rfl ⟨by decide +kernel, by decide +kernel, by decide +kernel⟩) ⟨⟨Nat.le_of_ble_eq_true rfl, Nat.le_of_ble_eq_true rfl⟩, ⟨Nat.le_of_ble_eq_true rfl, Nat.le_of_ble_eq_true rfl⟩, Nat.le_of_ble_eq_true rfl⟩ rfl rfl (fun h9 hh9 v9 => ?_)
            refine WR.pr (fun e9 => ?_)
            subst e9
            refine WR.ex (fun m8 => WR.pr (fun q8 => ?_))
            obtain ⟨g1, g2, g3⟩ := q8
            have fb8 : bD m8 (Dn n P F k) := fun i hi => by rw [g2]; exact fb i hi
            show WR K G _ _ _ _ _ _ _ _
            refine R_iconst (pc := 33) C dX2_stops_33 (v := -1) (by decide) ?_
            refine R_istore_n (pc := 34) C dX2_stops_34 (Nat.le_of_ble_eq_true rfl) (lv' := [some (.ref _), some (.int _), some (.int _), some (.int _), none, none]) rfl ?_
            refine R_iconst (pc := 35) C dX2_stops_35 (v := 0) (by decide) ?_
            refine R_istore (pc := 36) C dX2_stops_36 (Nat.le_of_ble_eq_true rfl) (lv' := [some (.ref _), some (.int _), some (.int _), some (.int _), some (.int _), none]) rfl ?_
            have LP38 : ∀ (mz i : Nat) (z : Option (Nat × Nat)), n < mz + i → i ≤ n → z = oN n P F (Dn n P F k) i → WR K G (AH h0 sz) (QM K G h0 sz 0 0 (fun v h1 => v = some (.int (nI (cnt (spSt n P F) 8))) ∧ ∃ m9 : Nat → Nat → Int32, (m9 0 = mu 0 ∧ bD m9 (spSt n P F) ∧ ∀ j, j < n → m9 2 j = bh n P F (spSt n P F) j) ∧ Wd G (adr, Sc, (n, P, F), m9, g) h1)) (Wd G (adr, Sc, (n, P, F), m8, g)) [some (.ref (adr 5)), some (.int (nI k)), some (.int 1), some (.int (oI (z.map (fun z => z.1)))), some (.int (nI i)), none] 0 0 38 [] := by
              intro mz
              induction mz with
              | zero => intro i z h1 h2; exact absurd h1 (by omega)
              | succ mz ihz =>
                intro i z h1 h2 hz
                refine R_iload (pc := 38) C dX2_stops_38 rfl ?_
                refine R_aload_n (pc := 40) C dX2_stops_40 rfl ?_
                refine R_getf (pc := 41) C dX2_stops_41 (i := 1) (wm0) rfl inlX2 (by decide) k_17_19 rfl ?_
                refine R_icmp_ge (pc := 44) C dX2_stops_44 (tgt := 114) (by decide) (fun c44 => ?_) (fun c44 => ?_)
                · have ei : n = i := Nat.le_antisymm (le_nI (by omega) (by omega) c44) h2
                  subst ei
                  rcases z with _ | ⟨o, y0⟩
                  · refine R_iload_n (pc := 114) C dX2_stops_114 rfl ?_
                    refine R_iconst (pc := 115) C dX2_stops_115 (v := -1) (by decide) ?_
                    refine R_icmp_eq (pc := 116) C dX2_stops_116 (tgt := 123) (by decide) (fun c116 => ?_) (fun c116 => absurd ((rfl : oI none = -1)) c116)
                    refine R_iconst (pc := 123) C dX2_stops_123 (v := 0) (by decide) ?_
                    refine R_istore_n (pc := 124) C dX2_stops_124 (Nat.le_of_ble_eq_true rfl) (lv' := [some (.ref _), some (.int _), some (.int _), some (.int _), some (.int _), none]) rfl ?_
                    refine R_iload_n (pc := 125) C dX2_stops_125 rfl ?_
                    refine R_if_eq (pc := 126) C dX2_stops_126 (tgt := 143) (by decide) (fun c126 => ?_) (fun c126 => absurd (rfl) c126)
                    refine R_goto (pc := 143) C dX2_stops_143 (tgt := 25) (by decide) ?_
                    have hnone : spNx n P F (Dn n P F k) = none := by unfold spNx; rw [← hz]; rfl
                    have eD := Dn_end hn hall hnone
                    refine R_iload_n (pc := 25) C dX2_stops_25 rfl ?_
                    refine R_if_eq (pc := 26) C dX2_stops_26 (tgt := 146) (by decide) (fun c26 => ?_) (fun c26 => absurd rfl c26)
                    refine R_iload_n (pc := 146) C dX2_stops_146 rfl ?_
                    exact R_iret (pc := 147) C dX2_stops_147 rfl (Nat.le_of_ble_eq_true rfl) (Nat.le_of_ble_eq_true rfl) (fun h hh => ⟨by rw [← eD, Dn_cnt hn hall], m8, ⟨g1.trans f1, by rw [← eD]; exact fb8, fun j hj => by rw [← eD]; exact g3 j hj⟩, hh⟩)
                  · have ho : o < n := by have := (oN_y hz.symm).1; omega
                    refine R_iload_n (pc := 114) C dX2_stops_114 rfl ?_
                    refine R_iconst (pc := 115) C dX2_stops_115 (v := -1) (by decide) ?_
                    refine R_icmp_eq (pc := 116) C dX2_stops_116 (tgt := 123) (by decide) (fun c116 => absurd c116 ((nI_m1 (by omega) : ¬ oI (some o) = -1))) (fun c116 => ?_)
                    refine R_iconst (pc := 119) C dX2_stops_119 (v := 1) (by decide) ?_
                    refine R_goto (pc := 120) C dX2_stops_120 (tgt := 124) (by decide) ?_
                    refine R_istore_n (pc := 124) C dX2_stops_124 (Nat.le_of_ble_eq_true rfl) (lv' := [some (.ref _), some (.int _), some (.int _), some (.int _), some (.int _), none]) rfl ?_
                    refine R_iload_n (pc := 125) C dX2_stops_125 rfl ?_
                    refine R_if_eq (pc := 126) C dX2_stops_126 (tgt := 143) (by decide) (fun c126 => absurd c126 (by decide)) (fun c126 => ?_)
                    refine R_aload_n (pc := 129) C dX2_stops_129 rfl ?_
                    refine R_getf (pc := 130) C dX2_stops_130 (i := 21) (wm0) rfl inlX2 (by decide) k_3_11 rfl ?_
                    refine R_aload_n (pc := 133) C dX2_stops_133 rfl ?_
                    refine R_iload_n (pc := 134) C dX2_stops_134 rfl ?_
                    change WR K G _ _ _ _ _ _ _ (.int (nI o) :: _)
                    refine R_callVN (pc := 135) C dX2_stops_135 (vs := [_]) (fun h hh => mX2_youngest hl ho hn hrg fb8 h hh) (isOb_of (wm0) rfl) ⟨k_27_7, k_27_8, k_27_9, k_1_5, k_27_10⟩ (sgn (nv := 1) rfl ⟨by decide +kernel, by decide +kernel, by decide +kernel⟩) ⟨⟨Nat.le_of_ble_eq_true rfl, Nat.le_of_ble_eq_true rfl⟩, ⟨Nat.le_of_ble_eq_true rfl, Nat.le_of_ble_eq_true rfl⟩, Nat.le_of_ble_eq_true rfl⟩ rfl rfl (fun h9 hh9 v9 => ?_)
                    refine WR.pr (fun e9 => ?_)
                    subst e9
                    show WR K G _ _ _ _ _ _ _ (.int _ :: _)
                    obtain ⟨y, hyo, hy, hsome⟩ : ∃ y, yng F (Dn n P F k) o n = some y ∧ y < n ∧ spNx n P F (Dn n P F k) = some y := ⟨y0, (oN_y hz.symm).2, (yng_lt (oN_y hz.symm).2).1, by unfold spNx; rw [← hz]; rfl⟩
                    rw [hyo]
                    change WR K G _ _ _ _ _ _ _ (.int (nI y) :: _)
                    have hall2 : ∀ j, j < k + 1 → spNx n P F (Dn n P F j) ≠ none := fun j hj => if e : j = k then by rw [e, hsome]; exact fun q => nomatch q else hall j (by omega)
                    refine R_iconst (pc := 138) C dX2_stops_138 (v := 1) (by decide) ?_
                    refine R_zast (pc := 139) C dX2_stops_139 (wm_s) (rfl) (by omega) (by decide) (rfl) (pm_stop) ?_
                    refine R_iinc (pc := 140) C dX2_stops_140 rfl (inc1) (lv' := [some (.ref _), some (.int _), some (.int _), some (.int _), some (.int _), none]) rfl ?_
                    refine R_goto (pc := 143) C dX2_stops_143 (tgt := 25) (by decide) ?_
                    refine WR.ls (lv' := [some (.ref _), some (.int _), some (.int _), none, none, none]) (ls_s (ls_s (ls_s (ls_n (ls_n (ls_n ls_e)))))) ?_
                    exact ihk (k + 1) _ (by omega) (Dn_le hn hall2) hall2 (by rw [Dn_go hsome]; exact bD_Dp fb8 rfl) (by rw [su_f (by omega)]; exact g1.trans f1)
                · have hi : i < n := gt_nI (by omega) (by omega) c44
                  refine R_aload_n (pc := 47) C dX2_stops_47 rfl ?_
                  refine R_getf (pc := 48) C dX2_stops_48 (i := 22) (wm0) rfl inlX2 (by decide) k_3_12 rfl ?_
                  refine R_iload (pc := 51) C dX2_stops_51 rfl ?_
                  refine R_iald (pc := 53) C dX2_stops_53 (wm_b) (rfl) (by omega) (by decide) rfl ?_
                  refine R_aload_n (pc := 54) C dX2_stops_54 rfl ?_
                  refine R_getf (pc := 55) C dX2_stops_55 (i := 5) (wm0) rfl inlX2 (by decide) k_2_21 rfl ?_
                  refine R_iload (pc := 58) C dX2_stops_58 rfl ?_
                  refine R_iald (pc := 60) C dX2_stops_60 (wm_3) (rfl) (by omega) (by decide) rfl ?_
                  refine R_icmp_ge (pc := 61) C dX2_stops_61 (tgt := 78) (by decide) (fun c61 => ?_) (fun c61 => ?_)
                  · refine R_iconst (pc := 78) C dX2_stops_78 (v := 0) (by decide) ?_
                    refine R_istore (pc := 79) C dX2_stops_79 (Nat.le_of_ble_eq_true rfl) (lv' := [some (.ref _), some (.int _), some (.int _), some (.int _), some (.int _), some (.int _)]) rfl ?_
                    refine R_iload (pc := 81) C dX2_stops_81 rfl ?_
                    refine R_if_eq (pc := 83) C dX2_stops_83 (tgt := 106) (by decide) (fun c83 => ?_) (fun c83 => absurd (rfl) c83)
                    refine R_iload_n (pc := 106) C dX2_stops_106 rfl ?_
                    refine R_istore_n (pc := 107) C dX2_stops_107 (Nat.le_of_ble_eq_true rfl) (lv' := [some (.ref _), some (.int _), some (.int _), some (.int _), some (.int _), some (.int _)]) rfl ?_
                    refine R_iinc (pc := 108) C dX2_stops_108 rfl (inc1) (lv' := [some (.ref _), some (.int _), some (.int _), some (.int _), some (.int _), some (.int _)]) rfl ?_
                    refine R_goto (pc := 111) C dX2_stops_111 (tgt := 38) (by decide) ?_
                    refine WR.ls (lv' := [some (.ref _), some (.int _), some (.int _), some (.int _), some (.int _), none]) (ls_s (ls_s (ls_s (ls_s (ls_s (ls_n ls_e)))))) ?_
                    exact ihz (i + 1) z (by omega) (by omega) (by rw [oN, ← hz]; exact (if_neg (by rw [← g3 i hi]; exact Int32.not_lt.mpr c61)).symm)
                  · refine R_aload_n (pc := 64) C dX2_stops_64 rfl ?_
                    refine R_iload (pc := 65) C dX2_stops_65 rfl ?_
                    refine R_callVN (pc := 67) C dX2_stops_67 (vs := [_]) (fun h hh => mX2_youngest hl hi hn hrg fb8 h hh) (isOb_of (wm0) rfl) ⟨k_27_7, k_27_8, k_27_9, k_1_5, k_27_10⟩ (sgn (nv := 1) rfl ⟨by decide +kernel, by decide +kernel, by decide +kernel⟩) ⟨⟨Nat.le_of_ble_eq_true rfl, Nat.le_of_ble_eq_true rfl⟩, ⟨Nat.le_of_ble_eq_true rfl, Nat.le_of_ble_eq_true rfl⟩, Nat.le_of_ble_eq_true rfl⟩ rfl rfl (fun h9 hh9 v9 => ?_)
                    refine WR.pr (fun e9 => ?_)
                    subst e9
                    show WR K G _ _ _ _ _ _ _ (.int _ :: _)
                    cases hyy : yng F (Dn n P F k) i n with
                    | none =>
                      refine R_iconst (pc := 70) C dX2_stops_70 (v := -1) (by decide) ?_
                      refine R_icmp_eq (pc := 71) C dX2_stops_71 (tgt := 78) (by decide) (fun c71 => ?_) (fun c71 => absurd ((rfl : oI none = -1)) c71)
                      refine R_iconst (pc := 78) C dX2_stops_78 (v := 0) (by decide) ?_
                      refine R_istore (pc := 79) C dX2_stops_79 (Nat.le_of_ble_eq_true rfl) (lv' := [some (.ref _), some (.int _), some (.int _), some (.int _), some (.int _), some (.int _)]) rfl ?_
                      refine R_iload (pc := 81) C dX2_stops_81 rfl ?_
                      refine R_if_eq (pc := 83) C dX2_stops_83 (tgt := 106) (by decide) (fun c83 => ?_) (fun c83 => absurd (rfl) c83)
                      refine R_iload_n (pc := 106) C dX2_stops_106 rfl ?_
                      refine R_istore_n (pc := 107) C dX2_stops_107 (Nat.le_of_ble_eq_true rfl) (lv' := [some (.ref _), some (.int _), some (.int _), some (.int _), some (.int _), some (.int _)]) rfl ?_
                      refine R_iinc (pc := 108) C dX2_stops_108 rfl (inc1) (lv' := [some (.ref _), some (.int _), some (.int _), some (.int _), some (.int _), some (.int _)]) rfl ?_
                      refine R_goto (pc := 111) C dX2_stops_111 (tgt := 38) (by decide) ?_
                      refine WR.ls (lv' := [some (.ref _), some (.int _), some (.int _), some (.int _), some (.int _), none]) (ls_s (ls_s (ls_s (ls_s (ls_s (ls_n ls_e)))))) ?_
                      exact ihz (i + 1) z (by omega) (by omega) (by rw [oN, ← hz]; exact (oS_no (by rw [← g3 i hi]; exact Int32.not_le.mp c61) hyy).symm)
                    | some y =>
                      have hy : y < n := (yng_lt hyy).1
                      refine R_iconst (pc := 70) C dX2_stops_70 (v := -1) (by decide) ?_
                      refine R_icmp_eq (pc := 71) C dX2_stops_71 (tgt := 78) (by decide) (fun c71 => absurd c71 ((nI_m1 (by omega) : ¬ oI (some y) = -1))) (fun c71 => ?_)
                      refine R_iconst (pc := 74) C dX2_stops_74 (v := 1) (by decide) ?_
                      refine R_goto (pc := 75) C dX2_stops_75 (tgt := 79) (by decide) ?_
                      refine R_istore (pc := 79) C dX2_stops_79 (Nat.le_of_ble_eq_true rfl) (lv' := [some (.ref _), some (.int _), some (.int _), some (.int _), some (.int _), some (.int _)]) rfl ?_
                      refine R_iload (pc := 81) C dX2_stops_81 rfl ?_
                      refine R_if_eq (pc := 83) C dX2_stops_83 (tgt := 106) (by decide) (fun c83 => absurd c83 (by decide)) (fun c83 => ?_)
                      rcases z with _ | ⟨o, y0⟩
                      · refine R_iload_n (pc := 86) C dX2_stops_86 rfl ?_
                        refine R_iconst (pc := 87) C dX2_stops_87 (v := -1) (by decide) ?_
                        refine R_icmp_eq (pc := 88) C dX2_stops_88 (tgt := 101) (by decide) (fun c88 => ?_) (fun c88 => absurd ((rfl : oI none = -1)) c88)
                        refine R_iload (pc := 101) C dX2_stops_101 rfl ?_
                        refine R_goto (pc := 103) C dX2_stops_103 (tgt := 107) (by decide) ?_
                        refine R_istore_n (pc := 107) C dX2_stops_107 (Nat.le_of_ble_eq_true rfl) (lv' := [some (.ref _), some (.int _), some (.int _), some (.int _), some (.int _), some (.int _)]) rfl ?_
                        refine R_iinc (pc := 108) C dX2_stops_108 rfl (inc1) (lv' := [some (.ref _), some (.int _), some (.int _), some (.int _), some (.int _), some (.int _)]) rfl ?_
                        refine R_goto (pc := 111) C dX2_stops_111 (tgt := 38) (by decide) ?_
                        refine WR.ls (lv' := [some (.ref _), some (.int _), some (.int _), some (.int _), some (.int _), none]) (ls_s (ls_s (ls_s (ls_s (ls_s (ls_n ls_e)))))) ?_
                        exact ihz (i + 1) (some (i, y)) (by omega) (by omega) (by rw [oN, ← hz]; exact ((if_pos (by rw [← g3 i hi]; exact Int32.not_le.mp c61)).trans (by rw [hyy]; rfl)).symm)
                      · have ho : o < n := by have := (oN_y hz.symm).1; omega
                        change WR K G _ _ _ [some (.ref (adr 5)), some (.int (nI k)), some (.int 1), some (.int (nI o)), some (.int (nI i)), some (.int _)] _ _ _ _
                        refine R_iload_n (pc := 86) C dX2_stops_86 rfl ?_
                        refine R_iconst (pc := 87) C dX2_stops_87 (v := -1) (by decide) ?_
                        refine R_icmp_eq (pc := 88) C dX2_stops_88 (tgt := 101) (by decide) (fun c88 => absurd c88 ((nI_m1 (by omega) : ¬ oI (some o) = -1))) (fun c88 => ?_)
                        refine R_aload_n (pc := 91) C dX2_stops_91 rfl ?_
                        refine R_iload_n (pc := 92) C dX2_stops_92 rfl ?_
                        refine R_iload (pc := 93) C dX2_stops_93 rfl ?_
                        refine R_callVN (pc := 95) C dX2_stops_95 (vs := [_, _]) (fun h hh => mX2_isYounger hl (by omega) (by omega) h hh) (isOb_of (wm0) rfl) ⟨k_27_11, k_27_12, k_27_13, k_1_5, k_27_14⟩ (sgn (nv := 2) rfl ⟨by decide +kernel, by decide +kernel, by decide +kernel⟩) ⟨⟨Nat.le_of_ble_eq_true rfl, Nat.le_of_ble_eq_true rfl⟩, ⟨Nat.le_of_ble_eq_true rfl, Nat.le_of_ble_eq_true rfl⟩, Nat.le_of_ble_eq_true rfl⟩ rfl rfl (fun h9 hh9 v9 => ?_)
                        refine WR.pr (fun e9 => ?_)
                        subst e9
                        show WR K G _ _ _ _ _ _ _ (.int _ :: _)
                        refine R_if_eq (pc := 98) C dX2_stops_98 (tgt := 106) (by decide) (fun c98 => ?_) (fun c98 => ?_)
                        · refine R_iload_n (pc := 106) C dX2_stops_106 rfl ?_
                          refine R_istore_n (pc := 107) C dX2_stops_107 (Nat.le_of_ble_eq_true rfl) (lv' := [some (.ref _), some (.int _), some (.int _), some (.int _), some (.int _), some (.int _)]) rfl ?_
                          refine R_iinc (pc := 108) C dX2_stops_108 rfl (inc1) (lv' := [some (.ref _), some (.int _), some (.int _), some (.int _), some (.int _), some (.int _)]) rfl ?_
                          refine R_goto (pc := 111) C dX2_stops_111 (tgt := 38) (by decide) ?_
                          refine WR.ls (lv' := [some (.ref _), some (.int _), some (.int _), some (.int _), some (.int _), none]) (ls_s (ls_s (ls_s (ls_s (ls_s (ls_n ls_e)))))) ?_
                          exact ihz (i + 1) (some (o, y0)) (by omega) (by omega) (by rw [oN, ← hz]; exact ((if_pos (by rw [← g3 i hi]; exact Int32.not_le.mp c61)).trans (if_neg (if01 c98))).symm)
                        · refine R_iload (pc := 101) C dX2_stops_101 rfl ?_
                          refine R_goto (pc := 103) C dX2_stops_103 (tgt := 107) (by decide) ?_
                          refine R_istore_n (pc := 107) C dX2_stops_107 (Nat.le_of_ble_eq_true rfl) (lv' := [some (.ref _), some (.int _), some (.int _), some (.int _), some (.int _), some (.int _)]) rfl ?_
                          refine R_iinc (pc := 108) C dX2_stops_108 rfl (inc1) (lv' := [some (.ref _), some (.int _), some (.int _), some (.int _), some (.int _), some (.int _)]) rfl ?_
                          refine R_goto (pc := 111) C dX2_stops_111 (tgt := 38) (by decide) ?_
                          refine WR.ls (lv' := [some (.ref _), some (.int _), some (.int _), some (.int _), some (.int _), none]) (ls_s (ls_s (ls_s (ls_s (ls_s (ls_n ls_e)))))) ?_
                          exact ihz (i + 1) (some (i, y)) (by omega) (by omega) (by rw [oN, ← hz]; exact ((if_pos (by rw [← g3 i hi]; exact Int32.not_le.mp c61)).trans ((if_pos (if01' c98)).trans (by rw [hyy]))).symm)
            exact LP38 (n + 1) 0 none (by omega) (by omega) rfl
        refine WR.ls (lv' := [some (.ref _), some (.int _), some (.int _), none, none, none]) (ls_s (ls_s (ls_s (ls_n (ls_n (ls_n ls_e)))))) ?_
        exact LP25 9 0 m9 (by omega) (by omega) (fun j hj => absurd hj (Nat.not_lt_zero j)) (fun i hi => (f3 i hi).trans rfl) f1
      · have hw : w < 8 := gt_nI (by omega) (by omega) (show ¬ nI 8 ≤ nI w from c5)
        refine R_aload_n (pc := 8) C dX2_stops_8 rfl ?_
        refine R_getf (pc := 9) C dX2_stops_9 (i := 21) (wm0) rfl inlX2 (by decide) k_3_11 rfl ?_
        refine R_iload_n (pc := 12) C dX2_stops_12 rfl ?_
        refine R_iconst (pc := 13) C dX2_stops_13 (v := 0) (by decide) ?_
        refine R_zast (pc := 14) C dX2_stops_14 (wm_s) (rfl) (by omega) (by decide) (rfl) (pm_stop) ?_
        refine R_iinc (pc := 15) C dX2_stops_15 rfl (inc1) (lv' := [some (.ref _), some (.int _), none, none, none, none]) rfl ?_
        refine R_goto (pc := 18) C dX2_stops_18 (tgt := 2) (by decide) ?_
        exact iha (w + 1) _ (by omega) (by omega) (by rw [su_f (by omega)]; exact f1) (fun j hj => if e : j = w then by rw [e, su_s]; rfl else by rw [su_i e]; exact f3 j (by omega))
  exact LP2 9 0 mu (by omega) (by omega) rfl (fun j hj => absurd hj (Nat.not_lt_zero j))
end
