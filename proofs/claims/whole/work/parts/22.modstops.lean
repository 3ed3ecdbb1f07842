/-! 22: the model: who is stopped. Written by wip/whole/gen/m22.py -/
theorem st0 {b : Bool} {x : Int32} (e : x = if b = true then 1 else 0) (h : x = 0) : ¬ b = true := fun q => by rw [if_pos q, h] at e; exact absurd e (by decide)
theorem st1 {b : Bool} {x : Int32} (e : x = if b = true then 1 else 0) (h : ¬ x = 0) : b = true := by
  cases b with
  | true => rfl
  | false => exact absurd e (by simpa using h)
section
variable {l : Launch} {G : GT} {adr : Nat → Nat} {n P : Nat} {F mu : Nat → Nat → Int32} {g : Nat → Int64} {Sc : St}
set_option maxHeartbeats 4000000 in
set_option maxRecDepth 100000 in
theorem mX2_levels (hl : l.stackTraces = false) {D : Nat → Bool} (hn : n ≤ 8) (hP : P ≤ 5) (hrg : Rg n P F) (hbD : bD mu D) : ∀ h, Wd G (adr, Sc, (n, P, F), mu, g) h → CN l yX2_levels cX2_levels 3 (none) 1 0 0 [.ref (adr 5)] G h (fun v h1 => v = none ∧ ∃ m9 : Nat → Nat → Int32, (m9 0 = mu 0 ∧ m9 1 = mu 1 ∧ ∀ j, j < n → m9 2 j = bh n P F D j) ∧ Wd G (adr, Sc, (n, P, F), m9, g) h1) := by
  intro h0 hwd
  refine CN.of hl (by decide +kernel) rfl (Nat.le_of_ble_eq_true rfl) (fun K sz hKl hin C => ?_)
  have C : CX K G (AH h0 sz) RX2 cX2_levels 3 (none) (rmD 1 0 0) [] := C
  subst hKl
  refine WR.imp (P' := Wd G (adr, Sc, (n, P, F), mu, g)) (fun h e => e ▸ hwd) ?_
  show WR K G _ _ _ [some (.ref (adr 5)), none, none] 0 0 0 []
  refine R_iconst (pc := 0) C dX2_levels_0 (v := 0) (by decide) ?_
  refine R_istore_n (pc := 1) C dX2_levels_1 (Nat.le_of_ble_eq_true rfl) (lv' := [some (.ref _), some (.int _), none]) rfl ?_
  have LP2 : ∀ (mw w : Nat) (m9 : Nat → Nat → Int32), n < mw + w → w ≤ n → m9 0 = mu 0 → m9 1 = mu 1 → (∀ j, j < w → m9 2 j = bh n P F D j) → WR K G (AH h0 sz) (QM K G h0 sz 0 0 (fun v h1 => v = none ∧ ∃ m9 : Nat → Nat → Int32, (m9 0 = mu 0 ∧ m9 1 = mu 1 ∧ ∀ j, j < n → m9 2 j = bh n P F D j) ∧ Wd G (adr, Sc, (n, P, F), m9, g) h1)) (Wd G (adr, Sc, (n, P, F), m9, g)) [some (.ref (adr 5)), some (.int (nI w)), none] 0 0 2 [] := by
    intro mw
    induction mw with
    | zero => intro w m9 h1 h2; exact absurd h1 (by omega)
    | succ mw ihw =>
      intro w m9 h1 h2 f1 f2 f3
      refine R_iload_n (pc := 2) C dX2_levels_2 rfl ?_
      refine R_aload_n (pc := 3) C dX2_levels_3 rfl ?_
      refine R_getf (pc := 4) C dX2_levels_4 (i := 1) (wm0) rfl inlX2 (by decide) k_17_19 rfl ?_
      refine R_icmp_ge (pc := 7) C dX2_levels_7 (tgt := 148) (by decide) (fun c7 => ?_) (fun c7 => ?_)
      · have ew : n = w := Nat.le_antisymm (le_nI (by omega) (by omega) c7) h2
        subst ew
        exact R_vret (pc := 148) C dX2_levels_148 rfl (Nat.le_of_ble_eq_true rfl) (Nat.le_of_ble_eq_true rfl) (fun h hh => ⟨rfl, m9, ⟨f1, f2, f3⟩, hh⟩)
      · have hw : w < n := gt_nI (by omega) (by omega) c7
        obtain ⟨a, ha, hla⟩ := hlay_of hrg w hw
        have hix : F 14 a = F 14 (ix (F 0 w)) := by rw [hla, ix_nI (by omega)]
        refine R_aload_n (pc := 10) C dX2_levels_10 rfl ?_
        refine R_getf (pc := 11) C dX2_levels_11 (i := 22) (wm0) rfl inlX2 (by decide) k_3_12 rfl ?_
        refine R_iload_n (pc := 14) C dX2_levels_14 rfl ?_
        refine R_aload_n (pc := 15) C dX2_levels_15 rfl ?_
        refine R_getf (pc := 16) C dX2_levels_16 (i := 4) (wm0) rfl inlX2 (by decide) k_2_20 rfl ?_
        refine R_iload_n (pc := 19) C dX2_levels_19 rfl ?_
        refine R_iald (pc := 20) C dX2_levels_20 (wm_2) (rfl) (by omega) (by decide) rfl ?_
        refine R_aload_n (pc := 21) C dX2_levels_21 rfl ?_
        refine R_getf (pc := 22) C dX2_levels_22 (i := 16) (wm0) rfl inlX2 (by decide) k_3_9 rfl ?_
        refine R_aload_n (pc := 25) C dX2_levels_25 rfl ?_
        refine R_getf (pc := 26) C dX2_levels_26 (i := 2) (wm0) rfl inlX2 (by decide) k_2_18 rfl ?_
        refine R_iload_n (pc := 29) C dX2_levels_29 rfl ?_
        refine R_iald (pc := 30) C dX2_levels_30 (wm_0) (rfl) (by omega) (by decide) rfl ?_
        refine R_iald (pc := 31) C dX2_levels_31 (wm_14) (hla) (ha) (by decide) rfl ?_
        refine R_iadd (pc := 32) C dX2_levels_32 ?_
        refine R_iast (pc := 33) C dX2_levels_33 (wm_b) (rfl) (by omega) (by decide) (pm_beh) ?_
        refine R_iconst (pc := 34) C dX2_levels_34 (v := 0) (by decide) ?_
        refine R_istore_n (pc := 35) C dX2_levels_35 (Nat.le_of_ble_eq_true rfl) (lv' := [some (.ref _), some (.int _), some (.int _)]) rfl ?_
        have LP36 : ∀ (mp q : Nat) (m9 : Nat → Nat → Int32), P < mp + q → q ≤ P → m9 0 = mu 0 → m9 1 = mu 1 → (∀ j, j < w → m9 2 j = bh n P F D j) → m9 2 w = bhP F w (F 2 w + F 14 (ix (F 0 w))) q → WR K G (AH h0 sz) (QM K G h0 sz 0 0 (fun v h1 => v = none ∧ ∃ m9 : Nat → Nat → Int32, (m9 0 = mu 0 ∧ m9 1 = mu 1 ∧ ∀ j, j < n → m9 2 j = bh n P F D j) ∧ Wd G (adr, Sc, (n, P, F), m9, g) h1)) (Wd G (adr, Sc, (n, P, F), m9, g)) [some (.ref (adr 5)), some (.int (nI w)), some (.int (nI q))] 0 0 36 [] := by
          intro mp
          induction mp with
          | zero => intro q m9 h1 h2; exact absurd h1 (by omega)
          | succ mp ihp =>
            intro q m9 h1 h2 f1 f2 f3 f4
            refine R_iload_n (pc := 36) C dX2_levels_36 rfl ?_
            refine R_aload_n (pc := 37) C dX2_levels_37 rfl ?_
            refine R_getf (pc := 38) C dX2_levels_38 (i := 17) (wm0) rfl inlX2 (by decide) k_27_6 rfl ?_
            refine R_icmp_ge (pc := 41) C dX2_levels_41 (tgt := 77) (by decide) (fun c41 => ?_) (fun c41 => ?_)
            · have eq : P = q := Nat.le_antisymm (le_nI (by omega) (by omega) c41) h2
              subst eq
              refine R_iconst (pc := 77) C dX2_levels_77 (v := 0) (by decide) ?_
              refine R_istore_n (pc := 78) C dX2_levels_78 (Nat.le_of_ble_eq_true rfl) (lv' := [some (.ref _), some (.int _), some (.int _)]) rfl ?_
              have LP79 : ∀ (md d : Nat) (m9 : Nat → Nat → Int32), n < md + d → d ≤ n → m9 0 = mu 0 → m9 1 = mu 1 → (∀ j, j < w → m9 2 j = bh n P F D j) → m9 2 w = bhD F D w (bhP F w (F 2 w + F 14 (ix (F 0 w))) P) d → WR K G (AH h0 sz) (QM K G h0 sz 0 0 (fun v h1 => v = none ∧ ∃ m9 : Nat → Nat → Int32, (m9 0 = mu 0 ∧ m9 1 = mu 1 ∧ ∀ j, j < n → m9 2 j = bh n P F D j) ∧ Wd G (adr, Sc, (n, P, F), m9, g) h1)) (Wd G (adr, Sc, (n, P, F), m9, g)) [some (.ref (adr 5)), some (.int (nI w)), some (.int (nI d))] 0 0 79 [] := by
                intro md
                induction md with
                | zero => intro d m9 h1 h2; exact absurd h1 (by omega)
                | succ md ihd =>
                  intro d m9 h1 h2 f1 f2 f3 f4
                  refine R_iload_n (pc := 79) C dX2_levels_79 rfl ?_
                  refine R_aload_n (pc := 80) C dX2_levels_80 rfl ?_
                  refine R_getf (pc := 81) C dX2_levels_81 (i := 1) (wm0) rfl inlX2 (by decide) k_17_19 rfl ?_
                  refine R_icmp_ge (pc := 84) C dX2_levels_84 (tgt := 142) (by decide) (fun c84 => ?_) (fun c84 => ?_)
                  · have ed : n = d := Nat.le_antisymm (le_nI (by omega) (by omega) c84) h2
                    subst ed
                    refine R_iinc (pc := 142) C dX2_levels_142 rfl (inc1) (lv' := [some (.ref _), some (.int _), some (.int _)]) rfl ?_
                    refine R_goto (pc := 145) C dX2_levels_145 (tgt := 2) (by decide) ?_
                    refine WR.ls (lv' := [some (.ref _), some (.int _), none]) (ls_s (ls_s (ls_n ls_e))) ?_
                    exact ihw (w + 1) m9 (by omega) (by omega) f1 f2 (fun j hj => if e : j = w then by rw [e, f4]; rfl else f3 j (by omega))
                  · have hd : d < n := gt_nI (by omega) (by omega) c84
                    refine R_aload_n (pc := 87) C dX2_levels_87 rfl ?_
                    refine R_getf (pc := 88) C dX2_levels_88 (i := 22) (wm0) rfl inlX2 (by decide) k_3_12 rfl ?_
                    refine R_iload_n (pc := 91) C dX2_levels_91 rfl ?_
                    refine R_dup2 (pc := 92) C dX2_levels_92 rfl rfl ?_
                    refine R_iald (pc := 93) C dX2_levels_93 (wm_b) (rfl) (by omega) (by decide) rfl ?_
                    refine R_aload_n (pc := 94) C dX2_levels_94 rfl ?_
                    refine R_getf (pc := 95) C dX2_levels_95 (i := 21) (wm0) rfl inlX2 (by decide) k_3_11 rfl ?_
                    refine R_iload_n (pc := 98) C dX2_levels_98 rfl ?_
                    refine R_zald (pc := 99) C dX2_levels_99 (wm_s) (rfl) (by omega) (by decide) rfl ?_
                    refine R_if_eq (pc := 100) C dX2_levels_100 (tgt := 107) (by decide) (fun c100 => ?_) (fun c100 => ?_)
                    · have dq0 : drw F D d = F 6 d := by unfold drw; rw [if_neg (st0 (hbD d (by omega)) (by rw [← f2]; exact c100))]
                      refine R_aload_n (pc := 107) C dX2_levels_107 rfl ?_
                      refine R_getf (pc := 108) C dX2_levels_108 (i := 8) (wm0) rfl inlX2 (by decide) k_3_0 rfl ?_
                      refine R_iload_n (pc := 111) C dX2_levels_111 rfl ?_
                      refine R_iald (pc := 112) C dX2_levels_112 (wm_6) (rfl) (by omega) (by decide) rfl ?_
                      refine R_aload_n (pc := 113) C dX2_levels_113 rfl ?_
                      refine R_aload_n (pc := 114) C dX2_levels_114 rfl ?_
                      refine R_getf (pc := 115) C dX2_levels_115 (i := 2) (wm0) rfl inlX2 (by decide) k_2_18 rfl ?_
                      refine R_iload_n (pc := 118) C dX2_levels_118 rfl ?_
                      refine R_iald (pc := 119) C dX2_levels_119 (wm_0) (rfl) (by omega) (by decide) rfl ?_
                      refine R_aload_n (pc := 120) C dX2_levels_120 rfl ?_
                      refine R_getf (pc := 121) C dX2_levels_121 (i := 3) (wm0) rfl inlX2 (by decide) k_2_19 rfl ?_
                      refine R_iload_n (pc := 124) C dX2_levels_124 rfl ?_
                      refine R_iald (pc := 125) C dX2_levels_125 (wm_1) (rfl) (by omega) (by decide) rfl ?_
                      refine R_iload_n (pc := 126) C dX2_levels_126 rfl ?_
                      refine R_callVN (pc := 127) C dX2_levels_127 (vs := [_, _, _]) (fun h hh => mX2_reaches hl (by omega) h hh) (isOb_of (wm0) rfl) ⟨k_21_5, k_21_6, k_21_7, k_1_5, k_21_8⟩ (sgn (nv := 3) rfl ⟨by decide +kernel, by decide +kernel, by decide +kernel⟩) ⟨⟨Nat.le_of_ble_eq_true rfl, Nat.le_of_ble_eq_true rfl⟩, ⟨Nat.le_of_ble_eq_true rfl, Nat.le_of_ble_eq_true rfl⟩, Nat.le_of_ble_eq_true rfl⟩ rfl rfl (fun h9 hh9 v9 => ?_)
                      refine WR.pr (fun e9 => ?_)
                      subst e9
                      show WR K G _ _ _ _ _ _ _ (.int _ :: _)
                      rw [rM_eq (hrg.1 w hw).1 (hrg.1 w hw).2 (hrg.1 d hd).1 (hrg.1 d hd).2]
                      refine R_imul (pc := 130) C dX2_levels_130 ?_
                      refine R_bipush (pc := 131) C dX2_levels_131 (v := 100) (by decide) ?_
                      refine R_idiv (pc := 133) C dX2_levels_133 (by decide) ?_
                      refine R_isub (pc := 134) C dX2_levels_134 ?_
                      refine R_iast (pc := 135) C dX2_levels_135 (wm_b) (rfl) (by omega) (by decide) (pm_beh) ?_
                      refine R_iinc (pc := 136) C dX2_levels_136 rfl (inc1) (lv' := [some (.ref _), some (.int _), some (.int _)]) rfl ?_
                      refine R_goto (pc := 139) C dX2_levels_139 (tgt := 79) (by decide) ?_
                      exact ihd (d + 1) _ (by omega) (by omega) (by rw [su_f (by omega)]; exact f1) (by rw [su_f (by omega)]; exact f2) (fun j hj => by rw [su_i (by omega)]; exact f3 j hj) (by rw [su_s, bhD, f4, dq0])
                    · have dq : drw F D d * spR F d w / 100 = 0 := by unfold drw; rw [if_pos (st1 (hbD d (by omega)) (by rw [← f2]; exact c100))]; exact zr100 _
                      refine R_iconst (pc := 103) C dX2_levels_103 (v := 0) (by decide) ?_
                      refine R_goto (pc := 104) C dX2_levels_104 (tgt := 134) (by decide) ?_
                      refine R_isub (pc := 134) C dX2_levels_134 ?_
                      refine R_iast (pc := 135) C dX2_levels_135 (wm_b) (rfl) (by omega) (by decide) (pm_beh) ?_
                      refine R_iinc (pc := 136) C dX2_levels_136 rfl (inc1) (lv' := [some (.ref _), some (.int _), some (.int _)]) rfl ?_
                      refine R_goto (pc := 139) C dX2_levels_139 (tgt := 79) (by decide) ?_
                      exact ihd (d + 1) _ (by omega) (by omega) (by rw [su_f (by omega)]; exact f1) (by rw [su_f (by omega)]; exact f2) (fun j hj => by rw [su_i (by omega)]; exact f3 j hj) (by rw [su_s, bhD, f4, dq])
              exact LP79 (n + 1) 0 m9 (by omega) (by omega) f1 f2 f3 f4
            · have hq : q < P := gt_nI (by omega) (by omega) c41
              refine R_aload_n (pc := 44) C dX2_levels_44 rfl ?_
              refine R_getf (pc := 45) C dX2_levels_45 (i := 22) (wm0) rfl inlX2 (by decide) k_3_12 rfl ?_
              refine R_iload_n (pc := 48) C dX2_levels_48 rfl ?_
              refine R_dup2 (pc := 49) C dX2_levels_49 rfl rfl ?_
              refine R_iald (pc := 50) C dX2_levels_50 (wm_b) (rfl) (by omega) (by decide) rfl ?_
              refine R_bipush (pc := 51) C dX2_levels_51 (v := 20) (by decide) ?_
              refine R_aload_n (pc := 53) C dX2_levels_53 rfl ?_
              refine R_iconst (pc := 54) C dX2_levels_54 (v := 0) (by decide) ?_
              refine R_aload_n (pc := 55) C dX2_levels_55 rfl ?_
              refine R_getf (pc := 56) C dX2_levels_56 (i := 18) (wm0) rfl inlX2 (by decide) k_3_10 rfl ?_
              refine R_iload_n (pc := 59) C dX2_levels_59 rfl ?_
              refine R_iald (pc := 60) C dX2_levels_60 (wm_15) (rfl) (by omega) (by decide) rfl ?_
              refine R_iload_n (pc := 61) C dX2_levels_61 rfl ?_
              refine R_callVN (pc := 62) C dX2_levels_62 (vs := [_, _, _]) (fun h hh => mX2_reaches hl (by omega) h hh) (isOb_of (wm0) rfl) ⟨k_21_5, k_21_6, k_21_7, k_1_5, k_21_8⟩ (sgn (nv := 3) rfl ⟨by decide +kernel, by decide +kernel, by decide +kernel⟩) ⟨⟨Nat.le_of_ble_eq_true rfl, Nat.le_of_ble_eq_true rfl⟩, ⟨Nat.le_of_ble_eq_true rfl, Nat.le_of_ble_eq_true rfl⟩, Nat.le_of_ble_eq_true rfl⟩ rfl rfl (fun h9 hh9 v9 => ?_)
              refine WR.pr (fun e9 => ?_)
              subst e9
              show WR K G _ _ _ _ _ _ _ (.int _ :: _)
              rw [rM_eq (lo := 0) (hrg.1 w hw).1 (hrg.1 w hw).2 ⟨0, by omega, rfl⟩ (hrg.2 q hq)]
              refine R_imul (pc := 65) C dX2_levels_65 ?_
              refine R_bipush (pc := 66) C dX2_levels_66 (v := 100) (by decide) ?_
              refine R_idiv (pc := 68) C dX2_levels_68 (by decide) ?_
              refine R_iadd (pc := 69) C dX2_levels_69 ?_
              refine R_iast (pc := 70) C dX2_levels_70 (wm_b) (rfl) (by omega) (by decide) (pm_beh) ?_
              refine R_iinc (pc := 71) C dX2_levels_71 rfl (inc1) (lv' := [some (.ref _), some (.int _), some (.int _)]) rfl ?_
              refine R_goto (pc := 74) C dX2_levels_74 (tgt := 36) (by decide) ?_
              exact ihp (q + 1) _ (by omega) (by omega) (by rw [su_f (by omega)]; exact f1) (by rw [su_f (by omega)]; exact f2) (fun j hj => by rw [su_i (by omega)]; exact f3 j hj) (by rw [su_s, bhP, f4])
        exact LP36 (P + 1) 0 _ (by omega) (by omega) (by rw [su_f (by omega)]; exact f1) (by rw [su_f (by omega)]; exact f2) (fun j hj => by rw [su_i (by omega)]; exact f3 j hj) (by rw [su_s, hix]; rfl)
  exact LP2 (n + 1) 0 mu (by omega) (by omega) rfl rfl (fun j hj => absurd hj (Nat.not_lt_zero j))
end
