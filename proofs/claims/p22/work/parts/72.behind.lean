/-! 72: the law: ranks and levels behind. Written by wip/p22/gen/m72.py -/
section
variable {l : Launch} {G : GT} {adr : Nat → Nat} {n P : Nat} {F mu : Nat → Nat → Int32} {g : Nat → Int64} {Sc : St}
set_option maxHeartbeats 4000000 in
set_option maxRecDepth 100000 in
theorem mL_ranks (hl : l.stackTraces = false)  (hn : n ≤ 5) : ∀ h, Wd G (adr, Sc, (n, P, F), mu, g) h → CN l yL_ranks cL_ranks 6 (none) 0 0 0 [.ref (adr 5), .ref (adr 8), .ref (adr 10)] G h (fun v h1 => v = none ∧ ∃ m9 : Nat → Nat → Int32, (m9 2 = mu 2 ∧ ∀ j, j < n → m9 1 (rkc F j n) = nI j) ∧ Wd G (adr, Sc, (n, P, F), m9, g) h1) := by
  intro h0 hwd
  refine CN.of hl (by decide +kernel) rfl (Nat.le_of_ble_eq_true rfl) (fun K sz hKl hin C => ?_)
  have C : CX K G (AH h0 sz) RL cL_ranks 6 (none) (rmD 0 0 0) [] := C
  subst hKl
  refine WR.imp (P' := Wd G (adr, Sc, (n, P, F), mu, g)) (fun h e => e ▸ hwd) ?_
  show WR K G _ _ _ [some (.ref (adr 5)), some (.ref (adr 8)), some (.ref (adr 10)), none, none, none] 0 0 0 []
  refine R_iconst (pc := 0) C dL_ranks_0 (v := 0) (by decide) ?_
  refine R_istore_n (pc := 1) C dL_ranks_1 (Nat.le_of_ble_eq_true rfl) (lv' := [some (.ref _), some (.ref _), some (.ref _), some (.int _), none, none]) rfl ?_
  have LP2 : ∀ (mk9 k : Nat) (m9 : Nat → Nat → Int32), n < mk9 + k → k ≤ n → m9 2 = mu 2 → (∀ j, j < k → m9 1 (rkc F j n) = nI j) → WR K G (AH h0 sz) (QM K G h0 sz 0 0 (fun v h1 => v = none ∧ ∃ m9 : Nat → Nat → Int32, (m9 2 = mu 2 ∧ ∀ j, j < n → m9 1 (rkc F j n) = nI j) ∧ Wd G (adr, Sc, (n, P, F), m9, g) h1)) (Wd G (adr, Sc, (n, P, F), m9, g)) [some (.ref (adr 5)), some (.ref (adr 8)), some (.ref (adr 10)), some (.int (nI k)), none, none] 0 0 2 [] := by
    intro mk9
    induction mk9 with
    | zero => intro k m9 h1 h2; exact absurd h1 (by omega)
    | succ mk9 ihk =>
      intro k m9 h1 h2 f1 f2
      refine R_iload_n (pc := 2) C dL_ranks_2 rfl ?_
      refine R_aload_n (pc := 3) C dL_ranks_3 rfl ?_
      refine R_iconst (pc := 4) C dL_ranks_4 (v := 0) (by decide) ?_
      refine R_iald (pc := 5) C dL_ranks_5 (wmq) (rfl) (by decide) (by decide) (rdq0) ?_
      refine R_icmp_ge (pc := 6) C dL_ranks_6 (tgt := 96) (by decide) (fun c6 => ?_) (fun c6 => ?_)
      · have ek : n = k := Nat.le_antisymm (le_nI (by omega) (by omega) c6) h2
        subst ek
        exact R_vret (pc := 96) C dL_ranks_96 rfl (Nat.le_of_ble_eq_true rfl) (Nat.le_of_ble_eq_true rfl) (fun h hh => ⟨rfl, m9, ⟨f1, f2⟩, hh⟩)
      · have hk : k < n := gt_nI (by omega) (by omega) c6
        refine R_iconst (pc := 9) C dL_ranks_9 (v := 0) (by decide) ?_
        refine R_istore (pc := 10) C dL_ranks_10 (Nat.le_of_ble_eq_true rfl) (lv' := [some (.ref _), some (.ref _), some (.ref _), some (.int _), some (.int _), none]) rfl ?_
        refine R_iconst (pc := 12) C dL_ranks_12 (v := 0) (by decide) ?_
        refine R_istore (pc := 13) C dL_ranks_13 (Nat.le_of_ble_eq_true rfl) (lv' := [some (.ref _), some (.ref _), some (.ref _), some (.int _), some (.int _), some (.int _)]) rfl ?_
        have LP15 : ∀ (md d : Nat) (a : Nat), n < md + d → d ≤ n → a = rkc F k d → WR K G (AH h0 sz) (QM K G h0 sz 0 0 (fun v h1 => v = none ∧ ∃ m9 : Nat → Nat → Int32, (m9 2 = mu 2 ∧ ∀ j, j < n → m9 1 (rkc F j n) = nI j) ∧ Wd G (adr, Sc, (n, P, F), m9, g) h1)) (Wd G (adr, Sc, (n, P, F), m9, g)) [some (.ref (adr 5)), some (.ref (adr 8)), some (.ref (adr 10)), some (.int (nI k)), some (.int (nI a)), some (.int (nI d))] 0 0 15 [] := by
          intro md
          induction md with
          | zero => intro d a h1 h2; exact absurd h1 (by omega)
          | succ md ihd =>
            intro d a h1 h2 f3
            refine R_iload (pc := 15) C dL_ranks_15 rfl ?_
            refine R_aload_n (pc := 17) C dL_ranks_17 rfl ?_
            refine R_iconst (pc := 18) C dL_ranks_18 (v := 0) (by decide) ?_
            refine R_iald (pc := 19) C dL_ranks_19 (wmq) (rfl) (by decide) (by decide) (rdq0) ?_
            refine R_icmp_ge (pc := 20) C dL_ranks_20 (tgt := 85) (by decide) (fun c20 => ?_) (fun c20 => ?_)
            · have ed : n = d := Nat.le_antisymm (le_nI (by omega) (by omega) c20) h2
              subst ed
              have ha5 : a < 5 := by rw [f3]; exact Nat.lt_of_lt_of_le (rkc_lt hk) hn
              refine R_aload_n (pc := 85) C dL_ranks_85 rfl ?_
              refine R_iload (pc := 86) C dL_ranks_86 rfl ?_
              refine R_iload_n (pc := 88) C dL_ranks_88 rfl ?_
              refine R_iast (pc := 89) C dL_ranks_89 (wmr) (rfl) (by omega) (by decide) (pm_r) ?_
              refine R_iinc (pc := 90) C dL_ranks_90 rfl (inc1) (lv' := [some (.ref _), some (.ref _), some (.ref _), some (.int _), some (.int _), some (.int _)]) rfl ?_
              refine R_goto (pc := 93) C dL_ranks_93 (tgt := 2) (by decide) ?_
              refine WR.ls (lv' := [some (.ref _), some (.ref _), some (.ref _), some (.int _), none, none]) (ls_s (ls_s (ls_s (ls_s (ls_n (ls_n ls_e)))))) ?_
              exact ihk (k + 1) _ (by omega) (by omega) (by rw [su_f (by omega)]; exact f1) (fun j hj => if e : j = k then by rw [e, ← f3, su_s] else by rw [su_i (fun q => e (rkc_inj (by omega) (by omega) hk (q.trans f3)))]; exact f2 j (by omega))
            · have hd : d < n := gt_nI (by omega) (by omega) c20
              refine R_iload (pc := 23) C dL_ranks_23 rfl ?_
              refine R_aload_n (pc := 25) C dL_ranks_25 rfl ?_
              refine R_bipush (pc := 26) C dL_ranks_26 (v := 9) (by decide) ?_
              refine R_iload (pc := 28) C dL_ranks_28 rfl ?_
              refine R_imul (pc := 30) C dL_ranks_30 ?_
              refine R_iconst (pc := 31) C dL_ranks_31 (v := 4) (by decide) ?_
              refine R_iadd (pc := 32) C dL_ranks_32 ?_
              refine R_iald (pc := 33) C dL_ranks_33 (wmw) (i9 d 4) (by omega) (by decide) (rdw (by omega)) ?_
              refine R_aload_n (pc := 34) C dL_ranks_34 rfl ?_
              refine R_bipush (pc := 35) C dL_ranks_35 (v := 9) (by decide) ?_
              refine R_iload_n (pc := 37) C dL_ranks_37 rfl ?_
              refine R_imul (pc := 38) C dL_ranks_38 ?_
              refine R_iconst (pc := 39) C dL_ranks_39 (v := 4) (by decide) ?_
              refine R_iadd (pc := 40) C dL_ranks_40 ?_
              refine R_iald (pc := 41) C dL_ranks_41 (wmw) (i9 k 4) (by omega) (by decide) (rdw (by omega)) ?_
              refine R_icmp_lt (pc := 42) C dL_ranks_42 (tgt := 71) (by decide) (fun c42 => ?_) (fun c42 => ?_)
              · refine R_iconst (pc := 71) C dL_ranks_71 (v := 1) (by decide) ?_
                refine R_goto (pc := 72) C dL_ranks_72 (tgt := 76) (by decide) ?_
                refine R_iadd (pc := 76) C dL_ranks_76 ?_
                rw [nI_1]
                refine R_istore (pc := 77) C dL_ranks_77 (Nat.le_of_ble_eq_true rfl) (lv' := [some (.ref _), some (.ref _), some (.ref _), some (.int _), some (.int _), some (.int _)]) rfl ?_
                refine R_iinc (pc := 79) C dL_ranks_79 rfl (inc1) (lv' := [some (.ref _), some (.ref _), some (.ref _), some (.int _), some (.int _), some (.int _)]) rfl ?_
                refine R_goto (pc := 82) C dL_ranks_82 (tgt := 15) (by decide) ?_
                exact ihd (d + 1) (a + 1) (by omega) (by omega) (by rw [rkc, if_pos (Or.inl c42), ← f3])
              · refine R_aload_n (pc := 45) C dL_ranks_45 rfl ?_
                refine R_bipush (pc := 46) C dL_ranks_46 (v := 9) (by decide) ?_
                refine R_iload (pc := 48) C dL_ranks_48 rfl ?_
                refine R_imul (pc := 50) C dL_ranks_50 ?_
                refine R_iconst (pc := 51) C dL_ranks_51 (v := 4) (by decide) ?_
                refine R_iadd (pc := 52) C dL_ranks_52 ?_
                refine R_iald (pc := 53) C dL_ranks_53 (wmw) (i9 d 4) (by omega) (by decide) (rdw (by omega)) ?_
                refine R_aload_n (pc := 54) C dL_ranks_54 rfl ?_
                refine R_bipush (pc := 55) C dL_ranks_55 (v := 9) (by decide) ?_
                refine R_iload_n (pc := 57) C dL_ranks_57 rfl ?_
                refine R_imul (pc := 58) C dL_ranks_58 ?_
                refine R_iconst (pc := 59) C dL_ranks_59 (v := 4) (by decide) ?_
                refine R_iadd (pc := 60) C dL_ranks_60 ?_
                refine R_iald (pc := 61) C dL_ranks_61 (wmw) (i9 k 4) (by omega) (by decide) (rdw (by omega)) ?_
                refine R_icmp_ne (pc := 62) C dL_ranks_62 (tgt := 75) (by decide) (fun c62 => ?_) (fun c62 => ?_)
                · refine R_iconst (pc := 75) C dL_ranks_75 (v := 0) (by decide) ?_
                  refine R_iadd (pc := 76) C dL_ranks_76 ?_
                  rw [Int32.add_zero]
                  refine R_istore (pc := 77) C dL_ranks_77 (Nat.le_of_ble_eq_true rfl) (lv' := [some (.ref _), some (.ref _), some (.ref _), some (.int _), some (.int _), some (.int _)]) rfl ?_
                  refine R_iinc (pc := 79) C dL_ranks_79 rfl (inc1) (lv' := [some (.ref _), some (.ref _), some (.ref _), some (.int _), some (.int _), some (.int _)]) rfl ?_
                  refine R_goto (pc := 82) C dL_ranks_82 (tgt := 15) (by decide) ?_
                  exact ihd (d + 1) a (by omega) (by omega) (by rw [rkc, if_neg (fun q => q.elim c42 (fun z => c62 z.1)), ← f3]; rfl)
                · refine R_iload (pc := 65) C dL_ranks_65 rfl ?_
                  refine R_iload_n (pc := 67) C dL_ranks_67 rfl ?_
                  refine R_icmp_ge (pc := 68) C dL_ranks_68 (tgt := 75) (by decide) (fun c68 => ?_) (fun c68 => ?_)
                  · refine R_iconst (pc := 75) C dL_ranks_75 (v := 0) (by decide) ?_
                    refine R_iadd (pc := 76) C dL_ranks_76 ?_
                    rw [Int32.add_zero]
                    refine R_istore (pc := 77) C dL_ranks_77 (Nat.le_of_ble_eq_true rfl) (lv' := [some (.ref _), some (.ref _), some (.ref _), some (.int _), some (.int _), some (.int _)]) rfl ?_
                    refine R_iinc (pc := 79) C dL_ranks_79 rfl (inc1) (lv' := [some (.ref _), some (.ref _), some (.ref _), some (.int _), some (.int _), some (.int _)]) rfl ?_
                    refine R_goto (pc := 82) C dL_ranks_82 (tgt := 15) (by decide) ?_
                    exact ihd (d + 1) a (by omega) (by omega) (by rw [rkc, if_neg (fun q => q.elim c42 (fun z => absurd z.2 (Int32.not_lt.mpr c68))), ← f3]; rfl)
                  · refine R_iconst (pc := 71) C dL_ranks_71 (v := 1) (by decide) ?_
                    refine R_goto (pc := 72) C dL_ranks_72 (tgt := 76) (by decide) ?_
                    refine R_iadd (pc := 76) C dL_ranks_76 ?_
                    rw [nI_1]
                    refine R_istore (pc := 77) C dL_ranks_77 (Nat.le_of_ble_eq_true rfl) (lv' := [some (.ref _), some (.ref _), some (.ref _), some (.int _), some (.int _), some (.int _)]) rfl ?_
                    refine R_iinc (pc := 79) C dL_ranks_79 rfl (inc1) (lv' := [some (.ref _), some (.ref _), some (.ref _), some (.int _), some (.int _), some (.int _)]) rfl ?_
                    refine R_goto (pc := 82) C dL_ranks_82 (tgt := 15) (by decide) ?_
                    exact ihd (d + 1) (a + 1) (by omega) (by omega) (by rw [rkc, if_pos (Or.inr ⟨c62, Int32.not_le.mp c68⟩), ← f3])
        exact LP15 (n + 1) 0 0 (by omega) (by omega) rfl
  exact LP2 (n + 1) 0 mu (by omega) (by omega) rfl (fun j hj => absurd hj (Nat.not_lt_zero j))
set_option maxHeartbeats 4000000 in
set_option maxRecDepth 100000 in
theorem mL_behind (hl : l.stackTraces = false) {D : Nat → Bool} (hn : n ≤ 5) (hP : P ≤ 5) (hrg : Rg n P F) : ∀ h, Wd G (adr, Sc, (n, P, F), mu, g) h → CN l yL_behind cL_behind 6 (none) 2 0 0 [.int (mk D), .ref (adr 5), .ref (adr 9), .ref (adr 10)] G h (fun v h1 => v = none ∧ ∃ m9 : Nat → Nat → Int32, (m9 1 = mu 1 ∧ ∀ j, j < n → m9 2 j = bh n P F D j) ∧ Wd G (adr, Sc, (n, P, F), m9, g) h1) := by
  intro h0 hwd
  refine CN.of hl (by decide +kernel) rfl (Nat.le_of_ble_eq_true rfl) (fun K sz hKl hin C => ?_)
  have C : CX K G (AH h0 sz) RL cL_behind 6 (none) (rmD 2 0 0) [] := C
  subst hKl
  refine WR.imp (P' := Wd G (adr, Sc, (n, P, F), mu, g)) (fun h e => e ▸ hwd) ?_
  show WR K G _ _ _ [some (.int (mk D)), some (.ref (adr 5)), some (.ref (adr 9)), some (.ref (adr 10)), none, none] 0 0 0 []
  refine R_iconst (pc := 0) C dL_behind_0 (v := 0) (by decide) ?_
  refine R_istore (pc := 1) C dL_behind_1 (Nat.le_of_ble_eq_true rfl) (lv' := [some (.int _), some (.ref _), some (.ref _), some (.ref _), some (.int _), none]) rfl ?_
  have LP3 : ∀ (mw w : Nat) (m9 : Nat → Nat → Int32), n < mw + w → w ≤ n → m9 1 = mu 1 → (∀ j, j < w → m9 2 j = bh n P F D j) → WR K G (AH h0 sz) (QM K G h0 sz 0 0 (fun v h1 => v = none ∧ ∃ m9 : Nat → Nat → Int32, (m9 1 = mu 1 ∧ ∀ j, j < n → m9 2 j = bh n P F D j) ∧ Wd G (adr, Sc, (n, P, F), m9, g) h1)) (Wd G (adr, Sc, (n, P, F), m9, g)) [some (.int (mk D)), some (.ref (adr 5)), some (.ref (adr 9)), some (.ref (adr 10)), some (.int (nI w)), none] 0 0 3 [] := by
    intro mw
    induction mw with
    | zero => intro w m9 h1 h2; exact absurd h1 (by omega)
    | succ mw ihw =>
      intro w m9 h1 h2 f1 f2
      refine R_iload (pc := 3) C dL_behind_3 rfl ?_
      refine R_aload_n (pc := 5) C dL_behind_5 rfl ?_
      refine R_iconst (pc := 6) C dL_behind_6 (v := 0) (by decide) ?_
      refine R_iald (pc := 7) C dL_behind_7 (wmq) (rfl) (by decide) (by decide) (rdq0) ?_
      refine R_icmp_ge (pc := 8) C dL_behind_8 (tgt := 155) (by decide) (fun c8 => ?_) (fun c8 => ?_)
      · have ew : n = w := Nat.le_antisymm (le_nI (by omega) (by omega) c8) h2
        subst ew
        exact R_vret (pc := 155) C dL_behind_155 rfl (Nat.le_of_ble_eq_true rfl) (Nat.le_of_ble_eq_true rfl) (fun h hh => ⟨rfl, m9, ⟨f1, f2⟩, hh⟩)
      · have hw : w < n := gt_nI (by omega) (by omega) c8
        obtain ⟨a, ha, hla⟩ := hlay_of hrg w hw
        have hix : F 14 a = F 14 (ix (F 0 w)) := by rw [hla, ix_nI (by omega)]
        refine R_aload_n (pc := 11) C dL_behind_11 rfl ?_
        refine R_iload (pc := 12) C dL_behind_12 rfl ?_
        refine R_aload_n (pc := 14) C dL_behind_14 rfl ?_
        refine R_bipush (pc := 15) C dL_behind_15 (v := 9) (by decide) ?_
        refine R_iload (pc := 17) C dL_behind_17 rfl ?_
        refine R_imul (pc := 19) C dL_behind_19 ?_
        refine R_iconst (pc := 20) C dL_behind_20 (v := 2) (by decide) ?_
        refine R_iadd (pc := 21) C dL_behind_21 ?_
        refine R_iald (pc := 22) C dL_behind_22 (wmw) (i9 w 2) (by omega) (by decide) (rdw (by omega)) ?_
        refine R_aload_n (pc := 23) C dL_behind_23 rfl ?_
        refine R_iconst (pc := 24) C dL_behind_24 (v := 4) (by decide) ?_
        refine R_aload_n (pc := 25) C dL_behind_25 rfl ?_
        refine R_bipush (pc := 26) C dL_behind_26 (v := 9) (by decide) ?_
        refine R_iload (pc := 28) C dL_behind_28 rfl ?_
        refine R_imul (pc := 30) C dL_behind_30 ?_
        refine R_iald (pc := 31) C dL_behind_31 (wmw) (i9z w) (by omega) (by decide) (rdw (by omega)) ?_
        refine R_iadd (pc := 32) C dL_behind_32 ?_
        refine R_iald (pc := 33) C dL_behind_33 (wmq) (show 4 + F 0 w = nI (4 + a) by rw [hla]; exact nI_add 4 a) (by omega) (by decide) (rdq4 ha) ?_
        refine R_iadd (pc := 34) C dL_behind_34 ?_
        refine R_iast (pc := 35) C dL_behind_35 (wmh) (rfl) (by omega) (by decide) (pm_h) ?_
        refine R_iconst (pc := 36) C dL_behind_36 (v := 0) (by decide) ?_
        refine R_istore (pc := 37) C dL_behind_37 (Nat.le_of_ble_eq_true rfl) (lv' := [some (.int _), some (.ref _), some (.ref _), some (.ref _), some (.int _), some (.int _)]) rfl ?_
        have LP39 : ∀ (mp q : Nat) (m9 : Nat → Nat → Int32), P < mp + q → q ≤ P → m9 1 = mu 1 → (∀ j, j < w → m9 2 j = bh n P F D j) → m9 2 w = bhP F w (F 2 w + F 14 (ix (F 0 w))) q → WR K G (AH h0 sz) (QM K G h0 sz 0 0 (fun v h1 => v = none ∧ ∃ m9 : Nat → Nat → Int32, (m9 1 = mu 1 ∧ ∀ j, j < n → m9 2 j = bh n P F D j) ∧ Wd G (adr, Sc, (n, P, F), m9, g) h1)) (Wd G (adr, Sc, (n, P, F), m9, g)) [some (.int (mk D)), some (.ref (adr 5)), some (.ref (adr 9)), some (.ref (adr 10)), some (.int (nI w)), some (.int (nI q))] 0 0 39 [] := by
          intro mp
          induction mp with
          | zero => intro q m9 h1 h2; exact absurd h1 (by omega)
          | succ mp ihp =>
            intro q m9 h1 h2 f1 f2 f3
            refine R_iload (pc := 39) C dL_behind_39 rfl ?_
            refine R_aload_n (pc := 41) C dL_behind_41 rfl ?_
            refine R_iconst (pc := 42) C dL_behind_42 (v := 3) (by decide) ?_
            refine R_iald (pc := 43) C dL_behind_43 (wmq) (rfl) (by decide) (by decide) (rdq3) ?_
            refine R_icmp_ge (pc := 44) C dL_behind_44 (tgt := 76) (by decide) (fun c44 => ?_) (fun c44 => ?_)
            · have eq : P = q := Nat.le_antisymm (le_nI (by omega) (by omega) c44) h2
              subst eq
              refine R_iconst (pc := 76) C dL_behind_76 (v := 0) (by decide) ?_
              refine R_istore (pc := 77) C dL_behind_77 (Nat.le_of_ble_eq_true rfl) (lv' := [some (.int _), some (.ref _), some (.ref _), some (.ref _), some (.int _), some (.int _)]) rfl ?_
              have LP79 : ∀ (md d : Nat) (m9 : Nat → Nat → Int32), n < md + d → d ≤ n → m9 1 = mu 1 → (∀ j, j < w → m9 2 j = bh n P F D j) → m9 2 w = bhD F D w (bhP F w (F 2 w + F 14 (ix (F 0 w))) P) d → WR K G (AH h0 sz) (QM K G h0 sz 0 0 (fun v h1 => v = none ∧ ∃ m9 : Nat → Nat → Int32, (m9 1 = mu 1 ∧ ∀ j, j < n → m9 2 j = bh n P F D j) ∧ Wd G (adr, Sc, (n, P, F), m9, g) h1)) (Wd G (adr, Sc, (n, P, F), m9, g)) [some (.int (mk D)), some (.ref (adr 5)), some (.ref (adr 9)), some (.ref (adr 10)), some (.int (nI w)), some (.int (nI d))] 0 0 79 [] := by
                intro md
                induction md with
                | zero => intro d m9 h1 h2; exact absurd h1 (by omega)
                | succ md ihd =>
                  intro d m9 h1 h2 f1 f2 f3
                  refine R_iload (pc := 79) C dL_behind_79 rfl ?_
                  refine R_aload_n (pc := 81) C dL_behind_81 rfl ?_
                  refine R_iconst (pc := 82) C dL_behind_82 (v := 0) (by decide) ?_
                  refine R_iald (pc := 83) C dL_behind_83 (wmq) (rfl) (by decide) (by decide) (rdq0) ?_
                  refine R_icmp_ge (pc := 84) C dL_behind_84 (tgt := 149) (by decide) (fun c84 => ?_) (fun c84 => ?_)
                  · have ed : n = d := Nat.le_antisymm (le_nI (by omega) (by omega) c84) h2
                    subst ed
                    refine R_iinc (pc := 149) C dL_behind_149 rfl (inc1) (lv' := [some (.int _), some (.ref _), some (.ref _), some (.ref _), some (.int _), some (.int _)]) rfl ?_
                    refine R_goto (pc := 152) C dL_behind_152 (tgt := 3) (by decide) ?_
                    refine WR.ls (lv' := [some (.int _), some (.ref _), some (.ref _), some (.ref _), some (.int _), none]) (ls_s (ls_s (ls_s (ls_s (ls_s (ls_n ls_e)))))) ?_
                    exact ihw (w + 1) m9 (by omega) (by omega) f1 (fun j hj => if e : j = w then by rw [e, f3]; rfl else f2 j (by omega))
                  · have hd : d < n := gt_nI (by omega) (by omega) c84
                    refine R_aload_n (pc := 87) C dL_behind_87 rfl ?_
                    refine R_iload (pc := 88) C dL_behind_88 rfl ?_
                    refine R_dup2 (pc := 90) C dL_behind_90 rfl rfl ?_
                    refine R_iald (pc := 91) C dL_behind_91 (wmh) (rfl) (by omega) (by decide) (rfl) ?_
                    refine R_iload_n (pc := 92) C dL_behind_92 rfl ?_
                    refine R_iload (pc := 93) C dL_behind_93 rfl ?_
                    refine R_ishr (pc := 95) C dL_behind_95 ?_
                    refine R_iconst (pc := 96) C dL_behind_96 (v := 1) (by decide) ?_
                    refine R_iand (pc := 97) C dL_behind_97 ?_
                    rw [bit_in (D := D) (show d < 5 by omega)]
                    refine R_if_ne (pc := 98) C dL_behind_98 (tgt := 140) (by decide) (fun c98 => ?_) (fun c98 => ?_)
                    · have dq : drw F D d * spR F d w / 100 = 0 := by unfold drw; rw [if_pos (if01' c98)]; exact zr100 _
                      refine R_iconst (pc := 140) C dL_behind_140 (v := 0) (by decide) ?_
                      refine R_isub (pc := 141) C dL_behind_141 ?_
                      refine R_iast (pc := 142) C dL_behind_142 (wmh) (rfl) (by omega) (by decide) (pm_h) ?_
                      refine R_iinc (pc := 143) C dL_behind_143 rfl (inc1) (lv' := [some (.int _), some (.ref _), some (.ref _), some (.ref _), some (.int _), some (.int _)]) rfl ?_
                      refine R_goto (pc := 146) C dL_behind_146 (tgt := 79) (by decide) ?_
                      exact ihd (d + 1) _ (by omega) (by omega) (by rw [su_f (by omega)]; exact f1) (fun j hj => by rw [su_i (by omega)]; exact f2 j hj) (by rw [su_s, bhD, f3, dq])
                    · have dq0 : drw F D d = F 6 d := by unfold drw; rw [if_neg (if01 c98)]
                      refine R_aload_n (pc := 101) C dL_behind_101 rfl ?_
                      refine R_bipush (pc := 102) C dL_behind_102 (v := 9) (by decide) ?_
                      refine R_iload (pc := 104) C dL_behind_104 rfl ?_
                      refine R_imul (pc := 106) C dL_behind_106 ?_
                      refine R_bipush (pc := 107) C dL_behind_107 (v := 6) (by decide) ?_
                      refine R_iadd (pc := 109) C dL_behind_109 ?_
                      refine R_iald (pc := 110) C dL_behind_110 (wmw) (i9 d 6) (by omega) (by decide) (rdw (by omega)) ?_
                      refine R_aload_n (pc := 111) C dL_behind_111 rfl ?_
                      refine R_bipush (pc := 112) C dL_behind_112 (v := 9) (by decide) ?_
                      refine R_iload (pc := 114) C dL_behind_114 rfl ?_
                      refine R_imul (pc := 116) C dL_behind_116 ?_
                      refine R_iald (pc := 117) C dL_behind_117 (wmw) (i9z d) (by omega) (by decide) (rdw (by omega)) ?_
                      refine R_aload_n (pc := 118) C dL_behind_118 rfl ?_
                      refine R_bipush (pc := 119) C dL_behind_119 (v := 9) (by decide) ?_
                      refine R_iload (pc := 121) C dL_behind_121 rfl ?_
                      refine R_imul (pc := 123) C dL_behind_123 ?_
                      refine R_iconst (pc := 124) C dL_behind_124 (v := 1) (by decide) ?_
                      refine R_iadd (pc := 125) C dL_behind_125 ?_
                      refine R_iald (pc := 126) C dL_behind_126 (wmw) (i9 d 1) (by omega) (by decide) (rdw (by omega)) ?_
                      refine R_iload (pc := 127) C dL_behind_127 rfl ?_
                      refine R_aload_n (pc := 129) C dL_behind_129 rfl ?_
                      refine R_callSN (pc := 130) C dL_behind_130 (vs := [_, _, _, _]) (fun h hh => mL_reach hl (by omega) h hh) ⟨k_23_14, k_23_15, k_2_12, k_23_16⟩ (sgn (nv := 4) rfl ⟨by decide +kernel, by decide +kernel, by decide +kernel⟩) ⟨⟨Nat.le_of_ble_eq_true rfl, Nat.le_of_ble_eq_true rfl⟩, ⟨Nat.le_of_ble_eq_true rfl, Nat.le_of_ble_eq_true rfl⟩, Nat.le_of_ble_eq_true rfl⟩ rfl rfl (fun h9 hh9 v9 => ?_)
                      refine WR.pr (fun e9 => ?_)
                      subst e9
                      show WR K G _ _ _ _ _ _ _ (.int _ :: _)
                      rw [rL_eq (hrg.1 w hw).1 (hrg.1 w hw).2 (hrg.1 d hd).1 (hrg.1 d hd).2]
                      refine R_imul (pc := 133) C dL_behind_133 ?_
                      refine R_bipush (pc := 134) C dL_behind_134 (v := 100) (by decide) ?_
                      refine R_idiv (pc := 136) C dL_behind_136 (by decide) ?_
                      refine R_goto (pc := 137) C dL_behind_137 (tgt := 141) (by decide) ?_
                      refine R_isub (pc := 141) C dL_behind_141 ?_
                      refine R_iast (pc := 142) C dL_behind_142 (wmh) (rfl) (by omega) (by decide) (pm_h) ?_
                      refine R_iinc (pc := 143) C dL_behind_143 rfl (inc1) (lv' := [some (.int _), some (.ref _), some (.ref _), some (.ref _), some (.int _), some (.int _)]) rfl ?_
                      refine R_goto (pc := 146) C dL_behind_146 (tgt := 79) (by decide) ?_
                      exact ihd (d + 1) _ (by omega) (by omega) (by rw [su_f (by omega)]; exact f1) (fun j hj => by rw [su_i (by omega)]; exact f2 j hj) (by rw [su_s, bhD, f3, dq0])
              exact LP79 (n + 1) 0 m9 (by omega) (by omega) f1 f2 f3
            · have hq : q < P := gt_nI (by omega) (by omega) c44
              refine R_aload_n (pc := 47) C dL_behind_47 rfl ?_
              refine R_iload (pc := 48) C dL_behind_48 rfl ?_
              refine R_dup2 (pc := 50) C dL_behind_50 rfl rfl ?_
              refine R_iald (pc := 51) C dL_behind_51 (wmh) (rfl) (by omega) (by decide) (rfl) ?_
              refine R_iconst (pc := 52) C dL_behind_52 (v := 0) (by decide) ?_
              refine R_aload_n (pc := 53) C dL_behind_53 rfl ?_
              refine R_bipush (pc := 54) C dL_behind_54 (v := 7) (by decide) ?_
              refine R_iload (pc := 56) C dL_behind_56 rfl ?_
              refine R_iadd (pc := 58) C dL_behind_58 ?_
              refine R_iald (pc := 59) C dL_behind_59 (wmq) (nI_add 7 q) (by omega) (by decide) (rdq7) ?_
              refine R_iload (pc := 60) C dL_behind_60 rfl ?_
              refine R_aload_n (pc := 62) C dL_behind_62 rfl ?_
              refine R_callSN (pc := 63) C dL_behind_63 (vs := [_, _, _, _]) (fun h hh => mL_reach hl (by omega) h hh) ⟨k_23_14, k_23_15, k_2_12, k_23_16⟩ (sgn (nv := 4) rfl ⟨by decide +kernel, by decide +kernel, by decide +kernel⟩) ⟨⟨Nat.le_of_ble_eq_true rfl, Nat.le_of_ble_eq_true rfl⟩, ⟨Nat.le_of_ble_eq_true rfl, Nat.le_of_ble_eq_true rfl⟩, Nat.le_of_ble_eq_true rfl⟩ rfl rfl (fun h9 hh9 v9 => ?_)
              refine WR.pr (fun e9 => ?_)
              subst e9
              show WR K G _ _ _ _ _ _ _ (.int _ :: _)
              rw [rL_eq (hrg.1 w hw).1 (hrg.1 w hw).2 (lo := 0) ⟨0, by omega, rfl⟩ (hrg.2 q hq)]
              refine R_iconst (pc := 66) C dL_behind_66 (v := 5) (by decide) ?_
              refine R_idiv (pc := 67) C dL_behind_67 (by decide) ?_
              rw [rise (rC_bt (hrg.1 w hw).1 (hrg.1 w hw).2 (lo := 0) ⟨0, by omega, rfl⟩ (hrg.2 q hq))]
              refine R_iadd (pc := 68) C dL_behind_68 ?_
              refine R_iast (pc := 69) C dL_behind_69 (wmh) (rfl) (by omega) (by decide) (pm_h) ?_
              refine R_iinc (pc := 70) C dL_behind_70 rfl (inc1) (lv' := [some (.int _), some (.ref _), some (.ref _), some (.ref _), some (.int _), some (.int _)]) rfl ?_
              refine R_goto (pc := 73) C dL_behind_73 (tgt := 39) (by decide) ?_
              exact ihp (q + 1) _ (by omega) (by omega) (by rw [su_f (by omega)]; exact f1) (fun j hj => by rw [su_i (by omega)]; exact f2 j hj) (by rw [su_s, bhP, f3])
        exact LP39 (P + 1) 0 _ (by omega) (by omega) (by rw [su_f (by omega)]; exact f1) (fun j hj => by rw [su_i (by omega)]; exact f2 j hj) (by rw [su_s, hix]; rfl)
  exact LP3 (n + 1) 0 mu (by omega) (by omega) rfl (fun j hj => absurd hj (Nat.not_lt_zero j))
end
