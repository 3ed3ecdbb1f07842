/-! 15: who is stopped: levelBehind, youngestDrawerOn, nextToStop, whoIsStopped. Written by wip/p22/gen/m15.py -/
section
variable {l : Launch} {G : GT} {adr : Nat → Nat} {n P : Nat} {F mu : Nat → Nat → Int32} {g : Nat → Int64} {Sm : St}
theorem le_nI {a b : Nat} (ha : a < 100) (hb : b < 100) (h : nI a ≤ nI b) : a ≤ b := (nI_leI (by omega) (by omega)).mp h
theorem gt_nI {a b : Nat} (ha : a < 100) (hb : b < 100) (h : ¬ nI a ≤ nI b) : b < a := by
  by_cases c : b < a
  · exact c
  · exact absurd ((nI_leI (by omega) (by omega)).mpr (by omega : a ≤ b)) h
theorem if01 {c : Prop} [Decidable c] (h : (if c then (1 : Int32) else 0) = 0) : ¬ c := fun q => by rw [if_pos q] at h; exact absurd h (by decide)
theorem if01' {c : Prop} [Decidable c] (h : ¬ (if c then (1 : Int32) else 0) = 0) : c := by
  by_cases q : c
  · exact q
  · exact absurd (if_neg q) h
set_option maxHeartbeats 4000000 in
set_option maxRecDepth 100000 in
theorem mX1_levelBehind (hl : l.stackTraces = false) {w : Nat} {D : Nat → Bool} (hw : w < n) (hn : n ≤ 8) (hP : P ≤ 5) (hlay : ∃ a, a < 3 ∧ F 0 w = nI a) : ∀ h, Wd G (adr, (n, P, F), Sm, mu, g) h → CN l yX1_levelBehind cX1_levelBehind 6 (some .int) 4 0 0 [.ref (adr 0), .ref (adr (30 + w)), .int (mk D)] G h (fun v h1 => v = some (.int (bh n P F D w)) ∧ Wd G (adr, (n, P, F), Sm, mu, g) h1) := by
  intro h0 hwd
  refine CN.of hl (by decide +kernel) rfl (Nat.le_of_ble_eq_true rfl) (fun K sz hKl hin C => ?_)
  have C : CX K G (AH h0 sz) RX1 cX1_levelBehind 6 (some .int) (rmD 4 0 0) [] := C
  subst hKl
  refine WR.imp (P' := Wd G (adr, (n, P, F), Sm, mu, g)) (fun h e => e ▸ hwd) ?_
  show WR K G _ _ _ [some (.ref (adr 0)), some (.ref (adr (30 + w))), some (.int (mk D)), none, none, none] 0 0 0 []
  obtain ⟨a, ha, hla⟩ := hlay
  have hix : F 14 a = F 14 (ix (F 0 w)) := by rw [hla, ix_nI (by omega)]
  refine R_aload_n (pc := 0) C dX1_levelBehind_0 rfl ?_
  refine R_getf (pc := 1) C dX1_levelBehind_1 (i := 8) (wcw hw hn) rfl inlX0 (by decide) k_19_19 rfl ?_
  refine R_aload_n (pc := 4) C dX1_levelBehind_4 rfl ?_
  refine R_getf (pc := 5) C dX1_levelBehind_5 (i := 1) (wc0) rfl inlX1 (by decide) k_1_14 rfl ?_
  refine R_aload_n (pc := 8) C dX1_levelBehind_8 rfl ?_
  refine R_getf (pc := 9) C dX1_levelBehind_9 (i := 1) (wcw hw hn) rfl inlX0 (by decide) k_19_20 rfl ?_
  refine R_iald (pc := 12) C dX1_levelBehind_12 (wc3) (hla) (ha) (by decide) rfl ?_
  refine R_iadd (pc := 13) C dX1_levelBehind_13 ?_
  refine R_istore_n (pc := 14) C dX1_levelBehind_14 (Nat.le_of_ble_eq_true rfl) (lv' := [some (.ref _), some (.ref _), some (.int _), some (.int _), none, none]) rfl ?_
  refine R_iconst (pc := 15) C dX1_levelBehind_15 (v := 0) (by decide) ?_
  refine R_istore (pc := 16) C dX1_levelBehind_16 (Nat.le_of_ble_eq_true rfl) (lv' := [some (.ref _), some (.ref _), some (.int _), some (.int _), some (.int _), none]) rfl ?_
  have LP18 : ∀ (m q : Nat) (b : Int32), P < m + q → q ≤ P → b = bhP F w (F 2 w + F 14 (ix (F 0 w))) q → WR K G (AH h0 sz) (QM K G h0 sz 0 0 (fun v h1 => v = some (.int (bh n P F D w)) ∧ Wd G (adr, (n, P, F), Sm, mu, g) h1)) (Wd G (adr, (n, P, F), Sm, mu, g)) [some (.ref (adr 0)), some (.ref (adr (30 + w))), some (.int (mk D)), some (.int b), some (.int (nI q)), none] 0 0 18 [] := by
    intro m
    induction m with
    | zero => intro q b h1 h2; exact absurd h1 (by omega)
    | succ m ih =>
      intro q b h1 h2 hb
      refine R_iload (pc := 18) C dX1_levelBehind_18 rfl ?_
      refine R_aload_n (pc := 20) C dX1_levelBehind_20 rfl ?_
      refine R_getf (pc := 21) C dX1_levelBehind_21 (i := 3) (wc0) rfl inlX1 (by decide) k_1_16 rfl ?_
      refine R_icmp_ge (pc := 24) C dX1_levelBehind_24 (tgt := 53) (by decide) (fun c24 => ?_) (fun c24 => ?_)
      · have eq : P = q := Nat.le_antisymm (le_nI (by omega) (by omega) c24) h2
        subst eq
        refine R_iconst (pc := 53) C dX1_levelBehind_53 (v := 0) (by decide) ?_
        refine R_istore (pc := 54) C dX1_levelBehind_54 (Nat.le_of_ble_eq_true rfl) (lv' := [some (.ref _), some (.ref _), some (.int _), some (.int _), some (.int _), none]) rfl ?_
        have LP56 : ∀ (m d : Nat) (b : Int32), n < m + d → d ≤ n → b = bhD F D w (bhP F w (F 2 w + F 14 (ix (F 0 w))) P) d → WR K G (AH h0 sz) (QM K G h0 sz 0 0 (fun v h1 => v = some (.int (bh n P F D w)) ∧ Wd G (adr, (n, P, F), Sm, mu, g) h1)) (Wd G (adr, (n, P, F), Sm, mu, g)) [some (.ref (adr 0)), some (.ref (adr (30 + w))), some (.int (mk D)), some (.int b), some (.int (nI d)), none] 0 0 56 [] := by
          intro m
          induction m with
          | zero => intro d b h1 h2; exact absurd h1 (by omega)
          | succ m ih =>
            intro d b h1 h2 hb
            refine R_iload (pc := 56) C dX1_levelBehind_56 rfl ?_
            refine R_aload_n (pc := 58) C dX1_levelBehind_58 rfl ?_
            refine R_getf (pc := 59) C dX1_levelBehind_59 (i := 0) (wc0) rfl inlX1 (by decide) k_1_13 rfl ?_
            refine R_callVN (pc := 62) C dX1_levelBehind_62 (vs := []) (fun h hh => mJx4a65c_size_8abf5 hl h hh) (isOb_of (wc1) rfl) ⟨k_3_18, k_3_19, k_3_20, k_1_12, k_3_21⟩ (sgn (nv := 0) rfl ⟨by decide +kernel, by decide +kernel, by decide +kernel⟩) ⟨⟨Nat.le_of_ble_eq_true rfl, Nat.le_of_ble_eq_true rfl⟩, ⟨Nat.le_of_ble_eq_true rfl, Nat.le_of_ble_eq_true rfl⟩, Nat.le_of_ble_eq_true rfl⟩ rfl rfl (fun h9 hh9 v9 => ?_)
            refine WR.pr (fun e9 => ?_)
            subst e9
            show WR K G _ _ _ _ _ _ _ (.int _ :: _)
            refine R_icmp_ge (pc := 65) C dX1_levelBehind_65 (tgt := 114) (by decide) (fun c65 => ?_) (fun c65 => ?_)
            · have ed : n = d := Nat.le_antisymm (le_nI (by omega) (by omega) c65) h2
              subst ed
              refine R_iload_n (pc := 114) C dX1_levelBehind_114 rfl ?_
              exact R_iret (pc := 115) C dX1_levelBehind_115 rfl (Nat.le_of_ble_eq_true rfl) (Nat.le_of_ble_eq_true rfl) (fun h hh => ⟨by rw [hb]; rfl, hh⟩)
            · have hd : d < n := gt_nI (by omega) (by omega) c65
              refine R_aload_n (pc := 68) C dX1_levelBehind_68 rfl ?_
              refine R_getf (pc := 69) C dX1_levelBehind_69 (i := 0) (wc0) rfl inlX1 (by decide) k_1_13 rfl ?_
              refine R_iload (pc := 72) C dX1_levelBehind_72 rfl ?_
              refine R_callVN (pc := 74) C dX1_levelBehind_74 (vs := [_]) (fun h hh => mJx4a65c_get_915e3 hl hd hn h hh) (isOb_of (wc1) rfl) ⟨k_17_2, k_17_3, k_17_4, k_1_12, k_17_5⟩ (sgn (nv := 1) rfl ⟨by decide +kernel, by decide +kernel, by decide +kernel⟩) ⟨⟨Nat.le_of_ble_eq_true rfl, Nat.le_of_ble_eq_true rfl⟩, ⟨Nat.le_of_ble_eq_true rfl, Nat.le_of_ble_eq_true rfl⟩, Nat.le_of_ble_eq_true rfl⟩ rfl rfl (fun h9 hh9 v9 => ?_)
              refine WR.pr (fun e9 => ?_)
              subst e9
              show WR K G _ _ _ _ _ _ _ (.ref _ :: _)
              refine R_cast (pc := 77) C dX1_levelBehind_77 (wcw hd hn) rfl k_3_5 ?_
              refine R_astore (pc := 80) C dX1_levelBehind_80 (Nat.le_of_ble_eq_true rfl) (lv' := [some (.ref _), some (.ref _), some (.int _), some (.int _), some (.int _), some (.ref _)]) rfl ?_
              refine R_iload_n (pc := 82) C dX1_levelBehind_82 rfl ?_
              refine R_aload (pc := 83) C dX1_levelBehind_83 rfl ?_
              refine R_iload_n (pc := 85) C dX1_levelBehind_85 rfl ?_
              refine R_callVN (pc := 86) C dX1_levelBehind_86 (vs := [_]) (fun h hh => mX0_drawUnder hl hd hn h hh) (isOb_of (wcw hd hn) rfl) ⟨k_20_9, k_20_10, k_20_11, k_3_7, k_20_12⟩ (sgn (nv := 1) rfl ⟨by decide +kernel, by decide +kernel, by decide +kernel⟩) ⟨⟨Nat.le_of_ble_eq_true rfl, Nat.le_of_ble_eq_true rfl⟩, ⟨Nat.le_of_ble_eq_true rfl, Nat.le_of_ble_eq_true rfl⟩, Nat.le_of_ble_eq_true rfl⟩ rfl rfl (fun h9 hh9 v9 => ?_)
              refine WR.pr (fun e9 => ?_)
              subst e9
              show WR K G _ _ _ _ _ _ _ (.int _ :: _)
              refine R_aload_n (pc := 89) C dX1_levelBehind_89 rfl ?_
              refine R_aload (pc := 90) C dX1_levelBehind_90 rfl ?_
              refine R_getf (pc := 92) C dX1_levelBehind_92 (i := 1) (wcw hd hn) rfl inlX0 (by decide) k_19_20 rfl ?_
              refine R_aload (pc := 95) C dX1_levelBehind_95 rfl ?_
              refine R_getf (pc := 97) C dX1_levelBehind_97 (i := 2) (wcw hd hn) rfl inlX0 (by decide) k_19_21 rfl ?_
              refine R_callVN (pc := 100) C dX1_levelBehind_100 (vs := [_, _]) (fun h hh => mX0_reachedFrom hl hw hn h hh) (isOb_of (wcw hw hn) rfl) ⟨k_19_22, k_19_23, k_20_0, k_3_7, k_20_1⟩ (sgn (nv := 2) rfl ⟨by decide +kernel, by decide +kernel, by decide +kernel⟩) ⟨⟨Nat.le_of_ble_eq_true rfl, Nat.le_of_ble_eq_true rfl⟩, ⟨Nat.le_of_ble_eq_true rfl, Nat.le_of_ble_eq_true rfl⟩, Nat.le_of_ble_eq_true rfl⟩ rfl rfl (fun h9 hh9 v9 => ?_)
              refine WR.pr (fun e9 => ?_)
              subst e9
              show WR K G _ _ _ _ _ _ _ (.int _ :: _)
              refine R_callSN (pc := 103) C dX1_levelBehind_103 (vs := [_, _]) (fun h hh => mX1_hundredths hl h) ⟨k_20_6, k_20_7, k_1_2, k_20_8⟩ (sgn (nv := 2) rfl ⟨by decide +kernel, by decide +kernel, by decide +kernel⟩) ⟨⟨Nat.le_of_ble_eq_true rfl, Nat.le_of_ble_eq_true rfl⟩, ⟨Nat.le_of_ble_eq_true rfl, Nat.le_of_ble_eq_true rfl⟩, Nat.le_of_ble_eq_true rfl⟩ rfl rfl (fun h9 hh9 v9 => ?_)
              refine WR.pr (fun e9 => ?_)
              subst e9
              refine WR.imp (P' := Wd G (adr, (n, P, F), Sm, mu, g)) (fun h1 e1 => e1 ▸ hh9) ?_
              show WR K G _ _ _ _ _ _ _ (.int _ :: _)
              refine R_isub (pc := 106) C dX1_levelBehind_106 ?_
              refine R_istore_n (pc := 107) C dX1_levelBehind_107 (Nat.le_of_ble_eq_true rfl) (lv' := [some (.ref _), some (.ref _), some (.int _), some (.int _), some (.int _), some (.ref _)]) rfl ?_
              refine R_iinc (pc := 108) C dX1_levelBehind_108 rfl (inc1) (lv' := [some (.ref _), some (.ref _), some (.int _), some (.int _), some (.int _), some (.ref _)]) rfl ?_
              refine R_goto (pc := 111) C dX1_levelBehind_111 (tgt := 56) (by decide) ?_
              refine WR.ls (lv' := [some (.ref _), some (.ref _), some (.int _), some (.int _), some (.int _), none]) (ls_s (ls_s (ls_s (ls_s (ls_s (ls_n ls_e)))))) ?_
              exact ih (d + 1) _ (by omega) (by omega) (by rw [bhD, hb, drw_m (by omega)])
        exact LP56 (n + 1) 0 _ (by omega) (by omega) hb
      · have hq : q < P := gt_nI (by omega) (by omega) c24
        refine R_iload_n (pc := 27) C dX1_levelBehind_27 rfl ?_
        refine R_bipush (pc := 28) C dX1_levelBehind_28 (v := 20) (by decide) ?_
        refine R_aload_n (pc := 30) C dX1_levelBehind_30 rfl ?_
        refine R_iconst (pc := 31) C dX1_levelBehind_31 (v := 0) (by decide) ?_
        refine R_aload_n (pc := 32) C dX1_levelBehind_32 rfl ?_
        refine R_getf (pc := 33) C dX1_levelBehind_33 (i := 2) (wc0) rfl inlX1 (by decide) k_1_15 rfl ?_
        refine R_iload (pc := 36) C dX1_levelBehind_36 rfl ?_
        refine R_iald (pc := 38) C dX1_levelBehind_38 (wc4) (rfl) (by omega) (by decide) rfl ?_
        refine R_callVN (pc := 39) C dX1_levelBehind_39 (vs := [_, _]) (fun h hh => mX0_reachedFrom hl hw hn h hh) (isOb_of (wcw hw hn) rfl) ⟨k_19_22, k_19_23, k_20_0, k_3_7, k_20_1⟩ (sgn (nv := 2) rfl ⟨by decide +kernel, by decide +kernel, by decide +kernel⟩) ⟨⟨Nat.le_of_ble_eq_true rfl, Nat.le_of_ble_eq_true rfl⟩, ⟨Nat.le_of_ble_eq_true rfl, Nat.le_of_ble_eq_true rfl⟩, Nat.le_of_ble_eq_true rfl⟩ rfl rfl (fun h9 hh9 v9 => ?_)
        refine WR.pr (fun e9 => ?_)
        subst e9
        show WR K G _ _ _ _ _ _ _ (.int _ :: _)
        refine R_callSN (pc := 42) C dX1_levelBehind_42 (vs := [_, _]) (fun h hh => mX1_hundredths hl h) ⟨k_20_6, k_20_7, k_1_2, k_20_8⟩ (sgn (nv := 2) rfl ⟨by decide +kernel, by decide +kernel, by decide +kernel⟩) ⟨⟨Nat.le_of_ble_eq_true rfl, Nat.le_of_ble_eq_true rfl⟩, ⟨Nat.le_of_ble_eq_true rfl, Nat.le_of_ble_eq_true rfl⟩, Nat.le_of_ble_eq_true rfl⟩ rfl rfl (fun h9 hh9 v9 => ?_)
        refine WR.pr (fun e9 => ?_)
        subst e9
        refine WR.imp (P' := Wd G (adr, (n, P, F), Sm, mu, g)) (fun h1 e1 => e1 ▸ hh9) ?_
        show WR K G _ _ _ _ _ _ _ (.int _ :: _)
        refine R_iadd (pc := 45) C dX1_levelBehind_45 ?_
        refine R_istore_n (pc := 46) C dX1_levelBehind_46 (Nat.le_of_ble_eq_true rfl) (lv' := [some (.ref _), some (.ref _), some (.int _), some (.int _), some (.int _), none]) rfl ?_
        refine R_iinc (pc := 47) C dX1_levelBehind_47 rfl (inc1) (lv' := [some (.ref _), some (.ref _), some (.int _), some (.int _), some (.int _), none]) rfl ?_
        refine R_goto (pc := 50) C dX1_levelBehind_50 (tgt := 18) (by decide) ?_
        exact ih (q + 1) _ (by omega) (by omega) (by rw [bhP, hb])
  exact LP18 (P + 1) 0 _ (by omega) (by omega) (by rw [bhP, hix])
set_option maxHeartbeats 4000000 in
set_option maxRecDepth 100000 in
theorem mX1_youngestDrawerOn (hl : l.stackTraces = false) {w : Nat} {D : Nat → Bool} (hw : w < n) (hn : n ≤ 8) : ∀ h, Wd G (adr, (n, P, F), Sm, mu, g) h → CN l yX1_youngestDrawerOn cX1_youngestDrawerOn 6 (some (.object "WellRights$Well")) 4 0 0 [.ref (adr 0), .ref (adr (30 + w)), .int (mk D)] G h (fun v h1 => v = some (va_rf ((yng F D w n).map (fun y => adr (30 + y)))) ∧ Wd G (adr, (n, P, F), Sm, mu, g) h1) := by
  intro h0 hwd
  refine CN.of hl (by decide +kernel) rfl (Nat.le_of_ble_eq_true rfl) (fun K sz hKl hin C => ?_)
  have C : CX K G (AH h0 sz) RX1 cX1_youngestDrawerOn 6 (some (.object "WellRights$Well")) (rmD 4 0 0) [] := C
  subst hKl
  refine WR.imp (P' := Wd G (adr, (n, P, F), Sm, mu, g)) (fun h e => e ▸ hwd) ?_
  show WR K G _ _ _ [some (.ref (adr 0)), some (.ref (adr (30 + w))), some (.int (mk D)), none, none, none] 0 0 0 []
  refine R_null (pc := 0) C dX1_youngestDrawerOn_0 ?_
  refine R_astore_nN (pc := 1) C dX1_youngestDrawerOn_1 (Nat.le_of_ble_eq_true rfl) (lv' := [some (.ref _), some (.ref _), some (.int _), some .null, none, none]) rfl ?_
  refine R_iconst (pc := 2) C dX1_youngestDrawerOn_2 (v := 0) (by decide) ?_
  refine R_istore (pc := 3) C dX1_youngestDrawerOn_3 (Nat.le_of_ble_eq_true rfl) (lv' := [some (.ref _), some (.ref _), some (.int _), some .null, some (.int _), none]) rfl ?_
  have LP5 : ∀ (m d : Nat) (yo : Option Nat), n < m + d → d ≤ n → yo = yng F D w d → WR K G (AH h0 sz) (QM K G h0 sz 0 0 (fun v h1 => v = some (va_rf ((yng F D w n).map (fun y => adr (30 + y)))) ∧ Wd G (adr, (n, P, F), Sm, mu, g) h1)) (Wd G (adr, (n, P, F), Sm, mu, g)) [some (.ref (adr 0)), some (.ref (adr (30 + w))), some (.int (mk D)), some (va_rf (yo.map (fun y => adr (30 + y)))), some (.int (nI d)), none] 0 0 5 [] := by
    intro m
    induction m with
    | zero => intro d yo h1 h2; exact absurd h1 (by omega)
    | succ m ih =>
      intro d yo h1 h2 hyo
      refine R_iload (pc := 5) C dX1_youngestDrawerOn_5 rfl ?_
      refine R_aload_n (pc := 7) C dX1_youngestDrawerOn_7 rfl ?_
      refine R_getf (pc := 8) C dX1_youngestDrawerOn_8 (i := 0) (wc0) rfl inlX1 (by decide) k_1_13 rfl ?_
      refine R_callVN (pc := 11) C dX1_youngestDrawerOn_11 (vs := []) (fun h hh => mJx4a65c_size_8abf5 hl h hh) (isOb_of (wc1) rfl) ⟨k_3_18, k_3_19, k_3_20, k_1_12, k_3_21⟩ (sgn (nv := 0) rfl ⟨by decide +kernel, by decide +kernel, by decide +kernel⟩) ⟨⟨Nat.le_of_ble_eq_true rfl, Nat.le_of_ble_eq_true rfl⟩, ⟨Nat.le_of_ble_eq_true rfl, Nat.le_of_ble_eq_true rfl⟩, Nat.le_of_ble_eq_true rfl⟩ rfl rfl (fun h9 hh9 v9 => ?_)
      refine WR.pr (fun e9 => ?_)
      subst e9
      show WR K G _ _ _ _ _ _ _ (.int _ :: _)
      refine R_icmp_ge (pc := 14) C dX1_youngestDrawerOn_14 (tgt := 88) (by decide) (fun c14 => ?_) (fun c14 => ?_)
      · have ed : n = d := Nat.le_antisymm (le_nI (by omega) (by omega) c14) h2
        subst ed
        rcases yo with _ | y
        · refine R_aload_nN (pc := 88) C dX1_youngestDrawerOn_88 rfl ?_
          exact R_aret (pc := 89) C dX1_youngestDrawerOn_89 rfl (Or.inl ⟨_, rfl⟩) (Or.inl rfl) (Nat.le_of_ble_eq_true rfl) (Nat.le_of_ble_eq_true rfl) (fun h hh => ⟨by rw [← hyo]; rfl, hh⟩)
        · refine R_aload_n (pc := 88) C dX1_youngestDrawerOn_88 rfl ?_
          exact R_aret (pc := 89) C dX1_youngestDrawerOn_89 rfl (Or.inl ⟨_, rfl⟩) (Or.inr ⟨_, rfl⟩) (Nat.le_of_ble_eq_true rfl) (Nat.le_of_ble_eq_true rfl) (fun h hh => ⟨by rw [← hyo]; rfl, hh⟩)
      · have hd : d < n := gt_nI (by omega) (by omega) c14
        refine R_aload_n (pc := 17) C dX1_youngestDrawerOn_17 rfl ?_
        refine R_getf (pc := 18) C dX1_youngestDrawerOn_18 (i := 0) (wc0) rfl inlX1 (by decide) k_1_13 rfl ?_
        refine R_iload (pc := 21) C dX1_youngestDrawerOn_21 rfl ?_
        refine R_callVN (pc := 23) C dX1_youngestDrawerOn_23 (vs := [_]) (fun h hh => mJx4a65c_get_915e3 hl hd hn h hh) (isOb_of (wc1) rfl) ⟨k_17_2, k_17_3, k_17_4, k_1_12, k_17_5⟩ (sgn (nv := 1) rfl ⟨by decide +kernel, by decide +kernel, by decide +kernel⟩) ⟨⟨Nat.le_of_ble_eq_true rfl, Nat.le_of_ble_eq_true rfl⟩, ⟨Nat.le_of_ble_eq_true rfl, Nat.le_of_ble_eq_true rfl⟩, Nat.le_of_ble_eq_true rfl⟩ rfl rfl (fun h9 hh9 v9 => ?_)
        refine WR.pr (fun e9 => ?_)
        subst e9
        show WR K G _ _ _ _ _ _ _ (.ref _ :: _)
        refine R_cast (pc := 26) C dX1_youngestDrawerOn_26 (wcw hd hn) rfl k_3_5 ?_
        refine R_astore (pc := 29) C dX1_youngestDrawerOn_29 (Nat.le_of_ble_eq_true rfl) (lv' := [some (.ref _), some (.ref _), some (.int _), some _, some (.int _), some (.ref _)]) rfl ?_
        refine R_aload_n (pc := 31) C dX1_youngestDrawerOn_31 rfl ?_
        refine R_aload (pc := 32) C dX1_youngestDrawerOn_32 rfl ?_
        refine R_callVN (pc := 34) C dX1_youngestDrawerOn_34 (vs := [_]) (fun h hh => mX0_isOlderThan hl hw hd hn h hh) (isOb_of (wcw hw hn) rfl) ⟨k_20_22, k_20_23, k_21_0, k_3_7, k_21_1⟩ (sgn (nv := 1) rfl ⟨by decide +kernel, by decide +kernel, by decide +kernel⟩) ⟨⟨Nat.le_of_ble_eq_true rfl, Nat.le_of_ble_eq_true rfl⟩, ⟨Nat.le_of_ble_eq_true rfl, Nat.le_of_ble_eq_true rfl⟩, Nat.le_of_ble_eq_true rfl⟩ rfl rfl (fun h9 hh9 v9 => ?_)
        refine WR.pr (fun e9 => ?_)
        subst e9
        show WR K G _ _ _ _ _ _ _ (.int _ :: _)
        refine R_if_eq (pc := 37) C dX1_youngestDrawerOn_37 (tgt := 82) (by decide) (fun c37 => ?_) (fun c37 => ?_)
        · refine R_iinc (pc := 82) C dX1_youngestDrawerOn_82 rfl (inc1) (lv' := [some (.ref _), some (.ref _), some (.int _), some _, some (.int _), some (.ref _)]) rfl ?_
          refine R_goto (pc := 85) C dX1_youngestDrawerOn_85 (tgt := 5) (by decide) ?_
          refine WR.ls (lv' := [some (.ref _), some (.ref _), some (.int _), some _, some (.int _), none]) (ls_s (ls_s (ls_s (ls_s (ls_s (ls_n ls_e)))))) ?_
          exact ih (d + 1) yo (by omega) (by omega) (by rw [yng, ← hyo]; exact (yS_skip (fun q => if01 c37 q.1)).symm)
        · refine R_aload (pc := 40) C dX1_youngestDrawerOn_40 rfl ?_
          refine R_iload_n (pc := 42) C dX1_youngestDrawerOn_42 rfl ?_
          refine R_callVN (pc := 43) C dX1_youngestDrawerOn_43 (vs := [_]) (fun h hh => mX0_drawUnder hl hd hn h hh) (isOb_of (wcw hd hn) rfl) ⟨k_20_9, k_20_10, k_20_11, k_3_7, k_20_12⟩ (sgn (nv := 1) rfl ⟨by decide +kernel, by decide +kernel, by decide +kernel⟩) ⟨⟨Nat.le_of_ble_eq_true rfl, Nat.le_of_ble_eq_true rfl⟩, ⟨Nat.le_of_ble_eq_true rfl, Nat.le_of_ble_eq_true rfl⟩, Nat.le_of_ble_eq_true rfl⟩ rfl rfl (fun h9 hh9 v9 => ?_)
          refine WR.pr (fun e9 => ?_)
          subst e9
          show WR K G _ _ _ _ _ _ _ (.int _ :: _)
          refine R_if_le (pc := 46) C dX1_youngestDrawerOn_46 (tgt := 82) (by decide) (fun c46 => ?_) (fun c46 => ?_)
          · refine R_iinc (pc := 82) C dX1_youngestDrawerOn_82 rfl (inc1) (lv' := [some (.ref _), some (.ref _), some (.int _), some _, some (.int _), some (.ref _)]) rfl ?_
            refine R_goto (pc := 85) C dX1_youngestDrawerOn_85 (tgt := 5) (by decide) ?_
            refine WR.ls (lv' := [some (.ref _), some (.ref _), some (.int _), some _, some (.int _), none]) (ls_s (ls_s (ls_s (ls_s (ls_s (ls_n ls_e)))))) ?_
            exact ih (d + 1) yo (by omega) (by omega) (by rw [yng, ← hyo]; exact (yS_skip (fun q => absurd q.2.1 (by rw [← drw_m (show d < 8 by omega)]; exact Int32.not_lt.mpr c46))).symm)
          · refine R_aload_n (pc := 49) C dX1_youngestDrawerOn_49 rfl ?_
            refine R_aload (pc := 50) C dX1_youngestDrawerOn_50 rfl ?_
            refine R_getf (pc := 52) C dX1_youngestDrawerOn_52 (i := 1) (wcw hd hn) rfl inlX0 (by decide) k_19_20 rfl ?_
            refine R_aload (pc := 55) C dX1_youngestDrawerOn_55 rfl ?_
            refine R_getf (pc := 57) C dX1_youngestDrawerOn_57 (i := 2) (wcw hd hn) rfl inlX0 (by decide) k_19_21 rfl ?_
            refine R_callVN (pc := 60) C dX1_youngestDrawerOn_60 (vs := [_, _]) (fun h hh => mX0_reachedFrom hl hw hn h hh) (isOb_of (wcw hw hn) rfl) ⟨k_19_22, k_19_23, k_20_0, k_3_7, k_20_1⟩ (sgn (nv := 2) rfl ⟨by decide +kernel, by decide +kernel, by decide +kernel⟩) ⟨⟨Nat.le_of_ble_eq_true rfl, Nat.le_of_ble_eq_true rfl⟩, ⟨Nat.le_of_ble_eq_true rfl, Nat.le_of_ble_eq_true rfl⟩, Nat.le_of_ble_eq_true rfl⟩ rfl rfl (fun h9 hh9 v9 => ?_)
            refine WR.pr (fun e9 => ?_)
            subst e9
            show WR K G _ _ _ _ _ _ _ (.int _ :: _)
            refine R_if_le (pc := 63) C dX1_youngestDrawerOn_63 (tgt := 82) (by decide) (fun c63 => ?_) (fun c63 => ?_)
            · refine R_iinc (pc := 82) C dX1_youngestDrawerOn_82 rfl (inc1) (lv' := [some (.ref _), some (.ref _), some (.int _), some _, some (.int _), some (.ref _)]) rfl ?_
              refine R_goto (pc := 85) C dX1_youngestDrawerOn_85 (tgt := 5) (by decide) ?_
              refine WR.ls (lv' := [some (.ref _), some (.ref _), some (.int _), some _, some (.int _), none]) (ls_s (ls_s (ls_s (ls_s (ls_s (ls_n ls_e)))))) ?_
              exact ih (d + 1) yo (by omega) (by omega) (by rw [yng, ← hyo]; exact (yS_skip (fun q => absurd q.2.2 (Int32.not_lt.mpr c63))).symm)
            · rcases yo with _ | y
              · refine R_aload_nN (pc := 66) C dX1_youngestDrawerOn_66 rfl ?_
                refine R_ifnullN (pc := 67) C dX1_youngestDrawerOn_67 (tgt := 79) (by decide) ?_
                refine R_aload (pc := 79) C dX1_youngestDrawerOn_79 rfl ?_
                refine R_astore_n (pc := 81) C dX1_youngestDrawerOn_81 (Nat.le_of_ble_eq_true rfl) (lv' := [some (.ref _), some (.ref _), some (.int _), some (.ref _), some (.int _), some (.ref _)]) rfl ?_
                refine R_iinc (pc := 82) C dX1_youngestDrawerOn_82 rfl (inc1) (lv' := [some (.ref _), some (.ref _), some (.int _), some (.ref _), some (.int _), some (.ref _)]) rfl ?_
                refine R_goto (pc := 85) C dX1_youngestDrawerOn_85 (tgt := 5) (by decide) ?_
                refine WR.ls (lv' := [some (.ref _), some (.ref _), some (.int _), some _, some (.int _), none]) (ls_s (ls_s (ls_s (ls_s (ls_s (ls_n ls_e)))))) ?_
                exact ih (d + 1) (some d) (by omega) (by omega) (by rw [yng, ← hyo]; exact (yS_none ⟨if01' c37, by rw [← drw_m (show d < 8 by omega)]; exact Int32.not_le.mp c46, Int32.not_le.mp c63⟩).symm)
              · have hy : y < n := by have := (yng_lt hyo.symm).1; omega
                refine R_aload_n (pc := 66) C dX1_youngestDrawerOn_66 rfl ?_
                refine R_ifnull (pc := 67) C dX1_youngestDrawerOn_67 ?_
                refine R_aload_n (pc := 70) C dX1_youngestDrawerOn_70 rfl ?_
                refine R_aload (pc := 71) C dX1_youngestDrawerOn_71 rfl ?_
                refine R_callVN (pc := 73) C dX1_youngestDrawerOn_73 (vs := [_]) (fun h hh => mX0_isOlderThan hl hy hd hn h hh) (isOb_of (wcw hy hn) rfl) ⟨k_20_22, k_20_23, k_21_0, k_3_7, k_21_1⟩ (sgn (nv := 1) rfl ⟨by decide +kernel, by decide +kernel, by decide +kernel⟩) ⟨⟨Nat.le_of_ble_eq_true rfl, Nat.le_of_ble_eq_true rfl⟩, ⟨Nat.le_of_ble_eq_true rfl, Nat.le_of_ble_eq_true rfl⟩, Nat.le_of_ble_eq_true rfl⟩ rfl rfl (fun h9 hh9 v9 => ?_)
                refine WR.pr (fun e9 => ?_)
                subst e9
                show WR K G _ _ _ _ _ _ _ (.int _ :: _)
                refine R_if_eq (pc := 76) C dX1_youngestDrawerOn_76 (tgt := 82) (by decide) (fun c76 => ?_) (fun c76 => ?_)
                · refine R_iinc (pc := 82) C dX1_youngestDrawerOn_82 rfl (inc1) (lv' := [some (.ref _), some (.ref _), some (.int _), some (.ref _), some (.int _), some (.ref _)]) rfl ?_
                  refine R_goto (pc := 85) C dX1_youngestDrawerOn_85 (tgt := 5) (by decide) ?_
                  refine WR.ls (lv' := [some (.ref _), some (.ref _), some (.int _), some _, some (.int _), none]) (ls_s (ls_s (ls_s (ls_s (ls_s (ls_n ls_e)))))) ?_
                  exact ih (d + 1) (some y) (by omega) (by omega) (by rw [yng, ← hyo]; exact (yS_keep ⟨if01' c37, by rw [← drw_m (show d < 8 by omega)]; exact Int32.not_le.mp c46, Int32.not_le.mp c63⟩ (if01 c76)).symm)
                · refine R_aload (pc := 79) C dX1_youngestDrawerOn_79 rfl ?_
                  refine R_astore_n (pc := 81) C dX1_youngestDrawerOn_81 (Nat.le_of_ble_eq_true rfl) (lv' := [some (.ref _), some (.ref _), some (.int _), some (.ref _), some (.int _), some (.ref _)]) rfl ?_
                  refine R_iinc (pc := 82) C dX1_youngestDrawerOn_82 rfl (inc1) (lv' := [some (.ref _), some (.ref _), some (.int _), some (.ref _), some (.int _), some (.ref _)]) rfl ?_
                  refine R_goto (pc := 85) C dX1_youngestDrawerOn_85 (tgt := 5) (by decide) ?_
                  refine WR.ls (lv' := [some (.ref _), some (.ref _), some (.int _), some _, some (.int _), none]) (ls_s (ls_s (ls_s (ls_s (ls_s (ls_n ls_e)))))) ?_
                  exact ih (d + 1) (some d) (by omega) (by omega) (by rw [yng, ← hyo]; exact (yS_take ⟨if01' c37, by rw [← drw_m (show d < 8 by omega)]; exact Int32.not_le.mp c46, Int32.not_le.mp c63⟩ (if01' c76)).symm)
  exact LP5 (n + 1) 0 none (by omega) (by omega) rfl
set_option maxHeartbeats 4000000 in
set_option maxRecDepth 100000 in
theorem mX1_nextToStop (hl : l.stackTraces = false) {D : Nat → Bool} (hn : n ≤ 8) (hP : P ≤ 5) (hlay : ∀ i, i < n → ∃ a, a < 3 ∧ F 0 i = nI a) : ∀ h, Wd G (adr, (n, P, F), Sm, mu, g) h → CN l yX1_nextToStop cX1_nextToStop 7 (some (.object "WellRights$Well")) 5 0 0 [.ref (adr 0), .int (mk D)] G h (fun v h1 => v = some (va_rf ((spNx n P F D).map (fun y => adr (30 + y)))) ∧ Wd G (adr, (n, P, F), Sm, mu, g) h1) := by
  intro h0 hwd
  refine CN.of hl (by decide +kernel) rfl (Nat.le_of_ble_eq_true rfl) (fun K sz hKl hin C => ?_)
  have C : CX K G (AH h0 sz) RX1 cX1_nextToStop 7 (some (.object "WellRights$Well")) (rmD 5 0 0) [] := C
  subst hKl
  refine WR.imp (P' := Wd G (adr, (n, P, F), Sm, mu, g)) (fun h e => e ▸ hwd) ?_
  show WR K G _ _ _ [some (.ref (adr 0)), some (.int (mk D)), none, none, none, none, none] 0 0 0 []
  refine R_null (pc := 0) C dX1_nextToStop_0 ?_
  refine R_astore_nN (pc := 1) C dX1_nextToStop_1 (Nat.le_of_ble_eq_true rfl) (lv' := [some (.ref _), some (.int _), some .null, none, none, none, none]) rfl ?_
  refine R_null (pc := 2) C dX1_nextToStop_2 ?_
  refine R_astore_nN (pc := 3) C dX1_nextToStop_3 (Nat.le_of_ble_eq_true rfl) (lv' := [some (.ref _), some (.int _), some .null, some .null, none, none, none]) rfl ?_
  refine R_iconst (pc := 4) C dX1_nextToStop_4 (v := 0) (by decide) ?_
  refine R_istore (pc := 5) C dX1_nextToStop_5 (Nat.le_of_ble_eq_true rfl) (lv' := [some (.ref _), some (.int _), some .null, some .null, some (.int _), none, none]) rfl ?_
  have LP7 : ∀ (m i : Nat) (z : Option (Nat × Nat)), n < m + i → i ≤ n → z = oN n P F D i → WR K G (AH h0 sz) (QM K G h0 sz 0 0 (fun v h1 => v = some (va_rf ((spNx n P F D).map (fun y => adr (30 + y)))) ∧ Wd G (adr, (n, P, F), Sm, mu, g) h1)) (Wd G (adr, (n, P, F), Sm, mu, g)) [some (.ref (adr 0)), some (.int (mk D)), some (va_rf (z.map (fun z => adr (30 + z.1)))), some (va_rf (z.map (fun z => adr (30 + z.2)))), some (.int (nI i)), none, none] 0 0 7 [] := by
    intro m
    induction m with
    | zero => intro i z h1 h2; exact absurd h1 (by omega)
    | succ m ih =>
      intro i z h1 h2 hz
      refine R_iload (pc := 7) C dX1_nextToStop_7 rfl ?_
      refine R_aload_n (pc := 9) C dX1_nextToStop_9 rfl ?_
      refine R_getf (pc := 10) C dX1_nextToStop_10 (i := 0) (wc0) rfl inlX1 (by decide) k_1_13 rfl ?_
      refine R_callVN (pc := 13) C dX1_nextToStop_13 (vs := []) (fun h hh => mJx4a65c_size_8abf5 hl h hh) (isOb_of (wc1) rfl) ⟨k_3_18, k_3_19, k_3_20, k_1_12, k_3_21⟩ (sgn (nv := 0) rfl ⟨by decide +kernel, by decide +kernel, by decide +kernel⟩) ⟨⟨Nat.le_of_ble_eq_true rfl, Nat.le_of_ble_eq_true rfl⟩, ⟨Nat.le_of_ble_eq_true rfl, Nat.le_of_ble_eq_true rfl⟩, Nat.le_of_ble_eq_true rfl⟩ rfl rfl (fun h9 hh9 v9 => ?_)
      refine WR.pr (fun e9 => ?_)
      subst e9
      show WR K G _ _ _ _ _ _ _ (.int _ :: _)
      refine R_icmp_ge (pc := 16) C dX1_nextToStop_16 (tgt := 87) (by decide) (fun c16 => ?_) (fun c16 => ?_)
      · have ei : n = i := Nat.le_antisymm (le_nI (by omega) (by omega) c16) h2
        subst ei
        rcases z with _ | ⟨o, y0⟩
        · refine R_aload_nN (pc := 87) C dX1_nextToStop_87 rfl ?_
          exact R_aret (pc := 88) C dX1_nextToStop_88 rfl (Or.inl ⟨_, rfl⟩) (Or.inl rfl) (Nat.le_of_ble_eq_true rfl) (Nat.le_of_ble_eq_true rfl) (fun h hh => ⟨by unfold spNx; rw [← hz]; rfl, hh⟩)
        · refine R_aload_n (pc := 87) C dX1_nextToStop_87 rfl ?_
          exact R_aret (pc := 88) C dX1_nextToStop_88 rfl (Or.inl ⟨_, rfl⟩) (Or.inr ⟨_, rfl⟩) (Nat.le_of_ble_eq_true rfl) (Nat.le_of_ble_eq_true rfl) (fun h hh => ⟨by unfold spNx; rw [← hz]; rfl, hh⟩)
      · have hi : i < n := gt_nI (by omega) (by omega) c16
        refine R_aload_n (pc := 19) C dX1_nextToStop_19 rfl ?_
        refine R_getf (pc := 20) C dX1_nextToStop_20 (i := 0) (wc0) rfl inlX1 (by decide) k_1_13 rfl ?_
        refine R_iload (pc := 23) C dX1_nextToStop_23 rfl ?_
        refine R_callVN (pc := 25) C dX1_nextToStop_25 (vs := [_]) (fun h hh => mJx4a65c_get_915e3 hl hi hn h hh) (isOb_of (wc1) rfl) ⟨k_17_2, k_17_3, k_17_4, k_1_12, k_17_5⟩ (sgn (nv := 1) rfl ⟨by decide +kernel, by decide +kernel, by decide +kernel⟩) ⟨⟨Nat.le_of_ble_eq_true rfl, Nat.le_of_ble_eq_true rfl⟩, ⟨Nat.le_of_ble_eq_true rfl, Nat.le_of_ble_eq_true rfl⟩, Nat.le_of_ble_eq_true rfl⟩ rfl rfl (fun h9 hh9 v9 => ?_)
        refine WR.pr (fun e9 => ?_)
        subst e9
        show WR K G _ _ _ _ _ _ _ (.ref _ :: _)
        refine R_cast (pc := 28) C dX1_nextToStop_28 (wcw hi hn) rfl k_3_5 ?_
        refine R_astore (pc := 31) C dX1_nextToStop_31 (Nat.le_of_ble_eq_true rfl) (lv' := [some (.ref _), some (.int _), some _, some _, some (.int _), some (.ref _), none]) rfl ?_
        refine R_aload_n (pc := 33) C dX1_nextToStop_33 rfl ?_
        refine R_aload (pc := 34) C dX1_nextToStop_34 rfl ?_
        refine R_iload_n (pc := 36) C dX1_nextToStop_36 rfl ?_
        refine R_callVN (pc := 37) C dX1_nextToStop_37 (vs := [_, _]) (fun h hh => mX1_levelBehind hl hi hn hP (hlay i hi) h hh) (isOb_of (wc0) rfl) ⟨k_19_15, k_19_16, k_19_17, k_1_2, k_19_18⟩ (sgn (nv := 2) rfl ⟨by decide +kernel, by decide +kernel, by decide +kernel⟩) ⟨⟨Nat.le_of_ble_eq_true rfl, Nat.le_of_ble_eq_true rfl⟩, ⟨Nat.le_of_ble_eq_true rfl, Nat.le_of_ble_eq_true rfl⟩, Nat.le_of_ble_eq_true rfl⟩ rfl rfl (fun h9 hh9 v9 => ?_)
        refine WR.pr (fun e9 => ?_)
        subst e9
        show WR K G _ _ _ _ _ _ _ (.int _ :: _)
        refine R_aload (pc := 40) C dX1_nextToStop_40 rfl ?_
        refine R_getf (pc := 42) C dX1_nextToStop_42 (i := 3) (wcw hi hn) rfl inlX0 (by decide) k_19_14 rfl ?_
        refine R_icmp_ge (pc := 45) C dX1_nextToStop_45 (tgt := 81) (by decide) (fun c45 => ?_) (fun c45 => ?_)
        · refine R_iinc (pc := 81) C dX1_nextToStop_81 rfl (inc1) (lv' := [some (.ref _), some (.int _), some _, some _, some (.int _), some (.ref _), none]) rfl ?_
          refine R_goto (pc := 84) C dX1_nextToStop_84 (tgt := 7) (by decide) ?_
          refine WR.ls (lv' := [some (.ref _), some (.int _), some _, some _, some (.int _), none, none]) (ls_s (ls_s (ls_s (ls_s (ls_s (ls_n (ls_n ls_e))))))) ?_
          exact ih (i + 1) z (by omega) (by omega) (by rw [oN, ← hz]; exact (if_neg (Int32.not_lt.mpr c45)).symm)
        · rcases z with _ | ⟨o, y0⟩
          · refine R_aload_nN (pc := 48) C dX1_nextToStop_48 rfl ?_
            refine R_ifnullN (pc := 49) C dX1_nextToStop_49 (tgt := 61) (by decide) ?_
            refine R_aload_n (pc := 61) C dX1_nextToStop_61 rfl ?_
            refine R_aload (pc := 62) C dX1_nextToStop_62 rfl ?_
            refine R_iload_n (pc := 64) C dX1_nextToStop_64 rfl ?_
            refine R_callVN (pc := 65) C dX1_nextToStop_65 (vs := [_, _]) (fun h hh => mX1_youngestDrawerOn hl hi hn h hh) (isOb_of (wc0) rfl) ⟨k_21_2, k_21_3, k_21_4, k_1_2, k_21_5⟩ (sgn (nv := 2) rfl ⟨by decide +kernel, by decide +kernel, by decide +kernel⟩) ⟨⟨Nat.le_of_ble_eq_true rfl, Nat.le_of_ble_eq_true rfl⟩, ⟨Nat.le_of_ble_eq_true rfl, Nat.le_of_ble_eq_true rfl⟩, Nat.le_of_ble_eq_true rfl⟩ rfl rfl (fun h9 hh9 v9 => ?_)
            refine WR.pr (fun e9 => ?_)
            subst e9
            show WR K G _ _ _ _ _ _ _ (va_rf _ :: _)
            cases hyy : yng F D i n with
            | none =>
              refine R_astoreN (pc := 68) C dX1_nextToStop_68 (Nat.le_of_ble_eq_true rfl) (lv' := [some (.ref _), some (.int _), some .null, some _, some (.int _), some (.ref _), some .null]) rfl ?_
              refine R_aloadN (pc := 70) C dX1_nextToStop_70 rfl ?_
              refine R_ifnullN (pc := 72) C dX1_nextToStop_72 (tgt := 81) (by decide) ?_
              refine R_iinc (pc := 81) C dX1_nextToStop_81 rfl (inc1) (lv' := [some (.ref _), some (.int _), some .null, some _, some (.int _), some (.ref _), some .null]) rfl ?_
              refine R_goto (pc := 84) C dX1_nextToStop_84 (tgt := 7) (by decide) ?_
              refine WR.ls (lv' := [some (.ref _), some (.int _), some _, some _, some (.int _), none, none]) (ls_s (ls_s (ls_s (ls_s (ls_s (ls_n (ls_n ls_e))))))) ?_
              exact ih (i + 1) none (by omega) (by omega) (by rw [oN, ← hz]; exact ((if_pos (Int32.not_le.mp c45)).trans (by rw [hyy]; rfl)).symm)
            | some y =>
              have hy : y < n := (yng_lt hyy).1
              refine R_astore (pc := 68) C dX1_nextToStop_68 (Nat.le_of_ble_eq_true rfl) (lv' := [some (.ref _), some (.int _), some .null, some _, some (.int _), some (.ref _), some (.ref _)]) rfl ?_
              refine R_aload (pc := 70) C dX1_nextToStop_70 rfl ?_
              refine R_ifnull (pc := 72) C dX1_nextToStop_72 ?_
              refine R_aload (pc := 75) C dX1_nextToStop_75 rfl ?_
              refine R_astore_n (pc := 77) C dX1_nextToStop_77 (Nat.le_of_ble_eq_true rfl) (lv' := [some (.ref _), some (.int _), some (.ref _), some _, some (.int _), some (.ref _), some (.ref _)]) rfl ?_
              refine R_aload (pc := 78) C dX1_nextToStop_78 rfl ?_
              refine R_astore_n (pc := 80) C dX1_nextToStop_80 (Nat.le_of_ble_eq_true rfl) (lv' := [some (.ref _), some (.int _), some (.ref _), some (.ref _), some (.int _), some (.ref _), some (.ref _)]) rfl ?_
              refine R_iinc (pc := 81) C dX1_nextToStop_81 rfl (inc1) (lv' := [some (.ref _), some (.int _), some (.ref _), some (.ref _), some (.int _), some (.ref _), some (.ref _)]) rfl ?_
              refine R_goto (pc := 84) C dX1_nextToStop_84 (tgt := 7) (by decide) ?_
              refine WR.ls (lv' := [some (.ref _), some (.int _), some _, some _, some (.int _), none, none]) (ls_s (ls_s (ls_s (ls_s (ls_s (ls_n (ls_n ls_e))))))) ?_
              exact ih (i + 1) (some (i, y)) (by omega) (by omega) (by rw [oN, ← hz]; exact ((if_pos (Int32.not_le.mp c45)).trans (by rw [hyy]; rfl)).symm)
          · have ho : o < n := by have := (oN_y hz.symm).1; omega
            refine R_aload_n (pc := 48) C dX1_nextToStop_48 rfl ?_
            refine R_ifnull (pc := 49) C dX1_nextToStop_49 ?_
            refine R_aload (pc := 52) C dX1_nextToStop_52 rfl ?_
            refine R_aload_n (pc := 54) C dX1_nextToStop_54 rfl ?_
            refine R_callVN (pc := 55) C dX1_nextToStop_55 (vs := [_]) (fun h hh => mX0_isOlderThan hl hi ho hn h hh) (isOb_of (wcw hi hn) rfl) ⟨k_20_22, k_20_23, k_21_0, k_3_7, k_21_1⟩ (sgn (nv := 1) rfl ⟨by decide +kernel, by decide +kernel, by decide +kernel⟩) ⟨⟨Nat.le_of_ble_eq_true rfl, Nat.le_of_ble_eq_true rfl⟩, ⟨Nat.le_of_ble_eq_true rfl, Nat.le_of_ble_eq_true rfl⟩, Nat.le_of_ble_eq_true rfl⟩ rfl rfl (fun h9 hh9 v9 => ?_)
            refine WR.pr (fun e9 => ?_)
            subst e9
            show WR K G _ _ _ _ _ _ _ (.int _ :: _)
            refine R_if_eq (pc := 58) C dX1_nextToStop_58 (tgt := 81) (by decide) (fun c58 => ?_) (fun c58 => ?_)
            · refine R_iinc (pc := 81) C dX1_nextToStop_81 rfl (inc1) (lv' := [some (.ref _), some (.int _), some (.ref _), some _, some (.int _), some (.ref _), none]) rfl ?_
              refine R_goto (pc := 84) C dX1_nextToStop_84 (tgt := 7) (by decide) ?_
              refine WR.ls (lv' := [some (.ref _), some (.int _), some _, some _, some (.int _), none, none]) (ls_s (ls_s (ls_s (ls_s (ls_s (ls_n (ls_n ls_e))))))) ?_
              exact ih (i + 1) (some (o, y0)) (by omega) (by omega) (by rw [oN, ← hz]; exact ((if_pos (Int32.not_le.mp c45)).trans (if_neg (if01 c58))).symm)
            · refine R_aload_n (pc := 61) C dX1_nextToStop_61 rfl ?_
              refine R_aload (pc := 62) C dX1_nextToStop_62 rfl ?_
              refine R_iload_n (pc := 64) C dX1_nextToStop_64 rfl ?_
              refine R_callVN (pc := 65) C dX1_nextToStop_65 (vs := [_, _]) (fun h hh => mX1_youngestDrawerOn hl hi hn h hh) (isOb_of (wc0) rfl) ⟨k_21_2, k_21_3, k_21_4, k_1_2, k_21_5⟩ (sgn (nv := 2) rfl ⟨by decide +kernel, by decide +kernel, by decide +kernel⟩) ⟨⟨Nat.le_of_ble_eq_true rfl, Nat.le_of_ble_eq_true rfl⟩, ⟨Nat.le_of_ble_eq_true rfl, Nat.le_of_ble_eq_true rfl⟩, Nat.le_of_ble_eq_true rfl⟩ rfl rfl (fun h9 hh9 v9 => ?_)
              refine WR.pr (fun e9 => ?_)
              subst e9
              show WR K G _ _ _ _ _ _ _ (va_rf _ :: _)
              cases hyy : yng F D i n with
              | none =>
                refine R_astoreN (pc := 68) C dX1_nextToStop_68 (Nat.le_of_ble_eq_true rfl) (lv' := [some (.ref _), some (.int _), some (.ref _), some _, some (.int _), some (.ref _), some .null]) rfl ?_
                refine R_aloadN (pc := 70) C dX1_nextToStop_70 rfl ?_
                refine R_ifnullN (pc := 72) C dX1_nextToStop_72 (tgt := 81) (by decide) ?_
                refine R_iinc (pc := 81) C dX1_nextToStop_81 rfl (inc1) (lv' := [some (.ref _), some (.int _), some (.ref _), some _, some (.int _), some (.ref _), some .null]) rfl ?_
                refine R_goto (pc := 84) C dX1_nextToStop_84 (tgt := 7) (by decide) ?_
                refine WR.ls (lv' := [some (.ref _), some (.int _), some _, some _, some (.int _), none, none]) (ls_s (ls_s (ls_s (ls_s (ls_s (ls_n (ls_n ls_e))))))) ?_
                exact ih (i + 1) (some (o, y0)) (by omega) (by omega) (by rw [oN, ← hz]; exact ((if_pos (Int32.not_le.mp c45)).trans ((if_pos (if01' c58)).trans (by rw [hyy]))).symm)
              | some y =>
                have hy : y < n := (yng_lt hyy).1
                refine R_astore (pc := 68) C dX1_nextToStop_68 (Nat.le_of_ble_eq_true rfl) (lv' := [some (.ref _), some (.int _), some (.ref _), some _, some (.int _), some (.ref _), some (.ref _)]) rfl ?_
                refine R_aload (pc := 70) C dX1_nextToStop_70 rfl ?_
                refine R_ifnull (pc := 72) C dX1_nextToStop_72 ?_
                refine R_aload (pc := 75) C dX1_nextToStop_75 rfl ?_
                refine R_astore_n (pc := 77) C dX1_nextToStop_77 (Nat.le_of_ble_eq_true rfl) (lv' := [some (.ref _), some (.int _), some (.ref _), some _, some (.int _), some (.ref _), some (.ref _)]) rfl ?_
                refine R_aload (pc := 78) C dX1_nextToStop_78 rfl ?_
                refine R_astore_n (pc := 80) C dX1_nextToStop_80 (Nat.le_of_ble_eq_true rfl) (lv' := [some (.ref _), some (.int _), some (.ref _), some (.ref _), some (.int _), some (.ref _), some (.ref _)]) rfl ?_
                refine R_iinc (pc := 81) C dX1_nextToStop_81 rfl (inc1) (lv' := [some (.ref _), some (.int _), some (.ref _), some (.ref _), some (.int _), some (.ref _), some (.ref _)]) rfl ?_
                refine R_goto (pc := 84) C dX1_nextToStop_84 (tgt := 7) (by decide) ?_
                refine WR.ls (lv' := [some (.ref _), some (.int _), some _, some _, some (.int _), none, none]) (ls_s (ls_s (ls_s (ls_s (ls_s (ls_n (ls_n ls_e))))))) ?_
                exact ih (i + 1) (some (i, y)) (by omega) (by omega) (by rw [oN, ← hz]; exact ((if_pos (Int32.not_le.mp c45)).trans ((if_pos (if01' c58)).trans (by rw [hyy]))).symm)
  exact LP7 (n + 1) 0 none (by omega) (by omega) rfl
set_option maxHeartbeats 4000000 in
set_option maxRecDepth 100000 in
theorem mX1_whoIsStopped (hl : l.stackTraces = false)  (hn : n ≤ 8) (hP : P ≤ 5) (hlay : ∀ i, i < n → ∃ a, a < 3 ∧ F 0 i = nI a) : ∀ h, Wd G (adr, (n, P, F), Sm, mu, g) h → CN l yX1_whoIsStopped cX1_whoIsStopped 4 (some .int) 6 0 0 [.ref (adr 0)] G h (fun v h1 => v = some (.int (mk (spSt n P F))) ∧ Wd G (adr, (n, P, F), Sm, mu, g) h1) := by
  intro h0 hwd
  refine CN.of hl (by decide +kernel) rfl (Nat.le_of_ble_eq_true rfl) (fun K sz hKl hin C => ?_)
  have C : CX K G (AH h0 sz) RX1 cX1_whoIsStopped 4 (some .int) (rmD 6 0 0) [] := C
  subst hKl
  refine WR.imp (P' := Wd G (adr, (n, P, F), Sm, mu, g)) (fun h e => e ▸ hwd) ?_
  show WR K G _ _ _ [some (.ref (adr 0)), none, none, none] 0 0 0 []
  refine R_iconst (pc := 0) C dX1_whoIsStopped_0 (v := 0) (by decide) ?_
  refine R_istore_n (pc := 1) C dX1_whoIsStopped_1 (Nat.le_of_ble_eq_true rfl) (lv' := [some (.ref _), some (.int _), none, none]) rfl ?_
  refine R_iconst (pc := 2) C dX1_whoIsStopped_2 (v := 0) (by decide) ?_
  refine R_istore_n (pc := 3) C dX1_whoIsStopped_3 (Nat.le_of_ble_eq_true rfl) (lv' := [some (.ref _), some (.int _), some (.int _), none]) rfl ?_
  have LP4 : ∀ (m r : Nat), 8 < m + r → r ≤ 8 → (∀ j, j < r → spNx n P F (Dn n P F j) ≠ none) → WR K G (AH h0 sz) (QM K G h0 sz 0 0 (fun v h1 => v = some (.int (mk (spSt n P F))) ∧ Wd G (adr, (n, P, F), Sm, mu, g) h1)) (Wd G (adr, (n, P, F), Sm, mu, g)) [some (.ref (adr 0)), some (.int (mk (Dn n P F r))), some (.int (nI r)), none] 0 0 4 [] := by
    intro m
    induction m with
    | zero => intro r  h1 h2; exact absurd h1 (by omega)
    | succ m ih =>
      intro r  h1 h2 hall
      refine R_iload_n (pc := 4) C dX1_whoIsStopped_4 rfl ?_
      refine R_bipush (pc := 5) C dX1_whoIsStopped_5 (v := 8) (by decide) ?_
      refine R_icmp_ge (pc := 7) C dX1_whoIsStopped_7 (tgt := 36) (by decide) (fun c7 => ?_) (fun c7 => ?_)
      · have er : 8 = r := Nat.le_antisymm (le_nI (by omega) (by omega) (show nI 8 ≤ nI r from c7)) h2
        subst er
        refine R_iload_n (pc := 36) C dX1_whoIsStopped_36 rfl ?_
        exact R_iret (pc := 37) C dX1_whoIsStopped_37 rfl (Nat.le_of_ble_eq_true rfl) (Nat.le_of_ble_eq_true rfl) (fun h hh => ⟨rfl, hh⟩)
      · have hr : r < 8 := gt_nI (by omega) (by omega) (show ¬ nI 8 ≤ nI r from c7)
        refine R_aload_n (pc := 10) C dX1_whoIsStopped_10 rfl ?_
        refine R_iload_n (pc := 11) C dX1_whoIsStopped_11 rfl ?_
        refine R_callVN (pc := 12) C dX1_whoIsStopped_12 (vs := [_]) (fun h hh => mX1_nextToStop hl hn hP hlay h hh) (isOb_of (wc0) rfl) ⟨k_19_10, k_19_11, k_19_12, k_1_2, k_19_13⟩ (sgn (nv := 1) rfl ⟨by decide +kernel, by decide +kernel, by decide +kernel⟩) ⟨⟨Nat.le_of_ble_eq_true rfl, Nat.le_of_ble_eq_true rfl⟩, ⟨Nat.le_of_ble_eq_true rfl, Nat.le_of_ble_eq_true rfl⟩, Nat.le_of_ble_eq_true rfl⟩ rfl rfl (fun h9 hh9 v9 => ?_)
        refine WR.pr (fun e9 => ?_)
        subst e9
        show WR K G _ _ _ _ _ _ _ (va_rf _ :: _)
        cases hyy : spNx n P F (Dn n P F r) with
        | none =>
          refine R_astore_nN (pc := 15) C dX1_whoIsStopped_15 (Nat.le_of_ble_eq_true rfl) (lv' := [some (.ref _), some (.int _), some (.int _), some .null]) rfl ?_
          refine R_aload_nN (pc := 16) C dX1_whoIsStopped_16 rfl ?_
          refine R_ifnonnullN (pc := 17) C dX1_whoIsStopped_17 ?_
          refine R_goto (pc := 20) C dX1_whoIsStopped_20 (tgt := 36) (by decide) ?_
          refine R_iload_n (pc := 36) C dX1_whoIsStopped_36 rfl ?_
          exact R_iret (pc := 37) C dX1_whoIsStopped_37 rfl (Nat.le_of_ble_eq_true rfl) (Nat.le_of_ble_eq_true rfl) (fun h hh => ⟨by rw [Dn_end hn hall hyy], hh⟩)
        | some y =>
          have hy : y < n := (spNx_y hyy).1
          refine R_astore_n (pc := 15) C dX1_whoIsStopped_15 (Nat.le_of_ble_eq_true rfl) (lv' := [some (.ref _), some (.int _), some (.int _), some (.ref _)]) rfl ?_
          refine R_aload_n (pc := 16) C dX1_whoIsStopped_16 rfl ?_
          refine R_ifnonnull (pc := 17) C dX1_whoIsStopped_17 (tgt := 23) (by decide) ?_
          refine R_iload_n (pc := 23) C dX1_whoIsStopped_23 rfl ?_
          refine R_aload_n (pc := 24) C dX1_whoIsStopped_24 rfl ?_
          refine R_callVN (pc := 25) C dX1_whoIsStopped_25 (vs := []) (fun h hh => mX0_bit hl hy hn h hh) (isOb_of (wcw hy hn) rfl) ⟨k_21_6, k_20_19, k_20_20, k_3_7, k_20_21⟩ (sgn (nv := 0) rfl ⟨by decide +kernel, by decide +kernel, by decide +kernel⟩) ⟨⟨Nat.le_of_ble_eq_true rfl, Nat.le_of_ble_eq_true rfl⟩, ⟨Nat.le_of_ble_eq_true rfl, Nat.le_of_ble_eq_true rfl⟩, Nat.le_of_ble_eq_true rfl⟩ rfl rfl (fun h9 hh9 v9 => ?_)
          refine WR.pr (fun e9 => ?_)
          subst e9
          show WR K G _ _ _ _ _ _ _ (.int _ :: _)
          refine R_ior (pc := 28) C dX1_whoIsStopped_28 ?_
          refine R_istore_n (pc := 29) C dX1_whoIsStopped_29 (Nat.le_of_ble_eq_true rfl) (lv' := [some (.ref _), some (.int _), some (.int _), some (.ref _)]) rfl ?_
          refine R_iinc (pc := 30) C dX1_whoIsStopped_30 rfl (inc1) (lv' := [some (.ref _), some (.int _), some (.int _), some (.ref _)]) rfl ?_
          refine R_goto (pc := 33) C dX1_whoIsStopped_33 (tgt := 4) (by decide) ?_
          rw [mk_or (show y < 8 by omega), ← Dn_go hyy]
          refine WR.ls (lv' := [some (.ref _), some (.int _), some (.int _), none]) (ls_s (ls_s (ls_s (ls_n ls_e)))) ?_
          exact ih (r + 1) (by omega) (by omega) (fun j hj => if e : j = r then by rw [e, hyy]; exact fun q => nomatch q else hall j (by omega))
  have e0 : mk (Dn n P F 0) = 0 := by show mk (fun _ => false) = 0; decide +kernel
  have LP0 := LP4 9 0 (by omega) (by omega) (fun j hj => absurd hj (Nat.not_lt_zero j))
  rw [e0] at LP0
  exact LP0
set_option maxHeartbeats 4000000 in
set_option maxRecDepth 100000 in
theorem mX1_wouldStop (hl : l.stackTraces = false)  (hn : n ≤ 8) (hP : P ≤ 5) (hlay : ∀ i, i < n → ∃ a, a < 3 ∧ F 0 i = nI a) : ∀ h, Wd G (adr, (n, P, F), Sm, mu, g) h → CN l yX1_wouldStop cX1_wouldStop 1 (some .int) 7 0 0 [.ref (adr 0)] G h (fun v h1 => v = some (.int (mk (spSt n P F))) ∧ Wd G (adr, (n, P, F), Sm, mu, g) h1) := by
  intro h0 hwd
  refine CN.of hl (by decide +kernel) rfl (Nat.le_of_ble_eq_true rfl) (fun K sz hKl hin C => ?_)
  have C : CX K G (AH h0 sz) RX1 cX1_wouldStop 1 (some .int) (rmD 7 0 0) [] := C
  subst hKl
  refine WR.imp (P' := Wd G (adr, (n, P, F), Sm, mu, g)) (fun h e => e ▸ hwd) ?_
  show WR K G _ _ _ [some (.ref (adr 0))] 0 0 0 []
  refine R_aload_n (pc := 0) C dX1_wouldStop_0 rfl ?_
  refine R_callVN (pc := 1) C dX1_wouldStop_1 (vs := []) (fun h hh => mX1_whoIsStopped hl hn hP hlay h hh) (isOb_of (wc0) rfl) ⟨k_19_6, k_19_7, k_19_8, k_1_2, k_19_9⟩ (sgn (nv := 0) rfl ⟨by decide +kernel, by decide +kernel, by decide +kernel⟩) ⟨⟨Nat.le_of_ble_eq_true rfl, Nat.le_of_ble_eq_true rfl⟩, ⟨Nat.le_of_ble_eq_true rfl, Nat.le_of_ble_eq_true rfl⟩, Nat.le_of_ble_eq_true rfl⟩ rfl rfl (fun h9 hh9 v9 => ?_)
  refine WR.pr (fun e9 => ?_)
  subst e9
  show WR K G _ _ _ _ _ _ _ (.int _ :: _)
  exact R_iret (pc := 4) C dX1_wouldStop_4 rfl (Nat.le_of_ble_eq_true rfl) (Nat.le_of_ble_eq_true rfl) (fun h hh => ⟨rfl, hh⟩)
end
