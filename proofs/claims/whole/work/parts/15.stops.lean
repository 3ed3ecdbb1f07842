/-! 15: who is stopped: levelBehind, youngestDrawerOn, nextToStop, whoIsStopped. Written by wip/whole/gen/m15.py -/
section
variable {l : Launch} {G : GT} {adr : Nat → Nat} {n P : Nat} {F mu : Nat → Nat → Int32} {g : Nat → Int64} {Sm : St}
theorem le_nI {a b : Nat} (ha : a < 100) (hb : b < 100) (h : nI a ≤ nI b) : a ≤ b := (nI_leI (by omega) (by omega)).mp h
theorem gt_nI {a b : Nat} (ha : a < 100) (hb : b < 100) (h : ¬ nI a ≤ nI b) : b < a := by
  by_cases c : b < a
  · exact c
  · exact absurd ((nI_leI (by omega) (by omega)).mpr (by omega : a ≤ b)) h
theorem if01 {c : Prop} [Decidable c] (h : (if c then (1 : Int32) else 0) = 0) : ¬ c := fun q => by rw [if_pos q] at h; exact absurd h (by decide)
theorem if01' {c : Prop} [Decidable c] (h : ¬ (if c then (1 : Int32) else 0) = 0) : c := by
  by_cases q : c
  · exact q
  · exact absurd (if_neg q) h
set_option maxHeartbeats 4000000 in
set_option maxRecDepth 100000 in
theorem mX1_levelBehind (hl : l.stackTraces = false) {w : Nat} {D : Nat → Bool} (hw : w < n) (hn : n ≤ 8) (hP : P ≤ 5) (hlay : ∃ a, a < 3 ∧ F 0 w = nI a) : ∀ h, Wd G (adr, (n, P, F), Sm, mu, g) h → CN l yX1_levelBehind cX1_levelBehind 6 (some .int) 4 0 0 [.ref (adr 0), .ref (adr (30 + w)), .int (mk D)] G h (fun v h1 => v = some (.int (bh n P F D w)) ∧ Wd G (adr, (n, P, F), Sm, mu, g) h1) := by
  intro h0 hwd
  refine CN.of hl (by decide +kernel) rfl (Nat.le_of_ble_eq_true rfl) (fun K sz hKl hin C => ?_)
  have C : CX K G (AH h0 sz) RX1 cX1_levelBehind 6 (some .int) (rmD 4 0 0) [] := C
  subst hKl
  refine WR.imp (P' := Wd G (adr, (n, P, F), Sm, mu, g)) (fun h e => e ▸ hwd) ?_
  show WR K G _ _ _ [some (.ref (adr 0)), some (.ref (adr (30 + w))), some (.int (mk D)), none, none, none] 0 0 0 []
  obtain ⟨a, ha, hla⟩ := hlay
  have hix : F 14 a = F 14 (ix (F 0 w)) := by rw [hla, ix_nI (by omega)]
  refine R_aload_n (pc := 0) C dX1_levelBehind_0 rfl ?_
  refine R_getf (pc := 1) C dX1_levelBehind_1 (i := 8) (wcw hw hn) rfl inlX0 (by decide) k_21_16 rfl ?_
  refine R_aload_n (pc := 4) C dX1_levelBehind_4 rfl ?_
  refine R_getf (pc := 5) C dX1_levelBehind_5 (i := 1) (wc0) rfl inlX1 (by decide) k_1_18 rfl ?_
  refine R_aload_n (pc := 8) C dX1_levelBehind_8 rfl ?_
  refine R_getf (pc := 9) C dX1_levelBehind_9 (i := 1) (wcw hw hn) rfl inlX0 (by decide) k_20_15 rfl ?_
  refine R_iald (pc := 12) C dX1_levelBehind_12 (wc3) (hla) (ha) (by decide) rfl ?_
  refine R_iadd (pc := 13) C dX1_levelBehind_13 ?_
  refine R_istore_n (pc := 14) C dX1_levelBehind_14 (Nat.le_of_ble_eq_true rfl) (lv' := [some (.ref _), some (.ref _), some (.int _), some (.int _), none, none]) rfl ?_
  refine R_iconst (pc := 15) C dX1_levelBehind_15 (v := 0) (by decide) ?_
  refine R_istore (pc := 16) C dX1_levelBehind_16 (Nat.le_of_ble_eq_true rfl) (lv' := [some (.ref _), some (.ref _), some (.int _), some (.int _), some (.int _), none]) rfl ?_
  have LP18 : ∀ (m q : Nat) (b : Int32), P < m + q → q ≤ P → b = bhP F w (F 2 w + F 14 (ix (F 0 w))) q → WR K G (AH h0 sz) (QM K G h0 sz 0 0 (fun v h1 => v = some (.int (bh n P F D w)) ∧ Wd G (adr, (n, P, F), Sm, mu, g) h1)) (Wd G (adr, (n, P, F), Sm, mu, g)) [some (.ref (adr 0)), some (.ref (adr (30 + w))), some (.int (mk D)), some (.int b), some (.int (nI q)), none] 0 0 18 [] := by
    intro m
    induction m with
    | zero => intro q b h1 h2; exact absurd h1 (by omega)
    | succ m ih =>
      intro q b h1 h2 hb
      refine R_iload (pc := 18) C dX1_levelBehind_18 rfl ?_
      refine R_aload_n (pc := 20) C dX1_levelBehind_20 rfl ?_
      refine R_getf (pc := 21) C dX1_levelBehind_21 (i := 3) (wc0) rfl inlX1 (by decide) k_1_20 rfl ?_
      refine R_icmp_ge (pc := 24) C dX1_levelBehind_24 (tgt := 53) (by decide) (fun c24 => ?_) (fun c24 => ?_)
      · have eq : P = q := Nat.le_antisymm (le_nI (by omega) (by omega) c24) h2
        subst eq
        refine R_iconst (pc := 53) C dX1_levelBehind_53 (v := 0) (by decide) ?_
        refine R_istore (pc := 54) C dX1_levelBehind_54 (Nat.le_of_ble_eq_true rfl) (lv' := [some (.ref _), some (.ref _), some (.int _), some (.int _), some (.int _), none]) rfl ?_
        have LP56 : ∀ (m d : Nat) (b : Int32), n < m + d → d ≤ n → b = bhD F D w (bhP F w (F 2 w + F 14 (ix (F 0 w))) P) d → WR K G (AH h0 sz) (QM K G h0 sz 0 0 (fun v h1 => v = some (.int (bh n P F D w)) ∧ Wd G (adr, (n, P, F), Sm, mu, g) h1)) (Wd G (adr, (n, P, F), Sm, mu, g)) [some (.ref (adr 0)), some (.ref (adr (30 + w))), some (.int (mk D)), some (.int b), some (.int (nI d)), none] 0 0 56 [] := by
          intro m
          induction m with
          | zero => intro d b h1 h2; exact absurd h1 (by omega)
          | succ m ih =>
            intro d b h1 h2 hb
            refine R_iload (pc := 56) C dX1_levelBehind_56 rfl ?_
            refine R_aload_n (pc := 58) C dX1_levelBehind_58 rfl ?_
            refine R_getf (pc := 59) C dX1_levelBehind_59 (i := 0) (wc0) rfl inlX1 (by decide) k_1_16 rfl ?_
            refine R_callVN (pc := 62) C dX1_levelBehind_62 (vs := []) (fun h hh => mJx4a65c_size_8abf5 hl h hh) (isOb_of (wc1) rfl) ⟨k_4_15, k_4_16, k_4_17, k_1_15, k_4_18⟩ (sgn (nv := 0) rfl ⟨by decide +kernel, by decide +kernel, by decide +kernel⟩) ⟨⟨Nat.le_of_ble_eq_true rfl, Nat.le_of_ble_eq_true rfl⟩, ⟨Nat.le_of_ble_eq_true rfl, Nat.le_of_ble_eq_true rfl⟩, Nat.le_of_ble_eq_true rfl⟩ rfl rfl (fun h9 hh9 v9 => ?_)
            refine WR.pr (fun e9 => ?_)
            subst e9
            show WR K G _ _ _ _ _ _ _ (.int _ :: _)
            refine R_icmp_ge (pc := 65) C dX1_levelBehind_65 (tgt := 114) (by decide) (fun c65 => ?_) (fun c65 => ?_)
            · have ed : n = d := Nat.le_antisymm (le_nI (by omega) (by omega) c65) h2
              subst ed
              refine R_iload_n (pc := 114) C dX1_levelBehind_114 rfl ?_
              exact R_iret (pc := 115) C dX1_levelBehind_115 rfl (Nat.le_of_ble_eq_true rfl) (Nat.le_of_ble_eq_true rfl) (fun h hh => ⟨by rw [hb]; rfl, hh⟩)
            · have hd : d < n := gt_nI (by omega) (by omega) c65
              refine R_aload_n (pc := 68) C dX1_levelBehind_68 rfl ?_
              refine R_getf (pc := 69) C dX1_levelBehind_69 (i := 0) (wc0) rfl inlX1 (by decide) k_1_16 rfl ?_
              refine R_iload (pc := 72) C dX1_levelBehind_72 rfl ?_
              refine R_callVN (pc := 74) C dX1_levelBehind_74 (vs := [_]) (fun h hh => mJx4a65c_get_915e3 hl hd hn h hh) (isOb_of (wc1) rfl) ⟨k_18_20, k_18_21, k_18_22, k_1_15, k_18_23⟩ (sgn (nv := 1) rfl ⟨by decide +kernel, by decide +kernel, by decide +kernel⟩) ⟨⟨Nat.le_of_ble_eq_true rfl, Nat.le_of_ble_eq_true rfl⟩, ⟨Nat.le_of_ble_eq_true rfl, Nat.le_of_ble_eq_true rfl⟩, Nat.le_of_ble_eq_true rfl⟩ rfl rfl (fun h9 hh9 v9 => ?_)
              refine WR.pr (fun e9 => ?_)
              subst e9
              show WR K G _ _ _ _ _ _ _ (.ref _ :: _)
              refine R_cast (pc := 77) C dX1_levelBehind_77 (wcw hd hn) rfl k_4_2 ?_
              refine R_astore (pc := 80) C dX1_levelBehind_80 (Nat.le_of_ble_eq_true rfl) (lv' := [some (.ref _), some (.ref _), some (.int _), some (.int _), some (.int _), some (.ref _)]) rfl ?_
              refine R_iload_n (pc := 82) C dX1_levelBehind_82 rfl ?_
              refine R_aload (pc := 83) C dX1_levelBehind_83 rfl ?_
              refine R_iload_n (pc := 85) C dX1_levelBehind_85 rfl ?_
              refine R_callVN (pc := 86) C dX1_levelBehind_86 (vs := [_]) (fun h hh => mX0_drawUnder hl hd hn h hh) (isOb_of (wcw hd hn) rfl) ⟨k_24_5, k_24_6, k_24_7, k_4_4, k_24_8⟩ (sgn (nv := 1) rfl ⟨by decide +kernel, by decide +kernel, by decide +kernel⟩) ⟨⟨Nat.le_of_ble_eq_true rfl, Nat.le_of_ble_eq_true rfl⟩, ⟨Nat.le_of_ble_eq_true rfl, Nat.le_of_ble_eq_true rfl⟩, Nat.le_of_ble_eq_true rfl⟩ rfl rfl (fun h9 hh9 v9 => ?_)
              refine WR.pr (fun e9 => ?_)
              subst e9
              show WR K G _ _ _ _ _ _ _ (.int _ :: _)
              refine R_aload_n (pc := 89) C dX1_levelBehind_89 rfl ?_
              refine R_aload (pc := 90) C dX1_levelBehind_90 rfl ?_
              refine R_getf (pc := 92) C dX1_levelBehind_92 (i := 1) (wcw hd hn) rfl inlX0 (by decide) k_20_15 rfl ?_
              refine R_aload (pc := 95) C dX1_levelBehind_95 rfl ?_
              refine R_getf (pc := 97) C dX1_levelBehind_97 (i := 2) (wcw hd hn) rfl inlX0 (by decide) k_20_16 rfl ?_
              refine R_callVN (pc := 100) C dX1_levelBehind_100 (vs := [_, _]) (fun h hh => mX0_reachedFrom hl hw hn h hh) (isOb_of (wcw hw hn) rfl) ⟨k_20_17, k_20_18, k_20_19, k_4_4, k_20_20⟩ (sgn (nv := 2) rfl ⟨by decide +kernel, by decide +kernel, by decide +kernel⟩) ⟨⟨Nat.le_of_ble_eq_true rfl, Nat.le_of_ble_eq_true rfl⟩, ⟨Nat.le_of_ble_eq_true rfl, Nat.le_of_ble_eq_true rfl⟩, Nat.le_of_ble_eq_true rfl⟩ rfl rfl (fun h9 hh9 v9 => ?_)
              refine WR.pr (fun e9 => ?_)
              subst e9
              show WR K G _ _ _ _ _ _ _ (.int _ :: _)
              refine R_callSN (pc := 103) C dX1_levelBehind_103 (vs := [_, _]) (fun h hh => mX1_hundredths hl h) ⟨k_24_2, k_24_3, k_1_2, k_24_4⟩ (sgn (nv := 2) rfl ⟨by decide +kernel, by decide +kernel, by decide +kernel⟩) ⟨⟨Nat.le_of_ble_eq_true rfl, Nat.le_of_ble_eq_true rfl⟩, ⟨Nat.le_of_ble_eq_true rfl, Nat.le_of_ble_eq_true rfl⟩, Nat.le_of_ble_eq_true rfl⟩ rfl rfl (fun h9 hh9 v9 => ?_)
              refine WR.pr (fun e9 => ?_)
              subst e9
              refine WR.imp (P' := Wd G (adr, (n, P, F), Sm, mu, g)) (fun h1 e1 => e1 ▸ hh9) ?_
              show WR K G _ _ _ _ _ _ _ (.int _ :: _)
              refine R_isub (pc := 106) C dX1_levelBehind_106 ?_
              refine R_istore_n (pc := 107) C dX1_levelBehind_107 (Nat.le_of_ble_eq_true rfl) (lv' := [some (.ref _), some (.ref _), some (.int _), some (.int _), some (.int _), some (.ref _)]) rfl ?_
              refine R_iinc (pc := 108) C dX1_levelBehind_108 rfl (inc1) (lv' := [some (.ref _), some (.ref _), some (.int _), some (.int _), some (.int _), some (.ref _)]) rfl ?_
              refine R_goto (pc := 111) C dX1_levelBehind_111 (tgt := 56) (by decide) ?_
              refine WR.ls (lv' := [some (.ref _), some (.ref _), some (.int _), some (.int _), some (.int _), none]) (ls_s (ls_s (ls_s (ls_s (ls_s (ls_n ls_e)))))) ?_
              exact ih (d + 1) _ (by omega) (by omega) (by rw [bhD, hb, drw_m (by omega)])
        exact LP56 (n + 1) 0 _ (by omega) (by omega) hb
      · have hq : q < P := gt_nI (by omega) (by omega) c24
        refine R_iload_n (pc := 27) C dX1_levelBehind_27 rfl ?_
        refine R_bipush (pc := 28) C dX1_levelBehind_28 (v := 20) (by decide) ?_
        refine R_aload_n (pc := 30) C dX1_levelBehind_30 rfl ?_
        refine R_iconst (pc := 31) C dX1_levelBehind_31 (v := 0) (by decide) ?_
        refine R_aload_n (pc := 32) C dX1_levelBehind_32 rfl ?_
        refine R_getf (pc := 33) C dX1_levelBehind_33 (i := 2) (wc0) rfl inlX1 (by decide) k_1_19 rfl ?_
        refine R_iload (pc := 36) C dX1_levelBehind_36 rfl ?_
        refine R_iald (pc := 38) C dX1_levelBehind_38 (wc4) (rfl) (by omega) (by decide) rfl ?_
        refine R_callVN (pc := 39) C dX1_levelBehind_39 (vs := [_, _]) (fun h hh => mX0_reachedFrom hl hw hn h hh) (isOb_of (wcw hw hn) rfl) ⟨k_20_17, k_20_18, k_20_19, k_4_4, k_20_20⟩ (sgn (nv := 2) rfl ⟨by decide +kernel, by decide +kernel, by decide +kernel⟩) ⟨⟨Nat.le_of_ble_eq_true rfl, Nat.le_of_ble_eq_true rfl⟩, ⟨Nat.le_of_ble_eq_true rfl, Nat.le_of_ble_eq_true rfl⟩, Nat.le_of_ble_eq_true rfl⟩ rfl rfl (fun h9 hh9 v9 => ?_)
        refine WR.pr (fun e9 => ?_)
        subst e9
        show WR K G _ _ _ _ _ _ _ (.int _ :: _)
        refine R_callSN (pc := 42) C dX1_levelBehind_42 (vs := [_, _]) (fun h hh => mX1_hundredths hl h) ⟨k_24_2, k_24_3, k_1_2, k_24_4⟩ (sgn (nv := 2) rfl ⟨by decide +kernel, by decide +kernel, by decide +kernel⟩) ⟨⟨Nat.le_of_ble_eq_true rfl, Nat.le_of_ble_eq_true rfl⟩, ⟨Nat.le_of_ble_eq_true rfl, Nat.le_of_ble_eq_true rfl⟩, Nat.le_of_ble_eq_true rfl⟩ rfl rfl (fun h9 hh9 v9 => ?_)
        refine WR.pr (fun e9 => ?_)
        subst e9
        refine WR.imp (P' := Wd G (adr, (n, P, F), Sm, mu, g)) (fun h1 e1 => e1 ▸ hh9) ?_
        show WR K G _ _ _ _ _ _ _ (.int _ :: _)
        refine R_iadd (pc := 45) C dX1_levelBehind_45 ?_
        refine R_istore_n (pc := 46) C dX1_levelBehind_46 (Nat.le_of_ble_eq_true rfl) (lv' := [some (.ref _), some (.ref _), some (.int _), some (.int _), some (.int _), none]) rfl ?_
        refine R_iinc (pc := 47) C dX1_levelBehind_47 rfl (inc1) (lv' := [some (.ref _), some (.ref _), some (.int _), some (.int _), some (.int _), none]) rfl ?_
        refine R_goto (pc := 50) C dX1_levelBehind_50 (tgt := 18) (by decide) ?_
        exact ih (q + 1) _ (by omega) (by omega) (by rw [bhP, hb])
  exact LP18 (P + 1) 0 _ (by omega) (by omega) (by rw [bhP, hix])
end
