/-! 73: the law: who is stopped. Written by wip/p22/gen/m73.py -/
theorem decE {e : Nat} (h : 0 < e) : nI e + Int32.ofInt (-1) = nI (e - 1) := by
  obtain ⟨k, rfl⟩ : ∃ k, e = k + 1 := ⟨e - 1, by omega⟩
  exact pk_m1 k
theorem mk_0 {n P : Nat} {F : Nat → Nat → Int32} : Int32.ofInt 0 = mk (Dn n P F 0) := by
  show Int32.ofInt 0 = mk8 false false false false false false false false
  decide
section
variable {l : Launch} {G : GT} {adr : Nat → Nat} {n P : Nat} {F mu : Nat → Nat → Int32} {g : Nat → Int64} {Sc : St}
set_option maxHeartbeats 4000000 in
set_option maxRecDepth 100000 in
theorem mL_stops (hl : l.stackTraces = false)  (hn : n ≤ 5) (hP : P ≤ 5) (hrg : Rg n P F) : ∀ h, Wd G (adr, Sc, (n, P, F), mu, g) h → CN l yL_stops cL_stops 11 (some .int) 3 0 0 [.ref (adr 5), .ref (adr 8), .ref (adr 9), .ref (adr 10)] G h (fun v h1 => v = some (.int (mk (spSt n P F))) ∧ ∃ m9 : Nat → Nat → Int32, (∀ j, j < n → m9 2 j = bh n P F (spSt n P F) j) ∧ Wd G (adr, Sc, (n, P, F), m9, g) h1) := by
  intro h0 hwd
  refine CN.of hl (by decide +kernel) rfl (Nat.le_of_ble_eq_true rfl) (fun K sz hKl hin C => ?_)
  have C : CX K G (AH h0 sz) RL cL_stops 11 (some .int) (rmD 3 0 0) [] := C
  subst hKl
  refine WR.imp (P' := Wd G (adr, Sc, (n, P, F), mu, g)) (fun h e => e ▸ hwd) ?_
  show WR K G _ _ _ [some (.ref (adr 5)), some (.ref (adr 8)), some (.ref (adr 9)), some (.ref (adr 10)), none, none, none, none, none, none, none] 0 0 0 []
  refine R_aload_n (pc := 0) C dL_stops_0 rfl ?_
  refine R_aload_n (pc := 1) C dL_stops_1 rfl ?_
  refine R_aload_n (pc := 2) C dL_stops_2 rfl ?_
  refine R_callSN (pc := 3) C dL_stops_3 (vs := [_, _, _]) (fun h hh => mL_ranks hl hn h hh) ⟨k_23_8, k_23_9, k_2_12, k_23_10⟩ (sgn (nv := 3) rfl ⟨by decide +kernel, by decide +kernel, by decide +kernel⟩) ⟨⟨Nat.le_of_ble_eq_true rfl, Nat.le_of_ble_eq_true rfl⟩, ⟨Nat.le_of_ble_eq_true rfl, Nat.le_of_ble_eq_true rfl⟩, Nat.le_of_ble_eq_true rfl⟩ rfl rfl (fun h9 hh9 v9 => ?_)
  refine WR.pr (fun e9 => ?_)
  subst e9
  refine WR.ex (fun m7 => WR.pr (fun q8 => ?_))
  obtain ⟨-, r2⟩ := q8
  show WR K G _ _ _ _ _ _ _ _
  refine R_iconst (pc := 6) C dL_stops_6 (v := mk (Dn n P F 0)) mk_0 ?_
  refine R_istore (pc := 7) C dL_stops_7 (Nat.le_of_ble_eq_true rfl) (lv' := [some (.ref _), some (.ref _), some (.ref _), some (.ref _), some (.int _), none, none, none, none, none, none]) rfl ?_
  refine R_iconst (pc := 9) C dL_stops_9 (v := 1) (by decide) ?_
  refine R_istore (pc := 10) C dL_stops_10 (Nat.le_of_ble_eq_true rfl) (lv' := [some (.ref _), some (.ref _), some (.ref _), some (.ref _), some (.int _), some (.int _), none, none, none, none, none]) rfl ?_
  have LP12 : ∀ (mk9 k : Nat) (m9 : Nat → Nat → Int32), 8 < mk9 + k → k ≤ 8 → (∀ j, j < k → spNx n P F (Dn n P F j) ≠ none) → (∀ j, j < n → m9 1 (rkc F j n) = nI j) → WR K G (AH h0 sz) (QM K G h0 sz 0 0 (fun v h1 => v = some (.int (mk (spSt n P F))) ∧ ∃ m9 : Nat → Nat → Int32, (∀ j, j < n → m9 2 j = bh n P F (spSt n P F) j) ∧ Wd G (adr, Sc, (n, P, F), m9, g) h1)) (Wd G (adr, Sc, (n, P, F), m9, g)) [some (.ref (adr 5)), some (.ref (adr 8)), some (.ref (adr 9)), some (.ref (adr 10)), some (.int (mk (Dn n P F k))), some (.int 1), none, none, none, none, none] 0 0 12 [] := by
    intro mk9
    induction mk9 with
    | zero => intro k m9 h1 h2; exact absurd h1 (by omega)
    | succ mk9 ihk =>
      intro k m9 h1 h2 hall fb
      refine R_iload (pc := 12) C dL_stops_12 rfl ?_
      refine R_if_eq (pc := 14) C dL_stops_14 (tgt := 204) (by decide) (fun c14 => absurd c14 (by decide)) (fun c14 => ?_)
      refine R_iload (pc := 17) C dL_stops_17 rfl ?_
      refine R_aload_n (pc := 19) C dL_stops_19 rfl ?_
      refine R_aload_n (pc := 20) C dL_stops_20 rfl ?_
      refine R_aload_n (pc := 21) C dL_stops_21 rfl ?_
      refine R_callSN (pc := 22) C dL_stops_22 (vs := [_, _, _, _]) (fun h hh => mL_behind (D := (Dn n P F k)) hl hn hP hrg h hh) ⟨k_23_11, k_23_12, k_2_12, k_23_13⟩ (sgn (nv := 4) rfl ⟨by decide +kernel, by decide +kernel, by decide +kernel⟩) ⟨⟨Nat.le_of_ble_eq_true rfl, Nat.le_of_ble_eq_true rfl⟩, ⟨Nat.le_of_ble_eq_true rfl, Nat.le_of_ble_eq_true rfl⟩, Nat.le_of_ble_eq_true rfl⟩ rfl rfl (fun h9 hh9 v9 => ?_)
      refine WR.pr (fun e9 => ?_)
      subst e9
      refine WR.ex (fun m8 => WR.pr (fun q8 => ?_))
      obtain ⟨g1, g2⟩ := q8
      have r8 : ∀ j, j < n → m8 1 (rkc F j n) = nI j := fun j hj => by rw [g1]; exact fb j hj
      show WR K G _ _ _ _ _ _ _ _
      refine R_iconst (pc := 25) C dL_stops_25 (v := -1) (by decide) ?_
      refine R_istore (pc := 26) C dL_stops_26 (Nat.le_of_ble_eq_true rfl) (lv' := [some (.ref _), some (.ref _), some (.ref _), some (.ref _), some (.int _), some (.int _), some (.int _), none, none, none, none]) rfl ?_
      refine R_iconst (pc := 28) C dL_stops_28 (v := 0) (by decide) ?_
      refine R_istore (pc := 29) C dL_stops_29 (Nat.le_of_ble_eq_true rfl) (lv' := [some (.ref _), some (.ref _), some (.ref _), some (.ref _), some (.int _), some (.int _), some (.int _), some (.int _), none, none, none]) rfl ?_
      have LP31 : ∀ (mt t : Nat) (z : Option Nat), n < mt + t → t ≤ n → (z = none → ∀ v, v < n → rkc F v n < t → ¬ Hd n P F (Dn n P F k) v) → (∀ y, z = some y → spNx n P F (Dn n P F k) = some y) → WR K G (AH h0 sz) (QM K G h0 sz 0 0 (fun v h1 => v = some (.int (mk (spSt n P F))) ∧ ∃ m9 : Nat → Nat → Int32, (∀ j, j < n → m9 2 j = bh n P F (spSt n P F) j) ∧ Wd G (adr, Sc, (n, P, F), m9, g) h1)) (Wd G (adr, Sc, (n, P, F), m8, g)) [some (.ref (adr 5)), some (.ref (adr 8)), some (.ref (adr 9)), some (.ref (adr 10)), some (.int (mk (Dn n P F k))), some (.int 1), some (.int (oI z)), some (.int (nI t)), none, none, none] 0 0 31 [] := by
        intro mt
        induction mt with
        | zero => intro t z h1 h2; exact absurd h1 (by omega)
        | succ mt iht =>
          intro t z h1 h2 hz1 hz2
          refine R_iload (pc := 31) C dL_stops_31 rfl ?_
          rcases z with _ | y
          · refine R_aload_n (pc := 33) C dL_stops_33 rfl ?_
            refine R_iconst (pc := 34) C dL_stops_34 (v := 0) (by decide) ?_
            refine R_iald (pc := 35) C dL_stops_35 (wmq) (rfl) (by decide) (by decide) (rdq0) ?_
            refine R_icmp_ge (pc := 36) C dL_stops_36 (tgt := 171) (by decide) (fun c36 => ?_) (fun c36 => ?_)
            · have et : n = t := Nat.le_antisymm (le_nI (by omega) (by omega) c36) h2
              subst et
              refine R_iload (pc := 171) C dL_stops_171 rfl ?_
              refine R_if_lt (pc := 173) C dL_stops_173 (tgt := 180) (by decide) (fun c173 => ?_) (fun c173 => absurd (show oI none < 0 by decide) c173)
              refine R_iconst (pc := 180) C dL_stops_180 (v := 0) (by decide) ?_
              refine R_istore (pc := 181) C dL_stops_181 (Nat.le_of_ble_eq_true rfl) (lv' := [some (.ref _), some (.ref _), some (.ref _), some (.ref _), some (.int _), some (.int _), some (.int _), some (.int _), none, none, none]) rfl ?_
              refine R_iload (pc := 183) C dL_stops_183 rfl ?_
              refine R_iload (pc := 185) C dL_stops_185 rfl ?_
              refine R_if_eq (pc := 187) C dL_stops_187 (tgt := 197) (by decide) (fun c187 => ?_) (fun c187 => absurd (rfl) c187)
              refine R_iconst (pc := 197) C dL_stops_197 (v := 0) (by decide) ?_
              refine R_ior (pc := 198) C dL_stops_198 ?_
              rw [Int32.or_zero]
              refine R_istore (pc := 199) C dL_stops_199 (Nat.le_of_ble_eq_true rfl) (lv' := [some (.ref _), some (.ref _), some (.ref _), some (.ref _), some (.int _), some (.int _), some (.int _), some (.int _), none, none, none]) rfl ?_
              refine R_goto (pc := 201) C dL_stops_201 (tgt := 12) (by decide) ?_
              have hnone : spNx n P F (Dn n P F k) = none := sp_no (fun v hv => hz1 rfl v hv (rkc_lt hv))
              have eD := Dn_end (show n ≤ 8 by omega) hall hnone
              refine R_iload (pc := 12) C dL_stops_12 rfl ?_
              refine R_if_eq (pc := 14) C dL_stops_14 (tgt := 204) (by decide) (fun _ => ?_) (fun c => absurd rfl c)
              refine R_iload (pc := 204) C dL_stops_204 rfl ?_
              exact R_iret (pc := 206) C dL_stops_206 rfl (Nat.le_of_ble_eq_true rfl) (Nat.le_of_ble_eq_true rfl) (fun h hh => ⟨by rw [← eD], m8, fun j hj => by rw [← eD]; exact g2 j hj, hh⟩)
            · have ht : t < n := gt_nI (by omega) (by omega) c36
              refine R_iload (pc := 39) C dL_stops_39 rfl ?_
              refine R_if_ge (pc := 41) C dL_stops_41 (tgt := 171) (by decide) (fun c41 => absurd c41 (by decide)) (fun c41 => ?_)
              refine R_aload_n (pc := 44) C dL_stops_44 rfl ?_
              refine R_iconst (pc := 45) C dL_stops_45 (v := 0) (by decide) ?_
              refine R_iald (pc := 46) C dL_stops_46 (wmq) (rfl) (by decide) (by decide) (rdq0) ?_
              refine R_iconst (pc := 47) C dL_stops_47 (v := 1) (by decide) ?_
              refine R_isub (pc := 48) C dL_stops_48 ?_
              rw [show nI n - 1 = nI (n - 1) from pk_sub (a := n) (b := 1) (by omega)]
              refine R_istore (pc := 49) C dL_stops_49 (Nat.le_of_ble_eq_true rfl) (lv' := [some (.ref _), some (.ref _), some (.ref _), some (.ref _), some (.int _), some (.int _), some (.int _), some (.int _), some (.int _), none, none]) rfl ?_
              obtain ⟨k0, hk0, ek0⟩ := rkc_sur (F := F) (show n ≤ 8 by omega) ht
              have rt : m8 1 t = nI k0 := by rw [← ek0]; exact r8 k0 hk0
              have LP51 : ∀ (me e : Nat) (y9 : Option Nat), e < me → t ≤ e → e < n → (y9 = none → ∀ d, d < n → e < rkc F d n → ¬ (bh n P F (Dn n P F k) k0 < F 3 k0 ∧ 0 < drw F (Dn n P F k) d ∧ 0 < spR F d k0)) → (∀ y, y9 = some y → bh n P F (Dn n P F k) k0 < F 3 k0 ∧ yng F (Dn n P F k) k0 n = some y) → WR K G (AH h0 sz) (QM K G h0 sz 0 0 (fun v h1 => v = some (.int (mk (spSt n P F))) ∧ ∃ m9 : Nat → Nat → Int32, (∀ j, j < n → m9 2 j = bh n P F (spSt n P F) j) ∧ Wd G (adr, Sc, (n, P, F), m9, g) h1)) (Wd G (adr, Sc, (n, P, F), m8, g)) [some (.ref (adr 5)), some (.ref (adr 8)), some (.ref (adr 9)), some (.ref (adr 10)), some (.int (mk (Dn n P F k))), some (.int 1), some (.int (oI y9)), some (.int (nI t)), some (.int (nI e)), none, none] 0 0 51 [] := by
                intro me
                induction me with
                | zero => intro e y9 h3; exact absurd h3 (Nat.not_lt_zero _)
                | succ me ihe =>
                  intro e y9 h3 h4 h5 p1 p2
                  refine R_iload (pc := 51) C dL_stops_51 rfl ?_
                  rcases y9 with _ | y
                  · refine R_iload (pc := 53) C dL_stops_53 rfl ?_
                    refine R_icmp_le (pc := 55) C dL_stops_55 (tgt := 165) (by decide) (fun c55 => ?_) (fun c55 => ?_)
                    · refine R_iinc (pc := 165) C dL_stops_165 rfl (inc1) (lv' := [some (.ref _), some (.ref _), some (.ref _), some (.ref _), some (.int _), some (.int _), some (.int _), some (.int _), some (.int _), none, none]) rfl ?_
                      refine R_goto (pc := 168) C dL_stops_168 (tgt := 31) (by decide) ?_
                      refine WR.ls (lv' := [some (.ref _), some (.ref _), some (.ref _), some (.ref _), some (.int _), some (.int _), some (.int _), some (.int _), none, none, none]) (ls_s (ls_s (ls_s (ls_s (ls_s (ls_s (ls_s (ls_s (ls_n (ls_n (ls_n ls_e))))))))))) ?_
                      exact iht (t + 1) none (by omega) (by omega) (fun _ v hv hr => if e9 : rkc F v n = t then (by rw [rkc_inj (show n ≤ 8 by omega) hv hk0 (e9.trans ek0.symm)]; exact fun hd9 => hd9.2 (yng_no (fun d hd cd => p1 rfl d hd (by have := (rkc_mono cd.1 n).2 hk0; have := le_nI (by omega) (by omega) c55; omega) ⟨hd9.1, cd.2.1, cd.2.2⟩))) else hz1 rfl v hv (by omega)) (fun y hy => nomatch hy)
                    · have hte : t < e := gt_nI (by omega) (by omega) c55
                      refine R_iload (pc := 58) C dL_stops_58 rfl ?_
                      refine R_if_ge (pc := 60) C dL_stops_60 (tgt := 165) (by decide) (fun c60 => absurd c60 (by decide)) (fun c60 => ?_)
                      refine R_aload_n (pc := 63) C dL_stops_63 rfl ?_
                      refine R_aload_n (pc := 64) C dL_stops_64 rfl ?_
                      refine R_iload (pc := 65) C dL_stops_65 rfl ?_
                      refine R_iald (pc := 67) C dL_stops_67 (wmr) (rfl) (by omega) (by decide) (rt) ?_
                      refine R_iald (pc := 68) C dL_stops_68 (wmh) (rfl) (by omega) (by decide) (g2 k0 hk0) ?_
                      refine R_aload_n (pc := 69) C dL_stops_69 rfl ?_
                      refine R_bipush (pc := 70) C dL_stops_70 (v := 9) (by decide) ?_
                      refine R_aload_n (pc := 72) C dL_stops_72 rfl ?_
                      refine R_iload (pc := 73) C dL_stops_73 rfl ?_
                      refine R_iald (pc := 75) C dL_stops_75 (wmr) (rfl) (by omega) (by decide) (rt) ?_
                      refine R_imul (pc := 76) C dL_stops_76 ?_
                      refine R_iconst (pc := 77) C dL_stops_77 (v := 3) (by decide) ?_
                      refine R_iadd (pc := 78) C dL_stops_78 ?_
                      refine R_iald (pc := 79) C dL_stops_79 (wmw) (i9 k0 3) (by omega) (by decide) (rdw (by omega)) ?_
                      refine R_icmp_ge (pc := 80) C dL_stops_80 (tgt := 165) (by decide) (fun c80 => ?_) (fun c80 => ?_)
                      · refine R_iinc (pc := 165) C dL_stops_165 rfl (inc1) (lv' := [some (.ref _), some (.ref _), some (.ref _), some (.ref _), some (.int _), some (.int _), some (.int _), some (.int _), some (.int _), none, none]) rfl ?_
                        refine R_goto (pc := 168) C dL_stops_168 (tgt := 31) (by decide) ?_
                        refine WR.ls (lv' := [some (.ref _), some (.ref _), some (.ref _), some (.ref _), some (.int _), some (.int _), some (.int _), some (.int _), none, none, none]) (ls_s (ls_s (ls_s (ls_s (ls_s (ls_s (ls_s (ls_s (ls_n (ls_n (ls_n ls_e))))))))))) ?_
                        exact iht (t + 1) none (by omega) (by omega) (fun _ v hv hr => if e9 : rkc F v n = t then (by rw [rkc_inj (show n ≤ 8 by omega) hv hk0 (e9.trans ek0.symm)]; exact fun hd9 => absurd hd9.1 (Int32.not_lt.mpr c80)) else hz1 rfl v hv (by omega)) (fun y hy => nomatch hy)
                      · obtain ⟨d0, hd0, ed0⟩ := rkc_sur (F := F) (show n ≤ 8 by omega) h5
                        have re : m8 1 e = nI d0 := by rw [← ed0]; exact r8 d0 hd0
                        refine R_aload_n (pc := 83) C dL_stops_83 rfl ?_
                        refine R_iload (pc := 84) C dL_stops_84 rfl ?_
                        refine R_iald (pc := 86) C dL_stops_86 (wmr) (rfl) (by omega) (by decide) (re) ?_
                        refine R_istore (pc := 87) C dL_stops_87 (Nat.le_of_ble_eq_true rfl) (lv' := [some (.ref _), some (.ref _), some (.ref _), some (.ref _), some (.int _), some (.int _), some (.int _), some (.int _), some (.int _), some (.int _), none]) rfl ?_
                        refine R_iload (pc := 89) C dL_stops_89 rfl ?_
                        refine R_iload (pc := 91) C dL_stops_91 rfl ?_
                        refine R_ishr (pc := 93) C dL_stops_93 ?_
                        refine R_iconst (pc := 94) C dL_stops_94 (v := 1) (by decide) ?_
                        refine R_iand (pc := 95) C dL_stops_95 ?_
                        rw [bit_in (D := (Dn n P F k)) (show d0 < 5 by omega)]
                        refine R_if_ne (pc := 96) C dL_stops_96 (tgt := 116) (by decide) (fun c96 => ?_) (fun c96 => ?_)
                        · refine R_iconst (pc := 116) C dL_stops_116 (v := 0) (by decide) ?_
                          refine R_istore (pc := 117) C dL_stops_117 (Nat.le_of_ble_eq_true rfl) (lv' := [some (.ref _), some (.ref _), some (.ref _), some (.ref _), some (.int _), some (.int _), some (.int _), some (.int _), some (.int _), some (.int _), some (.int _)]) rfl ?_
                          refine R_iload (pc := 119) C dL_stops_119 rfl ?_
                          refine R_if_eq (pc := 121) C dL_stops_121 (tgt := 156) (by decide) (fun c121 => ?_) (fun c121 => absurd (rfl) c121)
                          refine R_iconst (pc := 156) C dL_stops_156 (v := -1) (by decide) ?_
                          refine R_istore (pc := 157) C dL_stops_157 (Nat.le_of_ble_eq_true rfl) (lv' := [some (.ref _), some (.ref _), some (.ref _), some (.ref _), some (.int _), some (.int _), some (.int _), some (.int _), some (.int _), some (.int _), some (.int _)]) rfl ?_
                          refine R_iinc (pc := 159) C dL_stops_159 rfl (decE (show 0 < e by omega)) (lv' := [some (.ref _), some (.ref _), some (.ref _), some (.ref _), some (.int _), some (.int _), some (.int _), some (.int _), some (.int _), some (.int _), some (.int _)]) rfl ?_
                          refine R_goto (pc := 162) C dL_stops_162 (tgt := 51) (by decide) ?_
                          refine WR.ls (lv' := [some (.ref _), some (.ref _), some (.ref _), some (.ref _), some (.int _), some (.int _), some (.int _), some (.int _), some (.int _), none, none]) (ls_s (ls_s (ls_s (ls_s (ls_s (ls_s (ls_s (ls_s (ls_s (ls_n (ls_n ls_e))))))))))) ?_
                          exact ihe (e - 1) none (by omega) (by omega) (by omega) (fun _ d hd hr => if e9 : rkc F d n = e then (by rw [rkc_inj (show n ≤ 8 by omega) hd hd0 (e9.trans ed0.symm)]; exact fun q => absurd q.2.1 (by unfold drw; rw [if_pos (if01' c96)]; decide)) else p1 rfl d hd (by omega)) (fun y h => nomatch h)
                        · refine R_aload_n (pc := 99) C dL_stops_99 rfl ?_
                          refine R_bipush (pc := 100) C dL_stops_100 (v := 9) (by decide) ?_
                          refine R_iload (pc := 102) C dL_stops_102 rfl ?_
                          refine R_imul (pc := 104) C dL_stops_104 ?_
                          refine R_bipush (pc := 105) C dL_stops_105 (v := 6) (by decide) ?_
                          refine R_iadd (pc := 107) C dL_stops_107 ?_
                          refine R_iald (pc := 108) C dL_stops_108 (wmw) (i9 d0 6) (by omega) (by decide) (rdw (by omega)) ?_
                          refine R_if_le (pc := 109) C dL_stops_109 (tgt := 116) (by decide) (fun c109 => ?_) (fun c109 => ?_)
                          · refine R_iconst (pc := 116) C dL_stops_116 (v := 0) (by decide) ?_
                            refine R_istore (pc := 117) C dL_stops_117 (Nat.le_of_ble_eq_true rfl) (lv' := [some (.ref _), some (.ref _), some (.ref _), some (.ref _), some (.int _), some (.int _), some (.int _), some (.int _), some (.int _), some (.int _), some (.int _)]) rfl ?_
                            refine R_iload (pc := 119) C dL_stops_119 rfl ?_
                            refine R_if_eq (pc := 121) C dL_stops_121 (tgt := 156) (by decide) (fun c121 => ?_) (fun c121 => absurd (rfl) c121)
                            refine R_iconst (pc := 156) C dL_stops_156 (v := -1) (by decide) ?_
                            refine R_istore (pc := 157) C dL_stops_157 (Nat.le_of_ble_eq_true rfl) (lv' := [some (.ref _), some (.ref _), some (.ref _), some (.ref _), some (.int _), some (.int _), some (.int _), some (.int _), some (.int _), some (.int _), some (.int _)]) rfl ?_
                            refine R_iinc (pc := 159) C dL_stops_159 rfl (decE (show 0 < e by omega)) (lv' := [some (.ref _), some (.ref _), some (.ref _), some (.ref _), some (.int _), some (.int _), some (.int _), some (.int _), some (.int _), some (.int _), some (.int _)]) rfl ?_
                            refine R_goto (pc := 162) C dL_stops_162 (tgt := 51) (by decide) ?_
                            refine WR.ls (lv' := [some (.ref _), some (.ref _), some (.ref _), some (.ref _), some (.int _), some (.int _), some (.int _), some (.int _), some (.int _), none, none]) (ls_s (ls_s (ls_s (ls_s (ls_s (ls_s (ls_s (ls_s (ls_s (ls_n (ls_n ls_e))))))))))) ?_
                            exact ihe (e - 1) none (by omega) (by omega) (by omega) (fun _ d hd hr => if e9 : rkc F d n = e then (by rw [rkc_inj (show n ≤ 8 by omega) hd hd0 (e9.trans ed0.symm)]; exact fun q => absurd q.2.1 (by unfold drw; rw [if_neg (if01 c96)]; exact Int32.not_lt.mpr c109)) else p1 rfl d hd (by omega)) (fun y h => nomatch h)
                          · refine R_iconst (pc := 112) C dL_stops_112 (v := 1) (by decide) ?_
                            refine R_goto (pc := 113) C dL_stops_113 (tgt := 117) (by decide) ?_
                            refine R_istore (pc := 117) C dL_stops_117 (Nat.le_of_ble_eq_true rfl) (lv' := [some (.ref _), some (.ref _), some (.ref _), some (.ref _), some (.int _), some (.int _), some (.int _), some (.int _), some (.int _), some (.int _), some (.int _)]) rfl ?_
                            refine R_iload (pc := 119) C dL_stops_119 rfl ?_
                            refine R_if_eq (pc := 121) C dL_stops_121 (tgt := 156) (by decide) (fun c121 => absurd c121 (by decide)) (fun c121 => ?_)
                            refine R_aload_n (pc := 124) C dL_stops_124 rfl ?_
                            refine R_bipush (pc := 125) C dL_stops_125 (v := 9) (by decide) ?_
                            refine R_iload (pc := 127) C dL_stops_127 rfl ?_
                            refine R_imul (pc := 129) C dL_stops_129 ?_
                            refine R_iald (pc := 130) C dL_stops_130 (wmw) (i9z d0) (by omega) (by decide) (rdw (by omega)) ?_
                            refine R_aload_n (pc := 131) C dL_stops_131 rfl ?_
                            refine R_bipush (pc := 132) C dL_stops_132 (v := 9) (by decide) ?_
                            refine R_iload (pc := 134) C dL_stops_134 rfl ?_
                            refine R_imul (pc := 136) C dL_stops_136 ?_
                            refine R_iconst (pc := 137) C dL_stops_137 (v := 1) (by decide) ?_
                            refine R_iadd (pc := 138) C dL_stops_138 ?_
                            refine R_iald (pc := 139) C dL_stops_139 (wmw) (i9 d0 1) (by omega) (by decide) (rdw (by omega)) ?_
                            refine R_aload_n (pc := 140) C dL_stops_140 rfl ?_
                            refine R_iload (pc := 141) C dL_stops_141 rfl ?_
                            refine R_iald (pc := 143) C dL_stops_143 (wmr) (rfl) (by omega) (by decide) (rt) ?_
                            refine R_aload_n (pc := 144) C dL_stops_144 rfl ?_
                            refine R_callSN (pc := 145) C dL_stops_145 (vs := [_, _, _, _]) (fun h hh => mL_reach hl (by omega) h hh) ⟨k_23_14, k_23_15, k_2_12, k_23_16⟩ (sgn (nv := 4) rfl ⟨by decide +kernel, by decide +kernel, by decide +kernel⟩) ⟨⟨Nat.le_of_ble_eq_true rfl, Nat.le_of_ble_eq_true rfl⟩, ⟨Nat.le_of_ble_eq_true rfl, Nat.le_of_ble_eq_true rfl⟩, Nat.le_of_ble_eq_true rfl⟩ rfl rfl (fun h9 hh9 v9 => ?_)
                            refine WR.pr (fun e9 => ?_)
                            subst e9
                            show WR K G _ _ _ _ _ _ _ (.int _ :: _)
                            rw [rL_eq (hrg.1 k0 hk0).1 (hrg.1 k0 hk0).2 (hrg.1 d0 hd0).1 (hrg.1 d0 hd0).2]
                            refine R_if_le (pc := 148) C dL_stops_148 (tgt := 156) (by decide) (fun c148 => ?_) (fun c148 => ?_)
                            · refine R_iconst (pc := 156) C dL_stops_156 (v := -1) (by decide) ?_
                              refine R_istore (pc := 157) C dL_stops_157 (Nat.le_of_ble_eq_true rfl) (lv' := [some (.ref _), some (.ref _), some (.ref _), some (.ref _), some (.int _), some (.int _), some (.int _), some (.int _), some (.int _), some (.int _), some (.int _)]) rfl ?_
                              refine R_iinc (pc := 159) C dL_stops_159 rfl (decE (show 0 < e by omega)) (lv' := [some (.ref _), some (.ref _), some (.ref _), some (.ref _), some (.int _), some (.int _), some (.int _), some (.int _), some (.int _), some (.int _), some (.int _)]) rfl ?_
                              refine R_goto (pc := 162) C dL_stops_162 (tgt := 51) (by decide) ?_
                              refine WR.ls (lv' := [some (.ref _), some (.ref _), some (.ref _), some (.ref _), some (.int _), some (.int _), some (.int _), some (.int _), some (.int _), none, none]) (ls_s (ls_s (ls_s (ls_s (ls_s (ls_s (ls_s (ls_s (ls_s (ls_n (ls_n ls_e))))))))))) ?_
                              exact ihe (e - 1) none (by omega) (by omega) (by omega) (fun _ d hd hr => if e9 : rkc F d n = e then (by rw [rkc_inj (show n ≤ 8 by omega) hd hd0 (e9.trans ed0.symm)]; exact fun q => absurd q.2.2 (Int32.not_lt.mpr c148)) else p1 rfl d hd (by omega)) (fun y h => nomatch h)
                            · refine R_iload (pc := 151) C dL_stops_151 rfl ?_
                              refine R_goto (pc := 153) C dL_stops_153 (tgt := 157) (by decide) ?_
                              refine R_istore (pc := 157) C dL_stops_157 (Nat.le_of_ble_eq_true rfl) (lv' := [some (.ref _), some (.ref _), some (.ref _), some (.ref _), some (.int _), some (.int _), some (.int _), some (.int _), some (.int _), some (.int _), some (.int _)]) rfl ?_
                              refine R_iinc (pc := 159) C dL_stops_159 rfl (decE (show 0 < e by omega)) (lv' := [some (.ref _), some (.ref _), some (.ref _), some (.ref _), some (.int _), some (.int _), some (.int _), some (.int _), some (.int _), some (.int _), some (.int _)]) rfl ?_
                              refine R_goto (pc := 162) C dL_stops_162 (tgt := 51) (by decide) ?_
                              refine WR.ls (lv' := [some (.ref _), some (.ref _), some (.ref _), some (.ref _), some (.int _), some (.int _), some (.int _), some (.int _), some (.int _), none, none]) (ls_s (ls_s (ls_s (ls_s (ls_s (ls_s (ls_s (ls_s (ls_s (ls_n (ls_n ls_e))))))))))) ?_
                              exact ihe (e - 1) (some d0) (by omega) (by omega) (by omega) (fun hq => nomatch hq) (fun y hy => by cases hy; exact ⟨(Int32.not_le.mp c80), yng_is (show n ≤ 8 by omega) hd0 ⟨rkc_old (show n ≤ 8 by omega) hk0 hd0 (by omega), (by unfold drw; rw [if_neg (if01 c96)]; exact Int32.not_le.mp c109), Int32.not_le.mp c148⟩ (fun d hd cd ho => p1 rfl d hd (by have := (rkc_mono ho n).2 hd0; omega) ⟨(Int32.not_le.mp c80), cd.2.1, cd.2.2⟩)⟩)
                  · have hy : y < n := (yng_lt (p2 y rfl).2).1
                    refine R_iload (pc := 53) C dL_stops_53 rfl ?_
                    refine R_icmp_le (pc := 55) C dL_stops_55 (tgt := 165) (by decide) (fun c55 => ?_) (fun c55 => ?_)
                    · refine R_iinc (pc := 165) C dL_stops_165 rfl (inc1) (lv' := [some (.ref _), some (.ref _), some (.ref _), some (.ref _), some (.int _), some (.int _), some (.int _), some (.int _), some (.int _), none, none]) rfl ?_
                      refine R_goto (pc := 168) C dL_stops_168 (tgt := 31) (by decide) ?_
                      refine WR.ls (lv' := [some (.ref _), some (.ref _), some (.ref _), some (.ref _), some (.int _), some (.int _), some (.int _), some (.int _), none, none, none]) (ls_s (ls_s (ls_s (ls_s (ls_s (ls_s (ls_s (ls_s (ls_n (ls_n (ls_n ls_e))))))))))) ?_
                      exact iht (t + 1) (some y) (by omega) (by omega) (fun hq => nomatch hq) (fun y9 hy => by cases hy; exact sp_is (show n ≤ 8 by omega) hk0 (p2 y rfl).1 (p2 y rfl).2 (fun v hv ho => hz1 rfl v hv (by have := (rkc_mono ho n).2 hv; omega)))
                    · have hte : t < e := gt_nI (by omega) (by omega) c55
                      refine R_iload (pc := 58) C dL_stops_58 rfl ?_
                      refine R_if_ge (pc := 60) C dL_stops_60 (tgt := 165) (by decide) (fun c60 => ?_) (fun c60 => absurd (show 0 ≤ nI y from nI_pos' (by omega)) c60)
                      refine R_iinc (pc := 165) C dL_stops_165 rfl (inc1) (lv' := [some (.ref _), some (.ref _), some (.ref _), some (.ref _), some (.int _), some (.int _), some (.int _), some (.int _), some (.int _), none, none]) rfl ?_
                      refine R_goto (pc := 168) C dL_stops_168 (tgt := 31) (by decide) ?_
                      refine WR.ls (lv' := [some (.ref _), some (.ref _), some (.ref _), some (.ref _), some (.int _), some (.int _), some (.int _), some (.int _), none, none, none]) (ls_s (ls_s (ls_s (ls_s (ls_s (ls_s (ls_s (ls_s (ls_n (ls_n (ls_n ls_e))))))))))) ?_
                      exact iht (t + 1) (some y) (by omega) (by omega) (fun hq => nomatch hq) (fun y9 hy => by cases hy; exact sp_is (show n ≤ 8 by omega) hk0 (p2 y rfl).1 (p2 y rfl).2 (fun v hv ho => hz1 rfl v hv (by have := (rkc_mono ho n).2 hv; omega)))
              exact LP51 n (n - 1) none (by omega) (by omega) (by omega) (fun _ d hd hr => absurd hr (by have := rkc_lt (F := F) hd; omega)) (fun y h => nomatch h)
          · have hsome : spNx n P F (Dn n P F k) = some y := hz2 y rfl
            have hy : y < n := (spNx_y hsome).1
            have hall2 : ∀ j, j < k + 1 → spNx n P F (Dn n P F j) ≠ none := fun j hj => if e : j = k then by rw [e, hsome]; exact fun q => nomatch q else hall j (by omega)
            refine R_aload_n (pc := 33) C dL_stops_33 rfl ?_
            refine R_iconst (pc := 34) C dL_stops_34 (v := 0) (by decide) ?_
            refine R_iald (pc := 35) C dL_stops_35 (wmq) (rfl) (by decide) (by decide) (rdq0) ?_
            refine R_icmp_ge (pc := 36) C dL_stops_36 (tgt := 171) (by decide) (fun c36 => ?_) (fun c36 => ?_)
            · have et : n = t := Nat.le_antisymm (le_nI (by omega) (by omega) c36) h2
              subst et
              refine R_iload (pc := 171) C dL_stops_171 rfl ?_
              refine R_if_lt (pc := 173) C dL_stops_173 (tgt := 180) (by decide) (fun c173 => absurd c173 (show ¬ nI y < 0 from nI_pos (by omega))) (fun c173 => ?_)
              refine R_iconst (pc := 176) C dL_stops_176 (v := 1) (by decide) ?_
              refine R_goto (pc := 177) C dL_stops_177 (tgt := 181) (by decide) ?_
              refine R_istore (pc := 181) C dL_stops_181 (Nat.le_of_ble_eq_true rfl) (lv' := [some (.ref _), some (.ref _), some (.ref _), some (.ref _), some (.int _), some (.int _), some (.int _), some (.int _), none, none, none]) rfl ?_
              refine R_iload (pc := 183) C dL_stops_183 rfl ?_
              refine R_iload (pc := 185) C dL_stops_185 rfl ?_
              refine R_if_eq (pc := 187) C dL_stops_187 (tgt := 197) (by decide) (fun c187 => absurd c187 (by decide)) (fun c187 => ?_)
              refine R_iconst (pc := 190) C dL_stops_190 (v := 1) (by decide) ?_
              refine R_iload (pc := 191) C dL_stops_191 rfl ?_
              refine R_ishl (pc := 193) C dL_stops_193 ?_
              refine R_goto (pc := 194) C dL_stops_194 (tgt := 198) (by decide) ?_
              refine R_ior (pc := 198) C dL_stops_198 ?_
              show WR K G _ _ _ _ _ _ _ (.int (mk (Dn n P F k) ||| mBit y) :: _)
              rw [mk_or (by omega), ← Dn_go hsome]
              refine R_istore (pc := 199) C dL_stops_199 (Nat.le_of_ble_eq_true rfl) (lv' := [some (.ref _), some (.ref _), some (.ref _), some (.ref _), some (.int _), some (.int _), some (.int _), some (.int _), none, none, none]) rfl ?_
              refine R_goto (pc := 201) C dL_stops_201 (tgt := 12) (by decide) ?_
              refine WR.ls (lv' := [some (.ref _), some (.ref _), some (.ref _), some (.ref _), some (.int _), some (.int _), none, none, none, none, none]) (ls_s (ls_s (ls_s (ls_s (ls_s (ls_s (ls_n (ls_n (ls_n (ls_n (ls_n ls_e))))))))))) ?_
              exact ihk (k + 1) _ (by omega) (Dn_le (show n ≤ 8 by omega) hall2) hall2 r8
            · have ht : t < n := gt_nI (by omega) (by omega) c36
              refine R_iload (pc := 39) C dL_stops_39 rfl ?_
              refine R_if_ge (pc := 41) C dL_stops_41 (tgt := 171) (by decide) (fun c41 => ?_) (fun c41 => absurd (show 0 ≤ nI y from nI_pos' (by omega)) c41)
              refine R_iload (pc := 171) C dL_stops_171 rfl ?_
              refine R_if_lt (pc := 173) C dL_stops_173 (tgt := 180) (by decide) (fun c173 => absurd c173 (show ¬ nI y < 0 from nI_pos (by omega))) (fun c173 => ?_)
              refine R_iconst (pc := 176) C dL_stops_176 (v := 1) (by decide) ?_
              refine R_goto (pc := 177) C dL_stops_177 (tgt := 181) (by decide) ?_
              refine R_istore (pc := 181) C dL_stops_181 (Nat.le_of_ble_eq_true rfl) (lv' := [some (.ref _), some (.ref _), some (.ref _), some (.ref _), some (.int _), some (.int _), some (.int _), some (.int _), none, none, none]) rfl ?_
              refine R_iload (pc := 183) C dL_stops_183 rfl ?_
              refine R_iload (pc := 185) C dL_stops_185 rfl ?_
              refine R_if_eq (pc := 187) C dL_stops_187 (tgt := 197) (by decide) (fun c187 => absurd c187 (by decide)) (fun c187 => ?_)
              refine R_iconst (pc := 190) C dL_stops_190 (v := 1) (by decide) ?_
              refine R_iload (pc := 191) C dL_stops_191 rfl ?_
              refine R_ishl (pc := 193) C dL_stops_193 ?_
              refine R_goto (pc := 194) C dL_stops_194 (tgt := 198) (by decide) ?_
              refine R_ior (pc := 198) C dL_stops_198 ?_
              show WR K G _ _ _ _ _ _ _ (.int (mk (Dn n P F k) ||| mBit y) :: _)
              rw [mk_or (by omega), ← Dn_go hsome]
              refine R_istore (pc := 199) C dL_stops_199 (Nat.le_of_ble_eq_true rfl) (lv' := [some (.ref _), some (.ref _), some (.ref _), some (.ref _), some (.int _), some (.int _), some (.int _), some (.int _), none, none, none]) rfl ?_
              refine R_goto (pc := 201) C dL_stops_201 (tgt := 12) (by decide) ?_
              refine WR.ls (lv' := [some (.ref _), some (.ref _), some (.ref _), some (.ref _), some (.int _), some (.int _), none, none, none, none, none]) (ls_s (ls_s (ls_s (ls_s (ls_s (ls_s (ls_n (ls_n (ls_n (ls_n (ls_n ls_e))))))))))) ?_
              exact ihk (k + 1) _ (by omega) (Dn_le (show n ≤ 8 by omega) hall2) hall2 r8
      exact LP31 (n + 1) 0 none (by omega) (by omega) (fun _ v _ h => absurd h (Nat.not_lt_zero _)) (fun y h => nomatch h)
  exact LP12 9 0 m7 (by omega) (by omega) (fun j hj => absurd hj (Nat.not_lt_zero j)) r2
end
