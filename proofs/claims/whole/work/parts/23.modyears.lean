/-! 23: the model: mean, pays, year, wouldStop. Written by wip/whole/gen/m23.py -/
def mOr (D : Nat → Bool) : Nat → Int32
  | 0 => 0
  | w + 1 => mOr D w ||| (if D w = true then mBit w else 0)
theorem Dn_n {n P : Nat} {F : Nat → Nat → Int32} : ∀ {k j : Nat}, Dn n P F k j = true → j < n
  | 0, j, h => by cases h
  | k + 1, j, h => by
    cases e : spNx n P F (Dn n P F k) with
    | none => rw [Dn, e] at h; exact Dn_n (k := k) h
    | some y =>
      rw [Dn_go e] at h
      by_cases q : j = y
      · rw [q]; exact (spNx_y e).1
      · rw [show Dp (Dn n P F k) y j = Dn n P F k j from if_neg q] at h; exact Dn_n h
theorem mOr_up {D : Nat → Bool} {n : Nat} (h : ∀ j, D j = true → j < n) : ∀ k, mOr D (n + k) = mOr D n
  | 0 => rfl
  | k + 1 => by
    rw [show n + (k + 1) = (n + k) + 1 from rfl, mOr, mOr_up h k, if_neg (fun q => absurd (h _ q) (by omega))]
    exact Int32.or_zero
theorem mOr_8 (D : Nat → Bool) : mOr D 8 = mk D := by
  show (0 ||| (if D 0 = true then mBit 0 else 0)) ||| (if D 1 = true then mBit 1 else 0) ||| (if D 2 = true then mBit 2 else 0) ||| (if D 3 = true then mBit 3 else 0) ||| (if D 4 = true then mBit 4 else 0) ||| (if D 5 = true then mBit 5 else 0) ||| (if D 6 = true then mBit 6 else 0) ||| (if D 7 = true then mBit 7 else 0) = mk D
  rw [Int32.zero_or]
  rfl
theorem yr_lt {x : Int32} (h : Bt x 60) (h2 : ¬ x = 60) : x < 60 := by
  obtain ⟨j, hj, rfl⟩ := h
  exact nI_lt (b := 60) (Nat.lt_of_le_of_ne hj (fun q => h2 (by rw [q]; rfl))) (by omega)
theorem mOr_n {n P : Nat} {F : Nat → Nat → Int32} (hn : n ≤ 8) : mOr (spSt n P F) n = mk (spSt n P F) := by
  have := mOr_up (D := spSt n P F) (n := n) (fun j h => Dn_n h) (8 - n)
  rw [show n + (8 - n) = 8 by omega, mOr_8] at this
  exact this.symm
section
variable {l : Launch} {G : GT} {adr : Nat → Nat} {n P : Nat} {F mu : Nat → Nat → Int32} {g : Nat → Int64} {Sc : St}
set_option maxHeartbeats 4000000 in
set_option maxRecDepth 100000 in
theorem mX2_mean (hl : l.stackTraces = false) {la : Int32} (hn : n ≤ 8) : ∀ h, Wd G (adr, Sc, (n, P, F), mu, g) h → CN l yX2_mean cX2_mean 5 (some .int) 0 0 0 [.ref (adr 5), .int la] G h (fun v h1 => v = some (.int (meanM n F la)) ∧ Wd G (adr, Sc, (n, P, F), mu, g) h1) := by
  intro h0 hwd
  refine CN.of hl (by decide +kernel) rfl (Nat.le_of_ble_eq_true rfl) (fun K sz hKl hin C => ?_)
  have C : CX K G (AH h0 sz) RX2 cX2_mean 5 (some .int) (rmD 0 0 0) [] := C
  subst hKl
  refine WR.imp (P' := Wd G (adr, Sc, (n, P, F), mu, g)) (fun h e => e ▸ hwd) ?_
  show WR K G _ _ _ [some (.ref (adr 5)), some (.int la), none, none, none] 0 0 0 []
  refine R_iconst (pc := 0) C dX2_mean_0 (v := 0) (by decide) ?_
  refine R_istore_n (pc := 1) C dX2_mean_1 (Nat.le_of_ble_eq_true rfl) (lv' := [some (.ref _), some (.int _), some (.int _), none, none]) rfl ?_
  refine R_iconst (pc := 2) C dX2_mean_2 (v := 0) (by decide) ?_
  refine R_istore_n (pc := 3) C dX2_mean_3 (Nat.le_of_ble_eq_true rfl) (lv' := [some (.ref _), some (.int _), some (.int _), some (.int _), none]) rfl ?_
  refine R_iconst (pc := 4) C dX2_mean_4 (v := 0) (by decide) ?_
  refine R_istore (pc := 5) C dX2_mean_5 (Nat.le_of_ble_eq_true rfl) (lv' := [some (.ref _), some (.int _), some (.int _), some (.int _), some (.int _)]) rfl ?_
  have LP7 : ∀ (m w : Nat) (s c : Int32), n < m + w → w ≤ n → s = msumM F la w → c = mcntM F la w → WR K G (AH h0 sz) (QM K G h0 sz 0 0 (fun v h1 => v = some (.int (meanM n F la)) ∧ Wd G (adr, Sc, (n, P, F), mu, g) h1)) (Wd G (adr, Sc, (n, P, F), mu, g)) [some (.ref (adr 5)), some (.int la), some (.int s), some (.int c), some (.int (nI w))] 0 0 7 [] := by
    intro m
    induction m with
    | zero => intro w s c h1 h2; exact absurd h1 (by omega)
    | succ m ih =>
      intro w s c h1 h2 hs hc
      refine R_iload (pc := 7) C dX2_mean_7 rfl ?_
      refine R_aload_n (pc := 9) C dX2_mean_9 rfl ?_
      refine R_getf (pc := 10) C dX2_mean_10 (i := 1) (wm0) rfl inlX2 (by decide) k_17_19 rfl ?_
      refine R_icmp_ge (pc := 13) C dX2_mean_13 (tgt := 86) (by decide) (fun c13 => ?_) (fun c13 => ?_)
      · have ew : n = w := Nat.le_antisymm (le_nI (by omega) (by omega) c13) h2
        subst ew
        refine R_iload_n (pc := 86) C dX2_mean_86 rfl ?_
        refine R_if_ne (pc := 87) C dX2_mean_87 (tgt := 94) (by decide) (fun c87 => ?_) (fun c87 => ?_)
        · refine R_iload_n (pc := 94) C dX2_mean_94 rfl ?_
          refine R_iload_n (pc := 95) C dX2_mean_95 rfl ?_
          refine R_idiv (pc := 96) C dX2_mean_96 c87 ?_
          exact R_iret (pc := 97) C dX2_mean_97 rfl (Nat.le_of_ble_eq_true rfl) (Nat.le_of_ble_eq_true rfl) (fun h hh => ⟨by unfold meanM; rw [← hc, ← hs, if_neg c87], hh⟩)
        · refine R_iconst (pc := 90) C dX2_mean_90 (v := 0) (by decide) ?_
          refine R_goto (pc := 91) C dX2_mean_91 (tgt := 97) (by decide) ?_
          exact R_iret (pc := 97) C dX2_mean_97 rfl (Nat.le_of_ble_eq_true rfl) (Nat.le_of_ble_eq_true rfl) (fun h hh => ⟨by unfold meanM; rw [← hc, if_pos c87], hh⟩)
      · have hw : w < n := gt_nI (by omega) (by omega) c13
        refine R_iload_n (pc := 16) C dX2_mean_16 rfl ?_
        refine R_aload_n (pc := 17) C dX2_mean_17 rfl ?_
        refine R_getf (pc := 18) C dX2_mean_18 (i := 2) (wm0) rfl inlX2 (by decide) k_2_18 rfl ?_
        refine R_iload (pc := 21) C dX2_mean_21 rfl ?_
        refine R_iald (pc := 23) C dX2_mean_23 (wm_0) (rfl) (by omega) (by decide) rfl ?_
        refine R_iload_n (pc := 24) C dX2_mean_24 rfl ?_
        refine R_icmp_ne (pc := 25) C dX2_mean_25 (tgt := 48) (by decide) (fun c25 => ?_) (fun c25 => ?_)
        · refine R_iconst (pc := 48) C dX2_mean_48 (v := 0) (by decide) ?_
          refine R_iadd (pc := 49) C dX2_mean_49 ?_
          refine R_istore_n (pc := 50) C dX2_mean_50 (Nat.le_of_ble_eq_true rfl) (lv' := [some (.ref _), some (.int _), some (.int _), some (.int _), some (.int _)]) rfl ?_
          refine R_iload_n (pc := 51) C dX2_mean_51 rfl ?_
          refine R_aload_n (pc := 52) C dX2_mean_52 rfl ?_
          refine R_getf (pc := 53) C dX2_mean_53 (i := 2) (wm0) rfl inlX2 (by decide) k_2_18 rfl ?_
          refine R_iload (pc := 56) C dX2_mean_56 rfl ?_
          refine R_iald (pc := 58) C dX2_mean_58 (wm_0) (rfl) (by omega) (by decide) rfl ?_
          refine R_iload_n (pc := 59) C dX2_mean_59 rfl ?_
          refine R_icmp_ne (pc := 60) C dX2_mean_60 (tgt := 77) (by decide) (fun c60 => ?_) (fun c60 => ?_)
          · refine R_iconst (pc := 77) C dX2_mean_77 (v := 0) (by decide) ?_
            refine R_iadd (pc := 78) C dX2_mean_78 ?_
            refine R_istore_n (pc := 79) C dX2_mean_79 (Nat.le_of_ble_eq_true rfl) (lv' := [some (.ref _), some (.int _), some (.int _), some (.int _), some (.int _)]) rfl ?_
            refine R_iinc (pc := 80) C dX2_mean_80 rfl (inc1) (lv' := [some (.ref _), some (.int _), some (.int _), some (.int _), some (.int _)]) rfl ?_
            refine R_goto (pc := 83) C dX2_mean_83 (tgt := 7) (by decide) ?_
            exact ih (w + 1) _ _ (by omega) (by omega) (by rw [msumM, if_neg (fun q => c25 q.1), hs]) (by rw [mcntM, if_neg (fun q => c60 q.1), hc])
          · refine R_aload_n (pc := 63) C dX2_mean_63 rfl ?_
            refine R_getf (pc := 64) C dX2_mean_64 (i := 9) (wm0) rfl inlX2 (by decide) k_3_2 rfl ?_
            refine R_iload (pc := 67) C dX2_mean_67 rfl ?_
            refine R_zald (pc := 69) C dX2_mean_69 (wm_7) (rfl) (by omega) (by decide) rfl ?_
            refine R_if_ne (pc := 70) C dX2_mean_70 (tgt := 77) (by decide) (fun c70 => ?_) (fun c70 => ?_)
            · refine R_iconst (pc := 77) C dX2_mean_77 (v := 0) (by decide) ?_
              refine R_iadd (pc := 78) C dX2_mean_78 ?_
              refine R_istore_n (pc := 79) C dX2_mean_79 (Nat.le_of_ble_eq_true rfl) (lv' := [some (.ref _), some (.int _), some (.int _), some (.int _), some (.int _)]) rfl ?_
              refine R_iinc (pc := 80) C dX2_mean_80 rfl (inc1) (lv' := [some (.ref _), some (.int _), some (.int _), some (.int _), some (.int _)]) rfl ?_
              refine R_goto (pc := 83) C dX2_mean_83 (tgt := 7) (by decide) ?_
              exact ih (w + 1) _ _ (by omega) (by omega) (by rw [msumM, if_neg (fun q => c25 q.1), hs]) (by rw [mcntM, if_neg (fun q => c70 q.2), hc])
            · refine R_iconst (pc := 73) C dX2_mean_73 (v := 1) (by decide) ?_
              refine R_goto (pc := 74) C dX2_mean_74 (tgt := 78) (by decide) ?_
              refine R_iadd (pc := 78) C dX2_mean_78 ?_
              refine R_istore_n (pc := 79) C dX2_mean_79 (Nat.le_of_ble_eq_true rfl) (lv' := [some (.ref _), some (.int _), some (.int _), some (.int _), some (.int _)]) rfl ?_
              refine R_iinc (pc := 80) C dX2_mean_80 rfl (inc1) (lv' := [some (.ref _), some (.int _), some (.int _), some (.int _), some (.int _)]) rfl ?_
              refine R_goto (pc := 83) C dX2_mean_83 (tgt := 7) (by decide) ?_
              exact ih (w + 1) _ _ (by omega) (by omega) (by rw [msumM, if_neg (fun q => c25 q.1), hs]) (by rw [mcntM, if_pos ⟨c60, c70⟩, hc])
        · refine R_aload_n (pc := 28) C dX2_mean_28 rfl ?_
          refine R_getf (pc := 29) C dX2_mean_29 (i := 9) (wm0) rfl inlX2 (by decide) k_3_2 rfl ?_
          refine R_iload (pc := 32) C dX2_mean_32 rfl ?_
          refine R_zald (pc := 34) C dX2_mean_34 (wm_7) (rfl) (by omega) (by decide) rfl ?_
          refine R_if_ne (pc := 35) C dX2_mean_35 (tgt := 48) (by decide) (fun c35 => ?_) (fun c35 => ?_)
          · refine R_iconst (pc := 48) C dX2_mean_48 (v := 0) (by decide) ?_
            refine R_iadd (pc := 49) C dX2_mean_49 ?_
            refine R_istore_n (pc := 50) C dX2_mean_50 (Nat.le_of_ble_eq_true rfl) (lv' := [some (.ref _), some (.int _), some (.int _), some (.int _), some (.int _)]) rfl ?_
            refine R_iload_n (pc := 51) C dX2_mean_51 rfl ?_
            refine R_aload_n (pc := 52) C dX2_mean_52 rfl ?_
            refine R_getf (pc := 53) C dX2_mean_53 (i := 2) (wm0) rfl inlX2 (by decide) k_2_18 rfl ?_
            refine R_iload (pc := 56) C dX2_mean_56 rfl ?_
            refine R_iald (pc := 58) C dX2_mean_58 (wm_0) (rfl) (by omega) (by decide) rfl ?_
            refine R_iload_n (pc := 59) C dX2_mean_59 rfl ?_
            refine R_icmp_ne (pc := 60) C dX2_mean_60 (tgt := 77) (by decide) (fun c60 => ?_) (fun c60 => ?_)
            · refine R_iconst (pc := 77) C dX2_mean_77 (v := 0) (by decide) ?_
              refine R_iadd (pc := 78) C dX2_mean_78 ?_
              refine R_istore_n (pc := 79) C dX2_mean_79 (Nat.le_of_ble_eq_true rfl) (lv' := [some (.ref _), some (.int _), some (.int _), some (.int _), some (.int _)]) rfl ?_
              refine R_iinc (pc := 80) C dX2_mean_80 rfl (inc1) (lv' := [some (.ref _), some (.int _), some (.int _), some (.int _), some (.int _)]) rfl ?_
              refine R_goto (pc := 83) C dX2_mean_83 (tgt := 7) (by decide) ?_
              exact ih (w + 1) _ _ (by omega) (by omega) (by rw [msumM, if_neg (fun q => c35 q.2), hs]) (by rw [mcntM, if_neg (fun q => c60 q.1), hc])
            · refine R_aload_n (pc := 63) C dX2_mean_63 rfl ?_
              refine R_getf (pc := 64) C dX2_mean_64 (i := 9) (wm0) rfl inlX2 (by decide) k_3_2 rfl ?_
              refine R_iload (pc := 67) C dX2_mean_67 rfl ?_
              refine R_zald (pc := 69) C dX2_mean_69 (wm_7) (rfl) (by omega) (by decide) rfl ?_
              refine R_if_ne (pc := 70) C dX2_mean_70 (tgt := 77) (by decide) (fun c70 => ?_) (fun c70 => ?_)
              · refine R_iconst (pc := 77) C dX2_mean_77 (v := 0) (by decide) ?_
                refine R_iadd (pc := 78) C dX2_mean_78 ?_
                refine R_istore_n (pc := 79) C dX2_mean_79 (Nat.le_of_ble_eq_true rfl) (lv' := [some (.ref _), some (.int _), some (.int _), some (.int _), some (.int _)]) rfl ?_
                refine R_iinc (pc := 80) C dX2_mean_80 rfl (inc1) (lv' := [some (.ref _), some (.int _), some (.int _), some (.int _), some (.int _)]) rfl ?_
                refine R_goto (pc := 83) C dX2_mean_83 (tgt := 7) (by decide) ?_
                exact ih (w + 1) _ _ (by omega) (by omega) (by rw [msumM, if_neg (fun q => c35 q.2), hs]) (by rw [mcntM, if_neg (fun q => c70 q.2), hc])
              · refine R_iconst (pc := 73) C dX2_mean_73 (v := 1) (by decide) ?_
                refine R_goto (pc := 74) C dX2_mean_74 (tgt := 78) (by decide) ?_
                refine R_iadd (pc := 78) C dX2_mean_78 ?_
                refine R_istore_n (pc := 79) C dX2_mean_79 (Nat.le_of_ble_eq_true rfl) (lv' := [some (.ref _), some (.int _), some (.int _), some (.int _), some (.int _)]) rfl ?_
                refine R_iinc (pc := 80) C dX2_mean_80 rfl (inc1) (lv' := [some (.ref _), some (.int _), some (.int _), some (.int _), some (.int _)]) rfl ?_
                refine R_goto (pc := 83) C dX2_mean_83 (tgt := 7) (by decide) ?_
                exact ih (w + 1) _ _ (by omega) (by omega) (by rw [msumM, if_neg (fun q => c35 q.2), hs]) (by rw [mcntM, if_pos ⟨c60, c70⟩, hc])
          · refine R_aload_n (pc := 38) C dX2_mean_38 rfl ?_
            refine R_getf (pc := 39) C dX2_mean_39 (i := 13) (wm0) rfl inlX2 (by decide) k_3_6 rfl ?_
            refine R_iload (pc := 42) C dX2_mean_42 rfl ?_
            refine R_iald (pc := 44) C dX2_mean_44 (wm_11) (rfl) (by omega) (by decide) rfl ?_
            refine R_goto (pc := 45) C dX2_mean_45 (tgt := 49) (by decide) ?_
            refine R_iadd (pc := 49) C dX2_mean_49 ?_
            refine R_istore_n (pc := 50) C dX2_mean_50 (Nat.le_of_ble_eq_true rfl) (lv' := [some (.ref _), some (.int _), some (.int _), some (.int _), some (.int _)]) rfl ?_
            refine R_iload_n (pc := 51) C dX2_mean_51 rfl ?_
            refine R_aload_n (pc := 52) C dX2_mean_52 rfl ?_
            refine R_getf (pc := 53) C dX2_mean_53 (i := 2) (wm0) rfl inlX2 (by decide) k_2_18 rfl ?_
            refine R_iload (pc := 56) C dX2_mean_56 rfl ?_
            refine R_iald (pc := 58) C dX2_mean_58 (wm_0) (rfl) (by omega) (by decide) rfl ?_
            refine R_iload_n (pc := 59) C dX2_mean_59 rfl ?_
            refine R_icmp_ne (pc := 60) C dX2_mean_60 (tgt := 77) (by decide) (fun c60 => ?_) (fun c60 => ?_)
            · refine R_iconst (pc := 77) C dX2_mean_77 (v := 0) (by decide) ?_
              refine R_iadd (pc := 78) C dX2_mean_78 ?_
              refine R_istore_n (pc := 79) C dX2_mean_79 (Nat.le_of_ble_eq_true rfl) (lv' := [some (.ref _), some (.int _), some (.int _), some (.int _), some (.int _)]) rfl ?_
              refine R_iinc (pc := 80) C dX2_mean_80 rfl (inc1) (lv' := [some (.ref _), some (.int _), some (.int _), some (.int _), some (.int _)]) rfl ?_
              refine R_goto (pc := 83) C dX2_mean_83 (tgt := 7) (by decide) ?_
              exact ih (w + 1) _ _ (by omega) (by omega) (by rw [msumM, if_pos ⟨c25, c35⟩, hs]) (by rw [mcntM, if_neg (fun q => c60 q.1), hc])
            · refine R_aload_n (pc := 63) C dX2_mean_63 rfl ?_
              refine R_getf (pc := 64) C dX2_mean_64 (i := 9) (wm0) rfl inlX2 (by decide) k_3_2 rfl ?_
              refine R_iload (pc := 67) C dX2_mean_67 rfl ?_
              refine R_zald (pc := 69) C dX2_mean_69 (wm_7) (rfl) (by omega) (by decide) rfl ?_
              refine R_if_ne (pc := 70) C dX2_mean_70 (tgt := 77) (by decide) (fun c70 => ?_) (fun c70 => ?_)
              · refine R_iconst (pc := 77) C dX2_mean_77 (v := 0) (by decide) ?_
                refine R_iadd (pc := 78) C dX2_mean_78 ?_
                refine R_istore_n (pc := 79) C dX2_mean_79 (Nat.le_of_ble_eq_true rfl) (lv' := [some (.ref _), some (.int _), some (.int _), some (.int _), some (.int _)]) rfl ?_
                refine R_iinc (pc := 80) C dX2_mean_80 rfl (inc1) (lv' := [some (.ref _), some (.int _), some (.int _), some (.int _), some (.int _)]) rfl ?_
                refine R_goto (pc := 83) C dX2_mean_83 (tgt := 7) (by decide) ?_
                exact ih (w + 1) _ _ (by omega) (by omega) (by rw [msumM, if_pos ⟨c25, c35⟩, hs]) (by rw [mcntM, if_neg (fun q => c70 q.2), hc])
              · refine R_iconst (pc := 73) C dX2_mean_73 (v := 1) (by decide) ?_
                refine R_goto (pc := 74) C dX2_mean_74 (tgt := 78) (by decide) ?_
                refine R_iadd (pc := 78) C dX2_mean_78 ?_
                refine R_istore_n (pc := 79) C dX2_mean_79 (Nat.le_of_ble_eq_true rfl) (lv' := [some (.ref _), some (.int _), some (.int _), some (.int _), some (.int _)]) rfl ?_
                refine R_iinc (pc := 80) C dX2_mean_80 rfl (inc1) (lv' := [some (.ref _), some (.int _), some (.int _), some (.int _), some (.int _)]) rfl ?_
                refine R_goto (pc := 83) C dX2_mean_83 (tgt := 7) (by decide) ?_
                exact ih (w + 1) _ _ (by omega) (by omega) (by rw [msumM, if_pos ⟨c25, c35⟩, hs]) (by rw [mcntM, if_pos ⟨c60, c70⟩, hc])
  exact LP7 (n + 1) 0 _ _ (by omega) (by omega) rfl rfl
set_option maxHeartbeats 4000000 in
set_option maxRecDepth 100000 in
theorem mX2_pays (hl : l.stackTraces = false) {i : Nat} {D : Nat → Bool} (hi : i < 8) (hst : mu 1 i = if D i = true then 1 else 0) : ∀ h, Wd G (adr, Sc, (n, P, F), mu, g) h → CN l yX2_pays cX2_pays 4 (none) 0 0 0 [.ref (adr 5), .int (nI i)] G h (fun v h1 => v = none ∧ Wd G (adr, Sc, (n, P, payM D F i), mu, g) h1) := by
  intro h0 hwd
  refine CN.of hl (by decide +kernel) rfl (Nat.le_of_ble_eq_true rfl) (fun K sz hKl hin C => ?_)
  have C : CX K G (AH h0 sz) RX2 cX2_pays 4 (none) (rmD 0 0 0) [] := C
  subst hKl
  refine WR.imp (P' := Wd G (adr, Sc, (n, P, F), mu, g)) (fun h e => e ▸ hwd) ?_
  show WR K G _ _ _ [some (.ref (adr 5)), some (.int (nI i)), none, none] 0 0 0 []
  refine R_aload_n (pc := 0) C dX2_pays_0 rfl ?_
  refine R_getf (pc := 1) C dX2_pays_1 (i := 14) (wm0) rfl inlX2 (by decide) k_3_7 rfl ?_
  refine R_iload_n (pc := 4) C dX2_pays_4 rfl ?_
  refine R_iald (pc := 5) C dX2_pays_5 (wm_12) (rfl) (by omega) (by decide) rfl ?_
  refine R_aload_n (pc := 6) C dX2_pays_6 rfl ?_
  refine R_getf (pc := 7) C dX2_pays_7 (i := 7) (wm0) rfl inlX2 (by decide) k_2_23 rfl ?_
  refine R_iload_n (pc := 10) C dX2_pays_10 rfl ?_
  refine R_iald (pc := 11) C dX2_pays_11 (wm_5) (rfl) (by omega) (by decide) rfl ?_
  refine R_isub (pc := 12) C dX2_pays_12 ?_
  refine R_topi (fun a ea => ?_)
  refine R_istore_n (pc := 13) C dX2_pays_13 (Nat.le_of_ble_eq_true rfl) (lv' := [some (.ref _), some (.int _), some (.int _), none]) rfl ?_
  refine R_iload_n (pc := 14) C dX2_pays_14 rfl ?_
  refine R_if_le (pc := 15) C dX2_pays_15 (tgt := 80) (by decide) (fun c15 => ?_) (fun c15 => ?_)
  · refine R_aload_n (pc := 80) C dX2_pays_80 rfl ?_
    refine R_getf (pc := 81) C dX2_pays_81 (i := 11) (wm0) rfl inlX2 (by decide) k_3_4 rfl ?_
    refine R_iload_n (pc := 84) C dX2_pays_84 rfl ?_
    refine R_dup2 (pc := 85) C dX2_pays_85 rfl rfl ?_
    refine R_iald (pc := 86) C dX2_pays_86 (wm_9) (rfl) (by omega) (by decide) rfl ?_
    refine R_aload_n (pc := 87) C dX2_pays_87 rfl ?_
    refine R_getf (pc := 88) C dX2_pays_88 (i := 21) (wm0) rfl inlX2 (by decide) k_3_11 rfl ?_
    refine R_iload_n (pc := 91) C dX2_pays_91 rfl ?_
    refine R_zald (pc := 92) C dX2_pays_92 (wm_s) (rfl) (by omega) (by decide) rfl ?_
    refine R_if_eq (pc := 93) C dX2_pays_93 (tgt := 100) (by decide) (fun c93 => ?_) (fun c93 => ?_)
    · have hb : (if D i = true then 0 else -(F 12 i - F 5 i)) = -a := (if_neg (st0 hst c93)).trans (by rw [ea])
      refine R_iload_n (pc := 100) C dX2_pays_100 rfl ?_
      refine R_ineg (pc := 101) C dX2_pays_101 ?_
      refine R_iadd (pc := 102) C dX2_pays_102 ?_
      refine R_iast (pc := 103) C dX2_pays_103 (wm_9) (rfl) (by omega) (by decide) (pme_9 (v0 := F 9 i + (if D i = true then 0 else -(F 12 i - F 5 i))) (by rw [hb])) ?_
      exact R_vret (pc := 104) C dX2_pays_104 rfl (Nat.le_of_ble_eq_true rfl) (Nat.le_of_ble_eq_true rfl) (fun h hh => ⟨rfl, by rw [show payM D F i = su F 9 i (F 9 i + (if D i = true then 0 else -(F 12 i - F 5 i))) from if_pos (by rw [← ea]; exact c15)]; exact hh⟩)
    · have hb : (if D i = true then 0 else -(F 12 i - F 5 i)) = (0 : Int32) := if_pos (st1 hst c93)
      refine R_iconst (pc := 96) C dX2_pays_96 (v := 0) (by decide) ?_
      refine R_goto (pc := 97) C dX2_pays_97 (tgt := 102) (by decide) ?_
      refine R_iadd (pc := 102) C dX2_pays_102 ?_
      refine R_iast (pc := 103) C dX2_pays_103 (wm_9) (rfl) (by omega) (by decide) (pme_9 (v0 := F 9 i + (if D i = true then 0 else -(F 12 i - F 5 i))) (by rw [hb])) ?_
      exact R_vret (pc := 104) C dX2_pays_104 rfl (Nat.le_of_ble_eq_true rfl) (Nat.le_of_ble_eq_true rfl) (fun h hh => ⟨rfl, by rw [show payM D F i = su F 9 i (F 9 i + (if D i = true then 0 else -(F 12 i - F 5 i))) from if_pos (by rw [← ea]; exact c15)]; exact hh⟩)
  · refine R_iload_n (pc := 18) C dX2_pays_18 rfl ?_
    refine R_aload_n (pc := 19) C dX2_pays_19 rfl ?_
    refine R_getf (pc := 20) C dX2_pays_20 (i := 11) (wm0) rfl inlX2 (by decide) k_3_4 rfl ?_
    refine R_iload_n (pc := 23) C dX2_pays_23 rfl ?_
    refine R_iald (pc := 24) C dX2_pays_24 (wm_9) (rfl) (by omega) (by decide) rfl ?_
    refine R_icmp_ge (pc := 25) C dX2_pays_25 (tgt := 32) (by decide) (fun c25 => ?_) (fun c25 => ?_)
    · refine R_aload_n (pc := 32) C dX2_pays_32 rfl ?_
      refine R_getf (pc := 33) C dX2_pays_33 (i := 11) (wm0) rfl inlX2 (by decide) k_3_4 rfl ?_
      refine R_iload_n (pc := 36) C dX2_pays_36 rfl ?_
      refine R_iald (pc := 37) C dX2_pays_37 (wm_9) (rfl) (by omega) (by decide) rfl ?_
      refine R_topi (fun x e38 => ?_)
      have fx : x = minI a (F 9 i) := e38.trans (minI_le c25)
      refine R_istore_n (pc := 38) C dX2_pays_38 (Nat.le_of_ble_eq_true rfl) (lv' := [some (.ref _), some (.int _), some (.int _), some (.int _)]) rfl ?_
      refine R_aload_n (pc := 39) C dX2_pays_39 rfl ?_
      refine R_getf (pc := 40) C dX2_pays_40 (i := 11) (wm0) rfl inlX2 (by decide) k_3_4 rfl ?_
      refine R_iload_n (pc := 43) C dX2_pays_43 rfl ?_
      refine R_dup2 (pc := 44) C dX2_pays_44 rfl rfl ?_
      refine R_iald (pc := 45) C dX2_pays_45 (wm_9) (rfl) (by omega) (by decide) rfl ?_
      refine R_iload_n (pc := 46) C dX2_pays_46 rfl ?_
      refine R_isub (pc := 47) C dX2_pays_47 ?_
      refine R_iast (pc := 48) C dX2_pays_48 (wm_9) (rfl) (by omega) (by decide) (pme_9 (v0 := F 9 i - x) rfl) ?_
      refine R_aload_n (pc := 49) C dX2_pays_49 rfl ?_
      refine R_getf (pc := 50) C dX2_pays_50 (i := 12) (wm0) rfl inlX2 (by decide) k_3_5 rfl ?_
      refine R_iload_n (pc := 53) C dX2_pays_53 rfl ?_
      refine R_dup2 (pc := 54) C dX2_pays_54 rfl rfl ?_
      refine R_iald (pc := 55) C dX2_pays_55 (wm_10) (rfl) (by omega) (by decide) rfl ?_
      refine R_iconst (pc := 56) C dX2_pays_56 (v := 2) (by decide) ?_
      refine R_iload_n (pc := 57) C dX2_pays_57 rfl ?_
      refine R_iload_n (pc := 58) C dX2_pays_58 rfl ?_
      refine R_isub (pc := 59) C dX2_pays_59 ?_
      refine R_imul (pc := 60) C dX2_pays_60 ?_
      refine R_iadd (pc := 61) C dX2_pays_61 ?_
      refine R_iast (pc := 62) C dX2_pays_62 (wm_10) (rfl) (by omega) (by decide) (pme_10 (v0 := F 10 i + 2 * (a - x)) (by rw [su_f (by omega)])) ?_
      refine R_aload_n (pc := 63) C dX2_pays_63 rfl ?_
      refine R_dup (pc := 64) C dX2_pays_64 rfl ?_
      refine R_getf (pc := 65) C dX2_pays_65 (i := 19) (wm0) rfl inlX2 (by decide) k_27_23 rfl ?_
      refine R_iconst (pc := 68) C dX2_pays_68 (v := 2) (by decide) ?_
      refine R_iload_n (pc := 69) C dX2_pays_69 rfl ?_
      refine R_iload_n (pc := 70) C dX2_pays_70 rfl ?_
      refine R_isub (pc := 71) C dX2_pays_71 ?_
      refine R_imul (pc := 72) C dX2_pays_72 ?_
      refine R_iadd (pc := 73) C dX2_pays_73 ?_
      refine R_putf (pc := 74) C dX2_pays_74 (i := 19) (wm0) rfl inlX2 tyX2_ok nmX2 (by decide) k_27_23 rfl rfl rfl (Nat.le_of_ble_eq_true rfl) (fun h hh => (by have z := pm_fund (v := F 16 0 + 2 * (a - x)) h hh; exact z)) ?_
      refine R_goto (pc := 77) C dX2_pays_77 (tgt := 104) (by decide) ?_
      exact R_vret (pc := 104) C dX2_pays_104 rfl (Nat.le_of_ble_eq_true rfl) (Nat.le_of_ble_eq_true rfl) (fun h hh => ⟨rfl, by rw [show payM D F i = chg F i (F 12 i - F 5 i) from if_neg (by rw [← ea]; exact c15), chg, ← ea, ← fx]; exact hh⟩)
    · refine R_iload_n (pc := 28) C dX2_pays_28 rfl ?_
      refine R_goto (pc := 29) C dX2_pays_29 (tgt := 38) (by decide) ?_
      refine R_topi (fun x e38 => ?_)
      have fx : x = minI a (F 9 i) := e38.trans (minI_nle c25)
      refine R_istore_n (pc := 38) C dX2_pays_38 (Nat.le_of_ble_eq_true rfl) (lv' := [some (.ref _), some (.int _), some (.int _), some (.int _)]) rfl ?_
      refine R_aload_n (pc := 39) C dX2_pays_39 rfl ?_
      refine R_getf (pc := 40) C dX2_pays_40 (i := 11) (wm0) rfl inlX2 (by decide) k_3_4 rfl ?_
      refine R_iload_n (pc := 43) C dX2_pays_43 rfl ?_
      refine R_dup2 (pc := 44) C dX2_pays_44 rfl rfl ?_
      refine R_iald (pc := 45) C dX2_pays_45 (wm_9) (rfl) (by omega) (by decide) rfl ?_
      refine R_iload_n (pc := 46) C dX2_pays_46 rfl ?_
      refine R_isub (pc := 47) C dX2_pays_47 ?_
      refine R_iast (pc := 48) C dX2_pays_48 (wm_9) (rfl) (by omega) (by decide) (pme_9 (v0 := F 9 i - x) rfl) ?_
      refine R_aload_n (pc := 49) C dX2_pays_49 rfl ?_
      refine R_getf (pc := 50) C dX2_pays_50 (i := 12) (wm0) rfl inlX2 (by decide) k_3_5 rfl ?_
      refine R_iload_n (pc := 53) C dX2_pays_53 rfl ?_
      refine R_dup2 (pc := 54) C dX2_pays_54 rfl rfl ?_
      refine R_iald (pc := 55) C dX2_pays_55 (wm_10) (rfl) (by omega) (by decide) rfl ?_
      refine R_iconst (pc := 56) C dX2_pays_56 (v := 2) (by decide) ?_
      refine R_iload_n (pc := 57) C dX2_pays_57 rfl ?_
      refine R_iload_n (pc := 58) C dX2_pays_58 rfl ?_
      refine R_isub (pc := 59) C dX2_pays_59 ?_
      refine R_imul (pc := 60) C dX2_pays_60 ?_
      refine R_iadd (pc := 61) C dX2_pays_61 ?_
      refine R_iast (pc := 62) C dX2_pays_62 (wm_10) (rfl) (by omega) (by decide) (pme_10 (v0 := F 10 i + 2 * (a - x)) (by rw [su_f (by omega)])) ?_
      refine R_aload_n (pc := 63) C dX2_pays_63 rfl ?_
      refine R_dup (pc := 64) C dX2_pays_64 rfl ?_
      refine R_getf (pc := 65) C dX2_pays_65 (i := 19) (wm0) rfl inlX2 (by decide) k_27_23 rfl ?_
      refine R_iconst (pc := 68) C dX2_pays_68 (v := 2) (by decide) ?_
      refine R_iload_n (pc := 69) C dX2_pays_69 rfl ?_
      refine R_iload_n (pc := 70) C dX2_pays_70 rfl ?_
      refine R_isub (pc := 71) C dX2_pays_71 ?_
      refine R_imul (pc := 72) C dX2_pays_72 ?_
      refine R_iadd (pc := 73) C dX2_pays_73 ?_
      refine R_putf (pc := 74) C dX2_pays_74 (i := 19) (wm0) rfl inlX2 tyX2_ok nmX2 (by decide) k_27_23 rfl rfl rfl (Nat.le_of_ble_eq_true rfl) (fun h hh => (by have z := pm_fund (v := F 16 0 + 2 * (a - x)) h hh; exact z)) ?_
      refine R_goto (pc := 77) C dX2_pays_77 (tgt := 104) (by decide) ?_
      exact R_vret (pc := 104) C dX2_pays_104 rfl (Nat.le_of_ble_eq_true rfl) (Nat.le_of_ble_eq_true rfl) (fun h hh => ⟨rfl, by rw [show payM D F i = chg F i (F 12 i - F 5 i) from if_neg (by rw [← ea]; exact c15), chg, ← ea, ← fx]; exact hh⟩)
set_option maxHeartbeats 4000000 in
set_option maxRecDepth 100000 in
theorem mX2_year (hl : l.stackTraces = false)  (hn : n ≤ 8) (hP : P ≤ 5) (hrg : Rg n P F) (hyr : Bt (F 16 1) 60) : ∀ h, Wd G (adr, Sc, (n, P, F), mu, g) h → CN l yX2_year cX2_year 3 (some .int) 3 0 0 [.ref (adr 5)] G h (fun v h1 => mPost (kYear F) (nI (cnt (spSt n P F) 8)) (fun m9 => Wd G (adr, Sc, (n, P, F), m9, g)) (fun m9 => Wd G (adr, Sc, (n, P, su (mq2 n (spSt n P F) (mq1 n P F (spSt n P F) n) n) 16 1 (mq2 n (spSt n P F) (mq1 n P F (spSt n P F) n) n 16 1 + 1)), m9, g)) v h1) := by
  intro h0 hwd
  refine CN.of hl (by decide +kernel) rfl (Nat.le_of_ble_eq_true rfl) (fun K sz hKl hin C => ?_)
  have C : CX K G (AH h0 sz) RX2 cX2_year 3 (some .int) (rmD 3 0 0) [] := C
  subst hKl
  refine WR.imp (P' := Wd G (adr, Sc, (n, P, F), mu, g)) (fun h e => e ▸ hwd) ?_
  show WR K G _ _ _ [some (.ref (adr 5)), none, none] 0 0 0 []
  refine R_aload_n (pc := 0) C dX2_year_0 rfl ?_
  refine R_iconst (pc := 1) C dX2_year_1 (v := 0) (by decide) ?_
  refine R_putf (pc := 2) C dX2_year_2 (i := 0) (wm0) rfl inlX2 tyX2_ok nmX2 (by decide) k_17_18 rfl rfl rfl (Nat.le_of_ble_eq_true rfl) (pm_thr) ?_
  refine R_aload_n (pc := 5) C dX2_year_5 rfl ?_
  refine R_getf (pc := 6) C dX2_year_6 (i := 20) (wm0) rfl inlX2 (by decide) k_26_21 rfl ?_
  refine R_bipush (pc := 9) C dX2_year_9 (v := 60) (by decide) ?_
  refine R_icmp_ne (pc := 11) C dX2_year_11 (tgt := 20) (by decide) (fun c11 => ?_) (fun c11 => ?_)
  · have hky : kYear F = 0 := if_pos (yr_lt hyr c11)
    refine R_aload_n (pc := 20) C dX2_year_20 rfl ?_
    refine R_callVN (pc := 21) C dX2_year_21 (vs := []) (fun h hh => mX2_stops hl hn hP hrg h hh) (isOb_of (wm0) rfl) ⟨k_26_22, k_26_23, k_27_0, k_1_5, k_27_1⟩ (sgn (nv := 0) rfl ⟨by decide +kernel, by decide +kernel, by decide +kernel⟩) ⟨⟨Nat.le_of_ble_eq_true rfl, Nat.le_of_ble_eq_true rfl⟩, ⟨Nat.le_of_ble_eq_true rfl, Nat.le_of_ble_eq_true rfl⟩, Nat.le_of_ble_eq_true rfl⟩ rfl rfl (fun h9 hh9 v9 => ?_)
    refine WR.pr (fun e9 => ?_)
    subst e9
    refine WR.ex (fun m9 => WR.pr (fun q8 => ?_))
    obtain ⟨g1, g2, g3⟩ := q8
    have g0 : m9 0 0 = 0 := by rw [g1]; exact su_s
    show WR K G _ _ _ _ _ _ _ (.int _ :: _)
    refine R_istore_n (pc := 24) C dX2_year_24 (Nat.le_of_ble_eq_true rfl) (lv' := [some (.ref _), some (.int _), none]) rfl ?_
    refine R_iconst (pc := 25) C dX2_year_25 (v := 0) (by decide) ?_
    refine R_istore_n (pc := 26) C dX2_year_26 (Nat.le_of_ble_eq_true rfl) (lv' := [some (.ref _), some (.int _), some (.int _)]) rfl ?_
    have LP27 : ∀ (m1 i : Nat), n < m1 + i → i ≤ n → WR K G (AH h0 sz) (QM K G h0 sz 0 0 (fun v h1 => mPost (kYear F) (nI (cnt (spSt n P F) 8)) (fun m9 => Wd G (adr, Sc, (n, P, F), m9, g)) (fun m9 => Wd G (adr, Sc, (n, P, su (mq2 n (spSt n P F) (mq1 n P F (spSt n P F) n) n) 16 1 (mq2 n (spSt n P F) (mq1 n P F (spSt n P F) n) n 16 1 + 1)), m9, g)) v h1)) (Wd G (adr, Sc, (n, P, mq1 n P F (spSt n P F) i), m9, g)) [some (.ref (adr 5)), some (.int (nI (cnt (spSt n P F) 8))), some (.int (nI i))] 0 0 27 [] := by
      intro m1
      induction m1 with
      | zero => intro i  h1 h2; exact absurd h1 (by omega)
      | succ m1 ih1 =>
        intro i  h1 h2 
        refine R_iload_n (pc := 27) C dX2_year_27 rfl ?_
        refine R_aload_n (pc := 28) C dX2_year_28 rfl ?_
        refine R_getf (pc := 29) C dX2_year_29 (i := 1) (wm0) rfl inlX2 (by decide) k_17_19 rfl ?_
        refine R_icmp_ge (pc := 32) C dX2_year_32 (tgt := 99) (by decide) (fun c32 => ?_) (fun c32 => ?_)
        · have ei : n = i := Nat.le_antisymm (le_nI (by omega) (by omega) c32) h2
          subst ei
          refine R_iconst (pc := 99) C dX2_year_99 (v := 0) (by decide) ?_
          refine R_istore_n (pc := 100) C dX2_year_100 (Nat.le_of_ble_eq_true rfl) (lv' := [some (.ref _), some (.int _), some (.int _)]) rfl ?_
          have LP101 : ∀ (m2 i : Nat), n < m2 + i → i ≤ n → WR K G (AH h0 sz) (QM K G h0 sz 0 0 (fun v h1 => mPost (kYear F) (nI (cnt (spSt n P F) 8)) (fun m9 => Wd G (adr, Sc, (n, P, F), m9, g)) (fun m9 => Wd G (adr, Sc, (n, P, su (mq2 n (spSt n P F) (mq1 n P F (spSt n P F) n) n) 16 1 (mq2 n (spSt n P F) (mq1 n P F (spSt n P F) n) n 16 1 + 1)), m9, g)) v h1)) (Wd G (adr, Sc, (n, P, mq2 n (spSt n P F) (mq1 n P F (spSt n P F) n) i), m9, g)) [some (.ref (adr 5)), some (.int (nI (cnt (spSt n P F) 8))), some (.int (nI i))] 0 0 101 [] := by
            intro m2
            induction m2 with
            | zero => intro i  h1 h2; exact absurd h1 (by omega)
            | succ m2 ih2 =>
              intro i  h1 h2 
              refine R_iload_n (pc := 101) C dX2_year_101 rfl ?_
              refine R_aload_n (pc := 102) C dX2_year_102 rfl ?_
              refine R_getf (pc := 103) C dX2_year_103 (i := 1) (wm0) rfl inlX2 (by decide) k_17_19 rfl ?_
              refine R_icmp_ge (pc := 106) C dX2_year_106 (tgt := 181) (by decide) (fun c106 => ?_) (fun c106 => ?_)
              · have ei : n = i := Nat.le_antisymm (le_nI (by omega) (by omega) c106) h2
                subst ei
                refine R_aload_n (pc := 181) C dX2_year_181 rfl ?_
                refine R_dup (pc := 182) C dX2_year_182 rfl ?_
                refine R_getf (pc := 183) C dX2_year_183 (i := 20) (wm0) rfl inlX2 (by decide) k_26_21 rfl ?_
                refine R_iconst (pc := 186) C dX2_year_186 (v := 1) (by decide) ?_
                refine R_iadd (pc := 187) C dX2_year_187 ?_
                refine R_putf (pc := 188) C dX2_year_188 (i := 20) (wm0) rfl inlX2 tyX2_ok nmX2 (by decide) k_26_21 rfl rfl rfl (Nat.le_of_ble_eq_true rfl) (pm_years) ?_
                refine R_iload_n (pc := 191) C dX2_year_191 rfl ?_
                exact R_iret (pc := 192) C dX2_year_192 rfl (Nat.le_of_ble_eq_true rfl) (Nat.le_of_ble_eq_true rfl) (fun h hh => Or.inl ⟨hky, rfl, m9, g0, hh⟩)
              · have hi : i < n := gt_nI (by omega) (by omega) c106
                refine R_aload_n (pc := 109) C dX2_year_109 rfl ?_
                refine R_getf (pc := 110) C dX2_year_110 (i := 14) (wm0) rfl inlX2 (by decide) k_3_7 rfl ?_
                refine R_iload_n (pc := 113) C dX2_year_113 rfl ?_
                refine R_aload_n (pc := 114) C dX2_year_114 rfl ?_
                refine R_getf (pc := 115) C dX2_year_115 (i := 9) (wm0) rfl inlX2 (by decide) k_3_2 rfl ?_
                refine R_iload_n (pc := 118) C dX2_year_118 rfl ?_
                refine R_zald (pc := 119) C dX2_year_119 (wm_7) (rfl) (by omega) (by decide) rfl ?_
                refine R_if_ne (pc := 120) C dX2_year_120 (tgt := 132) (by decide) (fun c120 => ?_) (fun c120 => ?_)
                · refine R_aload_n (pc := 132) C dX2_year_132 rfl ?_
                  refine R_getf (pc := 133) C dX2_year_133 (i := 10) (wm0) rfl inlX2 (by decide) k_3_3 rfl ?_
                  refine R_iload_n (pc := 136) C dX2_year_136 rfl ?_
                  refine R_iald (pc := 137) C dX2_year_137 (wm_8) (rfl) (by omega) (by decide) rfl ?_
                  refine R_if_le (pc := 138) C dX2_year_138 (tgt := 152) (by decide) (fun c138 => ?_) (fun c138 => ?_)
                  · have ht : meanM n (mq2 n (spSt n P F) (mq1 n P F (spSt n P F) n) i) ((mq2 n (spSt n P F) (mq1 n P F (spSt n P F) n) i) 0 i) = tellM n (mq2 n (spSt n P F) (mq1 n P F (spSt n P F) n) i) i := by unfold tellM; rw [if_neg c120, if_neg (Int32.not_lt.mpr c138)]
                    refine R_aload_n (pc := 152) C dX2_year_152 rfl ?_
                    refine R_aload_n (pc := 153) C dX2_year_153 rfl ?_
                    refine R_getf (pc := 154) C dX2_year_154 (i := 2) (wm0) rfl inlX2 (by decide) k_2_18 rfl ?_
                    refine R_iload_n (pc := 157) C dX2_year_157 rfl ?_
                    refine R_iald (pc := 158) C dX2_year_158 (wm_0) (rfl) (by omega) (by decide) rfl ?_
                    refine R_callVN (pc := 159) C dX2_year_159 (vs := [_]) (fun h hh => mX2_mean hl hn h hh) (isOb_of (wm0) rfl) ⟨k_27_15, k_27_16, k_27_17, k_1_5, k_27_18⟩ (sgn (nv := 1) rfl ⟨by decide +kernel, by decide +kernel, by decide +kernel⟩) ⟨⟨Nat.le_of_ble_eq_true rfl, Nat.le_of_ble_eq_true rfl⟩, ⟨Nat.le_of_ble_eq_true rfl, Nat.le_of_ble_eq_true rfl⟩, Nat.le_of_ble_eq_true rfl⟩ rfl rfl (fun h9 hh9 v9 => ?_)
                    refine WR.pr (fun e9 => ?_)
                    subst e9
                    show WR K G _ _ _ _ _ _ _ (.int _ :: _)
                    refine R_iast (pc := 162) C dX2_year_162 (wm_12) (rfl) (by omega) (by decide) (pme_12 (v0 := tellM n (mq2 n (spSt n P F) (mq1 n P F (spSt n P F) n) i) i) ht) ?_
                    refine R_aload_n (pc := 163) C dX2_year_163 rfl ?_
                    refine R_getf (pc := 164) C dX2_year_164 (i := 10) (wm0) rfl inlX2 (by decide) k_3_3 rfl ?_
                    refine R_iload_n (pc := 167) C dX2_year_167 rfl ?_
                    refine R_iconst (pc := 168) C dX2_year_168 (v := 0) (by decide) ?_
                    refine R_iast (pc := 169) C dX2_year_169 (wm_8) (rfl) (by omega) (by decide) (pm_8) ?_
                    refine R_aload_n (pc := 170) C dX2_year_170 rfl ?_
                    refine R_iload_n (pc := 171) C dX2_year_171 rfl ?_
                    refine R_callVN (pc := 172) C dX2_year_172 (vs := [_]) (fun h hh => mX2_pays (D := (spSt n P F)) hl (by omega) (g2 _ (by omega)) h hh) (isOb_of (wm0) rfl) ⟨k_27_19, k_27_20, k_27_21, k_1_5, k_27_22⟩ (sgn (nv := 1) rfl ⟨by decide +kernel, by decide +kernel, by decide +kernel⟩) ⟨⟨Nat.le_of_ble_eq_true rfl, Nat.le_of_ble_eq_true rfl⟩, ⟨Nat.le_of_ble_eq_true rfl, Nat.le_of_ble_eq_true rfl⟩, Nat.le_of_ble_eq_true rfl⟩ rfl rfl (fun h9 hh9 v9 => ?_)
                    refine WR.pr (fun e9 => ?_)
                    subst e9
                    show WR K G _ _ _ _ _ _ _ _
                    refine R_iinc (pc := 175) C dX2_year_175 rfl (inc1) (lv' := [some (.ref _), some (.int _), some (.int _)]) rfl ?_
                    refine R_goto (pc := 178) C dX2_year_178 (tgt := 101) (by decide) ?_
                    exact ih2 (i + 1) (by omega) (by omega)
                  · have ht : 3 * (mq2 n (spSt n P F) (mq1 n P F (spSt n P F) n) i) 8 i = tellM n (mq2 n (spSt n P F) (mq1 n P F (spSt n P F) n) i) i := by unfold tellM; rw [if_neg c120, if_pos (Int32.not_le.mp c138)]
                    refine R_iconst (pc := 141) C dX2_year_141 (v := 3) (by decide) ?_
                    refine R_aload_n (pc := 142) C dX2_year_142 rfl ?_
                    refine R_getf (pc := 143) C dX2_year_143 (i := 10) (wm0) rfl inlX2 (by decide) k_3_3 rfl ?_
                    refine R_iload_n (pc := 146) C dX2_year_146 rfl ?_
                    refine R_iald (pc := 147) C dX2_year_147 (wm_8) (rfl) (by omega) (by decide) rfl ?_
                    refine R_imul (pc := 148) C dX2_year_148 ?_
                    refine R_goto (pc := 149) C dX2_year_149 (tgt := 162) (by decide) ?_
                    refine R_iast (pc := 162) C dX2_year_162 (wm_12) (rfl) (by omega) (by decide) (pme_12 (v0 := tellM n (mq2 n (spSt n P F) (mq1 n P F (spSt n P F) n) i) i) ht) ?_
                    refine R_aload_n (pc := 163) C dX2_year_163 rfl ?_
                    refine R_getf (pc := 164) C dX2_year_164 (i := 10) (wm0) rfl inlX2 (by decide) k_3_3 rfl ?_
                    refine R_iload_n (pc := 167) C dX2_year_167 rfl ?_
                    refine R_iconst (pc := 168) C dX2_year_168 (v := 0) (by decide) ?_
                    refine R_iast (pc := 169) C dX2_year_169 (wm_8) (rfl) (by omega) (by decide) (pm_8) ?_
                    refine R_aload_n (pc := 170) C dX2_year_170 rfl ?_
                    refine R_iload_n (pc := 171) C dX2_year_171 rfl ?_
                    refine R_callVN (pc := 172) C dX2_year_172 (vs := [_]) (fun h hh => mX2_pays (D := (spSt n P F)) hl (by omega) (g2 _ (by omega)) h hh) (isOb_of (wm0) rfl) ⟨k_27_19, k_27_20, k_27_21, k_1_5, k_27_22⟩ (sgn (nv := 1) rfl ⟨by decide +kernel, by decide +kernel, by decide +kernel⟩) ⟨⟨Nat.le_of_ble_eq_true rfl, Nat.le_of_ble_eq_true rfl⟩, ⟨Nat.le_of_ble_eq_true rfl, Nat.le_of_ble_eq_true rfl⟩, Nat.le_of_ble_eq_true rfl⟩ rfl rfl (fun h9 hh9 v9 => ?_)
                    refine WR.pr (fun e9 => ?_)
                    subst e9
                    show WR K G _ _ _ _ _ _ _ _
                    refine R_iinc (pc := 175) C dX2_year_175 rfl (inc1) (lv' := [some (.ref _), some (.int _), some (.int _)]) rfl ?_
                    refine R_goto (pc := 178) C dX2_year_178 (tgt := 101) (by decide) ?_
                    exact ih2 (i + 1) (by omega) (by omega)
                · have ht : (mq2 n (spSt n P F) (mq1 n P F (spSt n P F) n) i) 11 i = tellM n (mq2 n (spSt n P F) (mq1 n P F (spSt n P F) n) i) i := by unfold tellM; rw [if_pos c120]
                  refine R_aload_n (pc := 123) C dX2_year_123 rfl ?_
                  refine R_getf (pc := 124) C dX2_year_124 (i := 13) (wm0) rfl inlX2 (by decide) k_3_6 rfl ?_
                  refine R_iload_n (pc := 127) C dX2_year_127 rfl ?_
                  refine R_iald (pc := 128) C dX2_year_128 (wm_11) (rfl) (by omega) (by decide) rfl ?_
                  refine R_goto (pc := 129) C dX2_year_129 (tgt := 162) (by decide) ?_
                  refine R_iast (pc := 162) C dX2_year_162 (wm_12) (rfl) (by omega) (by decide) (pme_12 (v0 := tellM n (mq2 n (spSt n P F) (mq1 n P F (spSt n P F) n) i) i) ht) ?_
                  refine R_aload_n (pc := 163) C dX2_year_163 rfl ?_
                  refine R_getf (pc := 164) C dX2_year_164 (i := 10) (wm0) rfl inlX2 (by decide) k_3_3 rfl ?_
                  refine R_iload_n (pc := 167) C dX2_year_167 rfl ?_
                  refine R_iconst (pc := 168) C dX2_year_168 (v := 0) (by decide) ?_
                  refine R_iast (pc := 169) C dX2_year_169 (wm_8) (rfl) (by omega) (by decide) (pm_8) ?_
                  refine R_aload_n (pc := 170) C dX2_year_170 rfl ?_
                  refine R_iload_n (pc := 171) C dX2_year_171 rfl ?_
                  refine R_callVN (pc := 172) C dX2_year_172 (vs := [_]) (fun h hh => mX2_pays (D := (spSt n P F)) hl (by omega) (g2 _ (by omega)) h hh) (isOb_of (wm0) rfl) ⟨k_27_19, k_27_20, k_27_21, k_1_5, k_27_22⟩ (sgn (nv := 1) rfl ⟨by decide +kernel, by decide +kernel, by decide +kernel⟩) ⟨⟨Nat.le_of_ble_eq_true rfl, Nat.le_of_ble_eq_true rfl⟩, ⟨Nat.le_of_ble_eq_true rfl, Nat.le_of_ble_eq_true rfl⟩, Nat.le_of_ble_eq_true rfl⟩ rfl rfl (fun h9 hh9 v9 => ?_)
                  refine WR.pr (fun e9 => ?_)
                  subst e9
                  show WR K G _ _ _ _ _ _ _ _
                  refine R_iinc (pc := 175) C dX2_year_175 rfl (inc1) (lv' := [some (.ref _), some (.int _), some (.int _)]) rfl ?_
                  refine R_goto (pc := 178) C dX2_year_178 (tgt := 101) (by decide) ?_
                  exact ih2 (i + 1) (by omega) (by omega)
          exact LP101 (n + 1) 0 (by omega) (by omega)
        · have hi : i < n := gt_nI (by omega) (by omega) c32
          refine R_aload_n (pc := 35) C dX2_year_35 rfl ?_
          refine R_getf (pc := 36) C dX2_year_36 (i := 11) (wm0) rfl inlX2 (by decide) k_3_4 rfl ?_
          refine R_iload_n (pc := 39) C dX2_year_39 rfl ?_
          refine R_dup2 (pc := 40) C dX2_year_40 rfl rfl ?_
          refine R_iald (pc := 41) C dX2_year_41 (wm_9) (rfl) (by omega) (by decide) rfl ?_
          refine R_aload_n (pc := 42) C dX2_year_42 rfl ?_
          refine R_getf (pc := 43) C dX2_year_43 (i := 11) (wm0) rfl inlX2 (by decide) k_3_4 rfl ?_
          refine R_iload_n (pc := 46) C dX2_year_46 rfl ?_
          refine R_iald (pc := 47) C dX2_year_47 (wm_9) (rfl) (by omega) (by decide) rfl ?_
          refine R_bipush (pc := 48) C dX2_year_48 (v := 9) (by decide) ?_
          refine R_iadd (pc := 50) C dX2_year_50 ?_
          refine R_bipush (pc := 51) C dX2_year_51 (v := 10) (by decide) ?_
          refine R_idiv (pc := 53) C dX2_year_53 (by decide) ?_
          refine R_isub (pc := 54) C dX2_year_54 ?_
          refine R_iast (pc := 55) C dX2_year_55 (wm_9) (rfl) (by omega) (by decide) (pm_9) ?_
          refine R_aload_n (pc := 56) C dX2_year_56 rfl ?_
          refine R_getf (pc := 57) C dX2_year_57 (i := 4) (wm0) rfl inlX2 (by decide) k_2_20 rfl ?_
          refine R_iload_n (pc := 60) C dX2_year_60 rfl ?_
          refine R_aload_n (pc := 61) C dX2_year_61 rfl ?_
          refine R_getf (pc := 62) C dX2_year_62 (i := 22) (wm0) rfl inlX2 (by decide) k_3_12 rfl ?_
          refine R_iload_n (pc := 65) C dX2_year_65 rfl ?_
          refine R_iald (pc := 66) C dX2_year_66 (wm_b) (rfl) (by omega) (by decide) rfl ?_
          refine R_iast (pc := 67) C dX2_year_67 (wm_2) (rfl) (by omega) (by decide) (pme_2 (v0 := bh n P F (spSt n P F) i) (g3 i hi)) ?_
          refine R_aload_n (pc := 68) C dX2_year_68 rfl ?_
          refine R_getf (pc := 69) C dX2_year_69 (i := 13) (wm0) rfl inlX2 (by decide) k_3_6 rfl ?_
          refine R_iload_n (pc := 72) C dX2_year_72 rfl ?_
          refine R_aload_n (pc := 73) C dX2_year_73 rfl ?_
          refine R_getf (pc := 74) C dX2_year_74 (i := 21) (wm0) rfl inlX2 (by decide) k_3_11 rfl ?_
          refine R_iload_n (pc := 77) C dX2_year_77 rfl ?_
          refine R_zald (pc := 78) C dX2_year_78 (wm_s) (rfl) (by omega) (by decide) rfl ?_
          refine R_if_eq (pc := 79) C dX2_year_79 (tgt := 86) (by decide) (fun c79 => ?_) (fun c79 => ?_)
          · have hd : (su (su (mq1 n P F (spSt n P F) i) 9 i (mq1 n P F (spSt n P F) i 9 i - (mq1 n P F (spSt n P F) i 9 i + 9) / 10)) 2 i (bh n P F (spSt n P F) i)) 6 i = drw F (spSt n P F) i := by rw [su_f (by omega), su_f (by omega), mq1_ne (by omega)]; exact (if_neg (st0 (g2 i (by omega)) c79)).symm
            refine R_aload_n (pc := 86) C dX2_year_86 rfl ?_
            refine R_getf (pc := 87) C dX2_year_87 (i := 8) (wm0) rfl inlX2 (by decide) k_3_0 rfl ?_
            refine R_iload_n (pc := 90) C dX2_year_90 rfl ?_
            refine R_iald (pc := 91) C dX2_year_91 (wm_6) (rfl) (by omega) (by decide) rfl ?_
            refine R_iast (pc := 92) C dX2_year_92 (wm_11) (rfl) (by omega) (by decide) (pme_11 (v0 := drw F (spSt n P F) i) hd) ?_
            refine R_iinc (pc := 93) C dX2_year_93 rfl (inc1) (lv' := [some (.ref _), some (.int _), some (.int _)]) rfl ?_
            refine R_goto (pc := 96) C dX2_year_96 (tgt := 27) (by decide) ?_
            exact ih1 (i + 1) (by omega) (by omega)
          · have hd : (0 : Int32) = drw F (spSt n P F) i := (if_pos (st1 (g2 i (by omega)) c79)).symm
            refine R_iconst (pc := 82) C dX2_year_82 (v := 0) (by decide) ?_
            refine R_goto (pc := 83) C dX2_year_83 (tgt := 92) (by decide) ?_
            refine R_iast (pc := 92) C dX2_year_92 (wm_11) (rfl) (by omega) (by decide) (pme_11 (v0 := drw F (spSt n P F) i) hd) ?_
            refine R_iinc (pc := 93) C dX2_year_93 rfl (inc1) (lv' := [some (.ref _), some (.int _), some (.int _)]) rfl ?_
            refine R_goto (pc := 96) C dX2_year_96 (tgt := 27) (by decide) ?_
            exact ih1 (i + 1) (by omega) (by omega)
    exact LP27 (n + 1) 0 (by omega) (by omega)
  · refine R_aload_n (pc := 14) C dX2_year_14 rfl ?_
    refine R_iconst (pc := 15) C dX2_year_15 (v := 1) (by decide) ?_
    refine R_callVN (pc := 16) C dX2_year_16 (vs := [_]) (fun h hh => mX2_refuses hl h hh) (isOb_of (wm0) rfl) ⟨k_17_23, k_18_0, k_18_1, k_1_5, k_18_2⟩ (sgn (nv := 1) rfl ⟨by decide +kernel, by decide +kernel, by decide +kernel⟩) ⟨⟨Nat.le_of_ble_eq_true rfl, Nat.le_of_ble_eq_true rfl⟩, ⟨Nat.le_of_ble_eq_true rfl, Nat.le_of_ble_eq_true rfl⟩, Nat.le_of_ble_eq_true rfl⟩ rfl rfl (fun h9 hh9 v9 => ?_)
    refine WR.pr (fun e9 => ?_)
    subst e9
    show WR K G _ _ _ _ _ _ _ (.int _ :: _)
    have hk : kYear F = 1 := if_neg (by rw [c11]; decide)
    exact R_iret (pc := 19) C dX2_year_19 rfl (Nat.le_of_ble_eq_true rfl) (Nat.le_of_ble_eq_true rfl) (fun h hh => Or.inr ⟨by rw [hk]; decide, ⟨_, rfl⟩, _, su_s.trans hk.symm, hh⟩)
set_option maxHeartbeats 4000000 in
set_option maxRecDepth 100000 in
theorem mX2_wouldStop (hl : l.stackTraces = false)  (hn : n ≤ 8) (hP : P ≤ 5) (hrg : Rg n P F) : ∀ h, Wd G (adr, Sc, (n, P, F), mu, g) h → CN l yX2_wouldStop cX2_wouldStop 4 (some .int) 3 0 0 [.ref (adr 5)] G h (fun v h1 => v = some (.int (mk (spSt n P F))) ∧ ∃ m9 : Nat → Nat → Int32, m9 0 0 = 0 ∧ Wd G (adr, Sc, (n, P, F), m9, g) h1) := by
  intro h0 hwd
  refine CN.of hl (by decide +kernel) rfl (Nat.le_of_ble_eq_true rfl) (fun K sz hKl hin C => ?_)
  have C : CX K G (AH h0 sz) RX2 cX2_wouldStop 4 (some .int) (rmD 3 0 0) [] := C
  subst hKl
  refine WR.imp (P' := Wd G (adr, Sc, (n, P, F), mu, g)) (fun h e => e ▸ hwd) ?_
  show WR K G _ _ _ [some (.ref (adr 5)), none, none, none] 0 0 0 []
  refine R_aload_n (pc := 0) C dX2_wouldStop_0 rfl ?_
  refine R_iconst (pc := 1) C dX2_wouldStop_1 (v := 0) (by decide) ?_
  refine R_putf (pc := 2) C dX2_wouldStop_2 (i := 0) (wm0) rfl inlX2 tyX2_ok nmX2 (by decide) k_17_18 rfl rfl rfl (Nat.le_of_ble_eq_true rfl) (pm_thr) ?_
  refine R_aload_n (pc := 5) C dX2_wouldStop_5 rfl ?_
  refine R_callVN (pc := 6) C dX2_wouldStop_6 (vs := []) (fun h hh => mX2_stops hl hn hP hrg h hh) (isOb_of (wm0) rfl) ⟨k_26_22, k_26_23, k_27_0, k_1_5, k_27_1⟩ (sgn (nv := 0) rfl ⟨by decide +kernel, by decide +kernel, by decide +kernel⟩) ⟨⟨Nat.le_of_ble_eq_true rfl, Nat.le_of_ble_eq_true rfl⟩, ⟨Nat.le_of_ble_eq_true rfl, Nat.le_of_ble_eq_true rfl⟩, Nat.le_of_ble_eq_true rfl⟩ rfl rfl (fun h9 hh9 v9 => ?_)
  refine WR.pr (fun e9 => ?_)
  subst e9
  refine WR.ex (fun m9 => WR.pr (fun q8 => ?_))
  obtain ⟨g1, g2, g3⟩ := q8
  have g0 : m9 0 0 = 0 := by rw [g1]; exact su_s
  show WR K G _ _ _ _ _ _ _ (.int _ :: _)
  refine R_istore_n (pc := 9) C dX2_wouldStop_9 (Nat.le_of_ble_eq_true rfl) (lv' := [some (.ref _), some (.int _), none, none]) rfl ?_
  refine R_iconst (pc := 10) C dX2_wouldStop_10 (v := 0) (by decide) ?_
  refine R_istore_n (pc := 11) C dX2_wouldStop_11 (Nat.le_of_ble_eq_true rfl) (lv' := [some (.ref _), some (.int _), some (.int _), none]) rfl ?_
  refine R_iconst (pc := 12) C dX2_wouldStop_12 (v := 0) (by decide) ?_
  refine R_istore_n (pc := 13) C dX2_wouldStop_13 (Nat.le_of_ble_eq_true rfl) (lv' := [some (.ref _), some (.int _), some (.int _), some (.int _)]) rfl ?_
  have LP14 : ∀ (m w : Nat) (s : Int32), n < m + w → w ≤ n → s = mOr (spSt n P F) w → WR K G (AH h0 sz) (QM K G h0 sz 0 0 (fun v h1 => v = some (.int (mk (spSt n P F))) ∧ ∃ m9 : Nat → Nat → Int32, m9 0 0 = 0 ∧ Wd G (adr, Sc, (n, P, F), m9, g) h1)) (Wd G (adr, Sc, (n, P, F), m9, g)) [some (.ref (adr 5)), some (.int (nI (cnt (spSt n P F) 8))), some (.int s), some (.int (nI w))] 0 0 14 [] := by
    intro m
    induction m with
    | zero => intro w s h1 h2; exact absurd h1 (by omega)
    | succ m ih =>
      intro w s h1 h2 hs
      refine R_iload_n (pc := 14) C dX2_wouldStop_14 rfl ?_
      refine R_aload_n (pc := 15) C dX2_wouldStop_15 rfl ?_
      refine R_getf (pc := 16) C dX2_wouldStop_16 (i := 1) (wm0) rfl inlX2 (by decide) k_17_19 rfl ?_
      refine R_icmp_ge (pc := 19) C dX2_wouldStop_19 (tgt := 47) (by decide) (fun c19 => ?_) (fun c19 => ?_)
      · have ew : n = w := Nat.le_antisymm (le_nI (by omega) (by omega) c19) h2
        subst ew
        refine R_iload_n (pc := 47) C dX2_wouldStop_47 rfl ?_
        exact R_iret (pc := 48) C dX2_wouldStop_48 rfl (Nat.le_of_ble_eq_true rfl) (Nat.le_of_ble_eq_true rfl) (fun h hh => ⟨by rw [hs, mOr_n hn], m9, g0, hh⟩)
      · have hw : w < n := gt_nI (by omega) (by omega) c19
        refine R_iload_n (pc := 22) C dX2_wouldStop_22 rfl ?_
        refine R_aload_n (pc := 23) C dX2_wouldStop_23 rfl ?_
        refine R_getf (pc := 24) C dX2_wouldStop_24 (i := 21) (wm0) rfl inlX2 (by decide) k_3_11 rfl ?_
        refine R_iload_n (pc := 27) C dX2_wouldStop_27 rfl ?_
        refine R_zald (pc := 28) C dX2_wouldStop_28 (wm_s) (rfl) (by omega) (by decide) rfl ?_
        refine R_if_eq (pc := 29) C dX2_wouldStop_29 (tgt := 38) (by decide) (fun c29 => ?_) (fun c29 => ?_)
        · refine R_iconst (pc := 38) C dX2_wouldStop_38 (v := 0) (by decide) ?_
          refine R_ior (pc := 39) C dX2_wouldStop_39 ?_
          refine R_istore_n (pc := 40) C dX2_wouldStop_40 (Nat.le_of_ble_eq_true rfl) (lv' := [some (.ref _), some (.int _), some (.int _), some (.int _)]) rfl ?_
          refine R_iinc (pc := 41) C dX2_wouldStop_41 rfl (inc1) (lv' := [some (.ref _), some (.int _), some (.int _), some (.int _)]) rfl ?_
          refine R_goto (pc := 44) C dX2_wouldStop_44 (tgt := 14) (by decide) ?_
          exact ih (w + 1) _ (by omega) (by omega) (by rw [mOr, hs, if_neg (st0 (g2 w (by omega)) c29)])
        · refine R_iconst (pc := 32) C dX2_wouldStop_32 (v := 1) (by decide) ?_
          refine R_iload_n (pc := 33) C dX2_wouldStop_33 rfl ?_
          refine R_ishl (pc := 34) C dX2_wouldStop_34 ?_
          refine R_goto (pc := 35) C dX2_wouldStop_35 (tgt := 39) (by decide) ?_
          refine R_ior (pc := 39) C dX2_wouldStop_39 ?_
          refine R_istore_n (pc := 40) C dX2_wouldStop_40 (Nat.le_of_ble_eq_true rfl) (lv' := [some (.ref _), some (.int _), some (.int _), some (.int _)]) rfl ?_
          refine R_iinc (pc := 41) C dX2_wouldStop_41 rfl (inc1) (lv' := [some (.ref _), some (.int _), some (.int _), some (.int _)]) rfl ?_
          refine R_goto (pc := 44) C dX2_wouldStop_44 (tgt := 14) (by decide) ?_
          exact ih (w + 1) _ (by omega) (by omega) (by rw [mOr, hs, if_pos (st1 (g2 w (by omega)) c29)]; rfl)
  exact LP14 (n + 1) 0 _ (by omega) (by omega) rfl
end
