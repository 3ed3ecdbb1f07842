/-! 32: letters and numbers appended. Written by wip/p22/gen/m32.py -/
theorem chb {ch : Nat} (h : ch < 128) : vp_nar .byte ((nI ch).toInt8.toInt32) = nI ch := (by decide +kernel : ∀ ch, ch < 128 → vp_nar .byte ((nI ch).toInt8.toInt32) = nI ch) ch h
theorem chn {ch : Nat} (h : ch < 128) : vp_nar .byte (nI ch) = nI ch := (by decide +kernel : ∀ ch, ch < 128 → vp_nar .byte (nI ch) = nI ch) ch h
theorem dec1 {e : Nat} : nI (e + 1) + Int32.ofInt (-1) = nI e := by
  rw [← nI_1 e, show Int32.ofInt (-1) = -1 from rfl, Int32.add_assoc, show (1 : Int32) + -1 = 0 from rfl, Int32.add_zero]
theorem ng2 (p : Nat) : - -(nI p) = nI p := Int32.neg_neg
theorem szA {p : Nat} (h : p < 10) : ¬ -(nI p) ≤ -10 ∧ ¬ -(nI p) < -9 := (by decide +kernel : ∀ p, p < 10 → ¬ -(nI p) ≤ -10 ∧ ¬ -(nI p) < -9) p h
theorem szB {p : Nat} (h : p < 100) (h2 : 10 ≤ p) : -(nI p) ≤ -10 ∧ ¬ -(nI p) ≤ 10 * -10 ∧ -(nI p) < -9 := (by decide +kernel : ∀ p, p < 100 → 10 ≤ p → -(nI p) ≤ -10 ∧ ¬ -(nI p) ≤ 10 * -10 ∧ -(nI p) < -9) p h h2
theorem szC {p : Nat} (h : p < 100) : -100 < -(nI p) := (by decide +kernel : ∀ p, p < 100 → -100 < -(nI p)) p h
theorem le255 {ch : Nat} (h : ch < 128) : nI ch ≤ 255 := (by decide +kernel : ∀ ch, ch < 128 → nI ch ≤ 255) ch h
section
variable {l : Launch} {G : GT} {hb : Hp} {s b c : Nat} {t : Nat → Int32}
set_option maxHeartbeats 4000000 in
set_option maxRecDepth 100000 in
theorem mJ1_canEncode_fc78d (hl : l.stackTraces = false) {ch : Nat} (hch : ch < 128) : ∀ h, CN l yJ1_canEncode_fc78d cJ1_canEncode_fc78d 1 (some .boolean) 0 0 0 [.int (nI ch)] G h (fun v h1 => v = some (.int 1) ∧ h1 = h) := by
  intro h0
  refine CN.of hl (by decide +kernel) rfl (Nat.le_of_ble_eq_true rfl) (fun K sz hKl hin C => ?_)
  have C : CX K G (AH h0 sz) RJ1 cJ1_canEncode_fc78d 1 (some .boolean) (rmD 0 0 0) [] := C
  subst hKl
  show WR K G _ _ _ [some (.int (nI ch))] 0 0 0 []
  refine R_iload_n (pc := 0) C dJ1_canEncode_fc78d_0 rfl ?_
  refine R_sipush (pc := 1) C dJ1_canEncode_fc78d_1 (v := 255) (by decide) ?_
  refine R_icmp_gt (pc := 4) C dJ1_canEncode_fc78d_4 (tgt := 11) (by decide) (fun c4 => absurd c4 (Int32.not_lt.mpr (le255 hch))) (fun c4 => ?_)
  refine R_iconst (pc := 7) C dJ1_canEncode_fc78d_7 (v := 1) (by decide) ?_
  refine R_goto (pc := 8) C dJ1_canEncode_fc78d_8 (tgt := 12) (by decide) ?_
  exact R_zret (pc := 12) C dJ1_canEncode_fc78d_12 rfl rfl (Nat.le_of_ble_eq_true rfl) (Nat.le_of_ble_eq_true rfl) (fun h hh => ⟨rfl, hh.symm⟩)
set_option maxHeartbeats 4000000 in
set_option maxRecDepth 100000 in
theorem mJ5_append_3fe6f (hl : l.stackTraces = false) {ch : Nat} (hch : ch < 128) (hc : c + 1 ≤ 16) : ∀ h, BP G hb s b c t h → CN l yJ5_append_3fe6f cJ5_append_3fe6f 2 (some (.object "java/lang/AbstractStringBuilder")) 1 0 0 [.ref s, .int (nI ch)] G h (fun v h1 => v = some (.ref s) ∧ BP G hb s b (c + 1) (upd t c (nI ch)) h1) := by
  intro h0 hwd
  refine CN.of hl (by decide +kernel) rfl (Nat.le_of_ble_eq_true rfl) (fun K sz hKl hin C => ?_)
  have C : CX K G (AH h0 sz) RJ5 cJ5_append_3fe6f 2 (some (.object "java/lang/AbstractStringBuilder")) (rmD 1 0 0) [] := C
  subst hKl
  refine WR.imp (P' := BP G hb s b c t) (fun h e => e ▸ hwd) ?_
  show WR K G _ _ _ [some (.ref s), some (.int (nI ch))] 0 0 0 []
  refine R_aload_n (pc := 0) C dJ5_append_3fe6f_0 rfl ?_
  refine R_aload_n (pc := 1) C dJ5_append_3fe6f_1 rfl ?_
  refine R_getf (pc := 2) C dJ5_append_3fe6f_2 (i := 3) (bo) rfl inlJ4 (by decide) k_6_0 rfl ?_
  refine R_iconst (pc := 5) C dJ5_append_3fe6f_5 (v := 1) (by decide) ?_
  refine R_iadd (pc := 6) C dJ5_append_3fe6f_6 ?_
  rw [nI_1]
  refine R_callVU (pc := 7) C dJ5_append_3fe6f_7 (vs := [_]) (fun h hh => mJ5_ensureCapacityInternal_d00df hl (m := c + 1) (by omega) h hh) (isOb_of (bo) rfl) ⟨k_6_6, k_6_7, k_6_8, k_6_9, k_5_0, k_6_10⟩ ⟨k_6_9, k_6_10⟩ (sgn (nv := 1) rfl ⟨by decide +kernel, by decide +kernel, by decide +kernel⟩) ⟨⟨Nat.le_of_ble_eq_true rfl, Nat.le_of_ble_eq_true rfl⟩, ⟨Nat.le_of_ble_eq_true rfl, Nat.le_of_ble_eq_true rfl⟩, Nat.le_of_ble_eq_true rfl⟩ rfl rfl (fun h9 hh9 v9 => ?_)
  refine WR.pr (fun e9 => ?_)
  subst e9
  show WR K G _ _ _ _ _ _ _ _
  refine R_aload_n (pc := 10) C dJ5_append_3fe6f_10 rfl ?_
  refine R_callVU (pc := 11) C dJ5_append_3fe6f_11 (vs := []) (fun h hh => mJ5_isLatin1_aae02 hl h hh) (isOb_of (bo) rfl) ⟨k_7_22, k_7_23, k_8_0, k_8_1, k_5_0, k_8_2⟩ ⟨k_8_1, k_8_2⟩ (sgn (nv := 0) rfl ⟨by decide +kernel, by decide +kernel, by decide +kernel⟩) ⟨⟨Nat.le_of_ble_eq_true rfl, Nat.le_of_ble_eq_true rfl⟩, ⟨Nat.le_of_ble_eq_true rfl, Nat.le_of_ble_eq_true rfl⟩, Nat.le_of_ble_eq_true rfl⟩ rfl rfl (fun h9 hh9 v9 => ?_)
  refine WR.pr (fun e9 => ?_)
  subst e9
  show WR K G _ _ _ _ _ _ _ (.int _ :: _)
  refine R_if_eq (pc := 14) C dJ5_append_3fe6f_14 (tgt := 45) (by decide) (fun c14 => absurd c14 (by decide)) (fun c14 => ?_)
  refine R_iload_n (pc := 17) C dJ5_append_3fe6f_17 rfl ?_
  refine R_callSN (pc := 18) C dJ5_append_3fe6f_18 (vs := [_]) (fun h hh => mJ1_canEncode_fc78d hl hch h) ⟨k_12_13, k_12_14, k_10_8, k_12_15⟩ (sgn (nv := 1) rfl ⟨by decide +kernel, by decide +kernel, by decide +kernel⟩) ⟨⟨Nat.le_of_ble_eq_true rfl, Nat.le_of_ble_eq_true rfl⟩, ⟨Nat.le_of_ble_eq_true rfl, Nat.le_of_ble_eq_true rfl⟩, Nat.le_of_ble_eq_true rfl⟩ rfl rfl (fun h9 hh9 v9 => ?_)
  refine WR.pr (fun e9 => ?_)
  subst e9
  refine WR.imp (P' := BP G hb s b c t) (fun h1 e1 => e1 ▸ hh9) ?_
  show WR K G _ _ _ _ _ _ _ (.int _ :: _)
  refine R_if_eq (pc := 21) C dJ5_append_3fe6f_21 (tgt := 45) (by decide) (fun c21 => absurd c21 (by decide)) (fun c21 => ?_)
  refine R_aload_n (pc := 24) C dJ5_append_3fe6f_24 rfl ?_
  refine R_getf (pc := 25) C dJ5_append_3fe6f_25 (i := 0) (bo) rfl inlJ4 (by decide) k_5_5 rfl ?_
  refine R_aload_n (pc := 28) C dJ5_append_3fe6f_28 rfl ?_
  refine R_dup (pc := 29) C dJ5_append_3fe6f_29 rfl ?_
  refine R_getf (pc := 30) C dJ5_append_3fe6f_30 (i := 3) (bo) rfl inlJ4 (by decide) k_6_0 rfl ?_
  refine R_dup_x1 (pc := 33) C dJ5_append_3fe6f_33 rfl rfl ?_
  refine R_iconst (pc := 34) C dJ5_append_3fe6f_34 (v := 1) (by decide) ?_
  refine R_iadd (pc := 35) C dJ5_append_3fe6f_35 ?_
  rw [nI_1]
  refine R_putf (pc := 36) C dJ5_append_3fe6f_36 (i := 3) (bo) rfl inlJ4 tyJ4_ok nmJ4 (by decide) k_6_0 rfl rfl rfl (Nat.le_of_ble_eq_true rfl) (fun h hh => hh.setF) ?_
  refine R_iload_n (pc := 39) C dJ5_append_3fe6f_39 rfl ?_
  refine R_i2b (pc := 40) C dJ5_append_3fe6f_40 ?_
  refine R_bast (pc := 41) C dJ5_append_3fe6f_41 (bb) (rfl) (by omega) (by decide) (chb hch) (fun h hh => hh.setB) ?_
  refine R_goto (pc := 42) C dJ5_append_3fe6f_42 (tgt := 75) (by decide) ?_
  refine R_aload_n (pc := 75) C dJ5_append_3fe6f_75 rfl ?_
  exact R_aret (pc := 76) C dJ5_append_3fe6f_76 rfl (Or.inl ⟨_, rfl⟩) (Or.inr ⟨_, rfl⟩) (Nat.le_of_ble_eq_true rfl) (Nat.le_of_ble_eq_true rfl) (fun h hh => ⟨rfl, hh⟩)
set_option maxHeartbeats 4000000 in
set_option maxRecDepth 100000 in
theorem mJ4_append_cf468 (hl : l.stackTraces = false) {ch : Nat} (hch : ch < 128) (hc : c + 1 ≤ 16) : ∀ h, BP G hb s b c t h → CN l yJ4_append_cf468 cJ4_append_cf468 2 (some (.object "java/lang/StringBuilder")) 2 0 0 [.ref s, .int (nI ch)] G h (fun v h1 => v = some (.ref s) ∧ BP G hb s b (c + 1) (upd t c (nI ch)) h1) := by
  intro h0 hwd
  refine CN.of hl (by decide +kernel) rfl (Nat.le_of_ble_eq_true rfl) (fun K sz hKl hin C => ?_)
  have C : CX K G (AH h0 sz) RJ4 cJ4_append_cf468 2 (some (.object "java/lang/StringBuilder")) (rmD 2 0 0) [] := C
  subst hKl
  refine WR.imp (P' := BP G hb s b c t) (fun h e => e ▸ hwd) ?_
  show WR K G _ _ _ [some (.ref s), some (.int (nI ch))] 0 0 0 []
  refine R_aload_n (pc := 0) C dJ4_append_cf468_0 rfl ?_
  refine R_iload_n (pc := 1) C dJ4_append_cf468_1 rfl ?_
  refine R_callSU (pc := 2) C dJ4_append_cf468_2 (vs := [_]) (fun h hh => mJ5_append_3fe6f hl hch hc h hh) (bo) rfl ⟨k_12_9, k_12_10, k_5_21, k_12_11, k_5_0, k_12_12⟩ (sgs (nv := 1) rfl ⟨by decide, by decide +kernel⟩) ⟨⟨Nat.le_of_ble_eq_true rfl, Nat.le_of_ble_eq_true rfl⟩, ⟨Nat.le_of_ble_eq_true rfl, Nat.le_of_ble_eq_true rfl⟩, Nat.le_of_ble_eq_true rfl⟩ rfl rfl (fun h9 hh9 v9 => ?_)
  refine WR.pr (fun e9 => ?_)
  subst e9
  show WR K G _ _ _ _ _ _ _ (.ref _ :: _)
  refine R_pop (pc := 5) C dJ4_append_cf468_5 rfl ?_
  refine R_aload_n (pc := 6) C dJ4_append_cf468_6 rfl ?_
  exact R_aret (pc := 7) C dJ4_append_cf468_7 rfl (Or.inl ⟨_, rfl⟩) (Or.inr ⟨_, rfl⟩) (Nat.le_of_ble_eq_true rfl) (Nat.le_of_ble_eq_true rfl) (fun h hh => ⟨rfl, hh⟩)
set_option maxHeartbeats 4000000 in
set_option maxRecDepth 100000 in
theorem mSS_A (hl : l.stackTraces = false) {p : Nat} (hp : p < 10) : ∀ h, CN l yJ6_stringSize_0f7a4 cJ6_stringSize_0f7a4 4 (some .int) 0 0 0 [.int (nI p)] G h (fun v h1 => v = some (.int (nI 1)) ∧ h1 = h) := by
  intro h0
  refine CN.of hl (by decide +kernel) rfl (Nat.le_of_ble_eq_true rfl) (fun K sz hKl hin C => ?_)
  have C : CX K G (AH h0 sz) RJ6 cJ6_stringSize_0f7a4 4 (some .int) (rmD 0 0 0) [] := C
  subst hKl
  show WR K G _ _ _ [some (.int (nI p)), none, none, none] 0 0 0 []
  refine R_iconst (pc := 0) C dJ6_stringSize_0f7a4_0 (v := 1) (by decide) ?_
  refine R_istore_n (pc := 1) C dJ6_stringSize_0f7a4_1 (Nat.le_of_ble_eq_true rfl) (lv' := [some (.int _), some (.int _), none, none]) rfl ?_
  refine R_iload_n (pc := 2) C dJ6_stringSize_0f7a4_2 rfl ?_
  refine R_if_lt (pc := 3) C dJ6_stringSize_0f7a4_3 (tgt := 11) (by decide) (fun c3 => absurd c3 (nI_pos (by omega))) (fun c3 => ?_)
  refine R_iconst (pc := 6) C dJ6_stringSize_0f7a4_6 (v := 0) (by decide) ?_
  refine R_istore_n (pc := 7) C dJ6_stringSize_0f7a4_7 (Nat.le_of_ble_eq_true rfl) (lv' := [some (.int _), some (.int _), none, none]) rfl ?_
  refine R_iload_n (pc := 8) C dJ6_stringSize_0f7a4_8 rfl ?_
  refine R_ineg (pc := 9) C dJ6_stringSize_0f7a4_9 ?_
  refine R_istore_n (pc := 10) C dJ6_stringSize_0f7a4_10 (Nat.le_of_ble_eq_true rfl) (lv' := [some (.int _), some (.int _), none, none]) rfl ?_
  refine R_bipush (pc := 11) C dJ6_stringSize_0f7a4_11 (v := -10) (by decide) ?_
  refine R_istore_n (pc := 13) C dJ6_stringSize_0f7a4_13 (Nat.le_of_ble_eq_true rfl) (lv' := [some (.int _), some (.int _), some (.int _), none]) rfl ?_
  refine R_iconst (pc := 14) C dJ6_stringSize_0f7a4_14 (v := 1) (by decide) ?_
  refine R_istore_n (pc := 15) C dJ6_stringSize_0f7a4_15 (Nat.le_of_ble_eq_true rfl) (lv' := [some (.int _), some (.int _), some (.int _), some (.int _)]) rfl ?_
  refine R_iload_n (pc := 16) C dJ6_stringSize_0f7a4_16 rfl ?_
  refine R_bipush (pc := 17) C dJ6_stringSize_0f7a4_17 (v := 10) (by decide) ?_
  refine R_icmp_ge (pc := 19) C dJ6_stringSize_0f7a4_19 (tgt := 42) (by decide) (fun c19 => absurd c19 (by decide)) (fun c19 => ?_)
  refine R_iload_n (pc := 22) C dJ6_stringSize_0f7a4_22 rfl ?_
  refine R_iload_n (pc := 23) C dJ6_stringSize_0f7a4_23 rfl ?_
  refine R_icmp_le (pc := 24) C dJ6_stringSize_0f7a4_24 (tgt := 31) (by decide) (fun c24 => absurd c24 ((szA hp).1)) (fun c24 => ?_)
  refine R_iload_n (pc := 27) C dJ6_stringSize_0f7a4_27 rfl ?_
  refine R_iload_n (pc := 28) C dJ6_stringSize_0f7a4_28 rfl ?_
  refine R_iadd (pc := 29) C dJ6_stringSize_0f7a4_29 ?_
  exact R_iret (pc := 30) C dJ6_stringSize_0f7a4_30 rfl (Nat.le_of_ble_eq_true rfl) (Nat.le_of_ble_eq_true rfl) (fun h hh => ⟨rfl, hh.symm⟩)
set_option maxHeartbeats 4000000 in
set_option maxRecDepth 100000 in
theorem mSS_B (hl : l.stackTraces = false) {p : Nat} (hp : p < 100) (hp2 : 10 ≤ p) : ∀ h, CN l yJ6_stringSize_0f7a4 cJ6_stringSize_0f7a4 4 (some .int) 0 0 0 [.int (nI p)] G h (fun v h1 => v = some (.int (nI 2)) ∧ h1 = h) := by
  intro h0
  refine CN.of hl (by decide +kernel) rfl (Nat.le_of_ble_eq_true rfl) (fun K sz hKl hin C => ?_)
  have C : CX K G (AH h0 sz) RJ6 cJ6_stringSize_0f7a4 4 (some .int) (rmD 0 0 0) [] := C
  subst hKl
  show WR K G _ _ _ [some (.int (nI p)), none, none, none] 0 0 0 []
  refine R_iconst (pc := 0) C dJ6_stringSize_0f7a4_0 (v := 1) (by decide) ?_
  refine R_istore_n (pc := 1) C dJ6_stringSize_0f7a4_1 (Nat.le_of_ble_eq_true rfl) (lv' := [some (.int _), some (.int _), none, none]) rfl ?_
  refine R_iload_n (pc := 2) C dJ6_stringSize_0f7a4_2 rfl ?_
  refine R_if_lt (pc := 3) C dJ6_stringSize_0f7a4_3 (tgt := 11) (by decide) (fun c3 => absurd c3 (nI_pos (by omega))) (fun c3 => ?_)
  refine R_iconst (pc := 6) C dJ6_stringSize_0f7a4_6 (v := 0) (by decide) ?_
  refine R_istore_n (pc := 7) C dJ6_stringSize_0f7a4_7 (Nat.le_of_ble_eq_true rfl) (lv' := [some (.int _), some (.int _), none, none]) rfl ?_
  refine R_iload_n (pc := 8) C dJ6_stringSize_0f7a4_8 rfl ?_
  refine R_ineg (pc := 9) C dJ6_stringSize_0f7a4_9 ?_
  refine R_istore_n (pc := 10) C dJ6_stringSize_0f7a4_10 (Nat.le_of_ble_eq_true rfl) (lv' := [some (.int _), some (.int _), none, none]) rfl ?_
  refine R_bipush (pc := 11) C dJ6_stringSize_0f7a4_11 (v := -10) (by decide) ?_
  refine R_istore_n (pc := 13) C dJ6_stringSize_0f7a4_13 (Nat.le_of_ble_eq_true rfl) (lv' := [some (.int _), some (.int _), some (.int _), none]) rfl ?_
  refine R_iconst (pc := 14) C dJ6_stringSize_0f7a4_14 (v := 1) (by decide) ?_
  refine R_istore_n (pc := 15) C dJ6_stringSize_0f7a4_15 (Nat.le_of_ble_eq_true rfl) (lv' := [some (.int _), some (.int _), some (.int _), some (.int _)]) rfl ?_
  refine R_iload_n (pc := 16) C dJ6_stringSize_0f7a4_16 rfl ?_
  refine R_bipush (pc := 17) C dJ6_stringSize_0f7a4_17 (v := 10) (by decide) ?_
  refine R_icmp_ge (pc := 19) C dJ6_stringSize_0f7a4_19 (tgt := 42) (by decide) (fun c19 => absurd c19 (by decide)) (fun c19 => ?_)
  refine R_iload_n (pc := 22) C dJ6_stringSize_0f7a4_22 rfl ?_
  refine R_iload_n (pc := 23) C dJ6_stringSize_0f7a4_23 rfl ?_
  refine R_icmp_le (pc := 24) C dJ6_stringSize_0f7a4_24 (tgt := 31) (by decide) (fun c24 => ?_) (fun c24 => absurd ((szB hp hp2).1) c24)
  refine R_bipush (pc := 31) C dJ6_stringSize_0f7a4_31 (v := 10) (by decide) ?_
  refine R_iload_n (pc := 33) C dJ6_stringSize_0f7a4_33 rfl ?_
  refine R_imul (pc := 34) C dJ6_stringSize_0f7a4_34 ?_
  refine R_istore_n (pc := 35) C dJ6_stringSize_0f7a4_35 (Nat.le_of_ble_eq_true rfl) (lv' := [some (.int _), some (.int _), some (.int _), some (.int _)]) rfl ?_
  refine R_iinc (pc := 36) C dJ6_stringSize_0f7a4_36 rfl (rfl) (lv' := [some (.int _), some (.int _), some (.int _), some (.int _)]) rfl ?_
  refine R_goto (pc := 39) C dJ6_stringSize_0f7a4_39 (tgt := 16) (by decide) ?_
  refine R_iload_n (pc := 16) C dJ6_stringSize_0f7a4_16 rfl ?_
  refine R_bipush (pc := 17) C dJ6_stringSize_0f7a4_17 (v := 10) (by decide) ?_
  refine R_icmp_ge (pc := 19) C dJ6_stringSize_0f7a4_19 (tgt := 42) (by decide) (fun c19 => absurd c19 (by decide)) (fun c19 => ?_)
  refine R_iload_n (pc := 22) C dJ6_stringSize_0f7a4_22 rfl ?_
  refine R_iload_n (pc := 23) C dJ6_stringSize_0f7a4_23 rfl ?_
  refine R_icmp_le (pc := 24) C dJ6_stringSize_0f7a4_24 (tgt := 31) (by decide) (fun c24 => absurd c24 ((szB hp hp2).2.1)) (fun c24 => ?_)
  refine R_iload_n (pc := 27) C dJ6_stringSize_0f7a4_27 rfl ?_
  refine R_iload_n (pc := 28) C dJ6_stringSize_0f7a4_28 rfl ?_
  refine R_iadd (pc := 29) C dJ6_stringSize_0f7a4_29 ?_
  exact R_iret (pc := 30) C dJ6_stringSize_0f7a4_30 rfl (Nat.le_of_ble_eq_true rfl) (Nat.le_of_ble_eq_true rfl) (fun h hh => ⟨rfl, hh.symm⟩)
set_option maxHeartbeats 4000000 in
set_option maxRecDepth 100000 in
theorem mGC_A (hl : l.stackTraces = false) {p : Nat} (hp : p < 10) (hc : c + 1 ≤ 16) : ∀ h, BP G hb s b c t h → CN l yJ6_getChars_ba4f3 cJ6_getChars_ba4f3 7 (some .int) 0 0 0 [.int (nI p), .int (nI (c + 1)), .ref b] G h (fun v h1 => v = some (.int (nI c)) ∧ BP G hb s b c (upd t c (nI (48 + p % 10))) h1) := by
  intro h0 hwd
  refine CN.of hl (by decide +kernel) rfl (Nat.le_of_ble_eq_true rfl) (fun K sz hKl hin C => ?_)
  have C : CX K G (AH h0 sz) RJ6 cJ6_getChars_ba4f3 7 (some .int) (rmD 0 0 0) [] := C
  subst hKl
  refine WR.imp (P' := BP G hb s b c t) (fun h e => e ▸ hwd) ?_
  show WR K G _ _ _ [some (.int (nI p)), some (.int (nI (c + 1))), some (.ref b), none, none, none, none] 0 0 0 []
  obtain ⟨fO, hO1, hO2, hO3⟩ := C.st.2.2.1
  obtain ⟨fT, hT1, hT2, hT3⟩ := C.st.2.2.2.1
  refine R_iload_n (pc := 0) C dJ6_getChars_ba4f3_0 rfl ?_
  refine R_istore (pc := 1) C dJ6_getChars_ba4f3_1 (Nat.le_of_ble_eq_true rfl) (lv' := [some (.int _), some (.int _), some (.ref _), none, none, some (.int _), none]) rfl ?_
  refine R_iload_n (pc := 3) C dJ6_getChars_ba4f3_3 rfl ?_
  refine R_if_ge (pc := 4) C dJ6_getChars_ba4f3_4 (tgt := 11) (by decide) (fun c4 => ?_) (fun c4 => absurd (nI_pos' (by omega)) c4)
  refine R_iconst (pc := 11) C dJ6_getChars_ba4f3_11 (v := 0) (by decide) ?_
  refine R_istore (pc := 12) C dJ6_getChars_ba4f3_12 (Nat.le_of_ble_eq_true rfl) (lv' := [some (.int _), some (.int _), some (.ref _), none, none, some (.int _), some (.int _)]) rfl ?_
  refine R_iload (pc := 14) C dJ6_getChars_ba4f3_14 rfl ?_
  refine R_if_ne (pc := 16) C dJ6_getChars_ba4f3_16 (tgt := 22) (by decide) (fun c16 => absurd c16 (fun q => q rfl)) (fun c16 => ?_)
  refine R_iload_n (pc := 19) C dJ6_getChars_ba4f3_19 rfl ?_
  refine R_ineg (pc := 20) C dJ6_getChars_ba4f3_20 ?_
  refine R_istore_n (pc := 21) C dJ6_getChars_ba4f3_21 (Nat.le_of_ble_eq_true rfl) (lv' := [some (.int _), some (.int _), some (.ref _), none, none, some (.int _), some (.int _)]) rfl ?_
  refine R_iload_n (pc := 22) C dJ6_getChars_ba4f3_22 rfl ?_
  refine R_bipush (pc := 23) C dJ6_getChars_ba4f3_23 (v := -100) (by decide) ?_
  refine R_icmp_gt (pc := 25) C dJ6_getChars_ba4f3_25 (tgt := 72) (by decide) (fun c25 => ?_) (fun c25 => absurd (szC (by omega)) c25)
  refine R_aload_n (pc := 72) C dJ6_getChars_ba4f3_72 rfl ?_
  refine R_iinc (pc := 73) C dJ6_getChars_ba4f3_73 rfl (dec1) (lv' := [some (.int _), some (.int _), some (.ref _), none, none, some (.int _), some (.int _)]) rfl ?_
  refine R_iload (pc := 76) C dJ6_getChars_ba4f3_76 rfl ?_
  refine R_gets (pc := 78) C dJ6_getChars_ba4f3_78 (hO1) k_11_19 ?_
  refine R_iload_n (pc := 81) C dJ6_getChars_ba4f3_81 rfl ?_
  refine R_ineg (pc := 82) C dJ6_getChars_ba4f3_82 ?_
  refine R_tbal (pc := 83) C dJ6_getChars_ba4f3_83 (hO2) (ng2 p) (by omega) (by decide) (hO3 p (by omega)) ?_
  refine R_bast (pc := 84) C dJ6_getChars_ba4f3_84 (bb) (rfl) (by omega) (by decide) (chn (by omega)) (fun h hh => hh.setB) ?_
  refine R_iload_n (pc := 85) C dJ6_getChars_ba4f3_85 rfl ?_
  refine R_bipush (pc := 86) C dJ6_getChars_ba4f3_86 (v := -9) (by decide) ?_
  refine R_icmp_ge (pc := 88) C dJ6_getChars_ba4f3_88 (tgt := 104) (by decide) (fun c88 => ?_) (fun c88 => absurd (Int32.not_lt.mp (szA hp).2) c88)
  refine R_iload (pc := 104) C dJ6_getChars_ba4f3_104 rfl ?_
  refine R_if_eq (pc := 106) C dJ6_getChars_ba4f3_106 (tgt := 118) (by decide) (fun c106 => ?_) (fun c106 => absurd (rfl) c106)
  refine R_iload (pc := 118) C dJ6_getChars_ba4f3_118 rfl ?_
  exact R_iret (pc := 120) C dJ6_getChars_ba4f3_120 rfl (Nat.le_of_ble_eq_true rfl) (Nat.le_of_ble_eq_true rfl) (fun h hh => ⟨rfl, hh⟩)
set_option maxHeartbeats 4000000 in
set_option maxRecDepth 100000 in
theorem mAI5_A (hl : l.stackTraces = false) {p : Nat} (hp : p < 10) (hc : c + 1 ≤ 16) : ∀ h, BP G hb s b c t h → CN l yJ5_append_c97b9 cJ5_append_c97b9 4 (some (.object "java/lang/AbstractStringBuilder")) 1 0 0 [.ref s, .int (nI p)] G h (fun v h1 => v = some (.ref s) ∧ BP G hb s b (c + 1) (upd t c (nI (48 + p % 10))) h1) := by
  intro h0 hwd
  refine CN.of hl (by decide +kernel) rfl (Nat.le_of_ble_eq_true rfl) (fun K sz hKl hin C => ?_)
  have C : CX K G (AH h0 sz) RJ5 cJ5_append_c97b9 4 (some (.object "java/lang/AbstractStringBuilder")) (rmD 1 0 0) [] := C
  subst hKl
  refine WR.imp (P' := BP G hb s b c t) (fun h e => e ▸ hwd) ?_
  show WR K G _ _ _ [some (.ref s), some (.int (nI p)), none, none] 0 0 0 []
  refine R_aload_n (pc := 0) C dJ5_append_c97b9_0 rfl ?_
  refine R_getf (pc := 1) C dJ5_append_c97b9_1 (i := 3) (bo) rfl inlJ4 (by decide) k_6_0 rfl ?_
  refine R_istore_n (pc := 4) C dJ5_append_c97b9_4 (Nat.le_of_ble_eq_true rfl) (lv' := [some (.ref _), some (.int _), some (.int _), none]) rfl ?_
  refine R_iload_n (pc := 5) C dJ5_append_c97b9_5 rfl ?_
  refine R_iload_n (pc := 6) C dJ5_append_c97b9_6 rfl ?_
  refine R_callSN (pc := 7) C dJ5_append_c97b9_7 (vs := [_]) (fun h hh => mSS_A hl hp h) ⟨k_11_12, k_11_13, k_11_14, k_11_15⟩ (sgn (nv := 1) rfl ⟨by decide +kernel, by decide +kernel, by decide +kernel⟩) ⟨⟨Nat.le_of_ble_eq_true rfl, Nat.le_of_ble_eq_true rfl⟩, ⟨Nat.le_of_ble_eq_true rfl, Nat.le_of_ble_eq_true rfl⟩, Nat.le_of_ble_eq_true rfl⟩ rfl rfl (fun h9 hh9 v9 => ?_)
  refine WR.pr (fun e9 => ?_)
  subst e9
  refine WR.imp (P' := BP G hb s b c t) (fun h1 e1 => e1 ▸ hh9) ?_
  show WR K G _ _ _ _ _ _ _ (.int _ :: _)
  refine R_iadd (pc := 10) C dJ5_append_c97b9_10 ?_
  rw [nI_add]
  refine R_istore_n (pc := 11) C dJ5_append_c97b9_11 (Nat.le_of_ble_eq_true rfl) (lv' := [some (.ref _), some (.int _), some (.int _), some (.int _)]) rfl ?_
  refine R_aload_n (pc := 12) C dJ5_append_c97b9_12 rfl ?_
  refine R_iload_n (pc := 13) C dJ5_append_c97b9_13 rfl ?_
  refine R_callVU (pc := 14) C dJ5_append_c97b9_14 (vs := [_]) (fun h hh => mJ5_ensureCapacityInternal_d00df hl (m := c + 1) (by omega) h hh) (isOb_of (bo) rfl) ⟨k_6_6, k_6_7, k_6_8, k_6_9, k_5_0, k_6_10⟩ ⟨k_6_9, k_6_10⟩ (sgn (nv := 1) rfl ⟨by decide +kernel, by decide +kernel, by decide +kernel⟩) ⟨⟨Nat.le_of_ble_eq_true rfl, Nat.le_of_ble_eq_true rfl⟩, ⟨Nat.le_of_ble_eq_true rfl, Nat.le_of_ble_eq_true rfl⟩, Nat.le_of_ble_eq_true rfl⟩ rfl rfl (fun h9 hh9 v9 => ?_)
  refine WR.pr (fun e9 => ?_)
  subst e9
  show WR K G _ _ _ _ _ _ _ _
  refine R_aload_n (pc := 17) C dJ5_append_c97b9_17 rfl ?_
  refine R_callVU (pc := 18) C dJ5_append_c97b9_18 (vs := []) (fun h hh => mJ5_isLatin1_aae02 hl h hh) (isOb_of (bo) rfl) ⟨k_7_22, k_7_23, k_8_0, k_8_1, k_5_0, k_8_2⟩ ⟨k_8_1, k_8_2⟩ (sgn (nv := 0) rfl ⟨by decide +kernel, by decide +kernel, by decide +kernel⟩) ⟨⟨Nat.le_of_ble_eq_true rfl, Nat.le_of_ble_eq_true rfl⟩, ⟨Nat.le_of_ble_eq_true rfl, Nat.le_of_ble_eq_true rfl⟩, Nat.le_of_ble_eq_true rfl⟩ rfl rfl (fun h9 hh9 v9 => ?_)
  refine WR.pr (fun e9 => ?_)
  subst e9
  show WR K G _ _ _ _ _ _ _ (.int _ :: _)
  refine R_if_eq (pc := 21) C dJ5_append_c97b9_21 (tgt := 37) (by decide) (fun c21 => absurd c21 (by decide)) (fun c21 => ?_)
  refine R_iload_n (pc := 24) C dJ5_append_c97b9_24 rfl ?_
  refine R_iload_n (pc := 25) C dJ5_append_c97b9_25 rfl ?_
  refine R_aload_n (pc := 26) C dJ5_append_c97b9_26 rfl ?_
  refine R_getf (pc := 27) C dJ5_append_c97b9_27 (i := 0) (bo) rfl inlJ4 (by decide) k_5_5 rfl ?_
  refine R_callSN (pc := 30) C dJ5_append_c97b9_30 (vs := [_, _, _]) (fun h hh => mGC_A hl hp hc h hh) ⟨k_11_16, k_11_17, k_11_14, k_11_18⟩ (sgn (nv := 3) rfl ⟨by decide +kernel, by decide +kernel, by decide +kernel⟩) ⟨⟨Nat.le_of_ble_eq_true rfl, Nat.le_of_ble_eq_true rfl⟩, ⟨Nat.le_of_ble_eq_true rfl, Nat.le_of_ble_eq_true rfl⟩, Nat.le_of_ble_eq_true rfl⟩ rfl rfl (fun h9 hh9 v9 => ?_)
  refine WR.pr (fun e9 => ?_)
  subst e9
  show WR K G _ _ _ _ _ _ _ (.int _ :: _)
  refine R_pop (pc := 33) C dJ5_append_c97b9_33 rfl ?_
  refine R_goto (pc := 34) C dJ5_append_c97b9_34 (tgt := 48) (by decide) ?_
  refine R_aload_n (pc := 48) C dJ5_append_c97b9_48 rfl ?_
  refine R_iload_n (pc := 49) C dJ5_append_c97b9_49 rfl ?_
  refine R_putf (pc := 50) C dJ5_append_c97b9_50 (i := 3) (bo) rfl inlJ4 tyJ4_ok nmJ4 (by decide) k_6_0 rfl rfl rfl (Nat.le_of_ble_eq_true rfl) (fun h hh => hh.setF) ?_
  refine R_aload_n (pc := 53) C dJ5_append_c97b9_53 rfl ?_
  exact R_aret (pc := 54) C dJ5_append_c97b9_54 rfl (Or.inl ⟨_, rfl⟩) (Or.inr ⟨_, rfl⟩) (Nat.le_of_ble_eq_true rfl) (Nat.le_of_ble_eq_true rfl) (fun h hh => ⟨rfl, hh⟩)
set_option maxHeartbeats 4000000 in
set_option maxRecDepth 100000 in
theorem mAI_A (hl : l.stackTraces = false) {p : Nat} (hp : p < 10) (hc : c + 1 ≤ 16) : ∀ h, BP G hb s b c t h → CN l yJ4_append_bf812 cJ4_append_bf812 2 (some (.object "java/lang/StringBuilder")) 2 0 0 [.ref s, .int (nI p)] G h (fun v h1 => v = some (.ref s) ∧ BP G hb s b (c + 1) (upd t c (nI (48 + p % 10))) h1) := by
  intro h0 hwd
  refine CN.of hl (by decide +kernel) rfl (Nat.le_of_ble_eq_true rfl) (fun K sz hKl hin C => ?_)
  have C : CX K G (AH h0 sz) RJ4 cJ4_append_bf812 2 (some (.object "java/lang/StringBuilder")) (rmD 2 0 0) [] := C
  subst hKl
  refine WR.imp (P' := BP G hb s b c t) (fun h e => e ▸ hwd) ?_
  show WR K G _ _ _ [some (.ref s), some (.int (nI p))] 0 0 0 []
  refine R_aload_n (pc := 0) C dJ4_append_bf812_0 rfl ?_
  refine R_iload_n (pc := 1) C dJ4_append_bf812_1 rfl ?_
  refine R_callSU (pc := 2) C dJ4_append_bf812_2 (vs := [_]) (fun h hh => mAI5_A hl hp hc h hh) (bo) rfl ⟨k_11_8, k_11_9, k_5_21, k_11_10, k_5_0, k_11_11⟩ (sgs (nv := 1) rfl ⟨by decide, by decide +kernel⟩) ⟨⟨Nat.le_of_ble_eq_true rfl, Nat.le_of_ble_eq_true rfl⟩, ⟨Nat.le_of_ble_eq_true rfl, Nat.le_of_ble_eq_true rfl⟩, Nat.le_of_ble_eq_true rfl⟩ rfl rfl (fun h9 hh9 v9 => ?_)
  refine WR.pr (fun e9 => ?_)
  subst e9
  show WR K G _ _ _ _ _ _ _ (.ref _ :: _)
  refine R_pop (pc := 5) C dJ4_append_bf812_5 rfl ?_
  refine R_aload_n (pc := 6) C dJ4_append_bf812_6 rfl ?_
  exact R_aret (pc := 7) C dJ4_append_bf812_7 rfl (Or.inl ⟨_, rfl⟩) (Or.inr ⟨_, rfl⟩) (Nat.le_of_ble_eq_true rfl) (Nat.le_of_ble_eq_true rfl) (fun h hh => ⟨rfl, hh⟩)
set_option maxHeartbeats 4000000 in
set_option maxRecDepth 100000 in
theorem mGC_B (hl : l.stackTraces = false) {p : Nat} (hp : p < 100) (hp2 : 10 ≤ p) (hc : c + 2 ≤ 16) : ∀ h, BP G hb s b c t h → CN l yJ6_getChars_ba4f3 cJ6_getChars_ba4f3 7 (some .int) 0 0 0 [.int (nI p), .int (nI (c + 2)), .ref b] G h (fun v h1 => v = some (.int (nI c)) ∧ BP G hb s b c (upd (upd t (c + 1) (nI (48 + p % 10))) c (nI (48 + p / 10))) h1) := by
  intro h0 hwd
  refine CN.of hl (by decide +kernel) rfl (Nat.le_of_ble_eq_true rfl) (fun K sz hKl hin C => ?_)
  have C : CX K G (AH h0 sz) RJ6 cJ6_getChars_ba4f3 7 (some .int) (rmD 0 0 0) [] := C
  subst hKl
  refine WR.imp (P' := BP G hb s b c t) (fun h e => e ▸ hwd) ?_
  show WR K G _ _ _ [some (.int (nI p)), some (.int (nI (c + 2))), some (.ref b), none, none, none, none] 0 0 0 []
  obtain ⟨fO, hO1, hO2, hO3⟩ := C.st.2.2.1
  obtain ⟨fT, hT1, hT2, hT3⟩ := C.st.2.2.2.1
  refine R_iload_n (pc := 0) C dJ6_getChars_ba4f3_0 rfl ?_
  refine R_istore (pc := 1) C dJ6_getChars_ba4f3_1 (Nat.le_of_ble_eq_true rfl) (lv' := [some (.int _), some (.int _), some (.ref _), none, none, some (.int _), none]) rfl ?_
  refine R_iload_n (pc := 3) C dJ6_getChars_ba4f3_3 rfl ?_
  refine R_if_ge (pc := 4) C dJ6_getChars_ba4f3_4 (tgt := 11) (by decide) (fun c4 => ?_) (fun c4 => absurd (nI_pos' (by omega)) c4)
  refine R_iconst (pc := 11) C dJ6_getChars_ba4f3_11 (v := 0) (by decide) ?_
  refine R_istore (pc := 12) C dJ6_getChars_ba4f3_12 (Nat.le_of_ble_eq_true rfl) (lv' := [some (.int _), some (.int _), some (.ref _), none, none, some (.int _), some (.int _)]) rfl ?_
  refine R_iload (pc := 14) C dJ6_getChars_ba4f3_14 rfl ?_
  refine R_if_ne (pc := 16) C dJ6_getChars_ba4f3_16 (tgt := 22) (by decide) (fun c16 => absurd c16 (fun q => q rfl)) (fun c16 => ?_)
  refine R_iload_n (pc := 19) C dJ6_getChars_ba4f3_19 rfl ?_
  refine R_ineg (pc := 20) C dJ6_getChars_ba4f3_20 ?_
  refine R_istore_n (pc := 21) C dJ6_getChars_ba4f3_21 (Nat.le_of_ble_eq_true rfl) (lv' := [some (.int _), some (.int _), some (.ref _), none, none, some (.int _), some (.int _)]) rfl ?_
  refine R_iload_n (pc := 22) C dJ6_getChars_ba4f3_22 rfl ?_
  refine R_bipush (pc := 23) C dJ6_getChars_ba4f3_23 (v := -100) (by decide) ?_
  refine R_icmp_gt (pc := 25) C dJ6_getChars_ba4f3_25 (tgt := 72) (by decide) (fun c25 => ?_) (fun c25 => absurd (szC (by omega)) c25)
  refine R_aload_n (pc := 72) C dJ6_getChars_ba4f3_72 rfl ?_
  refine R_iinc (pc := 73) C dJ6_getChars_ba4f3_73 rfl (dec1) (lv' := [some (.int _), some (.int _), some (.ref _), none, none, some (.int _), some (.int _)]) rfl ?_
  refine R_iload (pc := 76) C dJ6_getChars_ba4f3_76 rfl ?_
  refine R_gets (pc := 78) C dJ6_getChars_ba4f3_78 (hO1) k_11_19 ?_
  refine R_iload_n (pc := 81) C dJ6_getChars_ba4f3_81 rfl ?_
  refine R_ineg (pc := 82) C dJ6_getChars_ba4f3_82 ?_
  refine R_tbal (pc := 83) C dJ6_getChars_ba4f3_83 (hO2) (ng2 p) (by omega) (by decide) (hO3 p (by omega)) ?_
  refine R_bast (pc := 84) C dJ6_getChars_ba4f3_84 (bb) (rfl) (by omega) (by decide) (chn (by omega)) (fun h hh => hh.setB) ?_
  refine R_iload_n (pc := 85) C dJ6_getChars_ba4f3_85 rfl ?_
  refine R_bipush (pc := 86) C dJ6_getChars_ba4f3_86 (v := -9) (by decide) ?_
  refine R_icmp_ge (pc := 88) C dJ6_getChars_ba4f3_88 (tgt := 104) (by decide) (fun c88 => absurd c88 (Int32.not_le.mpr (szB hp hp2).2.2)) (fun c88 => ?_)
  refine R_aload_n (pc := 91) C dJ6_getChars_ba4f3_91 rfl ?_
  refine R_iinc (pc := 92) C dJ6_getChars_ba4f3_92 rfl (dec1) (lv' := [some (.int _), some (.int _), some (.ref _), none, none, some (.int _), some (.int _)]) rfl ?_
  refine R_iload (pc := 95) C dJ6_getChars_ba4f3_95 rfl ?_
  refine R_gets (pc := 97) C dJ6_getChars_ba4f3_97 (hT1) k_11_20 ?_
  refine R_iload_n (pc := 100) C dJ6_getChars_ba4f3_100 rfl ?_
  refine R_ineg (pc := 101) C dJ6_getChars_ba4f3_101 ?_
  refine R_tbal (pc := 102) C dJ6_getChars_ba4f3_102 (hT2) (ng2 p) (by omega) (by decide) (hT3 p (by omega)) ?_
  refine R_bast (pc := 103) C dJ6_getChars_ba4f3_103 (bb) (rfl) (by omega) (by decide) (chn (by omega)) (fun h hh => hh.setB) ?_
  refine R_iload (pc := 104) C dJ6_getChars_ba4f3_104 rfl ?_
  refine R_if_eq (pc := 106) C dJ6_getChars_ba4f3_106 (tgt := 118) (by decide) (fun c106 => ?_) (fun c106 => absurd (rfl) c106)
  refine R_iload (pc := 118) C dJ6_getChars_ba4f3_118 rfl ?_
  exact R_iret (pc := 120) C dJ6_getChars_ba4f3_120 rfl (Nat.le_of_ble_eq_true rfl) (Nat.le_of_ble_eq_true rfl) (fun h hh => ⟨rfl, hh⟩)
set_option maxHeartbeats 4000000 in
set_option maxRecDepth 100000 in
theorem mAI5_B (hl : l.stackTraces = false) {p : Nat} (hp : p < 100) (hp2 : 10 ≤ p) (hc : c + 2 ≤ 16) : ∀ h, BP G hb s b c t h → CN l yJ5_append_c97b9 cJ5_append_c97b9 4 (some (.object "java/lang/AbstractStringBuilder")) 1 0 0 [.ref s, .int (nI p)] G h (fun v h1 => v = some (.ref s) ∧ BP G hb s b (c + 2) (upd (upd t (c + 1) (nI (48 + p % 10))) c (nI (48 + p / 10))) h1) := by
  intro h0 hwd
  refine CN.of hl (by decide +kernel) rfl (Nat.le_of_ble_eq_true rfl) (fun K sz hKl hin C => ?_)
  have C : CX K G (AH h0 sz) RJ5 cJ5_append_c97b9 4 (some (.object "java/lang/AbstractStringBuilder")) (rmD 1 0 0) [] := C
  subst hKl
  refine WR.imp (P' := BP G hb s b c t) (fun h e => e ▸ hwd) ?_
  show WR K G _ _ _ [some (.ref s), some (.int (nI p)), none, none] 0 0 0 []
  refine R_aload_n (pc := 0) C dJ5_append_c97b9_0 rfl ?_
  refine R_getf (pc := 1) C dJ5_append_c97b9_1 (i := 3) (bo) rfl inlJ4 (by decide) k_6_0 rfl ?_
  refine R_istore_n (pc := 4) C dJ5_append_c97b9_4 (Nat.le_of_ble_eq_true rfl) (lv' := [some (.ref _), some (.int _), some (.int _), none]) rfl ?_
  refine R_iload_n (pc := 5) C dJ5_append_c97b9_5 rfl ?_
  refine R_iload_n (pc := 6) C dJ5_append_c97b9_6 rfl ?_
  refine R_callSN (pc := 7) C dJ5_append_c97b9_7 (vs := [_]) (fun h hh => mSS_B hl hp hp2 h) ⟨k_11_12, k_11_13, k_11_14, k_11_15⟩ (sgn (nv := 1) rfl ⟨by decide +kernel, by decide +kernel, by decide +kernel⟩) ⟨⟨Nat.le_of_ble_eq_true rfl, Nat.le_of_ble_eq_true rfl⟩, ⟨Nat.le_of_ble_eq_true rfl, Nat.le_of_ble_eq_true rfl⟩, Nat.le_of_ble_eq_true rfl⟩ rfl rfl (fun h9 hh9 v9 => ?_)
  refine WR.pr (fun e9 => ?_)
  subst e9
  refine WR.imp (P' := BP G hb s b c t) (fun h1 e1 => e1 ▸ hh9) ?_
  show WR K G _ _ _ _ _ _ _ (.int _ :: _)
  refine R_iadd (pc := 10) C dJ5_append_c97b9_10 ?_
  rw [nI_add]
  refine R_istore_n (pc := 11) C dJ5_append_c97b9_11 (Nat.le_of_ble_eq_true rfl) (lv' := [some (.ref _), some (.int _), some (.int _), some (.int _)]) rfl ?_
  refine R_aload_n (pc := 12) C dJ5_append_c97b9_12 rfl ?_
  refine R_iload_n (pc := 13) C dJ5_append_c97b9_13 rfl ?_
  refine R_callVU (pc := 14) C dJ5_append_c97b9_14 (vs := [_]) (fun h hh => mJ5_ensureCapacityInternal_d00df hl (m := c + 2) (by omega) h hh) (isOb_of (bo) rfl) ⟨k_6_6, k_6_7, k_6_8, k_6_9, k_5_0, k_6_10⟩ ⟨k_6_9, k_6_10⟩ (sgn (nv := 1) rfl ⟨by decide +kernel, by decide +kernel, by decide +kernel⟩) ⟨⟨Nat.le_of_ble_eq_true rfl, Nat.le_of_ble_eq_true rfl⟩, ⟨Nat.le_of_ble_eq_true rfl, Nat.le_of_ble_eq_true rfl⟩, Nat.le_of_ble_eq_true rfl⟩ rfl rfl (fun h9 hh9 v9 => ?_)
  refine WR.pr (fun e9 => ?_)
  subst e9
  show WR K G _ _ _ _ _ _ _ _
  refine R_aload_n (pc := 17) C dJ5_append_c97b9_17 rfl ?_
  refine R_callVU (pc := 18) C dJ5_append_c97b9_18 (vs := []) (fun h hh => mJ5_isLatin1_aae02 hl h hh) (isOb_of (bo) rfl) ⟨k_7_22, k_7_23, k_8_0, k_8_1, k_5_0, k_8_2⟩ ⟨k_8_1, k_8_2⟩ (sgn (nv := 0) rfl ⟨by decide +kernel, by decide +kernel, by decide +kernel⟩) ⟨⟨Nat.le_of_ble_eq_true rfl, Nat.le_of_ble_eq_true rfl⟩, ⟨Nat.le_of_ble_eq_true rfl, Nat.le_of_ble_eq_true rfl⟩, Nat.le_of_ble_eq_true rfl⟩ rfl rfl (fun h9 hh9 v9 => ?_)
  refine WR.pr (fun e9 => ?_)
  subst e9
  show WR K G _ _ _ _ _ _ _ (.int _ :: _)
  refine R_if_eq (pc := 21) C dJ5_append_c97b9_21 (tgt := 37) (by decide) (fun c21 => absurd c21 (by decide)) (fun c21 => ?_)
  refine R_iload_n (pc := 24) C dJ5_append_c97b9_24 rfl ?_
  refine R_iload_n (pc := 25) C dJ5_append_c97b9_25 rfl ?_
  refine R_aload_n (pc := 26) C dJ5_append_c97b9_26 rfl ?_
  refine R_getf (pc := 27) C dJ5_append_c97b9_27 (i := 0) (bo) rfl inlJ4 (by decide) k_5_5 rfl ?_
  refine R_callSN (pc := 30) C dJ5_append_c97b9_30 (vs := [_, _, _]) (fun h hh => mGC_B hl hp hp2 hc h hh) ⟨k_11_16, k_11_17, k_11_14, k_11_18⟩ (sgn (nv := 3) rfl ⟨by decide +kernel, by decide +kernel, by decide +kernel⟩) ⟨⟨Nat.le_of_ble_eq_true rfl, Nat.le_of_ble_eq_true rfl⟩, ⟨Nat.le_of_ble_eq_true rfl, Nat.le_of_ble_eq_true rfl⟩, Nat.le_of_ble_eq_true rfl⟩ rfl rfl (fun h9 hh9 v9 => ?_)
  refine WR.pr (fun e9 => ?_)
  subst e9
  show WR K G _ _ _ _ _ _ _ (.int _ :: _)
  refine R_pop (pc := 33) C dJ5_append_c97b9_33 rfl ?_
  refine R_goto (pc := 34) C dJ5_append_c97b9_34 (tgt := 48) (by decide) ?_
  refine R_aload_n (pc := 48) C dJ5_append_c97b9_48 rfl ?_
  refine R_iload_n (pc := 49) C dJ5_append_c97b9_49 rfl ?_
  refine R_putf (pc := 50) C dJ5_append_c97b9_50 (i := 3) (bo) rfl inlJ4 tyJ4_ok nmJ4 (by decide) k_6_0 rfl rfl rfl (Nat.le_of_ble_eq_true rfl) (fun h hh => hh.setF) ?_
  refine R_aload_n (pc := 53) C dJ5_append_c97b9_53 rfl ?_
  exact R_aret (pc := 54) C dJ5_append_c97b9_54 rfl (Or.inl ⟨_, rfl⟩) (Or.inr ⟨_, rfl⟩) (Nat.le_of_ble_eq_true rfl) (Nat.le_of_ble_eq_true rfl) (fun h hh => ⟨rfl, hh⟩)
set_option maxHeartbeats 4000000 in
set_option maxRecDepth 100000 in
theorem mAI_B (hl : l.stackTraces = false) {p : Nat} (hp : p < 100) (hp2 : 10 ≤ p) (hc : c + 2 ≤ 16) : ∀ h, BP G hb s b c t h → CN l yJ4_append_bf812 cJ4_append_bf812 2 (some (.object "java/lang/StringBuilder")) 2 0 0 [.ref s, .int (nI p)] G h (fun v h1 => v = some (.ref s) ∧ BP G hb s b (c + 2) (upd (upd t (c + 1) (nI (48 + p % 10))) c (nI (48 + p / 10))) h1) := by
  intro h0 hwd
  refine CN.of hl (by decide +kernel) rfl (Nat.le_of_ble_eq_true rfl) (fun K sz hKl hin C => ?_)
  have C : CX K G (AH h0 sz) RJ4 cJ4_append_bf812 2 (some (.object "java/lang/StringBuilder")) (rmD 2 0 0) [] := C
  subst hKl
  refine WR.imp (P' := BP G hb s b c t) (fun h e => e ▸ hwd) ?_
  show WR K G _ _ _ [some (.ref s), some (.int (nI p))] 0 0 0 []
  refine R_aload_n (pc := 0) C dJ4_append_bf812_0 rfl ?_
  refine R_iload_n (pc := 1) C dJ4_append_bf812_1 rfl ?_
  refine R_callSU (pc := 2) C dJ4_append_bf812_2 (vs := [_]) (fun h hh => mAI5_B hl hp hp2 hc h hh) (bo) rfl ⟨k_11_8, k_11_9, k_5_21, k_11_10, k_5_0, k_11_11⟩ (sgs (nv := 1) rfl ⟨by decide, by decide +kernel⟩) ⟨⟨Nat.le_of_ble_eq_true rfl, Nat.le_of_ble_eq_true rfl⟩, ⟨Nat.le_of_ble_eq_true rfl, Nat.le_of_ble_eq_true rfl⟩, Nat.le_of_ble_eq_true rfl⟩ rfl rfl (fun h9 hh9 v9 => ?_)
  refine WR.pr (fun e9 => ?_)
  subst e9
  show WR K G _ _ _ _ _ _ _ (.ref _ :: _)
  refine R_pop (pc := 5) C dJ4_append_bf812_5 rfl ?_
  refine R_aload_n (pc := 6) C dJ4_append_bf812_6 rfl ?_
  exact R_aret (pc := 7) C dJ4_append_bf812_7 rfl (Or.inl ⟨_, rfl⟩) (Or.inr ⟨_, rfl⟩) (Nat.le_of_ble_eq_true rfl) (Nat.le_of_ble_eq_true rfl) (fun h hh => ⟨rfl, hh⟩)
end
