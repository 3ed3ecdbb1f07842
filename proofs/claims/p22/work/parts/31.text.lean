/-! 31: the text of a well: StringBuilder and String. Written by wip/p22/gen/m31.py -/
/-- a builder s with its bytes b, both made since hb -/
def BPf (G : GT) (hb : Hp) (s b : Nat) (fs : List Value) (t : Nat → Int32) (h : Hp) : Prop := h s = some (ob 1 fs) ∧ h b = some (aB G 16 t) ∧ s ≠ b ∧ hb s = none ∧ hb b = none ∧ ∀ x, hb x ≠ none → h x = hb x
abbrev bpF (b c : Nat) : List Value := [.ref b, .int 0, .int 0, .int (nI c)]
abbrev BP (G : GT) (hb : Hp) (s b c : Nat) (t : Nat → Int32) : Hp → Prop := BPf G hb s b (bpF b c) t
theorem BPf.setF {G : GT} {hb h : Hp} {s b : Nat} {fs fs' : List Value} {t : Nat → Int32} (H : BPf G hb s b fs t h) : BPf G hb s b fs' t (hu h s (ob 1 fs')) :=
  ⟨hu_s, (hu_n (fun e => H.2.2.1 e.symm)).trans H.2.1, H.2.2.1, H.2.2.2.1, H.2.2.2.2.1, fun x hx => (hu_n (fun e => hx (by rw [e]; exact H.2.2.2.1))).trans (H.2.2.2.2.2 x hx)⟩
theorem BPf.setB {G : GT} {hb h : Hp} {s b : Nat} {fs : List Value} {t t' : Nat → Int32} (H : BPf G hb s b fs t h) : BPf G hb s b fs t' (hu h b (aB G 16 t')) :=
  ⟨(hu_n H.2.2.1).trans H.1, hu_s, H.2.2.1, H.2.2.2.1, H.2.2.2.2.1, fun x hx => (hu_n (fun e => hx (by rw [e]; exact H.2.2.2.2.1))).trans (H.2.2.2.2.2 x hx)⟩
theorem bo {G : GT} {hb : Hp} {s b : Nat} {fs : List Value} {t : Nat → Int32} : ∀ h, BPf G hb s b fs t h → h s = some (ob 1 fs) := fun _ H => H.1
theorem bb {G : GT} {hb : Hp} {s b : Nat} {fs : List Value} {t : Nat → Int32} : ∀ h, BPf G hb s b fs t h → h b = some (aB G 16 t) := fun _ H => H.2.1
theorem sgs {y : MethodName} {nv : Nat} {vs : List Value} (h : vs.length = nv) (hd : y.name ≠ "<init>" ∧ (parseMethodDescriptor y.desc).map (fun d => d.parameters.length) = some nv) : y.name ≠ "<init>" ∧ (parseMethodDescriptor y.desc).map (fun d => d.parameters.length) = some vs.length := h ▸ hd
def kf (j : Nat) : Int32 := (([[108, 97, 121, 101, 114]] : List (List Int32)).getD 0 []).getD j 0
theorem cap_le {m : Nat} (h : m ≤ 16) : nI m - (Int32.ofNat 16 >>> ((0 : Int32) &&& 31)) ≤ 0 := (by decide +kernel : ∀ m, m < 17 → nI m - (Int32.ofNat 16 >>> ((0 : Int32) &&& 31)) ≤ 0) m (by omega)
section
variable {K : KT} {G : GT} {A : Nat → Prop} {own : String} {cc : ByteArray} {nL : Nat} {ret : Option FieldType} {rm : Room} {tb : List ExceptionTableEntry}
theorem stK (C : CX K G A own cc nL ret rm tb) : va_O "java/lang/String" (G.2.2 3) A K.s K.s.heap ∧ va_OF "java/lang/String" "coder" "B" (.int 0) (G.2.2 3) A K.s K.s.heap ∧ va_OF "java/lang/String" "value" "[B" (.ref (G.2.2 4)) (G.2.2 3) A K.s K.s.heap ∧ va_T .byte (G.2.2 4) 5 (fun j => .int (kf j)) A K.s K.s.heap := C.st.2.2.2.2.2.1.1 0 (by decide)
theorem reK (C : CX K G A own cc nL ret rm tb) : ∀ H locs, va_S A K.s.heap H locs → ∃ cellB : Cell, H[G.2.2 3]? = some cellB ∧ cellB.vm.isStatics = false ∧ K.s.vm.findClass "java/lang/String" = some cellB.cls := fun _ _ hS => vk_recv C.st.2.2.2.2.2.1 (i := 0) (by decide) hS
end
section
variable {l : Launch} {G : GT} {hb : Hp} {s b c : Nat} {t : Nat → Int32}
set_option maxHeartbeats 4000000 in
set_option maxRecDepth 100000 in
theorem mJ5_isLatin1_aae02 (hl : l.stackTraces = false)   : ∀ h, BP G hb s b c t h → CN l yJ5_isLatin1_aae02 cJ5_isLatin1_aae02 1 (some .boolean) 0 0 0 [.ref s] G h (fun v h1 => v = some (.int 1) ∧ BP G hb s b c t h1) := by
  intro h0 hwd
  refine CN.of hl (by decide +kernel) rfl (Nat.le_of_ble_eq_true rfl) (fun K sz hKl hin C => ?_)
  have C : CX K G (AH h0 sz) RJ5 cJ5_isLatin1_aae02 1 (some .boolean) (rmD 0 0 0) [] := C
  subst hKl
  refine WR.imp (P' := BP G hb s b c t) (fun h e => e ▸ hwd) ?_
  show WR K G _ _ _ [some (.ref s)] 0 0 0 []
  refine R_gets (pc := 0) C dJ5_isLatin1_aae02_0 (C.st.2.1) k_5_3 ?_
  refine R_if_eq (pc := 3) C dJ5_isLatin1_aae02_3 (tgt := 17) (by decide) (fun c3 => absurd c3 (by decide)) (fun c3 => ?_)
  refine R_aload_n (pc := 6) C dJ5_isLatin1_aae02_6 rfl ?_
  refine R_getf (pc := 7) C dJ5_isLatin1_aae02_7 (i := 1) (bo) rfl inlJ4 (by decide) k_5_6 rfl ?_
  refine R_if_ne (pc := 10) C dJ5_isLatin1_aae02_10 (tgt := 17) (by decide) (fun c10 => absurd c10 (fun q => q rfl)) (fun c10 => ?_)
  refine R_iconst (pc := 13) C dJ5_isLatin1_aae02_13 (v := 1) (by decide) ?_
  refine R_goto (pc := 14) C dJ5_isLatin1_aae02_14 (tgt := 18) (by decide) ?_
  exact R_zret (pc := 18) C dJ5_isLatin1_aae02_18 rfl rfl (Nat.le_of_ble_eq_true rfl) (Nat.le_of_ble_eq_true rfl) (fun h hh => ⟨rfl, hh⟩)
set_option maxHeartbeats 4000000 in
set_option maxRecDepth 100000 in
theorem mJ5_ensureCapacityInternal_d00df (hl : l.stackTraces = false) {m : Nat} (hm : m ≤ 16) : ∀ h, BP G hb s b c t h → CN l yJ5_ensureCapacityInternal_d00df cJ5_ensureCapacityInternal_d00df 3 (none) 0 0 0 [.ref s, .int (nI m)] G h (fun v h1 => v = none ∧ BP G hb s b c t h1) := by
  intro h0 hwd
  refine CN.of hl (by decide +kernel) rfl (Nat.le_of_ble_eq_true rfl) (fun K sz hKl hin C => ?_)
  have C : CX K G (AH h0 sz) RJ5 cJ5_ensureCapacityInternal_d00df 3 (none) (rmD 0 0 0) [] := C
  subst hKl
  refine WR.imp (P' := BP G hb s b c t) (fun h e => e ▸ hwd) ?_
  show WR K G _ _ _ [some (.ref s), some (.int (nI m)), none] 0 0 0 []
  refine R_aload_n (pc := 0) C dJ5_ensureCapacityInternal_d00df_0 rfl ?_
  refine R_getf (pc := 1) C dJ5_ensureCapacityInternal_d00df_1 (i := 0) (bo) rfl inlJ4 (by decide) k_5_5 rfl ?_
  refine R_alen (pc := 4) C dJ5_ensureCapacityInternal_d00df_4 (t := 1) (bb) rfl rfl ?_
  refine R_aload_n (pc := 5) C dJ5_ensureCapacityInternal_d00df_5 rfl ?_
  refine R_getf (pc := 6) C dJ5_ensureCapacityInternal_d00df_6 (i := 1) (bo) rfl inlJ4 (by decide) k_5_6 rfl ?_
  refine R_ishr (pc := 9) C dJ5_ensureCapacityInternal_d00df_9 ?_
  refine R_istore_n (pc := 10) C dJ5_ensureCapacityInternal_d00df_10 (Nat.le_of_ble_eq_true rfl) (lv' := [some (.ref _), some (.int _), some (.int _)]) rfl ?_
  refine R_iload_n (pc := 11) C dJ5_ensureCapacityInternal_d00df_11 rfl ?_
  refine R_iload_n (pc := 12) C dJ5_ensureCapacityInternal_d00df_12 rfl ?_
  refine R_isub (pc := 13) C dJ5_ensureCapacityInternal_d00df_13 ?_
  refine R_if_le (pc := 14) C dJ5_ensureCapacityInternal_d00df_14 (tgt := 38) (by decide) (fun c14 => ?_) (fun c14 => absurd (cap_le hm) c14)
  exact R_vret (pc := 38) C dJ5_ensureCapacityInternal_d00df_38 rfl (Nat.le_of_ble_eq_true rfl) (Nat.le_of_ble_eq_true rfl) (fun h hh => ⟨rfl, hh⟩)
set_option maxHeartbeats 4000000 in
set_option maxRecDepth 100000 in
theorem mK_coder (hl : l.stackTraces = false)   : ∀ h, CN l yJ0_coder_7d493 cJ0_coder_7d493 1 (some .byte) 0 0 0 [.ref (G.2.2 3)] G h (fun v h1 => v = some (.int 0) ∧ h1 = h) := by
  intro h0
  refine CN.of hl (by decide +kernel) rfl (Nat.le_of_ble_eq_true rfl) (fun K sz hKl hin C => ?_)
  have C : CX K G (AH h0 sz) RJ0 cJ0_coder_7d493 1 (some .byte) (rmD 0 0 0) [] := C
  subst hKl
  show WR K G _ _ _ [some (.ref (G.2.2 3))] 0 0 0 []
  refine R_gets (pc := 0) C dJ0_coder_7d493_0 (C.st.2.1) k_9_12 ?_
  refine R_if_eq (pc := 3) C dJ0_coder_7d493_3 (tgt := 13) (by decide) (fun c3 => absurd c3 (by decide)) (fun c3 => ?_)
  refine R_aload_n (pc := 6) C dJ0_coder_7d493_6 rfl ?_
  refine R_getfK (pc := 7) C dJ0_coder_7d493_7 ((stK C).2.1) k_9_13 ?_
  refine R_goto (pc := 10) C dJ0_coder_7d493_10 (tgt := 14) (by decide) ?_
  exact R_zret (pc := 14) C dJ0_coder_7d493_14 rfl rfl (Nat.le_of_ble_eq_true rfl) (Nat.le_of_ble_eq_true rfl) (fun h hh => ⟨rfl, hh.symm⟩)
set_option maxHeartbeats 4000000 in
set_option maxRecDepth 100000 in
theorem mK_length (hl : l.stackTraces = false)   : ∀ h, CN l yJ0_length_8abf5 cJ0_length_8abf5 1 (some .int) 1 0 0 [.ref (G.2.2 3)] G h (fun v h1 => v = some (.int 5) ∧ h1 = h) := by
  intro h0
  refine CN.of hl (by decide +kernel) rfl (Nat.le_of_ble_eq_true rfl) (fun K sz hKl hin C => ?_)
  have C : CX K G (AH h0 sz) RJ0 cJ0_length_8abf5 1 (some .int) (rmD 1 0 0) [] := C
  subst hKl
  show WR K G _ _ _ [some (.ref (G.2.2 3))] 0 0 0 []
  refine R_aload_n (pc := 0) C dJ0_length_8abf5_0 rfl ?_
  refine R_getfK (pc := 1) C dJ0_length_8abf5_1 ((stK C).2.2.1) k_9_7 ?_
  refine R_tlen (pc := 4) C dJ0_length_8abf5_4 (stK C).2.2.2 (v := 5) rfl ?_
  refine R_aload_n (pc := 5) C dJ0_length_8abf5_5 rfl ?_
  refine R_callVK (pc := 6) C dJ0_length_8abf5_6 (vs := []) (fun h hh => mK_coder hl h) (reK C) ⟨k_9_8, k_9_9, k_9_10, k_8_15, k_9_11⟩ (sgn (nv := 0) rfl ⟨by decide +kernel, by decide +kernel, by decide +kernel⟩) ⟨⟨Nat.le_of_ble_eq_true rfl, Nat.le_of_ble_eq_true rfl⟩, ⟨Nat.le_of_ble_eq_true rfl, Nat.le_of_ble_eq_true rfl⟩, Nat.le_of_ble_eq_true rfl⟩ rfl rfl (fun h9 hh9 v9 => ?_)
  refine WR.pr (fun e9 => ?_)
  subst e9
  refine WR.imp (P' := Eq h0) (fun h1 e1 => e1 ▸ hh9) ?_
  show WR K G _ _ _ _ _ _ _ (.int _ :: _)
  refine R_ishr (pc := 9) C dJ0_length_8abf5_9 ?_
  exact R_iret (pc := 10) C dJ0_length_8abf5_10 rfl (Nat.le_of_ble_eq_true rfl) (Nat.le_of_ble_eq_true rfl) (fun h hh => ⟨rfl, hh.symm⟩)
set_option maxHeartbeats 4000000 in
set_option maxRecDepth 100000 in
theorem mJ5_inflateIfNeededFor_a7421 (hl : l.stackTraces = false)   : ∀ h, BP G hb s b c t h → CN l yJ5_inflateIfNeededFor_a7421 cJ5_inflateIfNeededFor_a7421 2 (none) 1 0 0 [.ref s, .ref (G.2.2 3)] G h (fun v h1 => v = none ∧ BP G hb s b c t h1) := by
  intro h0 hwd
  refine CN.of hl (by decide +kernel) rfl (Nat.le_of_ble_eq_true rfl) (fun K sz hKl hin C => ?_)
  have C : CX K G (AH h0 sz) RJ5 cJ5_inflateIfNeededFor_a7421 2 (none) (rmD 1 0 0) [] := C
  subst hKl
  refine WR.imp (P' := BP G hb s b c t) (fun h e => e ▸ hwd) ?_
  show WR K G _ _ _ [some (.ref s), some (.ref (G.2.2 3))] 0 0 0 []
  refine R_gets (pc := 0) C dJ5_inflateIfNeededFor_a7421_0 (C.st.2.1) k_5_3 ?_
  refine R_if_eq (pc := 3) C dJ5_inflateIfNeededFor_a7421_3 (tgt := 21) (by decide) (fun c3 => absurd c3 (by decide)) (fun c3 => ?_)
  refine R_aload_n (pc := 6) C dJ5_inflateIfNeededFor_a7421_6 rfl ?_
  refine R_getf (pc := 7) C dJ5_inflateIfNeededFor_a7421_7 (i := 1) (bo) rfl inlJ4 (by decide) k_5_6 rfl ?_
  refine R_aload_n (pc := 10) C dJ5_inflateIfNeededFor_a7421_10 rfl ?_
  refine R_callVK (pc := 11) C dJ5_inflateIfNeededFor_a7421_11 (vs := []) (fun h hh => mK_coder hl h) (reK C) ⟨k_10_0, k_9_9, k_9_10, k_8_15, k_9_11⟩ (sgn (nv := 0) rfl ⟨by decide +kernel, by decide +kernel, by decide +kernel⟩) ⟨⟨Nat.le_of_ble_eq_true rfl, Nat.le_of_ble_eq_true rfl⟩, ⟨Nat.le_of_ble_eq_true rfl, Nat.le_of_ble_eq_true rfl⟩, Nat.le_of_ble_eq_true rfl⟩ rfl rfl (fun h9 hh9 v9 => ?_)
  refine WR.pr (fun e9 => ?_)
  subst e9
  refine WR.imp (P' := BP G hb s b c t) (fun h1 e1 => e1 ▸ hh9) ?_
  show WR K G _ _ _ _ _ _ _ (.int _ :: _)
  refine R_icmp_eq (pc := 14) C dJ5_inflateIfNeededFor_a7421_14 (tgt := 21) (by decide) (fun c14 => ?_) (fun c14 => absurd (rfl) c14)
  exact R_vret (pc := 21) C dJ5_inflateIfNeededFor_a7421_21 rfl (Nat.le_of_ble_eq_true rfl) (Nat.le_of_ble_eq_true rfl) (fun h hh => ⟨rfl, hh⟩)
theorem kf_fit : ∀ i, i < 5 → fits .byte (.int (kf (0 + i))) = true := by decide +kernel
set_option maxHeartbeats 4000000 in
set_option maxRecDepth 100000 in
theorem mK_getBytes (hl : l.stackTraces = false)   : ∀ h, BP G hb s b 0 t h → CN l yJ0_getBytes_840e7 cJ0_getBytes_840e7 4 (none) 1 0 0 [.ref (G.2.2 3), .ref b, .int (nI 0), .int 0] G h (fun v h1 => v = none ∧ BPf G hb s b (bpF b 0) (va_cpy kf t 0 0 5) h1) := by
  intro h0 hwd
  refine CN.of hl (by decide +kernel) rfl (Nat.le_of_ble_eq_true rfl) (fun K sz hKl hin C => ?_)
  have C : CX K G (AH h0 sz) RJ0 cJ0_getBytes_840e7 4 (none) (rmD 1 0 0) [] := C
  subst hKl
  refine WR.imp (P' := BP G hb s b 0 t) (fun h e => e ▸ hwd) ?_
  show WR K G _ _ _ [some (.ref (G.2.2 3)), some (.ref b), some (.int (nI 0)), some (.int 0)] 0 0 0 []
  refine R_aload_n (pc := 0) C dJ0_getBytes_840e7_0 rfl ?_
  refine R_callVK (pc := 1) C dJ0_getBytes_840e7_1 (vs := []) (fun h hh => mK_coder hl h) (reK C) ⟨k_9_8, k_9_9, k_9_10, k_8_15, k_9_11⟩ (sgn (nv := 0) rfl ⟨by decide +kernel, by decide +kernel, by decide +kernel⟩) ⟨⟨Nat.le_of_ble_eq_true rfl, Nat.le_of_ble_eq_true rfl⟩, ⟨Nat.le_of_ble_eq_true rfl, Nat.le_of_ble_eq_true rfl⟩, Nat.le_of_ble_eq_true rfl⟩ rfl rfl (fun h9 hh9 v9 => ?_)
  refine WR.pr (fun e9 => ?_)
  subst e9
  refine WR.imp (P' := BP G hb s b 0 t) (fun h1 e1 => e1 ▸ hh9) ?_
  show WR K G _ _ _ _ _ _ _ (.int _ :: _)
  refine R_iload_n (pc := 4) C dJ0_getBytes_840e7_4 rfl ?_
  refine R_icmp_ne (pc := 5) C dJ0_getBytes_840e7_5 (tgt := 28) (by decide) (fun c5 => absurd c5 (fun q => q rfl)) (fun c5 => ?_)
  refine R_aload_n (pc := 8) C dJ0_getBytes_840e7_8 rfl ?_
  refine R_getfK (pc := 9) C dJ0_getBytes_840e7_9 ((stK C).2.2.1) k_9_7 ?_
  refine R_iconst (pc := 12) C dJ0_getBytes_840e7_12 (v := 0) (by decide) ?_
  refine R_aload_n (pc := 13) C dJ0_getBytes_840e7_13 rfl ?_
  refine R_iload_n (pc := 14) C dJ0_getBytes_840e7_14 rfl ?_
  refine R_iload_n (pc := 15) C dJ0_getBytes_840e7_15 rfl ?_
  refine R_ishl (pc := 16) C dJ0_getBytes_840e7_16 ?_
  refine R_aload_n (pc := 17) C dJ0_getBytes_840e7_17 rfl ?_
  refine R_getfK (pc := 18) C dJ0_getBytes_840e7_18 ((stK C).2.2.1) k_9_7 ?_
  refine R_tlen (pc := 21) C dJ0_getBytes_840e7_21 (stK C).2.2.2 (v := 5) rfl ?_
  refine R_acp (pc := 22) C dJ0_getBytes_840e7_22 k_11_2 (src_T (stK C).2.2.2) (bb) (rfl) ((by decide : _ = nI 0)) ((by decide : _ = nI 5)) ⟨by decide, by decide⟩ (by decide) (by decide) (kf_fit) rfl ⟨Nat.le_of_ble_eq_true rfl, Nat.le_of_ble_eq_true rfl⟩ (fun h hh => hh.setB) ?_
  refine R_goto (pc := 25) C dJ0_getBytes_840e7_25 (tgt := 43) (by decide) ?_
  exact R_vret (pc := 43) C dJ0_getBytes_840e7_43 rfl (Nat.le_of_ble_eq_true rfl) (Nat.le_of_ble_eq_true rfl) (fun h hh => ⟨rfl, hh⟩)
set_option maxHeartbeats 4000000 in
set_option maxRecDepth 100000 in
theorem mJ5_putStringAt_47b60 (hl : l.stackTraces = false)   : ∀ h, BP G hb s b 0 t h → CN l yJ5_putStringAt_47b60 cJ5_putStringAt_47b60 3 (none) 2 0 0 [.ref s, .int (nI 0), .ref (G.2.2 3)] G h (fun v h1 => v = none ∧ BPf G hb s b (bpF b 0) (va_cpy kf t 0 0 5) h1) := by
  intro h0 hwd
  refine CN.of hl (by decide +kernel) rfl (Nat.le_of_ble_eq_true rfl) (fun K sz hKl hin C => ?_)
  have C : CX K G (AH h0 sz) RJ5 cJ5_putStringAt_47b60 3 (none) (rmD 2 0 0) [] := C
  subst hKl
  refine WR.imp (P' := BP G hb s b 0 t) (fun h e => e ▸ hwd) ?_
  show WR K G _ _ _ [some (.ref s), some (.int (nI 0)), some (.ref (G.2.2 3))] 0 0 0 []
  refine R_aload_n (pc := 0) C dJ5_putStringAt_47b60_0 rfl ?_
  refine R_aload_n (pc := 1) C dJ5_putStringAt_47b60_1 rfl ?_
  refine R_callVU (pc := 2) C dJ5_putStringAt_47b60_2 (vs := [_]) (fun h hh => mJ5_inflateIfNeededFor_a7421 hl h hh) (isOb_of (bo) rfl) ⟨k_9_19, k_9_20, k_9_21, k_9_22, k_5_0, k_9_23⟩ ⟨k_9_22, k_9_23⟩ (sgn (nv := 1) rfl ⟨by decide +kernel, by decide +kernel, by decide +kernel⟩) ⟨⟨Nat.le_of_ble_eq_true rfl, Nat.le_of_ble_eq_true rfl⟩, ⟨Nat.le_of_ble_eq_true rfl, Nat.le_of_ble_eq_true rfl⟩, Nat.le_of_ble_eq_true rfl⟩ rfl rfl (fun h9 hh9 v9 => ?_)
  refine WR.pr (fun e9 => ?_)
  subst e9
  show WR K G _ _ _ _ _ _ _ _
  refine R_aload_n (pc := 5) C dJ5_putStringAt_47b60_5 rfl ?_
  refine R_aload_n (pc := 6) C dJ5_putStringAt_47b60_6 rfl ?_
  refine R_getf (pc := 7) C dJ5_putStringAt_47b60_7 (i := 0) (bo) rfl inlJ4 (by decide) k_5_5 rfl ?_
  refine R_iload_n (pc := 10) C dJ5_putStringAt_47b60_10 rfl ?_
  refine R_aload_n (pc := 11) C dJ5_putStringAt_47b60_11 rfl ?_
  refine R_getf (pc := 12) C dJ5_putStringAt_47b60_12 (i := 1) (bo) rfl inlJ4 (by decide) k_5_6 rfl ?_
  refine R_callVK (pc := 15) C dJ5_putStringAt_47b60_15 (vs := [_, _, _]) (fun h hh => mK_getBytes hl h hh) (reK C) ⟨k_10_22, k_10_23, k_11_0, k_8_15, k_11_1⟩ (sgn (nv := 3) rfl ⟨by decide +kernel, by decide +kernel, by decide +kernel⟩) ⟨⟨Nat.le_of_ble_eq_true rfl, Nat.le_of_ble_eq_true rfl⟩, ⟨Nat.le_of_ble_eq_true rfl, Nat.le_of_ble_eq_true rfl⟩, Nat.le_of_ble_eq_true rfl⟩ rfl rfl (fun h9 hh9 v9 => ?_)
  refine WR.pr (fun e9 => ?_)
  subst e9
  show WR K G _ _ _ _ _ _ _ _
  exact R_vret (pc := 18) C dJ5_putStringAt_47b60_18 rfl (Nat.le_of_ble_eq_true rfl) (Nat.le_of_ble_eq_true rfl) (fun h hh => ⟨rfl, hh⟩)
set_option maxHeartbeats 4000000 in
set_option maxRecDepth 100000 in
theorem mJ5_append_cf1ce (hl : l.stackTraces = false)   : ∀ h, BP G hb s b 0 t h → CN l yJ5_append_cf1ce cJ5_append_cf1ce 3 (some (.object "java/lang/AbstractStringBuilder")) 3 0 0 [.ref s, .ref (G.2.2 3)] G h (fun v h1 => v = some (.ref s) ∧ BP G hb s b 5 (va_cpy kf t 0 0 5) h1) := by
  intro h0 hwd
  refine CN.of hl (by decide +kernel) rfl (Nat.le_of_ble_eq_true rfl) (fun K sz hKl hin C => ?_)
  have C : CX K G (AH h0 sz) RJ5 cJ5_append_cf1ce 3 (some (.object "java/lang/AbstractStringBuilder")) (rmD 3 0 0) [] := C
  subst hKl
  refine WR.imp (P' := BP G hb s b 0 t) (fun h e => e ▸ hwd) ?_
  show WR K G _ _ _ [some (.ref s), some (.ref (G.2.2 3)), none] 0 0 0 []
  refine R_aload_n (pc := 0) C dJ5_append_cf1ce_0 rfl ?_
  refine R_ifnonnull (pc := 1) C dJ5_append_cf1ce_1 (tgt := 9) (by decide) ?_
  refine R_aload_n (pc := 9) C dJ5_append_cf1ce_9 rfl ?_
  refine R_callVK (pc := 10) C dJ5_append_cf1ce_10 (vs := []) (fun h hh => mK_length hl h) (reK C) ⟨k_9_3, k_9_4, k_9_5, k_8_15, k_9_6⟩ (sgn (nv := 0) rfl ⟨by decide +kernel, by decide +kernel, by decide +kernel⟩) ⟨⟨Nat.le_of_ble_eq_true rfl, Nat.le_of_ble_eq_true rfl⟩, ⟨Nat.le_of_ble_eq_true rfl, Nat.le_of_ble_eq_true rfl⟩, Nat.le_of_ble_eq_true rfl⟩ rfl rfl (fun h9 hh9 v9 => ?_)
  refine WR.pr (fun e9 => ?_)
  subst e9
  refine WR.imp (P' := BP G hb s b 0 t) (fun h1 e1 => e1 ▸ hh9) ?_
  show WR K G _ _ _ _ _ _ _ (.int _ :: _)
  refine R_istore_n (pc := 13) C dJ5_append_cf1ce_13 (Nat.le_of_ble_eq_true rfl) (lv' := [some (.ref _), some (.ref _), some (.int _)]) rfl ?_
  refine R_aload_n (pc := 14) C dJ5_append_cf1ce_14 rfl ?_
  refine R_aload_n (pc := 15) C dJ5_append_cf1ce_15 rfl ?_
  refine R_getf (pc := 16) C dJ5_append_cf1ce_16 (i := 3) (bo) rfl inlJ4 (by decide) k_6_0 rfl ?_
  refine R_iload_n (pc := 19) C dJ5_append_cf1ce_19 rfl ?_
  refine R_iadd (pc := 20) C dJ5_append_cf1ce_20 ?_
  refine R_callVU (pc := 21) C dJ5_append_cf1ce_21 (vs := [.int (nI 5)]) (fun h hh => mJ5_ensureCapacityInternal_d00df hl (m := 5) (by decide) h hh) (isOb_of (bo) rfl) ⟨k_6_6, k_6_7, k_6_8, k_6_9, k_5_0, k_6_10⟩ ⟨k_6_9, k_6_10⟩ (sgn (nv := 1) rfl ⟨by decide +kernel, by decide +kernel, by decide +kernel⟩) ⟨⟨Nat.le_of_ble_eq_true rfl, Nat.le_of_ble_eq_true rfl⟩, ⟨Nat.le_of_ble_eq_true rfl, Nat.le_of_ble_eq_true rfl⟩, Nat.le_of_ble_eq_true rfl⟩ rfl rfl (fun h9 hh9 v9 => ?_)
  refine WR.pr (fun e9 => ?_)
  subst e9
  show WR K G _ _ _ _ _ _ _ _
  refine R_aload_n (pc := 24) C dJ5_append_cf1ce_24 rfl ?_
  refine R_aload_n (pc := 25) C dJ5_append_cf1ce_25 rfl ?_
  refine R_getf (pc := 26) C dJ5_append_cf1ce_26 (i := 3) (bo) rfl inlJ4 (by decide) k_6_0 rfl ?_
  refine R_aload_n (pc := 29) C dJ5_append_cf1ce_29 rfl ?_
  refine R_callVU (pc := 30) C dJ5_append_cf1ce_30 (vs := [.int (nI 0), _]) (fun h hh => mJ5_putStringAt_47b60 hl h hh) (isOb_of (bo) rfl) ⟨k_9_14, k_9_15, k_9_16, k_9_17, k_5_0, k_9_18⟩ ⟨k_9_17, k_9_18⟩ (sgn (nv := 2) rfl ⟨by decide +kernel, by decide +kernel, by decide +kernel⟩) ⟨⟨Nat.le_of_ble_eq_true rfl, Nat.le_of_ble_eq_true rfl⟩, ⟨Nat.le_of_ble_eq_true rfl, Nat.le_of_ble_eq_true rfl⟩, Nat.le_of_ble_eq_true rfl⟩ rfl rfl (fun h9 hh9 v9 => ?_)
  refine WR.pr (fun e9 => ?_)
  subst e9
  show WR K G _ _ _ _ _ _ _ _
  refine R_aload_n (pc := 33) C dJ5_append_cf1ce_33 rfl ?_
  refine R_dup (pc := 34) C dJ5_append_cf1ce_34 rfl ?_
  refine R_getf (pc := 35) C dJ5_append_cf1ce_35 (i := 3) (bo) rfl inlJ4 (by decide) k_6_0 rfl ?_
  refine R_iload_n (pc := 38) C dJ5_append_cf1ce_38 rfl ?_
  refine R_iadd (pc := 39) C dJ5_append_cf1ce_39 ?_
  refine R_putf (pc := 40) C dJ5_append_cf1ce_40 (i := 3) (bo) rfl inlJ4 tyJ4_ok nmJ4 (by decide) k_6_0 rfl rfl rfl (Nat.le_of_ble_eq_true rfl) (fun h hh => hh.setF) ?_
  refine R_aload_n (pc := 43) C dJ5_append_cf1ce_43 rfl ?_
  exact R_aret (pc := 44) C dJ5_append_cf1ce_44 rfl (Or.inl ⟨_, rfl⟩) (Or.inr ⟨_, rfl⟩) (Nat.le_of_ble_eq_true rfl) (Nat.le_of_ble_eq_true rfl) (fun h hh => ⟨rfl, hh⟩)
set_option maxHeartbeats 4000000 in
set_option maxRecDepth 100000 in
theorem mJ4_append_15ec4 (hl : l.stackTraces = false)   : ∀ h, BP G hb s b 0 t h → CN l yJ4_append_15ec4 cJ4_append_15ec4 2 (some (.object "java/lang/StringBuilder")) 4 0 0 [.ref s, .ref (G.2.2 3)] G h (fun v h1 => v = some (.ref s) ∧ BP G hb s b 5 (va_cpy kf t 0 0 5) h1) := by
  intro h0 hwd
  refine CN.of hl (by decide +kernel) rfl (Nat.le_of_ble_eq_true rfl) (fun K sz hKl hin C => ?_)
  have C : CX K G (AH h0 sz) RJ4 cJ4_append_15ec4 2 (some (.object "java/lang/StringBuilder")) (rmD 4 0 0) [] := C
  subst hKl
  refine WR.imp (P' := BP G hb s b 0 t) (fun h e => e ▸ hwd) ?_
  show WR K G _ _ _ [some (.ref s), some (.ref (G.2.2 3))] 0 0 0 []
  refine R_aload_n (pc := 0) C dJ4_append_15ec4_0 rfl ?_
  refine R_aload_n (pc := 1) C dJ4_append_15ec4_1 rfl ?_
  refine R_callSU (pc := 2) C dJ4_append_15ec4_2 (vs := [_]) (fun h hh => mJ5_append_cf1ce hl h hh) (bo) rfl ⟨k_5_19, k_5_20, k_5_21, k_5_22, k_5_0, k_5_23⟩ (sgs (nv := 1) rfl ⟨by decide, by decide +kernel⟩) ⟨⟨Nat.le_of_ble_eq_true rfl, Nat.le_of_ble_eq_true rfl⟩, ⟨Nat.le_of_ble_eq_true rfl, Nat.le_of_ble_eq_true rfl⟩, Nat.le_of_ble_eq_true rfl⟩ rfl rfl (fun h9 hh9 v9 => ?_)
  refine WR.pr (fun e9 => ?_)
  subst e9
  show WR K G _ _ _ _ _ _ _ (.ref _ :: _)
  refine R_pop (pc := 5) C dJ4_append_15ec4_5 rfl ?_
  refine R_aload_n (pc := 6) C dJ4_append_15ec4_6 rfl ?_
  exact R_aret (pc := 7) C dJ4_append_15ec4_7 rfl (Or.inl ⟨_, rfl⟩) (Or.inr ⟨_, rfl⟩) (Nat.le_of_ble_eq_true rfl) (Nat.le_of_ble_eq_true rfl) (fun h hh => ⟨rfl, hh⟩)
end
