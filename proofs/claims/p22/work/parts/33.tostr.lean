/-! 33: toString, and the text. Written by wip/p22/gen/m33.py -/
theorem dfJx4a65c : ∀ j, j < 3 → defaultValue (tyJx4a65c j) = vp_V [.int 0, .null, .int 0] j := by
  intro j hj
  have e : j = 0 ∨ j = 1 ∨ j = 2 := by omega
  rcases e with rfl | rfl | rfl <;> rfl
theorem dfX1 : ∀ j, j < 6 → defaultValue (tyX1 j) = vp_V [.null, .null, .null, .int 0, .int 0, .int 0] j := by
  intro j hj
  have e : j = 0 ∨ j = 1 ∨ j = 2 ∨ j = 3 ∨ j = 4 ∨ j = 5 := by omega
  rcases e with rfl | rfl | rfl | rfl | rfl | rfl <;> rfl
theorem dfX0 : ∀ j, j < 16 → defaultValue (tyX0 j) = vp_V [.int 0, .int 0, .int 0, .int 0, .int 0, .int 0, .null, .null, .int 0, .int 0, .int 0, .int 0, .int 0, .int 0, .int 0, .int 0] j := by
  intro j hj
  have e : j = 0 ∨ j = 1 ∨ j = 2 ∨ j = 3 ∨ j = 4 ∨ j = 5 ∨ j = 6 ∨ j = 7 ∨ j = 8 ∨ j = 9 ∨ j = 10 ∨ j = 11 ∨ j = 12 ∨ j = 13 ∨ j = 14 ∨ j = 15 := by omega
  rcases e with rfl | rfl | rfl | rfl | rfl | rfl | rfl | rfl | rfl | rfl | rfl | rfl | rfl | rfl | rfl | rfl <;> rfl
theorem dfJ4 : ∀ j, j < 4 → defaultValue (tyJ4 j) = vp_V [.null, .int 0, .int 0, .int 0] j := by
  intro j hj
  have e : j = 0 ∨ j = 1 ∨ j = 2 ∨ j = 3 := by omega
  rcases e with rfl | rfl | rfl | rfl <;> rfl
theorem dfJ0 : ∀ j, j < 4 → defaultValue (tyJ0 j) = vp_V [.null, .int 0, .int 0, .int 0] j := by
  intro j hj
  have e : j = 0 ∨ j = 1 ∨ j = 2 ∨ j = 3 := by omega
  rcases e with rfl | rfl | rfl | rfl <;> rfl
theorem hu_hu {h : Hp} {a : Nat} {e e' : va_E} : hu (hu h a e) a e' = hu h a e' := by
  funext x
  by_cases ex : x = a
  · subst ex; rw [hu_s, hu_s]
  · rw [hu_n ex, hu_n ex, hu_n ex]
theorem BPf.ne {G : GT} {hb h : Hp} {s b r : Nat} {fs : List Value} {t : Nat → Int32} (H : BPf G hb s b fs t h) (hr : h r = none) : r ≠ s ∧ r ≠ b ∧ hb r = none := by
  refine ⟨fun e => ?_, fun e => ?_, ?_⟩
  · rw [e, H.1] at hr; cases hr
  · rw [e, H.2.1] at hr; cases hr
  · cases hq : hb r with
    | none => rfl
    | some e =>
      have := H.2.2.2.2.2 r (by rw [hq]; exact fun z => by cases z)
      rw [hr, hq] at this; cases this
theorem BPf.up {G : GT} {hb h : Hp} {s b r : Nat} {fs : List Value} {t : Nat → Int32} {e : va_E} (H : BPf G hb s b fs t h) (hr : r ≠ s ∧ r ≠ b) : BPf G (hu hb r e) s b fs t (hu h r e) := by
  refine ⟨(hu_n (Ne.symm hr.1)).trans H.1, (hu_n (Ne.symm hr.2)).trans H.2.1, H.2.2.1, (hu_n (Ne.symm hr.1)).trans H.2.2.2.1, (hu_n (Ne.symm hr.2)).trans H.2.2.2.2.1, fun x hx => ?_⟩
  by_cases ex : x = r
  · subst ex; rw [hu_s, hu_s]
  · rw [hu_n ex] at hx ⊢; rw [hu_n ex]; exact H.2.2.2.2.2 x hx
theorem BPf.of {G : GT} {hb h : Hp} {s b r : Nat} {fs : List Value} {t : Nat → Int32} {e0 : va_E} (H : BPf G hb s b fs t h) (hr : hb r = some e0) : r ≠ s ∧ r ≠ b := by
  refine ⟨fun e => ?_, fun e => ?_⟩
  · rw [e, H.2.2.2.1] at hr; cases hr
  · rw [e, H.2.2.2.2.1] at hr; cases hr
theorem bx {G : GT} {hb : Hp} {s b r : Nat} {fs : List Value} {t : Nat → Int32} {e : va_E} (hr : hb r = some e) : ∀ h, BPf G hb s b fs t h → h r = some e := fun h H => (H.2.2.2.2.2 r (by rw [hr]; exact fun z => by cases z)).trans hr
/-- .. and one more array of bytes -/
def NPf (G : GT) (hb : Hp) (s b : Nat) (fs : List Value) (t : Nat → Int32) (q N : Nat) (f : Nat → Int32) (h : Hp) : Prop := BPf G hb s b fs t h ∧ h q = some (aB G N f) ∧ q ≠ s ∧ q ≠ b ∧ hb q = none
theorem BPf.nq {G : GT} {hb h : Hp} {s b q : Nat} {fs : List Value} {t : Nat → Int32} {e : va_E} (H : BPf G hb s b fs t h) (hq : q ≠ s ∧ q ≠ b ∧ hb q = none) : BPf G hb s b fs t (hu h q e) :=
  ⟨(hu_n (Ne.symm hq.1)).trans H.1, (hu_n (Ne.symm hq.2.1)).trans H.2.1, H.2.2.1, H.2.2.2.1, H.2.2.2.2.1, fun x hx => (hu_n (fun ex => hx (by rw [ex]; exact hq.2.2))).trans (H.2.2.2.2.2 x hx)⟩
theorem NPf.new {G : GT} {hb h : Hp} {s b q N : Nat} {fs : List Value} {t f : Nat → Int32} (H : BPf G hb s b fs t h) (hq : h q = none) : NPf G hb s b fs t q N f (hu h q (aB G N f)) := ⟨H.nq (H.ne hq), hu_s, H.ne hq⟩
theorem NPf.put {G : GT} {hb h : Hp} {s b q N : Nat} {fs : List Value} {t f f' : Nat → Int32} (H : NPf G hb s b fs t q N f h) : NPf G hb s b fs t q N f' (hu h q (aB G N f')) := ⟨H.1.nq H.2.2, hu_s, H.2.2⟩
theorem NPf.up {G : GT} {hb h : Hp} {s b q r N : Nat} {fs : List Value} {t f : Nat → Int32} {e0 e : va_E} (H : NPf G hb s b fs t q N f h) (hr : hb r = some e0) : NPf G (hu hb r e) s b fs t q N f (hu h r e) := by
  have hn : q ≠ r := fun z => by rw [← z, H.2.2.2.2] at hr; cases hr
  exact ⟨H.1.up (H.1.of hr), (hu_n hn).trans H.2.1, H.2.2.1, H.2.2.2.1, (hu_n hn).trans H.2.2.2.2⟩
theorem nb {G : GT} {hb : Hp} {s b q N : Nat} {fs : List Value} {t f : Nat → Int32} : ∀ h, NPf G hb s b fs t q N f h → h b = some (aB G 16 t) := fun _ H => H.1.2.1
theorem nq {G : GT} {hb : Hp} {s b q N : Nat} {fs : List Value} {t f : Nat → Int32} : ∀ h, NPf G hb s b fs t q N f h → h q = some (aB G N f) := fun _ H => H.2.1
theorem nx {G : GT} {hb : Hp} {s b q r N : Nat} {fs : List Value} {t f : Nat → Int32} {e : va_E} (hr : hb r = some e) : ∀ h, NPf G hb s b fs t q N f h → h r = some e := fun h H => bx hr h H.1
theorem ne16 {m : Nat} (h : m < 16) : ¬ nI m = Int32.ofNat 16 := (by decide +kernel : ∀ m, m < 16 → ¬ nI m = Int32.ofNat 16) m h
theorem mn16 {m : Nat} (h : m < 16) : (if nI m < Int32.ofNat 16 - 0 then nI m else Int32.ofNat 16 - 0) = nI m := (by decide +kernel : ∀ m, m < 16 → (if nI m < Int32.ofNat 16 - 0 then nI m else Int32.ofNat 16 - 0) = nI m) m h
theorem fit128 {j : Nat} (h : j < 128) : fits .byte (.int (nI j)) = true := (by decide +kernel : ∀ j, j < 128 → fits .byte (.int (nI j)) = true) j h
def asc (t : Nat → Int32) (m : Nat) : Prop := ∀ i, i < m → ∃ j, j < 128 ∧ t i = nI j
theorem asc.fit {t : Nat → Int32} {m : Nat} (h : asc t m) : ∀ i, i < m → fits .byte (.int (t (0 + i))) = true := fun i hi => by
  obtain ⟨j, hj, e⟩ := h i hi
  rw [Nat.zero_add, e]
  exact fit128 hj
/-- a string r with its bytes q, made since hb -/
def TS (G : GT) (hb : Hp) (r q N : Nat) (f : Nat → Int32) (h : Hp) : Prop := h r = some (ob 0 [.ref q, .int 0, .int 0, .int 0]) ∧ h q = some (aB G N f) ∧ r ≠ q ∧ hb r = none ∧ hb q = none ∧ ∀ x, hb x ≠ none → h x = hb x
theorem NPf.ts {G : GT} {hb h : Hp} {s b q r N : Nat} {fs : List Value} {t f : Nat → Int32} (H : NPf G (hu hb r (ob 0 [.ref q, .int 0, .int 0, .int 0])) s b fs t q N f h) (hr : hb r = none) : TS G hb r q N f h := by
  have hn : q ≠ r := fun z => by have := H.2.2.2.2; rw [z, hu_s] at this; cases this
  refine ⟨nx hu_s h H, H.2.1, Ne.symm hn, hr, (hu_n hn).symm.trans H.2.2.2.2, fun x hx => ?_⟩
  have e : x ≠ r := fun z => hx (by rw [z]; exact hr)
  have := H.1.2.2.2.2.2 x (by rw [hu_n e]; exact hx)
  rw [hu_n e] at this
  exact this
section
variable {l : Launch} {G : GT} {hb : Hp} {s b c : Nat} {t : Nat → Int32}
set_option maxHeartbeats 4000000 in
set_option maxRecDepth 100000 in
theorem mJ7_checkLength_df160 (hl : l.stackTraces = false) {m : Nat} (hm : m < 16) : ∀ h, CN l yJ7_checkLength_df160 cJ7_checkLength_df160 2 (none) 0 0 0 [.int 0, .int (nI m)] G h (fun v h1 => v = none ∧ h1 = h) := by
  intro h0
  refine CN.of hl (by decide +kernel) rfl (Nat.le_of_ble_eq_true rfl) (fun K sz hKl hin C => ?_)
  have C : CX K G (AH h0 sz) RJ7 cJ7_checkLength_df160 2 (none) (rmD 0 0 0) [] := C
  subst hKl
  show WR K G _ _ _ [some (.int 0), some (.int (nI m))] 0 0 0 []
  refine R_iload_n (pc := 0) C dJ7_checkLength_df160_0 rfl ?_
  refine R_iload_n (pc := 1) C dJ7_checkLength_df160_1 rfl ?_
  refine R_icmp_ge (pc := 2) C dJ7_checkLength_df160_2 (tgt := 37) (by decide) (fun c2 => ?_) (fun c2 => absurd (nI_pos' (by omega)) c2)
  exact R_vret (pc := 37) C dJ7_checkLength_df160_37 rfl (Nat.le_of_ble_eq_true rfl) (Nat.le_of_ble_eq_true rfl) (fun h hh => ⟨rfl, hh.symm⟩)
set_option maxHeartbeats 4000000 in
set_option maxRecDepth 100000 in
theorem mJ7_copyOfRangeByte_39247 (hl : l.stackTraces = false) {m : Nat} (hm : m < 16) (ha : asc t m) : ∀ h, BP G hb s b c t h → CN l yJ7_copyOfRangeByte_39247 cJ7_copyOfRangeByte_39247 5 (some (.array .byte)) 1 1 16 [.ref b, .int 0, .int (nI m)] G h (fun v h1 => ∃ q, v = some (.ref q) ∧ NPf G hb s b (bpF b c) t q m (va_cpy t (fun _ => 0) 0 0 m) h1) := by
  intro h0 hwd
  refine CN.of hl (by decide +kernel) rfl (Nat.le_of_ble_eq_true rfl) (fun K sz hKl hin C => ?_)
  have C : CX K G (AH h0 sz) RJ7 cJ7_copyOfRangeByte_39247 5 (some (.array .byte)) (rmD 1 1 16) [] := C
  subst hKl
  refine WR.imp (P' := BP G hb s b c t) (fun h e => e ▸ hwd) ?_
  show WR K G _ _ _ [some (.ref b), some (.int 0), some (.int (nI m)), none, none] 0 0 0 []
  refine R_iload_n (pc := 0) C dJ7_copyOfRangeByte_39247_0 rfl ?_
  refine R_iload_n (pc := 1) C dJ7_copyOfRangeByte_39247_1 rfl ?_
  refine R_callSN (pc := 2) C dJ7_copyOfRangeByte_39247_2 (vs := [_, _]) (fun h hh => mJ7_checkLength_df160 hl hm h) ⟨k_14_15, k_14_16, k_7_7, k_14_17⟩ (sgn (nv := 2) rfl ⟨by decide +kernel, by decide +kernel, by decide +kernel⟩) ⟨⟨Nat.le_of_ble_eq_true rfl, Nat.le_of_ble_eq_true rfl⟩, ⟨Nat.le_of_ble_eq_true rfl, Nat.le_of_ble_eq_true rfl⟩, Nat.le_of_ble_eq_true rfl⟩ rfl rfl (fun h9 hh9 v9 => ?_)
  refine WR.pr (fun e9 => ?_)
  subst e9
  refine WR.imp (P' := BP G hb s b c t) (fun h1 e1 => e1 ▸ hh9) ?_
  show WR K G _ _ _ _ _ _ _ _
  refine R_iload_n (pc := 5) C dJ7_copyOfRangeByte_39247_5 rfl ?_
  refine R_iload_n (pc := 6) C dJ7_copyOfRangeByte_39247_6 rfl ?_
  refine R_isub (pc := 7) C dJ7_copyOfRangeByte_39247_7 ?_
  rw [Int32.sub_zero]
  refine R_istore_n (pc := 8) C dJ7_copyOfRangeByte_39247_8 (Nat.le_of_ble_eq_true rfl) (lv' := [some (.ref _), some (.int _), some (.int _), some (.int _), none]) rfl ?_
  refine R_iload_n (pc := 9) C dJ7_copyOfRangeByte_39247_9 rfl ?_
  refine R_newarr (pc := 10) C dJ7_copyOfRangeByte_39247_10 (t := 1) (N := m) (a0 := (m, .inl (fun _ => 0))) rfl k_5_4 (fun _ => rfl) (fun _ h => by cases h) (fun _ => rfl) (rfl) (by omega) (by decide) (Nat.le_of_ble_eq_true rfl) (by show 0 + m ≤ 16; omega) (fun h q hh hq => NPf.new hh hq) (fun q => ?_)
  refine WR.wid (Nat.le_refl _) (show 0 + m ≤ 16 by omega) ?_
  refine R_astore (pc := 12) C dJ7_copyOfRangeByte_39247_12 (Nat.le_of_ble_eq_true rfl) (lv' := [some (.ref _), some (.int _), some (.int _), some (.int _), some (.ref _)]) rfl ?_
  refine R_aload_n (pc := 14) C dJ7_copyOfRangeByte_39247_14 rfl ?_
  refine R_iload_n (pc := 15) C dJ7_copyOfRangeByte_39247_15 rfl ?_
  refine R_aload (pc := 16) C dJ7_copyOfRangeByte_39247_16 rfl ?_
  refine R_iconst (pc := 18) C dJ7_copyOfRangeByte_39247_18 (v := 0) (by decide) ?_
  refine R_aload_n (pc := 19) C dJ7_copyOfRangeByte_39247_19 rfl ?_
  refine R_alen (pc := 20) C dJ7_copyOfRangeByte_39247_20 (t := 1) (nb) rfl rfl ?_
  refine R_iload_n (pc := 21) C dJ7_copyOfRangeByte_39247_21 rfl ?_
  refine R_isub (pc := 22) C dJ7_copyOfRangeByte_39247_22 ?_
  refine R_iload_n (pc := 23) C dJ7_copyOfRangeByte_39247_23 rfl ?_
  refine R_mmin (pc := 24) C dJ7_copyOfRangeByte_39247_24 k_7_15 rfl ⟨Nat.le_of_ble_eq_true rfl, Nat.le_of_ble_eq_true rfl⟩ ⟨Nat.le_of_ble_eq_true rfl, Nat.le_of_ble_eq_true rfl⟩ ?_
  rw [mn16 hm]
  refine R_acp (pc := 27) C dJ7_copyOfRangeByte_39247_27 k_7_18 (src_B C nb) (nq) (sp := 0) (dp := 0) (m := m) rfl rfl rfl ⟨by decide, by omega⟩ (by omega) (by omega) (ha.fit) rfl ⟨Nat.le_of_ble_eq_true rfl, Nat.le_of_ble_eq_true rfl⟩ (fun h hh => hh.put) ?_
  refine R_aload (pc := 30) C dJ7_copyOfRangeByte_39247_30 rfl ?_
  exact R_aret (pc := 32) C dJ7_copyOfRangeByte_39247_32 rfl (Or.inr ⟨_, rfl⟩) (Or.inr ⟨_, rfl⟩) (Nat.le_of_ble_eq_true rfl) (Nat.le_of_ble_eq_true rfl) (fun h hh => ⟨_, rfl, hh⟩)
set_option maxHeartbeats 4000000 in
set_option maxRecDepth 100000 in
theorem mJ7_copyOfRange_39247 (hl : l.stackTraces = false) {m : Nat} (hm : m < 16) (ha : asc t m) : ∀ h, BP G hb s b c t h → CN l yJ7_copyOfRange_39247 cJ7_copyOfRange_39247 3 (some (.array .byte)) 2 1 16 [.ref b, .int 0, .int (nI m)] G h (fun v h1 => ∃ q, v = some (.ref q) ∧ NPf G hb s b (bpF b c) t q m (va_cpy t (fun _ => 0) 0 0 m) h1) := by
  intro h0 hwd
  refine CN.of hl (by decide +kernel) rfl (Nat.le_of_ble_eq_true rfl) (fun K sz hKl hin C => ?_)
  have C : CX K G (AH h0 sz) RJ7 cJ7_copyOfRange_39247 3 (some (.array .byte)) (rmD 2 1 16) [] := C
  subst hKl
  refine WR.imp (P' := BP G hb s b c t) (fun h e => e ▸ hwd) ?_
  show WR K G _ _ _ [some (.ref b), some (.int 0), some (.int (nI m))] 0 0 0 []
  refine R_iload_n (pc := 0) C dJ7_copyOfRange_39247_0 rfl ?_
  refine R_if_ne (pc := 1) C dJ7_copyOfRange_39247_1 (tgt := 10) (by decide) (fun c1 => absurd c1 (fun q => q rfl)) (fun c1 => ?_)
  refine R_iload_n (pc := 4) C dJ7_copyOfRange_39247_4 rfl ?_
  refine R_aload_n (pc := 5) C dJ7_copyOfRange_39247_5 rfl ?_
  refine R_alen (pc := 6) C dJ7_copyOfRange_39247_6 (t := 1) (bb) rfl rfl ?_
  refine R_icmp_eq (pc := 7) C dJ7_copyOfRange_39247_7 (tgt := 17) (by decide) (fun c7 => absurd c7 (ne16 hm)) (fun c7 => ?_)
  refine R_aload_n (pc := 10) C dJ7_copyOfRange_39247_10 rfl ?_
  refine R_iload_n (pc := 11) C dJ7_copyOfRange_39247_11 rfl ?_
  refine R_iload_n (pc := 12) C dJ7_copyOfRange_39247_12 rfl ?_
  refine R_callSN (pc := 13) C dJ7_copyOfRange_39247_13 (vs := [_, _, _]) (fun h hh => mJ7_copyOfRangeByte_39247 hl hm ha h hh) ⟨k_14_12, k_14_13, k_7_7, k_14_14⟩ (sgn (nv := 3) rfl ⟨by decide +kernel, by decide +kernel, by decide +kernel⟩) ⟨⟨Nat.le_of_ble_eq_true rfl, Nat.le_of_ble_eq_true rfl⟩, ⟨Nat.le_of_ble_eq_true rfl, Nat.le_of_ble_eq_true rfl⟩, Nat.le_of_ble_eq_true rfl⟩ rfl rfl (fun h9 hh9 v9 => ?_)
  refine WR.ex (fun q => WR.pr (fun e9 => ?_))
  subst e9
  show WR K G _ _ _ _ _ _ _ (.ref _ :: _)
  exact R_aret (pc := 16) C dJ7_copyOfRange_39247_16 rfl (Or.inr ⟨_, rfl⟩) (Or.inr ⟨_, rfl⟩) (Nat.le_of_ble_eq_true rfl) (Nat.le_of_ble_eq_true rfl) (fun h hh => ⟨_, rfl, hh⟩)
set_option maxHeartbeats 4000000 in
set_option maxRecDepth 100000 in
theorem mJ5_getValue_6d5f1 (hl : l.stackTraces = false)   : ∀ h, BP G hb s b c t h → CN l yJ5_getValue_6d5f1 cJ5_getValue_6d5f1 1 (some (.array .byte)) 0 0 0 [.ref s] G h (fun v h1 => v = some (.ref b) ∧ BP G hb s b c t h1) := by
  intro h0 hwd
  refine CN.of hl (by decide +kernel) rfl (Nat.le_of_ble_eq_true rfl) (fun K sz hKl hin C => ?_)
  have C : CX K G (AH h0 sz) RJ5 cJ5_getValue_6d5f1 1 (some (.array .byte)) (rmD 0 0 0) [] := C
  subst hKl
  refine WR.imp (P' := BP G hb s b c t) (fun h e => e ▸ hwd) ?_
  show WR K G _ _ _ [some (.ref s)] 0 0 0 []
  refine R_aload_n (pc := 0) C dJ5_getValue_6d5f1_0 rfl ?_
  refine R_getf (pc := 1) C dJ5_getValue_6d5f1_1 (i := 0) (bo) rfl inlJ4 (by decide) k_5_5 rfl ?_
  exact R_aret (pc := 4) C dJ5_getValue_6d5f1_4 rfl (Or.inr ⟨_, rfl⟩) (Or.inr ⟨_, rfl⟩) (Nat.le_of_ble_eq_true rfl) (Nat.le_of_ble_eq_true rfl) (fun h hh => ⟨rfl, hh⟩)
set_option maxHeartbeats 4000000 in
set_option maxRecDepth 100000 in
theorem mJ5_length_8abf5 (hl : l.stackTraces = false)   : ∀ h, BP G hb s b c t h → CN l yJ5_length_8abf5 cJ5_length_8abf5 1 (some .int) 0 0 0 [.ref s] G h (fun v h1 => v = some (.int (nI c)) ∧ BP G hb s b c t h1) := by
  intro h0 hwd
  refine CN.of hl (by decide +kernel) rfl (Nat.le_of_ble_eq_true rfl) (fun K sz hKl hin C => ?_)
  have C : CX K G (AH h0 sz) RJ5 cJ5_length_8abf5 1 (some .int) (rmD 0 0 0) [] := C
  subst hKl
  refine WR.imp (P' := BP G hb s b c t) (fun h e => e ▸ hwd) ?_
  show WR K G _ _ _ [some (.ref s)] 0 0 0 []
  refine R_aload_n (pc := 0) C dJ5_length_8abf5_0 rfl ?_
  refine R_getf (pc := 1) C dJ5_length_8abf5_1 (i := 3) (bo) rfl inlJ4 (by decide) k_6_0 rfl ?_
  exact R_iret (pc := 4) C dJ5_length_8abf5_4 rfl (Nat.le_of_ble_eq_true rfl) (Nat.le_of_ble_eq_true rfl) (fun h hh => ⟨rfl, hh⟩)
set_option maxHeartbeats 4000000 in
set_option maxRecDepth 100000 in
theorem mJ4_length_8abf5 (hl : l.stackTraces = false)   : ∀ h, BP G hb s b c t h → CN l yJ4_length_8abf5 cJ4_length_8abf5 1 (some .int) 1 0 0 [.ref s] G h (fun v h1 => v = some (.int (nI c)) ∧ BP G hb s b c t h1) := by
  intro h0 hwd
  refine CN.of hl (by decide +kernel) rfl (Nat.le_of_ble_eq_true rfl) (fun K sz hKl hin C => ?_)
  have C : CX K G (AH h0 sz) RJ4 cJ4_length_8abf5 1 (some .int) (rmD 1 0 0) [] := C
  subst hKl
  refine WR.imp (P' := BP G hb s b c t) (fun h e => e ▸ hwd) ?_
  show WR K G _ _ _ [some (.ref s)] 0 0 0 []
  refine R_aload_n (pc := 0) C dJ4_length_8abf5_0 rfl ?_
  refine R_callSU (pc := 1) C dJ4_length_8abf5_1 (vs := []) (fun h hh => mJ5_length_8abf5 hl h hh) (bo) rfl ⟨k_14_5, k_14_0, k_5_21, k_14_6, k_5_0, k_14_7⟩ (sgs (nv := 0) rfl ⟨by decide, by decide +kernel⟩) ⟨⟨Nat.le_of_ble_eq_true rfl, Nat.le_of_ble_eq_true rfl⟩, ⟨Nat.le_of_ble_eq_true rfl, Nat.le_of_ble_eq_true rfl⟩, Nat.le_of_ble_eq_true rfl⟩ rfl rfl (fun h9 hh9 v9 => ?_)
  refine WR.pr (fun e9 => ?_)
  subst e9
  show WR K G _ _ _ _ _ _ _ (.int _ :: _)
  exact R_iret (pc := 4) C dJ4_length_8abf5_4 rfl (Nat.le_of_ble_eq_true rfl) (Nat.le_of_ble_eq_true rfl) (fun h hh => ⟨rfl, hh⟩)
set_option maxHeartbeats 4000000 in
set_option maxRecDepth 100000 in
theorem mJ0_init_db425 (hl : l.stackTraces = false) {r : Nat} (hr : hb r = some (ob 0 [.null, .int 0, .int 0, .int 0])) (hc : c < 16) (ha : asc t c) : ∀ h, BP G hb s b c t h → CN l yJ0_init_db425 cJ0_init_db425 5 (none) 3 1 16 [.ref r, .ref s, .null] G h (fun v h1 => v = none ∧ ∃ q, NPf G (hu hb r (ob 0 [.ref q, .int 0, .int 0, .int 0])) s b (bpF b c) t q c (va_cpy t (fun _ => 0) 0 0 c) h1) := by
  intro h0 hwd
  refine CN.of hl (by decide +kernel) rfl (Nat.le_of_ble_eq_true rfl) (fun K sz hKl hin C => ?_)
  have C : CX K G (AH h0 sz) RJ0 cJ0_init_db425 5 (none) (rmD 3 1 16) [] := C
  subst hKl
  refine WR.imp (P' := BP G hb s b c t) (fun h e => e ▸ hwd) ?_
  show WR K G _ _ _ [some (.ref r), some (.ref s), some (.null), none, none] 0 0 0 []
  refine R_aload_n (pc := 0) C dJ0_init_db425_0 rfl ?_
  refine R_objInit (pc := 1) C dJ0_init_db425_1 k_13_16 rfl ⟨Nat.le_of_ble_eq_true rfl, Nat.le_of_ble_eq_true rfl⟩ ?_
  refine R_aload_n (pc := 4) C dJ0_init_db425_4 rfl ?_
  refine R_callVU (pc := 5) C dJ0_init_db425_5 (vs := []) (fun h hh => mJ5_getValue_6d5f1 hl h hh) (isOb_of (bo) rfl) ⟨k_13_18, k_13_19, k_13_20, k_13_21, k_5_0, k_13_22⟩ ⟨k_13_21, k_13_22⟩ (sgn (nv := 0) rfl ⟨by decide +kernel, by decide +kernel, by decide +kernel⟩) ⟨⟨Nat.le_of_ble_eq_true rfl, Nat.le_of_ble_eq_true rfl⟩, ⟨Nat.le_of_ble_eq_true rfl, Nat.le_of_ble_eq_true rfl⟩, Nat.le_of_ble_eq_true rfl⟩ rfl rfl (fun h9 hh9 v9 => ?_)
  refine WR.pr (fun e9 => ?_)
  subst e9
  show WR K G _ _ _ _ _ _ _ (.ref _ :: _)
  refine R_astore_n (pc := 8) C dJ0_init_db425_8 (Nat.le_of_ble_eq_true rfl) (lv' := [some (.ref _), some (.ref _), some .null, some (.ref _), none]) rfl ?_
  refine R_aload_n (pc := 9) C dJ0_init_db425_9 rfl ?_
  refine R_callVU (pc := 10) C dJ0_init_db425_10 (vs := []) (fun h hh => mJ4_length_8abf5 hl h hh) (isOb_of (bo) rfl) ⟨k_13_23, k_14_0, k_14_2, k_14_3, k_4_18, k_14_4⟩ ⟨k_14_1, k_14_7⟩ (sgn (nv := 0) rfl ⟨by decide +kernel, by decide +kernel, by decide +kernel⟩) ⟨⟨Nat.le_of_ble_eq_true rfl, Nat.le_of_ble_eq_true rfl⟩, ⟨Nat.le_of_ble_eq_true rfl, Nat.le_of_ble_eq_true rfl⟩, Nat.le_of_ble_eq_true rfl⟩ rfl rfl (fun h9 hh9 v9 => ?_)
  refine WR.pr (fun e9 => ?_)
  subst e9
  show WR K G _ _ _ _ _ _ _ (.int _ :: _)
  refine R_istore (pc := 13) C dJ0_init_db425_13 (Nat.le_of_ble_eq_true rfl) (lv' := [some (.ref _), some (.ref _), some .null, some (.ref _), some (.int _)]) rfl ?_
  refine R_aload_n (pc := 15) C dJ0_init_db425_15 rfl ?_
  refine R_callVU (pc := 16) C dJ0_init_db425_16 (vs := []) (fun h hh => mJ5_isLatin1_aae02 hl h hh) (isOb_of (bo) rfl) ⟨k_14_8, k_7_23, k_8_0, k_8_1, k_5_0, k_8_2⟩ ⟨k_8_1, k_8_2⟩ (sgn (nv := 0) rfl ⟨by decide +kernel, by decide +kernel, by decide +kernel⟩) ⟨⟨Nat.le_of_ble_eq_true rfl, Nat.le_of_ble_eq_true rfl⟩, ⟨Nat.le_of_ble_eq_true rfl, Nat.le_of_ble_eq_true rfl⟩, Nat.le_of_ble_eq_true rfl⟩ rfl rfl (fun h9 hh9 v9 => ?_)
  refine WR.pr (fun e9 => ?_)
  subst e9
  show WR K G _ _ _ _ _ _ _ (.int _ :: _)
  refine R_if_eq (pc := 19) C dJ0_init_db425_19 (tgt := 41) (by decide) (fun c19 => absurd c19 (by decide)) (fun c19 => ?_)
  refine R_aload_n (pc := 22) C dJ0_init_db425_22 rfl ?_
  refine R_iconst (pc := 23) C dJ0_init_db425_23 (v := 0) (by decide) ?_
  refine R_putF (pc := 24) C dJ0_init_db425_24 (i := 1) (bx hr) rfl inlJ0 tyJ0_ok nmJ0 (by decide) k_9_13 rfl hin rfl rfl rfl (Nat.le_of_ble_eq_true rfl) (fun h hh => hh.up (hh.of hr)) ?_
  show WR K G _ _ (BP G (hu hb r (ob 0 [.null, .int 0, .int 0, .int 0])) s b c t) _ _ _ _ _
  refine R_aload_n (pc := 27) C dJ0_init_db425_27 rfl ?_
  refine R_aload_n (pc := 28) C dJ0_init_db425_28 rfl ?_
  refine R_iconst (pc := 29) C dJ0_init_db425_29 (v := 0) (by decide) ?_
  refine R_iload (pc := 30) C dJ0_init_db425_30 rfl ?_
  refine R_callSN (pc := 32) C dJ0_init_db425_32 (vs := [_, _, _]) (fun h hh => mJ7_copyOfRange_39247 hl hc ha h hh) ⟨k_14_9, k_14_10, k_7_7, k_14_11⟩ (sgn (nv := 3) rfl ⟨by decide +kernel, by decide +kernel, by decide +kernel⟩) ⟨⟨Nat.le_of_ble_eq_true rfl, Nat.le_of_ble_eq_true rfl⟩, ⟨Nat.le_of_ble_eq_true rfl, Nat.le_of_ble_eq_true rfl⟩, Nat.le_of_ble_eq_true rfl⟩ rfl rfl (fun h9 hh9 v9 => ?_)
  refine WR.ex (fun q => WR.pr (fun e9 => ?_))
  subst e9
  show WR K G _ _ _ _ _ _ _ (.ref _ :: _)
  refine R_putF (pc := 35) C dJ0_init_db425_35 (i := 0) (nx hu_s) rfl inlJ0 tyJ0_ok nmJ0 (by decide) k_9_7 rfl hin rfl rfl rfl (Nat.le_of_ble_eq_true rfl) (fun h hh => hh.up hu_s) ?_
  refine R_goto (pc := 38) C dJ0_init_db425_38 (tgt := 97) (by decide) ?_
  exact R_vret (pc := 97) C dJ0_init_db425_97 rfl (Nat.le_of_ble_eq_true rfl) (Nat.le_of_ble_eq_true rfl) (fun h hh => ⟨rfl, q, by rw [hu_hu] at hh; exact hh⟩)
set_option maxHeartbeats 4000000 in
set_option maxRecDepth 100000 in
theorem mJ0_init_81219 (hl : l.stackTraces = false) {r : Nat} (hr : hb r = some (ob 0 [.null, .int 0, .int 0, .int 0])) (hc : c < 16) (ha : asc t c) : ∀ h, BP G hb s b c t h → CN l yJ0_init_81219 cJ0_init_81219 2 (none) 4 1 16 [.ref r, .ref s] G h (fun v h1 => v = none ∧ ∃ q, NPf G (hu hb r (ob 0 [.ref q, .int 0, .int 0, .int 0])) s b (bpF b c) t q c (va_cpy t (fun _ => 0) 0 0 c) h1) := by
  intro h0 hwd
  refine CN.of hl (by decide +kernel) rfl (Nat.le_of_ble_eq_true rfl) (fun K sz hKl hin C => ?_)
  have C : CX K G (AH h0 sz) RJ0 cJ0_init_81219 2 (none) (rmD 4 1 16) [] := C
  subst hKl
  refine WR.imp (P' := BP G hb s b c t) (fun h e => e ▸ hwd) ?_
  show WR K G _ _ _ [some (.ref r), some (.ref s)] 0 0 0 []
  refine R_aload_n (pc := 0) C dJ0_init_81219_0 rfl ?_
  refine R_aload_n (pc := 1) C dJ0_init_81219_1 rfl ?_
  refine R_null (pc := 2) C dJ0_init_81219_2 ?_
  refine R_callI (pc := 3) C dJ0_init_81219_3 (vs := [_, _]) (fun h hh => mJ0_init_db425 hl hr hc ha h hh) rfl ⟨k_13_13, k_13_14, k_8_15, k_13_15⟩ (sgn (nv := 2) rfl ⟨by decide +kernel, by decide +kernel, by decide +kernel⟩) ⟨⟨Nat.le_of_ble_eq_true rfl, Nat.le_of_ble_eq_true rfl⟩, ⟨Nat.le_of_ble_eq_true rfl, Nat.le_of_ble_eq_true rfl⟩, Nat.le_of_ble_eq_true rfl⟩ rfl rfl (fun h9 hh9 v9 => ?_)
  refine WR.pr (fun e9 => ?_)
  subst e9
  show WR K G _ _ _ _ _ _ _ _
  exact R_vret (pc := 6) C dJ0_init_81219_6 rfl (Nat.le_of_ble_eq_true rfl) (Nat.le_of_ble_eq_true rfl) (fun h hh => ⟨rfl, hh⟩)
set_option maxHeartbeats 4000000 in
set_option maxRecDepth 100000 in
theorem mJ4_toString_0e30d (hl : l.stackTraces = false)  (hc : c < 16) (ha : asc t c) : ∀ h, BP G hb s b c t h → CN l yJ4_toString_0e30d cJ4_toString_0e30d 1 (some (.object "java/lang/String")) 5 2 20 [.ref s] G h (fun v h1 => ∃ r q, v = some (.ref r) ∧ TS G hb r q c (va_cpy t (fun _ => 0) 0 0 c) h1) := by
  intro h0 hwd
  refine CN.of hl (by decide +kernel) rfl (Nat.le_of_ble_eq_true rfl) (fun K sz hKl hin C => ?_)
  have C : CX K G (AH h0 sz) RJ4 cJ4_toString_0e30d 1 (some (.object "java/lang/String")) (rmD 5 2 20) [] := C
  subst hKl
  refine WR.imp (P' := BP G hb s b c t) (fun h e => e ▸ hwd) ?_
  show WR K G _ _ _ [some (.ref s)] 0 0 0 []
  refine R_new (pc := 0) C dJ4_toString_0e30d_0 (P' := fun r h => hb r = none ∧ BP G (hu hb r (ob 0 [.null, .int 0, .int 0, .int 0])) s b c t h) (fs := [.null, .int 0, .int 0, .int 0]) (N := 4) rfl inlJ0 tyJ0_ok k_13_8 k_13_9 k_8_15 dfJ0 (Nat.le_of_ble_eq_true rfl) (Nat.le_of_ble_eq_true rfl) (fun h r hh hr => ⟨(hh.ne hr).2.2, hh.up ⟨(hh.ne hr).1, (hh.ne hr).2.1⟩⟩) (fun r => ?_)
  refine WR.pr (fun hr => ?_)
  refine R_dup (pc := 3) C dJ4_toString_0e30d_3 rfl ?_
  refine R_aload_n (pc := 4) C dJ4_toString_0e30d_4 rfl ?_
  refine R_callI (pc := 5) C dJ4_toString_0e30d_5 (vs := [_]) (fun h hh => mJ0_init_81219 hl hu_s hc ha h hh) rfl ⟨k_13_10, k_13_11, k_8_15, k_13_12⟩ (sgn (nv := 1) rfl ⟨by decide +kernel, by decide +kernel, by decide +kernel⟩) ⟨⟨Nat.le_of_ble_eq_true rfl, Nat.le_of_ble_eq_true rfl⟩, ⟨Nat.le_of_ble_eq_true rfl, Nat.le_of_ble_eq_true rfl⟩, Nat.le_of_ble_eq_true rfl⟩ rfl rfl (fun h9 hh9 v9 => ?_)
  refine WR.pr (fun e9 => ?_)
  subst e9
  refine WR.ex (fun q => ?_)
  rw [hu_hu]
  show WR K G _ _ _ _ _ _ _ (.ref _ :: _)
  exact R_aret (pc := 8) C dJ4_toString_0e30d_8 rfl (Or.inl ⟨_, rfl⟩) (Or.inr ⟨_, rfl⟩) (Nat.le_of_ble_eq_true rfl) (Nat.le_of_ble_eq_true rfl) (fun h hh => ⟨r, q, rfl, hh.ts hr⟩)
end
