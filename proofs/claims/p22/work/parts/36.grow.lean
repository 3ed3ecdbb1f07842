/-! 36: the list grows. Written by wip/p22/gen/m36.py -/
/-- a list la with its elements ea; all else as in hb -/
def LSt (G : GT) (hb : Hp) (la ea : Nat) (fs : List Value) (f : Nat → Option Nat) (h : Hp) : Prop := h la = some (ob 2 fs) ∧ h ea = some (aO G 10 f) ∧ la ≠ ea ∧ ∀ x, x ≠ la → x ≠ ea → h x = hb x
theorem LSt.setL {G : GT} {hb h : Hp} {la ea : Nat} {fs fs' : List Value} {f : Nat → Option Nat} (H : LSt G hb la ea fs f h) : LSt G hb la ea fs' f (hu h la (ob 2 fs')) := ⟨hu_s, (hu_n (Ne.symm H.2.2.1)).trans H.2.1, H.2.2.1, fun x h1 h2 => (hu_n h1).trans (H.2.2.2 x h1 h2)⟩
theorem LSt.setE {G : GT} {hb h : Hp} {la ea : Nat} {fs : List Value} {f f' : Nat → Option Nat} (H : LSt G hb la ea fs f h) : LSt G hb la ea fs f' (hu h ea (aO G 10 f')) := ⟨(hu_n H.2.2.1).trans H.1, hu_s, H.2.2.1, fun x h1 h2 => (hu_n h2).trans (H.2.2.2 x h1 h2)⟩
theorem l1 {G : GT} {hb : Hp} {la ea : Nat} {fs : List Value} {f : Nat → Option Nat} : ∀ h, LSt G hb la ea fs f h → h la = some (ob 2 fs) := fun _ H => H.1
theorem l2 {G : GT} {hb : Hp} {la ea : Nat} {fs : List Value} {f : Nat → Option Nat} : ∀ h, LSt G hb la ea fs f h → h ea = some (aO G 10 f) := fun _ H => H.2.1
theorem lxw {G : GT} {hb : Hp} {la ea w : Nat} {fs : List Value} {f : Nat → Option Nat} {e : va_E} (hw : hb w = some e) (h1 : w ≠ la) (h2 : w ≠ ea) : ∀ h, LSt G hb la ea fs f h → h w = some e := fun _ H => (H.2.2.2 w h1 h2).trans hw
/-- a list without elements of its own -/
def LZt (hb : Hp) (la : Nat) (fs : List Value) (h : Hp) : Prop := h la = some (ob 2 fs) ∧ ∀ x, x ≠ la → h x = hb x
theorem LZt.set {hb h : Hp} {la : Nat} {fs fs' : List Value} (H : LZt hb la fs h) : LZt hb la fs' (hu h la (ob 2 fs')) := ⟨hu_s, fun x h1 => (hu_n h1).trans (H.2 x h1)⟩
theorem lz1 {hb : Hp} {la : Nat} {fs : List Value} : ∀ h, LZt hb la fs h → h la = some (ob 2 fs) := fun _ H => H.1
theorem LZt.new {G : GT} {hb h : Hp} {la ea : Nat} {fs : List Value} {f : Nat → Option Nat} (H : LZt hb la fs h) (he : h ea = none) : hb ea = none ∧ LSt G hb la ea fs f (hu h ea (aO G 10 f)) := by
  have e1 : ea ≠ la := fun z => by rw [z, H.1] at he; cases he
  exact ⟨(H.2 ea e1).symm.trans he, (hu_n (Ne.symm e1)).trans H.1, hu_s, Ne.symm e1, fun x h1 h2 => (hu_n h2).trans (H.2 x h1)⟩
theorem ne10 {n : Nat} (h : n < 10) : ¬ nI n = Int32.ofNat 10 := (by decide +kernel : ∀ n, n < 10 → ¬ nI n = Int32.ofNat 10) n h
section
variable {l : Launch} {G : GT} {hb : Hp} {la ea w n : Nat} {f : Nat → Option Nat} {ws : List Value} {x : Int32}
set_option maxHeartbeats 4000000 in
set_option maxRecDepth 100000 in
theorem mJxa1e45_init_da8c8 (hl : l.stackTraces = false)   : ∀ h, BN hb la 2 [.int 0, .null, .int 0] h → CN l yJxa1e45_init_da8c8 cJxa1e45_init_da8c8 1 (none) 0 0 0 [.ref la] G h (fun v h1 => v = none ∧ BN hb la 2 [.int 0, .null, .int 0] h1) := by
  intro h0 hwd
  refine CN.of hl (by decide +kernel) rfl (Nat.le_of_ble_eq_true rfl) (fun K sz hKl hin C => ?_)
  have C : CX K G (AH h0 sz) RJxa1e45 cJxa1e45_init_da8c8 1 (none) (rmD 0 0 0) [] := C
  subst hKl
  refine WR.imp (P' := BN hb la 2 [.int 0, .null, .int 0]) (fun h e => e ▸ hwd) ?_
  show WR K G _ _ _ [some (.ref la)] 0 0 0 []
  refine R_aload_n (pc := 0) C dJxa1e45_init_da8c8_0 rfl ?_
  refine R_objInit (pc := 1) C dJxa1e45_init_da8c8_1 k_2_9 rfl ⟨Nat.le_of_ble_eq_true rfl, Nat.le_of_ble_eq_true rfl⟩ ?_
  exact R_vret (pc := 4) C dJxa1e45_init_da8c8_4 rfl (Nat.le_of_ble_eq_true rfl) (Nat.le_of_ble_eq_true rfl) (fun h hh => ⟨rfl, hh⟩)
set_option maxHeartbeats 4000000 in
set_option maxRecDepth 100000 in
theorem mJxc12de_init_da8c8 (hl : l.stackTraces = false)   : ∀ h, BN hb la 2 [.int 0, .null, .int 0] h → CN l yJxc12de_init_da8c8 cJxc12de_init_da8c8 1 (none) 1 0 0 [.ref la] G h (fun v h1 => v = none ∧ BN hb la 2 [.int 0, .null, .int 0] h1) := by
  intro h0 hwd
  refine CN.of hl (by decide +kernel) rfl (Nat.le_of_ble_eq_true rfl) (fun K sz hKl hin C => ?_)
  have C : CX K G (AH h0 sz) RJxc12de cJxc12de_init_da8c8 1 (none) (rmD 1 0 0) [] := C
  subst hKl
  refine WR.imp (P' := BN hb la 2 [.int 0, .null, .int 0]) (fun h e => e ▸ hwd) ?_
  show WR K G _ _ _ [some (.ref la)] 0 0 0 []
  refine R_aload_n (pc := 0) C dJxc12de_init_da8c8_0 rfl ?_
  refine R_callI (pc := 1) C dJxc12de_init_da8c8_1 (vs := []) (fun h hh => mJxa1e45_init_da8c8 hl h hh) rfl ⟨k_2_5, k_2_6, k_2_7, k_2_8⟩ (sgn (nv := 0) rfl ⟨by decide +kernel, by decide +kernel, by decide +kernel⟩) ⟨⟨Nat.le_of_ble_eq_true rfl, Nat.le_of_ble_eq_true rfl⟩, ⟨Nat.le_of_ble_eq_true rfl, Nat.le_of_ble_eq_true rfl⟩, Nat.le_of_ble_eq_true rfl⟩ rfl rfl (fun h9 hh9 v9 => ?_)
  refine WR.pr (fun e9 => ?_)
  subst e9
  show WR K G _ _ _ _ _ _ _ _
  refine R_aload_n (pc := 4) C dJxc12de_init_da8c8_4 rfl ?_
  refine R_iconst (pc := 5) C dJxc12de_init_da8c8_5 (v := 0) (by decide) ?_
  refine R_putf (pc := 6) C dJxc12de_init_da8c8_6 (i := 0) (bn) rfl inlJx4a65c tyJx4a65c_ok nmJx4a65c (by decide) k_2_4 rfl rfl rfl (Nat.le_of_ble_eq_true rfl) (fun h hh => hh.set) ?_
  exact R_vret (pc := 9) C dJxc12de_init_da8c8_9 rfl (Nat.le_of_ble_eq_true rfl) (Nat.le_of_ble_eq_true rfl) (fun h hh => ⟨rfl, hh⟩)
set_option maxHeartbeats 4000000 in
set_option maxRecDepth 100000 in
theorem mJx4a65c_init_da8c8 (hl : l.stackTraces = false)   : ∀ h, BN hb la 2 [.int 0, .null, .int 0] h → CN l yJx4a65c_init_da8c8 cJx4a65c_init_da8c8 1 (none) 2 0 0 [.ref la] G h (fun v h1 => v = none ∧ BN hb la 2 [.int 0, .ref (G.2.2 0), .int 0] h1) := by
  intro h0 hwd
  refine CN.of hl (by decide +kernel) rfl (Nat.le_of_ble_eq_true rfl) (fun K sz hKl hin C => ?_)
  have C : CX K G (AH h0 sz) RJx4a65c cJx4a65c_init_da8c8 1 (none) (rmD 2 0 0) [] := C
  subst hKl
  refine WR.imp (P' := BN hb la 2 [.int 0, .null, .int 0]) (fun h e => e ▸ hwd) ?_
  show WR K G _ _ _ [some (.ref la)] 0 0 0 []
  refine R_aload_n (pc := 0) C dJx4a65c_init_da8c8_0 rfl ?_
  refine R_callI (pc := 1) C dJx4a65c_init_da8c8_1 (vs := []) (fun h hh => mJxc12de_init_da8c8 hl h hh) rfl ⟨k_2_0, k_2_1, k_2_2, k_2_3⟩ (sgn (nv := 0) rfl ⟨by decide +kernel, by decide +kernel, by decide +kernel⟩) ⟨⟨Nat.le_of_ble_eq_true rfl, Nat.le_of_ble_eq_true rfl⟩, ⟨Nat.le_of_ble_eq_true rfl, Nat.le_of_ble_eq_true rfl⟩, Nat.le_of_ble_eq_true rfl⟩ rfl rfl (fun h9 hh9 v9 => ?_)
  refine WR.pr (fun e9 => ?_)
  subst e9
  show WR K G _ _ _ _ _ _ _ _
  refine R_aload_n (pc := 4) C dJx4a65c_init_da8c8_4 rfl ?_
  refine R_gets (pc := 5) C dJx4a65c_init_da8c8_5 (C.st.1.1) k_1_22 ?_
  refine R_putf (pc := 8) C dJx4a65c_init_da8c8_8 (i := 1) (bn) rfl inlJx4a65c tyJx4a65c_ok nmJx4a65c (by decide) k_1_23 rfl rfl rfl (Nat.le_of_ble_eq_true rfl) (fun h hh => hh.set) ?_
  exact R_vret (pc := 11) C dJx4a65c_init_da8c8_11 rfl (Nat.le_of_ble_eq_true rfl) (Nat.le_of_ble_eq_true rfl) (fun h hh => ⟨rfl, hh⟩)
set_option maxHeartbeats 4000000 in
set_option maxRecDepth 100000 in
theorem mLaS (hl : l.stackTraces = false)  (hn : n < 10) (hw : hb w = some (ob 3 ws)) (h1 : w ≠ la) (h2 : w ≠ ea) : ∀ h, LSt G hb la ea [.int x, .ref ea, .int (nI n)] f h → CN l yJx4a65c_add_72be8 cJx4a65c_add_72be8 4 (none) 1 0 0 [.ref la, .ref w, .ref ea, .int (nI n)] G h (fun v h1 => v = none ∧ LSt G hb la ea [.int x, .ref ea, .int (nI (n + 1))] (va_up f n (some w)) h1) := by
  intro h0 hwd
  refine CN.of hl (by decide +kernel) rfl (Nat.le_of_ble_eq_true rfl) (fun K sz hKl hin C => ?_)
  have C : CX K G (AH h0 sz) RJx4a65c cJx4a65c_add_72be8 4 (none) (rmD 1 0 0) [] := C
  subst hKl
  refine WR.imp (P' := LSt G hb la ea [.int x, .ref ea, .int (nI n)] f) (fun h e => e ▸ hwd) ?_
  show WR K G _ _ _ [some (.ref la), some (.ref w), some (.ref ea), some (.int (nI n))] 0 0 0 []
  refine R_iload_n (pc := 0) C dJx4a65c_add_72be8_0 rfl ?_
  refine R_aload_n (pc := 1) C dJx4a65c_add_72be8_1 rfl ?_
  refine R_alen (pc := 2) C dJx4a65c_add_72be8_2 (t := 4) (l2) rfl rfl ?_
  refine R_icmp_ne (pc := 3) C dJx4a65c_add_72be8_3 (tgt := 11) (by decide) (fun _ => ?_) (fun c => absurd c (ne10 hn))
  refine R_aload_n (pc := 11) C dJx4a65c_add_72be8_11 rfl ?_
  refine R_iload_n (pc := 12) C dJx4a65c_add_72be8_12 rfl ?_
  refine R_aload_n (pc := 13) C dJx4a65c_add_72be8_13 rfl ?_
  refine R_aast (pc := 14) C dJx4a65c_add_72be8_14 (l2) (lxw hw h1 h2) rfl (C.st.2.2.2.2.2.2.2.1.2.2.2.2.2.2.1) rfl (by omega) (by decide) (fun h hh => hh.setE) ?_
  refine R_aload_n (pc := 15) C dJx4a65c_add_72be8_15 rfl ?_
  refine R_iload_n (pc := 16) C dJx4a65c_add_72be8_16 rfl ?_
  refine R_iconst (pc := 17) C dJx4a65c_add_72be8_17 (v := 1) (by decide) ?_
  refine R_iadd (pc := 18) C dJx4a65c_add_72be8_18 ?_
  rw [nI_1]
  refine R_putf (pc := 19) C dJx4a65c_add_72be8_19 (i := 2) (l1) rfl inlJx4a65c tyJx4a65c_ok nmJx4a65c (by decide) k_3_22 rfl rfl rfl (Nat.le_of_ble_eq_true rfl) (fun h hh => hh.setL) ?_
  exact R_vret (pc := 22) C dJx4a65c_add_72be8_22 rfl (Nat.le_of_ble_eq_true rfl) (Nat.le_of_ble_eq_true rfl) (fun h hh => ⟨rfl, hh⟩)
set_option maxHeartbeats 4000000 in
set_option maxRecDepth 100000 in
theorem mLadS (hl : l.stackTraces = false)  (hn : n < 10) (hw : hb w = some (ob 3 ws)) (h1 : w ≠ la) (h2 : w ≠ ea) : ∀ h, LSt G hb la ea [.int (nI n), .ref ea, .int (nI n)] f h → CN l yJx4a65c_add_9ea2d cJx4a65c_add_9ea2d 2 (some .boolean) 2 0 0 [.ref la, .ref w] G h (fun v h1 => v = some (.int 1) ∧ LSt G hb la ea [.int (nI (n + 1)), .ref ea, .int (nI (n + 1))] (va_up f n (some w)) h1) := by
  intro h0 hwd
  refine CN.of hl (by decide +kernel) rfl (Nat.le_of_ble_eq_true rfl) (fun K sz hKl hin C => ?_)
  have C : CX K G (AH h0 sz) RJx4a65c cJx4a65c_add_9ea2d 2 (some .boolean) (rmD 2 0 0) [] := C
  subst hKl
  refine WR.imp (P' := LSt G hb la ea [.int (nI n), .ref ea, .int (nI n)] f) (fun h e => e ▸ hwd) ?_
  show WR K G _ _ _ [some (.ref la), some (.ref w)] 0 0 0 []
  refine R_aload_n (pc := 0) C dJx4a65c_add_9ea2d_0 rfl ?_
  refine R_dup (pc := 1) C dJx4a65c_add_9ea2d_1 rfl ?_
  refine R_getfS (pc := 2) C dJx4a65c_add_9ea2d_2 (i := 0) (l1) rfl inlJx4a65c (by decide) k_15_11 k_15_12 rfl ?_
  refine R_iconst (pc := 5) C dJx4a65c_add_9ea2d_5 (v := 1) (by decide) ?_
  refine R_iadd (pc := 6) C dJx4a65c_add_9ea2d_6 ?_
  rw [nI_1]
  refine R_putfS (pc := 7) C dJx4a65c_add_9ea2d_7 (i := 0) (l1) rfl inlJx4a65c tyJx4a65c_ok nmJx4a65c (by decide) k_15_11 k_15_12 rfl rfl rfl (Nat.le_of_ble_eq_true rfl) (fun h hh => hh.setL) ?_
  refine R_aload_n (pc := 10) C dJx4a65c_add_9ea2d_10 rfl ?_
  refine R_aload_n (pc := 11) C dJx4a65c_add_9ea2d_11 rfl ?_
  refine R_aload_n (pc := 12) C dJx4a65c_add_9ea2d_12 rfl ?_
  refine R_getf (pc := 13) C dJx4a65c_add_9ea2d_13 (i := 1) (l1) rfl inlJx4a65c (by decide) k_1_23 rfl ?_
  refine R_aload_n (pc := 16) C dJx4a65c_add_9ea2d_16 rfl ?_
  refine R_getf (pc := 17) C dJx4a65c_add_9ea2d_17 (i := 2) (l1) rfl inlJx4a65c (by decide) k_3_22 rfl ?_
  refine R_callVN (pc := 20) C dJx4a65c_add_9ea2d_20 (vs := [_, _, _]) (fun h hh => mLaS hl hn hw h1 h2 h hh) (isOb_of (l1) rfl) ⟨k_15_13, k_15_14, k_15_15, k_1_12, k_15_16⟩ (sgn (nv := 3) rfl ⟨by decide +kernel, by decide +kernel, by decide +kernel⟩) ⟨⟨Nat.le_of_ble_eq_true rfl, Nat.le_of_ble_eq_true rfl⟩, ⟨Nat.le_of_ble_eq_true rfl, Nat.le_of_ble_eq_true rfl⟩, Nat.le_of_ble_eq_true rfl⟩ rfl rfl (fun h9 hh9 v9 => ?_)
  refine WR.pr (fun e9 => ?_)
  subst e9
  show WR K G _ _ _ _ _ _ _ _
  refine R_iconst (pc := 23) C dJx4a65c_add_9ea2d_23 (v := 1) (by decide) ?_
  exact R_zret (pc := 24) C dJx4a65c_add_9ea2d_24 rfl rfl (Nat.le_of_ble_eq_true rfl) (Nat.le_of_ble_eq_true rfl) (fun h hh => ⟨rfl, hh⟩)
set_option maxHeartbeats 4000000 in
set_option maxRecDepth 100000 in
theorem mJx4a65c_grow_92f84 (hl : l.stackTraces = false)   : ∀ h, LZt hb la [.int x, .ref (G.2.2 0), .int (nI 0)] h → CN l yJx4a65c_grow_92f84 cJx4a65c_grow_92f84 4 (some (.array (.object "java/lang/Object"))) 1 1 10 [.ref la, .int (nI 1)] G h (fun v h1 => ∃ ea, (v = some (.ref ea) ∧ hb ea = none) ∧ LSt G hb la ea [.int x, .ref ea, .int (nI 0)] (fun _ => none) h1) := by
  intro h0 hwd
  refine CN.of hl (by decide +kernel) rfl (Nat.le_of_ble_eq_true rfl) (fun K sz hKl hin C => ?_)
  have C : CX K G (AH h0 sz) RJx4a65c cJx4a65c_grow_92f84 4 (some (.array (.object "java/lang/Object"))) (rmD 1 1 10) [] := C
  subst hKl
  refine WR.imp (P' := LZt hb la [.int x, .ref (G.2.2 0), .int (nI 0)]) (fun h e => e ▸ hwd) ?_
  show WR K G _ _ _ [some (.ref la), some (.int (nI 1)), none, none] 0 0 0 []
  refine R_aload_n (pc := 0) C dJx4a65c_grow_92f84_0 rfl ?_
  refine R_getf (pc := 1) C dJx4a65c_grow_92f84_1 (i := 1) (lz1) rfl inlJx4a65c (by decide) k_1_23 rfl ?_
  refine R_tlen (pc := 4) C dJx4a65c_grow_92f84_4 C.st.1.2 (v := 0) rfl ?_
  refine R_istore_n (pc := 5) C dJx4a65c_grow_92f84_5 (Nat.le_of_ble_eq_true rfl) (lv' := [some (.ref _), some (.int _), some (.int _), none]) rfl ?_
  refine R_iload_n (pc := 6) C dJx4a65c_grow_92f84_6 rfl ?_
  refine R_if_gt (pc := 7) C dJx4a65c_grow_92f84_7 (tgt := 20) (by decide) (fun c7 => absurd c7 (by decide)) (fun c7 => ?_)
  refine R_aload_n (pc := 10) C dJx4a65c_grow_92f84_10 rfl ?_
  refine R_getf (pc := 11) C dJx4a65c_grow_92f84_11 (i := 1) (lz1) rfl inlJx4a65c (by decide) k_1_23 rfl ?_
  refine R_gets (pc := 14) C dJx4a65c_grow_92f84_14 (C.st.1.1) k_1_22 ?_
  refine R_acmp_eq (pc := 17) (rx := some (G.2.2 0)) (ry := some (G.2.2 0)) C dJx4a65c_grow_92f84_17 (tgt := 45) (by decide) (fun _ => ?_) (fun c => absurd rfl c)
  refine R_aload_n (pc := 45) C dJx4a65c_grow_92f84_45 rfl ?_
  refine R_bipush (pc := 46) C dJx4a65c_grow_92f84_46 (v := 10) (by decide) ?_
  refine R_iload_n (pc := 48) C dJx4a65c_grow_92f84_48 rfl ?_
  refine R_mmax (pc := 49) C dJx4a65c_grow_92f84_49 k_16_1 rfl ⟨Nat.le_of_ble_eq_true rfl, Nat.le_of_ble_eq_true rfl⟩ ⟨Nat.le_of_ble_eq_true rfl, Nat.le_of_ble_eq_true rfl⟩ ?_
  refine R_anew (pc := 52) C dJx4a65c_grow_92f84_52 (P' := fun ea h => hb ea = none ∧ LSt G hb la ea [.int x, .ref (G.2.2 0), .int (nI 0)] (fun _ => none) h) (N := 10) k_16_2 (va_AO.use C.st.2.2.2.2.2.2.2.1.2.2.2.2.2.2.2) (by decide) (by decide) (Nat.le_of_ble_eq_true rfl) (Nat.le_of_ble_eq_true rfl) (fun h q hh hq => LZt.new hh hq) (fun ea => WR.pr (fun hea => ?_))
  refine R_dup_x1 (pc := 55) C dJx4a65c_grow_92f84_55 rfl rfl ?_
  refine R_putf (pc := 56) C dJx4a65c_grow_92f84_56 (i := 1) (l1) rfl inlJx4a65c tyJx4a65c_ok nmJx4a65c (by decide) k_1_23 rfl rfl rfl (Nat.le_of_ble_eq_true rfl) (fun h hh => hh.setL) ?_
  exact R_aret (pc := 59) C dJx4a65c_grow_92f84_59 rfl (Or.inr ⟨_, rfl⟩) (Or.inr ⟨_, rfl⟩) (Nat.le_of_ble_eq_true rfl) (Nat.le_of_ble_eq_true rfl) (fun h hh => ⟨ea, ⟨rfl, hea⟩, hh⟩)
set_option maxHeartbeats 4000000 in
set_option maxRecDepth 100000 in
theorem mJx4a65c_grow_d5877 (hl : l.stackTraces = false)   : ∀ h, LZt hb la [.int x, .ref (G.2.2 0), .int (nI 0)] h → CN l yJx4a65c_grow_d5877 cJx4a65c_grow_d5877 1 (some (.array (.object "java/lang/Object"))) 2 1 10 [.ref la] G h (fun v h1 => ∃ ea, (v = some (.ref ea) ∧ hb ea = none) ∧ LSt G hb la ea [.int x, .ref ea, .int (nI 0)] (fun _ => none) h1) := by
  intro h0 hwd
  refine CN.of hl (by decide +kernel) rfl (Nat.le_of_ble_eq_true rfl) (fun K sz hKl hin C => ?_)
  have C : CX K G (AH h0 sz) RJx4a65c cJx4a65c_grow_d5877 1 (some (.array (.object "java/lang/Object"))) (rmD 2 1 10) [] := C
  subst hKl
  refine WR.imp (P' := LZt hb la [.int x, .ref (G.2.2 0), .int (nI 0)]) (fun h e => e ▸ hwd) ?_
  show WR K G _ _ _ [some (.ref la)] 0 0 0 []
  refine R_aload_n (pc := 0) C dJx4a65c_grow_d5877_0 rfl ?_
  refine R_aload_n (pc := 1) C dJx4a65c_grow_d5877_1 rfl ?_
  refine R_getf (pc := 2) C dJx4a65c_grow_d5877_2 (i := 2) (lz1) rfl inlJx4a65c (by decide) k_3_22 rfl ?_
  refine R_iconst (pc := 5) C dJx4a65c_grow_d5877_5 (v := 1) (by decide) ?_
  refine R_iadd (pc := 6) C dJx4a65c_grow_d5877_6 ?_
  refine R_callVN (pc := 7) C dJx4a65c_grow_d5877_7 (vs := [.int (nI 1)]) (fun h hh => mJx4a65c_grow_92f84 hl h hh) (isOb_of (lz1) rfl) ⟨k_15_21, k_15_22, k_15_23, k_1_12, k_16_0⟩ (sgn (nv := 1) rfl ⟨by decide +kernel, by decide +kernel, by decide +kernel⟩) ⟨⟨Nat.le_of_ble_eq_true rfl, Nat.le_of_ble_eq_true rfl⟩, ⟨Nat.le_of_ble_eq_true rfl, Nat.le_of_ble_eq_true rfl⟩, Nat.le_of_ble_eq_true rfl⟩ rfl rfl (fun h9 hh9 v9 => ?_)
  refine WR.ex (fun ea => WR.pr (fun e9 => ?_))
  obtain ⟨e9, hea⟩ := e9
  subst e9
  show WR K G _ _ _ _ _ _ _ (.ref _ :: _)
  exact R_aret (pc := 10) C dJx4a65c_grow_d5877_10 rfl (Or.inr ⟨_, rfl⟩) (Or.inr ⟨_, rfl⟩) (Nat.le_of_ble_eq_true rfl) (Nat.le_of_ble_eq_true rfl) (fun h hh => ⟨ea, ⟨rfl, hea⟩, hh⟩)
set_option maxHeartbeats 4000000 in
set_option maxRecDepth 100000 in
theorem mLaZ (hl : l.stackTraces = false)  (hw : hb w = some (ob 3 ws)) (h1 : w ≠ la) : ∀ h, LZt hb la [.int x, .ref (G.2.2 0), .int (nI 0)] h → CN l yJx4a65c_add_72be8 cJx4a65c_add_72be8 4 (none) 3 1 10 [.ref la, .ref w, .ref (G.2.2 0), .int (nI 0)] G h (fun v h1 => ∃ ea, (v = none ∧ hb ea = none) ∧ LSt G hb la ea [.int x, .ref ea, .int (nI 1)] (va_up (fun _ => none) 0 (some w)) h1) := by
  intro h0 hwd
  refine CN.of hl (by decide +kernel) rfl (Nat.le_of_ble_eq_true rfl) (fun K sz hKl hin C => ?_)
  have C : CX K G (AH h0 sz) RJx4a65c cJx4a65c_add_72be8 4 (none) (rmD 3 1 10) [] := C
  subst hKl
  refine WR.imp (P' := LZt hb la [.int x, .ref (G.2.2 0), .int (nI 0)]) (fun h e => e ▸ hwd) ?_
  show WR K G _ _ _ [some (.ref la), some (.ref w), some (.ref (G.2.2 0)), some (.int (nI 0))] 0 0 0 []
  refine R_iload_n (pc := 0) C dJx4a65c_add_72be8_0 rfl ?_
  refine R_aload_n (pc := 1) C dJx4a65c_add_72be8_1 rfl ?_
  refine R_tlen (pc := 2) C dJx4a65c_add_72be8_2 C.st.1.2 (v := 0) rfl ?_
  refine R_icmp_ne (pc := 3) C dJx4a65c_add_72be8_3 (tgt := 11) (by decide) (fun c3 => absurd c3 (fun q => q rfl)) (fun c3 => ?_)
  refine R_aload_n (pc := 6) C dJx4a65c_add_72be8_6 rfl ?_
  refine R_callVN (pc := 7) C dJx4a65c_add_72be8_7 (vs := []) (fun h hh => mJx4a65c_grow_d5877 hl h hh) (isOb_of (lz1) rfl) ⟨k_15_17, k_15_18, k_15_19, k_1_12, k_15_20⟩ (sgn (nv := 0) rfl ⟨by decide +kernel, by decide +kernel, by decide +kernel⟩) ⟨⟨Nat.le_of_ble_eq_true rfl, Nat.le_of_ble_eq_true rfl⟩, ⟨Nat.le_of_ble_eq_true rfl, Nat.le_of_ble_eq_true rfl⟩, Nat.le_of_ble_eq_true rfl⟩ rfl rfl (fun h9 hh9 v9 => ?_)
  refine WR.ex (fun ea => WR.pr (fun e9 => ?_))
  obtain ⟨e9, hea⟩ := e9
  subst e9
  show WR K G _ _ _ _ _ _ _ (.ref _ :: _)
  have h2 : w ≠ ea := fun z => by rw [z, hea] at hw; cases hw
  refine R_astore_n (pc := 10) C dJx4a65c_add_72be8_10 (Nat.le_of_ble_eq_true rfl) (lv' := [some (.ref _), some (.ref _), some (.ref _), some (.int _)]) rfl ?_
  refine R_aload_n (pc := 11) C dJx4a65c_add_72be8_11 rfl ?_
  refine R_iload_n (pc := 12) C dJx4a65c_add_72be8_12 rfl ?_
  refine R_aload_n (pc := 13) C dJx4a65c_add_72be8_13 rfl ?_
  refine R_aast (pc := 14) C dJx4a65c_add_72be8_14 (l2) (lxw hw h1 h2) rfl (C.st.2.2.2.2.2.2.2.1.2.2.2.2.2.2.1) rfl (by omega) (by decide) (fun h hh => hh.setE) ?_
  refine R_aload_n (pc := 15) C dJx4a65c_add_72be8_15 rfl ?_
  refine R_iload_n (pc := 16) C dJx4a65c_add_72be8_16 rfl ?_
  refine R_iconst (pc := 17) C dJx4a65c_add_72be8_17 (v := 1) (by decide) ?_
  refine R_iadd (pc := 18) C dJx4a65c_add_72be8_18 ?_
  refine R_putf (pc := 19) C dJx4a65c_add_72be8_19 (i := 2) (l1) rfl inlJx4a65c tyJx4a65c_ok nmJx4a65c (by decide) k_3_22 rfl rfl rfl (Nat.le_of_ble_eq_true rfl) (fun h hh => hh.setL) ?_
  exact R_vret (pc := 22) C dJx4a65c_add_72be8_22 rfl (Nat.le_of_ble_eq_true rfl) (Nat.le_of_ble_eq_true rfl) (fun h hh => ⟨ea, ⟨rfl, hea⟩, hh⟩)
set_option maxHeartbeats 4000000 in
set_option maxRecDepth 100000 in
theorem mLadZ (hl : l.stackTraces = false)  (hw : hb w = some (ob 3 ws)) (h1 : w ≠ la) : ∀ h, LZt hb la [.int (nI 0), .ref (G.2.2 0), .int (nI 0)] h → CN l yJx4a65c_add_9ea2d cJx4a65c_add_9ea2d 2 (some .boolean) 4 1 10 [.ref la, .ref w] G h (fun v h1 => ∃ ea, (v = some (.int 1) ∧ hb ea = none) ∧ LSt G hb la ea [.int (nI 1), .ref ea, .int (nI 1)] (va_up (fun _ => none) 0 (some w)) h1) := by
  intro h0 hwd
  refine CN.of hl (by decide +kernel) rfl (Nat.le_of_ble_eq_true rfl) (fun K sz hKl hin C => ?_)
  have C : CX K G (AH h0 sz) RJx4a65c cJx4a65c_add_9ea2d 2 (some .boolean) (rmD 4 1 10) [] := C
  subst hKl
  refine WR.imp (P' := LZt hb la [.int (nI 0), .ref (G.2.2 0), .int (nI 0)]) (fun h e => e ▸ hwd) ?_
  show WR K G _ _ _ [some (.ref la), some (.ref w)] 0 0 0 []
  refine R_aload_n (pc := 0) C dJx4a65c_add_9ea2d_0 rfl ?_
  refine R_dup (pc := 1) C dJx4a65c_add_9ea2d_1 rfl ?_
  refine R_getfS (pc := 2) C dJx4a65c_add_9ea2d_2 (i := 0) (lz1) rfl inlJx4a65c (by decide) k_15_11 k_15_12 rfl ?_
  refine R_iconst (pc := 5) C dJx4a65c_add_9ea2d_5 (v := 1) (by decide) ?_
  refine R_iadd (pc := 6) C dJx4a65c_add_9ea2d_6 ?_
  rw [nI_1]
  refine R_putfS (pc := 7) C dJx4a65c_add_9ea2d_7 (i := 0) (lz1) rfl inlJx4a65c tyJx4a65c_ok nmJx4a65c (by decide) k_15_11 k_15_12 rfl rfl rfl (Nat.le_of_ble_eq_true rfl) (fun h hh => hh.set) ?_
  refine R_aload_n (pc := 10) C dJx4a65c_add_9ea2d_10 rfl ?_
  refine R_aload_n (pc := 11) C dJx4a65c_add_9ea2d_11 rfl ?_
  refine R_aload_n (pc := 12) C dJx4a65c_add_9ea2d_12 rfl ?_
  refine R_getf (pc := 13) C dJx4a65c_add_9ea2d_13 (i := 1) (lz1) rfl inlJx4a65c (by decide) k_1_23 rfl ?_
  refine R_aload_n (pc := 16) C dJx4a65c_add_9ea2d_16 rfl ?_
  refine R_getf (pc := 17) C dJx4a65c_add_9ea2d_17 (i := 2) (lz1) rfl inlJx4a65c (by decide) k_3_22 rfl ?_
  refine R_callVN (pc := 20) C dJx4a65c_add_9ea2d_20 (vs := [_, _, .int (nI 0)]) (fun h hh => mLaZ hl hw h1 h hh) (isOb_of (lz1) rfl) ⟨k_15_13, k_15_14, k_15_15, k_1_12, k_15_16⟩ (sgn (nv := 3) rfl ⟨by decide +kernel, by decide +kernel, by decide +kernel⟩) ⟨⟨Nat.le_of_ble_eq_true rfl, Nat.le_of_ble_eq_true rfl⟩, ⟨Nat.le_of_ble_eq_true rfl, Nat.le_of_ble_eq_true rfl⟩, Nat.le_of_ble_eq_true rfl⟩ rfl rfl (fun h9 hh9 v9 => ?_)
  refine WR.ex (fun ea => WR.pr (fun e9 => ?_))
  obtain ⟨e9, hea⟩ := e9
  subst e9
  show WR K G _ _ _ _ _ _ _ _
  refine R_iconst (pc := 23) C dJx4a65c_add_9ea2d_23 (v := 1) (by decide) ?_
  exact R_zret (pc := 24) C dJx4a65c_add_9ea2d_24 rfl rfl (Nat.le_of_ble_eq_true rfl) (Nat.le_of_ble_eq_true rfl) (fun h hh => ⟨ea, ⟨rfl, hea⟩, hh⟩)
end
