/-! 35: the constructor of a well. Written by wip/p22/gen/m35.py -/
/-- a well with its text, made since hb -/
def NTx (G : GT) (hb : Hp) (w : Nat) (fs : List Value) (r q N : Nat) (f : Nat → Int32) (h : Hp) : Prop := BN hb w 3 fs h ∧ h r = some (ob 0 [.ref q, .int 0, .int 0, .int 0]) ∧ h q = some (aB G N f) ∧ r ≠ q ∧ r ≠ w ∧ q ≠ w ∧ hb r = none ∧ hb q = none
theorem NTx.of {G : GT} {hb h9 h : Hp} {w r q N : Nat} {fs : List Value} {f : Nat → Int32} (B : BN hb w 3 fs h9) (T : TS G h9 r q N f h) : NTx G hb w fs r q N f h := by
  have k : ∀ x, h9 x = none → x ≠ w ∧ hb x = none := fun x hx => by
    refine ⟨fun e => (by rw [e, B.1] at hx; cases hx), ?_⟩
    cases hq : hb x with
    | none => rfl
    | some e =>
      have := B.2.2 x (by rw [hq]; exact fun z => by cases z)
      rw [hx, hq] at this; cases this
  have hw : h w = h9 w := T.2.2.2.2.2 w (by rw [B.1]; exact fun z => by cases z)
  refine ⟨⟨hw.trans B.1, B.2.1, fun x hx => ?_⟩, T.1, T.2.1, T.2.2.1, (k r T.2.2.2.1).1, (k q T.2.2.2.2.1).1, (k r T.2.2.2.1).2, (k q T.2.2.2.2.1).2⟩
  have e := B.2.2 x hx
  rw [T.2.2.2.2.2 x (by rw [e]; exact hx), e]
theorem NTx.set {G : GT} {hb h : Hp} {w r q N : Nat} {fs fs' : List Value} {f : Nat → Int32} (H : NTx G hb w fs r q N f h) : NTx G hb w fs' r q N f (hu h w (ob 3 fs')) :=
  ⟨H.1.set, (hu_n H.2.2.2.2.1).trans H.2.1, (hu_n H.2.2.2.2.2.1).trans H.2.2.1, H.2.2.2⟩
def NTy (G : GT) (hb : Hp) (w : Nat) (fs : List Value) (r q N : Nat) (f : Nat → Int32) (e : Nat) (h : Hp) : Prop := NTx G hb w fs r q N f h ∧ h e = some (aI G 8 (fun _ => 0)) ∧ e ≠ w ∧ e ≠ r ∧ e ≠ q ∧ hb e = none
theorem NTy.new {G : GT} {hb h : Hp} {w r q N e : Nat} {fs : List Value} {f : Nat → Int32} (H : NTx G hb w fs r q N f h) (he : h e = none) : NTy G hb w fs r q N f e (hu h e (aI G 8 (fun _ => 0))) := by
  have e1 : e ≠ w := fun z => by rw [z, H.1.1] at he; cases he
  have e2 : e ≠ r := fun z => by rw [z, H.2.1] at he; cases he
  have e3 : e ≠ q := fun z => by rw [z, H.2.2.1] at he; cases he
  have e4 : hb e = none := by
    cases hq : hb e with
    | none => rfl
    | some x =>
      have := H.1.2.2 e (by rw [hq]; exact fun z => by cases z)
      rw [he, hq] at this; cases this
  exact ⟨⟨⟨(hu_n (Ne.symm e1)).trans H.1.1, H.1.2.1, fun x hx => (hu_n (fun z => hx (by rw [z]; exact e4))).trans (H.1.2.2 x hx)⟩, (hu_n (Ne.symm e2)).trans H.2.1, (hu_n (Ne.symm e3)).trans H.2.2.1, H.2.2.2⟩, hu_s, e1, e2, e3, e4⟩
theorem NTy.set {G : GT} {hb h : Hp} {w r q N e : Nat} {fs fs' : List Value} {f : Nat → Int32} (H : NTy G hb w fs r q N f e h) : NTy G hb w fs' r q N f e (hu h w (ob 3 fs')) := ⟨H.1.set, (hu_n H.2.2.1).trans H.2.1, H.2.2⟩
theorem ntx {G : GT} {hb : Hp} {w r q N : Nat} {fs : List Value} {f : Nat → Int32} : ∀ h, NTx G hb w fs r q N f h → h w = some (ob 3 fs) := fun _ H => H.1.1
theorem nty {G : GT} {hb : Hp} {w r q N e : Nat} {fs : List Value} {f : Nat → Int32} : ∀ h, NTy G hb w fs r q N f e h → h w = some (ob 3 fs) := fun _ H => H.1.1.1
section
variable {l : Launch} {G : GT} {hb : Hp} {w : Nat}
theorem mtext (hl : l.stackTraces = false) {a d i : Nat} (ha : a < 3) (hd : d < 100) (hi : i < 8) : ∀ h, CN l yX0_textOf cX0_textOf 4 (some (.object "java/lang/String")) 6 4 40 [.int (nI a), .int (nI d), .int (nI i)] G h (fun v h1 => ∃ r q, v = some (.ref r) ∧ TS G h r q (tx a d i).length (txb a d i) h1) := fun h =>
  if c : d < 10 then mtext_A hl ha c hi h else mtext_B hl ha hd (Nat.not_lt.mp c) hi h
set_option maxHeartbeats 4000000 in
set_option maxRecDepth 100000 in
theorem mX0_init (hl : l.stackTraces = false) {a d i : Nat} {x3 x4 x5 x6 : Int32} (ha : a < 3) (hd : d < 100) (hi : i < 8) : ∀ h, BN hb w 3 [.int 0, .int 0, .int 0, .int 0, .int 0, .int 0, .null, .null, .int 0, .int 0, .int 0, .int 0, .int 0, .int 0, .int 0, .int 0] h → CN l yX0_init cX0_init 8 (none) 7 5 48 [.ref w, .int (nI i), .int (nI a), .int (nI d), .int x3, .int x4, .int x5, .int x6] G h (fun v h1 => v = none ∧ ∃ r q e, NTy G hb w [.int (nI i), .int (nI a), .int (nI d), .int x4, .int x5, .int x6, .ref r, .ref e, .int x3, .int 0, .int 0, .int 0, .int 1, .int 0, .int 0, .int 0] r q (tx a d i).length (txb a d i) e h1) := by
  intro h0 hwd
  refine CN.of hl (by decide +kernel) rfl (Nat.le_of_ble_eq_true rfl) (fun K sz hKl hin C => ?_)
  have C : CX K G (AH h0 sz) RX0 cX0_init 8 (none) (rmD 7 5 48) [] := C
  subst hKl
  refine WR.imp (P' := BN hb w 3 [.int 0, .int 0, .int 0, .int 0, .int 0, .int 0, .null, .null, .int 0, .int 0, .int 0, .int 0, .int 0, .int 0, .int 0, .int 0]) (fun h e => e ▸ hwd) ?_
  show WR K G _ _ _ [some (.ref w), some (.int (nI i)), some (.int (nI a)), some (.int (nI d)), some (.int x3), some (.int x4), some (.int x5), some (.int x6)] 0 0 0 []
  refine R_aload_n (pc := 0) C dX0_init_0 rfl ?_
  refine R_objInit (pc := 1) C dX0_init_1 k_4_2 rfl ⟨Nat.le_of_ble_eq_true rfl, Nat.le_of_ble_eq_true rfl⟩ ?_
  refine R_aload_n (pc := 4) C dX0_init_4 rfl ?_
  refine R_iload_n (pc := 5) C dX0_init_5 rfl ?_
  refine R_putF (pc := 6) C dX0_init_6 (i := 0) (bn) rfl inlX0 tyX0_ok nmX0 (by decide) k_4_3 rfl hin rfl rfl rfl (Nat.le_of_ble_eq_true rfl) (fun h hh => hh.set) ?_
  refine R_aload_n (pc := 9) C dX0_init_9 rfl ?_
  refine R_iload_n (pc := 10) C dX0_init_10 rfl ?_
  refine R_putF (pc := 11) C dX0_init_11 (i := 1) (bn) rfl inlX0 tyX0_ok nmX0 (by decide) k_4_4 rfl hin rfl rfl rfl (Nat.le_of_ble_eq_true rfl) (fun h hh => hh.set) ?_
  refine R_aload_n (pc := 14) C dX0_init_14 rfl ?_
  refine R_iload_n (pc := 15) C dX0_init_15 rfl ?_
  refine R_putF (pc := 16) C dX0_init_16 (i := 2) (bn) rfl inlX0 tyX0_ok nmX0 (by decide) k_4_5 rfl hin rfl rfl rfl (Nat.le_of_ble_eq_true rfl) (fun h hh => hh.set) ?_
  refine R_aload_n (pc := 19) C dX0_init_19 rfl ?_
  refine R_iload (pc := 20) C dX0_init_20 rfl ?_
  refine R_putf (pc := 22) C dX0_init_22 (i := 8) (bn) rfl inlX0 tyX0_ok nmX0 (by decide) k_4_6 rfl rfl rfl (Nat.le_of_ble_eq_true rfl) (fun h hh => hh.set) ?_
  refine R_aload_n (pc := 25) C dX0_init_25 rfl ?_
  refine R_iload (pc := 26) C dX0_init_26 rfl ?_
  refine R_putF (pc := 28) C dX0_init_28 (i := 3) (bn) rfl inlX0 tyX0_ok nmX0 (by decide) k_4_7 rfl hin rfl rfl rfl (Nat.le_of_ble_eq_true rfl) (fun h hh => hh.set) ?_
  refine R_aload_n (pc := 31) C dX0_init_31 rfl ?_
  refine R_iload (pc := 32) C dX0_init_32 rfl ?_
  refine R_putF (pc := 34) C dX0_init_34 (i := 4) (bn) rfl inlX0 tyX0_ok nmX0 (by decide) k_4_8 rfl hin rfl rfl rfl (Nat.le_of_ble_eq_true rfl) (fun h hh => hh.set) ?_
  refine R_aload_n (pc := 37) C dX0_init_37 rfl ?_
  refine R_iload (pc := 38) C dX0_init_38 rfl ?_
  refine R_putF (pc := 40) C dX0_init_40 (i := 5) (bn) rfl inlX0 tyX0_ok nmX0 (by decide) k_4_9 rfl hin rfl rfl rfl (Nat.le_of_ble_eq_true rfl) (fun h hh => hh.set) ?_
  refine R_aload_n (pc := 43) C dX0_init_43 rfl ?_
  refine R_iload_n (pc := 44) C dX0_init_44 rfl ?_
  refine R_iload_n (pc := 45) C dX0_init_45 rfl ?_
  refine R_iload_n (pc := 46) C dX0_init_46 rfl ?_
  refine R_callSN (pc := 47) C dX0_init_47 (vs := [_, _, _]) (fun h hh => mtext hl ha hd hi h) ⟨k_4_13, k_4_14, k_3_7, k_4_15⟩ (sgn (nv := 3) rfl ⟨by decide +kernel, by decide +kernel, by decide +kernel⟩) ⟨⟨Nat.le_of_ble_eq_true rfl, Nat.le_of_ble_eq_true rfl⟩, ⟨Nat.le_of_ble_eq_true rfl, Nat.le_of_ble_eq_true rfl⟩, Nat.le_of_ble_eq_true rfl⟩ rfl rfl (fun h9 hh9 v9 => ?_)
  refine WR.ex (fun r => WR.ex (fun q => WR.pr (fun e9 => ?_)))
  subst e9
  refine WR.imp (fun h hh => NTx.of hh9 hh) ?_
  show WR K G _ _ _ _ _ _ _ (.ref _ :: _)
  refine R_putF (pc := 50) C dX0_init_50 (i := 6) (ntx) rfl inlX0 tyX0_ok nmX0 (by decide) k_4_10 rfl hin rfl rfl rfl (Nat.le_of_ble_eq_true rfl) (fun h hh => hh.set) ?_
  refine R_aload_n (pc := 53) C dX0_init_53 rfl ?_
  refine R_bipush (pc := 54) C dX0_init_54 (v := 8) (by decide) ?_
  refine R_newarr (pc := 56) C dX0_init_56 (t := 0) (N := 8) (a0 := (8, .inl (fun _ => 0))) rfl k_1_3 (fun _ => rfl) (fun _ h => by cases h) (fun _ => rfl) (rfl) (by omega) (by decide) (Nat.le_of_ble_eq_true rfl) (Nat.le_of_ble_eq_true rfl) (fun h q hh hq => NTy.new hh hq) (fun e => ?_)
  refine R_putF (pc := 58) C dX0_init_58 (i := 7) (nty) rfl inlX0 tyX0_ok nmX0 (by decide) k_4_11 rfl hin rfl rfl rfl (Nat.le_of_ble_eq_true rfl) (fun h hh => hh.set) ?_
  refine R_aload_n (pc := 61) C dX0_init_61 rfl ?_
  refine R_iconst (pc := 62) C dX0_init_62 (v := 1) (by decide) ?_
  refine R_putf (pc := 63) C dX0_init_63 (i := 12) (nty) rfl inlX0 tyX0_ok nmX0 (by decide) k_4_12 rfl rfl rfl (Nat.le_of_ble_eq_true rfl) (fun h hh => hh.set) ?_
  exact R_vret (pc := 66) C dX0_init_66 rfl (Nat.le_of_ble_eq_true rfl) (Nat.le_of_ble_eq_true rfl) (fun h hh => ⟨rfl, r, q, e, hh⟩)
end
