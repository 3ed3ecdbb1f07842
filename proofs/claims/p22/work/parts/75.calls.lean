/-! 75: the law's calls that may throw; calls of methods that only reckon. Written by wip/p22/gen/m75.py -/
/-- how such a call ends -/
def cPo (code val : Int32) (W0 W1 : Hp → Prop) (v : Option Value) (h1 : Hp) : Prop := (code = 0 ∧ v = some (.int val) ∧ W1 h1) ∨ (¬ code = 0 ∧ v = some (.int (-3)) ∧ W0 h1)
theorem X_pr {K : KT} {G : GT} {A : Nat → Prop} {Q : State → Prop} {lv : List (Option Value)} {k n pc : Nat} {st : List Value} {E : String} {p9 : Prop} {P : Hp → Prop} (kk : p9 → WX K G A Q P lv k n pc st E) : WX K G A Q (fun h => p9 ∧ P h) lv k n pc st E := fun h H locs ls q ce hp => kk hp.1 h H locs ls q ce hp.2
theorem exA_0 {E : String} {c : Int32} (h : exA E c) (h0 : c = 0) : False := by
  subst h0
  rcases h with ⟨h, -⟩ | ⟨h, -⟩ | ⟨h, -⟩ <;> exact absurd h (by decide)
section
variable {K : KT} {G : GT} {A : Nat → Prop} {own : String} {cc : ByteArray} {nL : Nat} {ret : Option FieldType} {rm : Room} {tb : List ExceptionTableEntry} {Q : State → Prop} {P : Hp → Prop} {lv : List (Option Value)} {k n pc : Nat} {st : List Value}
/-- a static call that only reckons -/
theorem R_callP (C : CX K G A own cc nL ret rm tb) {y : MethodName} {cc' : ByteArray} {mL' : Nat} {ret' : Option FieldType} {dp idx : Nat} {vs st0 rest : List Value} {r : Value} (d : decode cc pc = .ok (.invokestatic idx, 3))
    (hM : ∀ h, CN K.l y cc' mL' ret' dp 0 0 vs G h (fun v h1 => v = some r ∧ h1 = h))
    (hw : Cond.methodLink own idx y ∈ BIG ∧ Cond.static y ∈ BIG ∧ Cond.initialized y.cls ∈ BIG ∧ Cond.code y cc' mL' ret' ∈ BIG) (hd : sigD y vs.length) (hR : fitD rm k n dp 0 0 mL' rest) (hlen : lv.length = nL) (hst : st0 = vs.reverse ++ rest)
    (kk : WR K G A Q P lv k n (pc + 3) (r :: rest)) : WR K G A Q P lv k n pc st0 :=
  R_callSN C d (fun h _ => hM h) hw hd hR hlen hst (fun h hh v => WR.pr (fun e => by subst e; exact WR.imp (fun h1 e1 => e1 ▸ hh) kk))
end
section
variable {l : Launch} {G : GT} {adr : Nat → Nat} {n P : Nat} {F mu : Nat → Nat → Int32} {g : Nat → Int64} {Sm : St}
set_option maxHeartbeats 4000000 in
set_option maxRecDepth 100000 in
theorem mL_calls0 (hl : l.stackTraces = false) {a b c : Int32} (hn : n ≤ 8) (hP : P ≤ 5) (hlay : ∀ i, i < n → ∃ a, a < 3 ∧ F 0 i = nI a) : ∀ h, Wd G (adr, (n, P, F), Sm, mu, g) h → CW l yL_calls cL_calls 6 (some .int) [(0, 32, 33, 24)] 8 1 6 [.ref (adr 0), .int 0, .int a, .int b, .int c] G h (fun v h1 => cPo (kYear F) (nI (cnt (spSt n P (shr F n)) 8)) (Wd G (adr, (n, P, F), Sm, mu, g)) (Wd G (adr, (n, P, (su (yrF n P F) 16 1 (yrF n P F 16 1 + 1))), Sm, mu, g)) v h1) := by
  intro h0 hwd
  refine CW.of hl (by decide +kernel) rfl (Nat.le_of_ble_eq_true rfl) (fun K sz hKl C => ?_)
  have C : CX K G (AH h0 sz) RL cL_calls 6 (some .int) (rmD 8 1 6) [⟨0, 32, 33, 24⟩] := C
  subst hKl
  refine WR.imp (P' := Wd G (adr, (n, P, F), Sm, mu, g)) (fun h e => e ▸ hwd) ?_
  show WR K G _ _ _ [some (.ref (adr 0)), some (.int 0), some (.int a), some (.int b), some (.int c), none] 0 0 0 []
  refine R_iload_n (pc := 0) C dL_calls_0 rfl ?_
  refine R_if_ne (pc := 1) C dL_calls_1 (tgt := 11) (by decide) (fun c1 => absurd rfl c1) (fun _ => ?_)
  refine R_aload_n (pc := 4) C dL_calls_4 rfl ?_
  refine R_callVT (pc := 5) C dL_calls_5 (vs := []) (fun h hh => mX1_year hl hn hP hlay h hh) (isOb_of (wc0) rfl) ⟨k_18_22, k_18_23, k_19_0, k_1_2, k_19_1⟩ (sgn (nv := 0) rfl ⟨by decide +kernel, by decide +kernel, by decide +kernel⟩) ⟨⟨Nat.le_of_ble_eq_true rfl, Nat.le_of_ble_eq_true rfl⟩, ⟨Nat.le_of_ble_eq_true rfl, Nat.le_of_ble_eq_true rfl⟩, Nat.le_of_ble_eq_true rfl⟩ rfl rfl (fun h9 hh9 E9 => ?_) (fun h9 hh9 v9 => ?_)
  · refine X_pr (fun q9 => ?_)
    obtain ⟨q8, rfl⟩ := q9
    refine X_catch C [] ⟨0, 32, 33, 24⟩ [] rfl (fun z hz => by cases hz) (by decide) (by decide) k_18_21 (C.st.2.2.2.2.2.2.2.1.1) (fun q => ?_)
    refine R_astore (pc := 33) C dL_calls_33 (Nat.le_of_ble_eq_true rfl) (lv' := [some (.ref _), some (.int _), some (.int _), some (.int _), some (.int _), some (.ref _)]) rfl ?_
    refine R_bipush (pc := 35) C dL_calls_35 (v := -3) (by decide) ?_
    refine R_ok ?_
    exact R_iret (pc := 37) C dL_calls_37 rfl (Nat.le_of_ble_eq_true rfl) (Nat.le_of_ble_eq_true rfl) (fun h hh => Or.inr ⟨by rw [q8]; decide, rfl, hh⟩)
  refine WR.pr (fun e9 => ?_)
  obtain ⟨hk, e9⟩ := e9
  subst e9
  show WR K G _ _ _ _ _ _ _ (.int _ :: _)
  refine R_goto (pc := 8) C dL_calls_8 (tgt := 32) (by decide) ?_
  refine R_ok ?_
  exact R_iret (pc := 32) C dL_calls_32 rfl (Nat.le_of_ble_eq_true rfl) (Nat.le_of_ble_eq_true rfl) (fun h hh => Or.inl ⟨hk, rfl, hh⟩)
set_option maxHeartbeats 4000000 in
set_option maxRecDepth 100000 in
theorem mL_calls1 (hl : l.stackTraces = false) {a b c : Int32} (hn : n ≤ 8) (hk0 : kLend n F a b c = 0 ∨ kLend n F a b c = 3) : ∀ h, Wd G (adr, (n, P, F), Sm, mu, g) h → CW l yL_calls cL_calls 6 (some .int) [(0, 32, 33, 24)] 5 5 30 [.ref (adr 0), .int 1, .int a, .int b, .int c] G h (fun v h1 => cPo (kLend n F a b c) (F 13 (8 * ix a + ix b) + c) (Wd G (adr, (n, P, F), Sm, mu, g)) (Wd G (adr, (n, P, fLend F (ix a) (ix b) c), Sm, mu, g)) v h1) := by
  intro h0 hwd
  refine CW.of hl (by decide +kernel) rfl (Nat.le_of_ble_eq_true rfl) (fun K sz hKl C => ?_)
  have C : CX K G (AH h0 sz) RL cL_calls 6 (some .int) (rmD 5 5 30) [⟨0, 32, 33, 24⟩] := C
  subst hKl
  refine WR.imp (P' := Wd G (adr, (n, P, F), Sm, mu, g)) (fun h e => e ▸ hwd) ?_
  show WR K G _ _ _ [some (.ref (adr 0)), some (.int 1), some (.int a), some (.int b), some (.int c), none] 0 0 0 []
  refine R_iload_n (pc := 0) C dL_calls_0 rfl ?_
  refine R_if_ne (pc := 1) C dL_calls_1 (tgt := 11) (by decide) (fun _ => ?_) (fun c1 => absurd c1 (by decide))
  refine R_iload_n (pc := 11) C dL_calls_11 rfl ?_
  refine R_iconst (pc := 12) C dL_calls_12 (v := 1) (by decide) ?_
  refine R_icmp_ne (pc := 13) C dL_calls_13 (tgt := 27) (by decide) (fun c1 => absurd rfl c1) (fun _ => ?_)
  refine R_aload_n (pc := 16) C dL_calls_16 rfl ?_
  refine R_iload_n (pc := 17) C dL_calls_17 rfl ?_
  refine R_iload_n (pc := 18) C dL_calls_18 rfl ?_
  refine R_iload (pc := 19) C dL_calls_19 rfl ?_
  refine R_callVT (pc := 21) C dL_calls_21 (vs := [_, _, _]) (fun h hh => mX1_lend hl hn h hh) (isOb_of (wc0) rfl) ⟨k_22_18, k_22_19, k_22_20, k_1_2, k_22_21⟩ (sgn (nv := 3) rfl ⟨by decide +kernel, by decide +kernel, by decide +kernel⟩) ⟨⟨Nat.le_of_ble_eq_true rfl, Nat.le_of_ble_eq_true rfl⟩, ⟨Nat.le_of_ble_eq_true rfl, Nat.le_of_ble_eq_true rfl⟩, Nat.le_of_ble_eq_true rfl⟩ rfl rfl (fun h9 hh9 E9 => ?_) (fun h9 hh9 v9 => ?_)
  · refine X_pr (fun q9 => ?_)
    rcases q9 with ⟨q8, -⟩ | ⟨q8, -⟩ | ⟨q8, rfl⟩
    · exact absurd q8 (by rcases hk0 with e | e <;> rw [e] <;> decide)
    · exact absurd q8 (by rcases hk0 with e | e <;> rw [e] <;> decide)
    · refine X_catch C [] ⟨0, 32, 33, 24⟩ [] rfl (fun z hz => by cases hz) (by decide) (by decide) k_18_21 (C.st.2.2.2.2.2.2.2.1.1) (fun q => ?_)
      refine R_astore (pc := 33) C dL_calls_33 (Nat.le_of_ble_eq_true rfl) (lv' := [some (.ref _), some (.int _), some (.int _), some (.int _), some (.int _), some (.ref _)]) rfl ?_
      refine R_bipush (pc := 35) C dL_calls_35 (v := -3) (by decide) ?_
      refine R_ok ?_
      exact R_iret (pc := 37) C dL_calls_37 rfl (Nat.le_of_ble_eq_true rfl) (Nat.le_of_ble_eq_true rfl) (fun h hh => Or.inr ⟨by rw [q8]; decide, rfl, hh⟩)
  refine WR.pr (fun e9 => ?_)
  obtain ⟨hk, e9⟩ := e9
  subst e9
  show WR K G _ _ _ _ _ _ _ (.int _ :: _)
  refine R_goto (pc := 24) C dL_calls_24 (tgt := 32) (by decide) ?_
  refine R_ok ?_
  exact R_iret (pc := 32) C dL_calls_32 rfl (Nat.le_of_ble_eq_true rfl) (Nat.le_of_ble_eq_true rfl) (fun h hh => Or.inl ⟨hk, rfl, hh⟩)
set_option maxHeartbeats 4000000 in
set_option maxRecDepth 100000 in
theorem mL_calls2 (hl : l.stackTraces = false) {a b c : Int32} (hP : P ≤ 5) (hk0 : ¬ kBuild P F a = 1) : ∀ h, Wd G (adr, (n, P, F), Sm, mu, g) h → CW l yL_calls cL_calls 6 (some .int) [(0, 32, 33, 24)] 5 2 12 [.ref (adr 0), .int 2, .int a, .int b, .int c] G h (fun v h1 => cPo (kBuild P F a) (nI (P + 1)) (Wd G (adr, (n, P, F), Sm, mu, g)) (Wd G (adr, (n, P + 1, fBuild F P a), Sm, mu, g)) v h1) := by
  intro h0 hwd
  refine CW.of hl (by decide +kernel) rfl (Nat.le_of_ble_eq_true rfl) (fun K sz hKl C => ?_)
  have C : CX K G (AH h0 sz) RL cL_calls 6 (some .int) (rmD 5 2 12) [⟨0, 32, 33, 24⟩] := C
  subst hKl
  refine WR.imp (P' := Wd G (adr, (n, P, F), Sm, mu, g)) (fun h e => e ▸ hwd) ?_
  show WR K G _ _ _ [some (.ref (adr 0)), some (.int 2), some (.int a), some (.int b), some (.int c), none] 0 0 0 []
  refine R_iload_n (pc := 0) C dL_calls_0 rfl ?_
  refine R_if_ne (pc := 1) C dL_calls_1 (tgt := 11) (by decide) (fun _ => ?_) (fun c1 => absurd c1 (by decide))
  refine R_iload_n (pc := 11) C dL_calls_11 rfl ?_
  refine R_iconst (pc := 12) C dL_calls_12 (v := 1) (by decide) ?_
  refine R_icmp_ne (pc := 13) C dL_calls_13 (tgt := 27) (by decide) (fun _ => ?_) (fun c1 => absurd c1 (by decide))
  refine R_aload_n (pc := 27) C dL_calls_27 rfl ?_
  refine R_iload_n (pc := 28) C dL_calls_28 rfl ?_
  refine R_callVT (pc := 29) C dL_calls_29 (vs := [_]) (fun h hh => mX1_build hl hP h hh) (isOb_of (wc0) rfl) ⟨k_22_22, k_22_23, k_23_0, k_1_2, k_23_1⟩ (sgn (nv := 1) rfl ⟨by decide +kernel, by decide +kernel, by decide +kernel⟩) ⟨⟨Nat.le_of_ble_eq_true rfl, Nat.le_of_ble_eq_true rfl⟩, ⟨Nat.le_of_ble_eq_true rfl, Nat.le_of_ble_eq_true rfl⟩, Nat.le_of_ble_eq_true rfl⟩ rfl rfl (fun h9 hh9 E9 => ?_) (fun h9 hh9 v9 => ?_)
  · refine X_pr (fun q9 => ?_)
    rcases q9 with ⟨q8, -⟩ | ⟨q8, rfl⟩
    · exact absurd q8 hk0
    · refine X_catch C [] ⟨0, 32, 33, 24⟩ [] rfl (fun z hz => by cases hz) (by decide) (by decide) k_18_21 (C.st.2.2.2.2.2.2.2.1.1) (fun q => ?_)
      refine R_astore (pc := 33) C dL_calls_33 (Nat.le_of_ble_eq_true rfl) (lv' := [some (.ref _), some (.int _), some (.int _), some (.int _), some (.int _), some (.ref _)]) rfl ?_
      refine R_bipush (pc := 35) C dL_calls_35 (v := -3) (by decide) ?_
      refine R_ok ?_
      exact R_iret (pc := 37) C dL_calls_37 rfl (Nat.le_of_ble_eq_true rfl) (Nat.le_of_ble_eq_true rfl) (fun h hh => Or.inr ⟨by rw [q8]; decide, rfl, hh⟩)
  refine WR.pr (fun e9 => ?_)
  obtain ⟨hk, e9⟩ := e9
  subst e9
  show WR K G _ _ _ _ _ _ _ (.int _ :: _)
  refine R_ok ?_
  exact R_iret (pc := 32) C dL_calls_32 rfl (Nat.le_of_ble_eq_true rfl) (Nat.le_of_ble_eq_true rfl) (fun h hh => Or.inl ⟨hk, rfl, hh⟩)
end
