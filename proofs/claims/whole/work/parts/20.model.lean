/-! 20: the plain calls of the model. Written by wip/whole/gen/m20.py -/
theorem su_comm {F : Nat → Nat → Int32} {f k i j : Nat} {a b : Int32} (h : f ≠ k) : su (su F f i a) k j b = su (su F k j b) f i a := by
  funext p q
  unfold su
  by_cases c1 : p = k ∧ q = j
  · rw [if_pos c1, if_neg (fun z => h (by omega)), if_pos c1]
  · rw [if_neg c1]
    by_cases c2 : p = f ∧ q = i
    · rw [if_pos c2, if_pos c2]
    · rw [if_neg c2, if_neg c2, if_neg c1]
theorem well_in {n : Nat} (hn : n ≤ 8) (w : Int32) : qR w 0 (nI n - 1) = qW n w := by
  have e : ∀ k : Nat, k ≤ 8 → (nI k - 1 : Int32).toInt = (k : Int) - 1 ∧ (nI k).toInt = (k : Int) := by decide
  obtain ⟨e1, e2⟩ := e n hn
  unfold qR qW
  congr 1
  rw [Int32.le_iff_toInt_le (x := w) (y := nI n - 1), Int32.lt_iff_toInt_lt (x := w) (y := nI n), e1, e2]
  exact propext ⟨fun q => ⟨q.1, by omega⟩, fun q => ⟨q.1, by omega⟩⟩
theorem b01 {b : Bool} (h : (if b = true then (1 : Int32) else 0) = 0) : b = false := by cases b with | false => rfl | true => exact absurd h (by decide)
theorem b01' {b : Bool} (h : ¬ (if b = true then (1 : Int32) else 0) = 0) : b = true := by cases b with | true => rfl | false => exact absurd rfl h
theorem idx8 {i j : Nat} : (8 : Int32) * nI i + nI j = nI (8 * i + j) := by rw [show (8 : Int32) = nI 8 from rfl, pk_mul, nI_add]
theorem minI_le {x y : Int32} (h : y ≤ x) : y = minI x y := by
  unfold minI
  by_cases q : y < x
  · rw [if_pos q]
  · rw [if_neg q]; exact Int32.le_antisymm h (Int32.not_lt.mp q)
theorem minI_nle {x y : Int32} (h : ¬ y ≤ x) : x = minI x y := by rw [minI, if_neg (fun q => h (Int32.le_of_lt q))]
theorem five_eq {P : Nat} (hP : P ≤ 5) (h : nI P = 5) : P = 5 := (nI_eq (by omega) (by omega)).mp (show nI P = nI 5 from h)
theorem eight_eq {n : Nat} (hn : n ≤ 8) (h : nI n = 8) : n = 8 := (nI_eq (by omega) (by omega)).mp (show nI n = nI 8 from h)
/-- how a call of the model ends -/
def mPost (code val : Int32) (W0 W1 : (Nat → Nat → Int32) → Hp → Prop) (v : Option Value) (h1 : Hp) : Prop :=
  (code = 0 ∧ v = some (.int val) ∧ ∃ m9 : Nat → Nat → Int32, m9 0 0 = 0 ∧ W1 m9 h1) ∨ (¬ code = 0 ∧ (∃ r, v = some (.int r)) ∧ ∃ m9 : Nat → Nat → Int32, m9 0 0 = code ∧ W0 m9 h1)
def fM (a b : Int32) : Int32 := if a ≤ b then b - a else a - b
def wMo (f : Int32) : Int32 := if f ≤ 10 then 100 - 10 * f else 0
def spReachM (lw pw lo po : Int32) : Int32 := if fM lo lw = 0 then wMo (fM po pw) else if fM lo lw = 1 then wMo (fM po pw) / 2 else 0
def fAdd (F : Nat → Nat → Int32) (n : Nat) (a b c d e f : Int32) : Nat → Nat → Int32 := su (su (su (su (su (su F 0 n a) 1 n b) 2 n c) 3 n d) 4 n e) 5 n f
def kAdd (n : Nat) (a b c d e f : Int32) : Int32 := if qR a 0 2 = true then (if qR b 0 99 = true ∧ qR c (-10000) 10000 = true ∧ qR d (-10000) 10000 = true ∧ qR e 0 1000 = true ∧ qR f 0 1000 = true then (if n = 8 then 3 else 0) else 2) else 1
section
variable {l : Launch} {G : GT} {adr : Nat → Nat} {n P : Nat} {F mu : Nat → Nat → Int32} {g : Nat → Int64} {Sc : St}
theorem pme_0 {i : Nat} {v v0 : Int32} (e : v = v0) : ∀ h, Wd G (adr, Sc, (n, P, F), mu, g) h → Wd G (adr, Sc, (n, P, su F 0 i v0), mu, g) (hu h (adr 6) (aI G 8 (upd (F 0) i v))) := by subst e; exact pm_0
theorem pme_1 {i : Nat} {v v0 : Int32} (e : v = v0) : ∀ h, Wd G (adr, Sc, (n, P, F), mu, g) h → Wd G (adr, Sc, (n, P, su F 1 i v0), mu, g) (hu h (adr 7) (aI G 8 (upd (F 1) i v))) := by subst e; exact pm_1
theorem pme_2 {i : Nat} {v v0 : Int32} (e : v = v0) : ∀ h, Wd G (adr, Sc, (n, P, F), mu, g) h → Wd G (adr, Sc, (n, P, su F 2 i v0), mu, g) (hu h (adr 8) (aI G 8 (upd (F 2) i v))) := by subst e; exact pm_2
theorem pme_3 {i : Nat} {v v0 : Int32} (e : v = v0) : ∀ h, Wd G (adr, Sc, (n, P, F), mu, g) h → Wd G (adr, Sc, (n, P, su F 3 i v0), mu, g) (hu h (adr 9) (aI G 8 (upd (F 3) i v))) := by subst e; exact pm_3
theorem pme_4 {i : Nat} {v v0 : Int32} (e : v = v0) : ∀ h, Wd G (adr, Sc, (n, P, F), mu, g) h → Wd G (adr, Sc, (n, P, su F 4 i v0), mu, g) (hu h (adr 10) (aI G 8 (upd (F 4) i v))) := by subst e; exact pm_4
theorem pme_5 {i : Nat} {v v0 : Int32} (e : v = v0) : ∀ h, Wd G (adr, Sc, (n, P, F), mu, g) h → Wd G (adr, Sc, (n, P, su F 5 i v0), mu, g) (hu h (adr 11) (aI G 8 (upd (F 5) i v))) := by subst e; exact pm_5
theorem pme_6 {i : Nat} {v v0 : Int32} (e : v = v0) : ∀ h, Wd G (adr, Sc, (n, P, F), mu, g) h → Wd G (adr, Sc, (n, P, su F 6 i v0), mu, g) (hu h (adr 12) (aI G 8 (upd (F 6) i v))) := by subst e; exact pm_6
theorem pme_7 {i : Nat} {v v0 : Int32} (e : v = v0) : ∀ h, Wd G (adr, Sc, (n, P, F), mu, g) h → Wd G (adr, Sc, (n, P, su F 7 i v0), mu, g) (hu h (adr 13) (aZ G 8 (upd (F 7) i v))) := by subst e; exact pm_7
theorem pme_8 {i : Nat} {v v0 : Int32} (e : v = v0) : ∀ h, Wd G (adr, Sc, (n, P, F), mu, g) h → Wd G (adr, Sc, (n, P, su F 8 i v0), mu, g) (hu h (adr 14) (aI G 8 (upd (F 8) i v))) := by subst e; exact pm_8
theorem pme_9 {i : Nat} {v v0 : Int32} (e : v = v0) : ∀ h, Wd G (adr, Sc, (n, P, F), mu, g) h → Wd G (adr, Sc, (n, P, su F 9 i v0), mu, g) (hu h (adr 15) (aI G 8 (upd (F 9) i v))) := by subst e; exact pm_9
theorem pme_10 {i : Nat} {v v0 : Int32} (e : v = v0) : ∀ h, Wd G (adr, Sc, (n, P, F), mu, g) h → Wd G (adr, Sc, (n, P, su F 10 i v0), mu, g) (hu h (adr 16) (aI G 8 (upd (F 10) i v))) := by subst e; exact pm_10
theorem pme_11 {i : Nat} {v v0 : Int32} (e : v = v0) : ∀ h, Wd G (adr, Sc, (n, P, F), mu, g) h → Wd G (adr, Sc, (n, P, su F 11 i v0), mu, g) (hu h (adr 17) (aI G 8 (upd (F 11) i v))) := by subst e; exact pm_11
theorem pme_12 {i : Nat} {v v0 : Int32} (e : v = v0) : ∀ h, Wd G (adr, Sc, (n, P, F), mu, g) h → Wd G (adr, Sc, (n, P, su F 12 i v0), mu, g) (hu h (adr 18) (aI G 8 (upd (F 12) i v))) := by subst e; exact pm_12
theorem pme_13 {i : Nat} {v v0 : Int32} (e : v = v0) : ∀ h, Wd G (adr, Sc, (n, P, F), mu, g) h → Wd G (adr, Sc, (n, P, su F 13 i v0), mu, g) (hu h (adr 19) (aI G 64 (upd (F 13) i v))) := by subst e; exact pm_13
theorem pme_14 {i : Nat} {v v0 : Int32} (e : v = v0) : ∀ h, Wd G (adr, Sc, (n, P, F), mu, g) h → Wd G (adr, Sc, (n, P, su F 14 i v0), mu, g) (hu h (adr 20) (aI G 3 (upd (F 14) i v))) := by subst e; exact pm_14
theorem pme_15 {i : Nat} {v v0 : Int32} (e : v = v0) : ∀ h, Wd G (adr, Sc, (n, P, F), mu, g) h → Wd G (adr, Sc, (n, P, su F 15 i v0), mu, g) (hu h (adr 21) (aI G 5 (upd (F 15) i v))) := by subst e; exact pm_15
set_option maxHeartbeats 4000000 in
set_option maxRecDepth 100000 in
theorem mX2_thrown (hl : l.stackTraces = false)   : ∀ h, Wd G (adr, Sc, (n, P, F), mu, g) h → CN l yX2_thrown cX2_thrown 1 (some .int) 0 0 0 [.ref (adr 5)] G h (fun v h1 => v = some (.int (mu 0 0)) ∧ Wd G (adr, Sc, (n, P, F), mu, g) h1) := by
  intro h0 hwd
  refine CN.of hl (by decide +kernel) rfl (Nat.le_of_ble_eq_true rfl) (fun K sz hKl hin C => ?_)
  have C : CX K G (AH h0 sz) RX2 cX2_thrown 1 (some .int) (rmD 0 0 0) [] := C
  subst hKl
  refine WR.imp (P' := Wd G (adr, Sc, (n, P, F), mu, g)) (fun h e => e ▸ hwd) ?_
  show WR K G _ _ _ [some (.ref (adr 5))] 0 0 0 []
  refine R_aload_n (pc := 0) C dX2_thrown_0 rfl ?_
  refine R_getf (pc := 1) C dX2_thrown_1 (i := 0) (wm0) rfl inlX2 (by decide) k_17_18 rfl ?_
  exact R_iret (pc := 4) C dX2_thrown_4 rfl (Nat.le_of_ble_eq_true rfl) (Nat.le_of_ble_eq_true rfl) (fun h hh => ⟨rfl, hh⟩)
set_option maxHeartbeats 4000000 in
set_option maxRecDepth 100000 in
theorem mX2_refuses (hl : l.stackTraces = false) {x : Int32}  : ∀ h, Wd G (adr, Sc, (n, P, F), mu, g) h → CN l yX2_refuses cX2_refuses 2 (some .int) 0 0 0 [.ref (adr 5), .int x] G h (fun v h1 => v = some (.int 0) ∧ Wd G (adr, Sc, (n, P, F), su mu 0 0 x, g) h1) := by
  intro h0 hwd
  refine CN.of hl (by decide +kernel) rfl (Nat.le_of_ble_eq_true rfl) (fun K sz hKl hin C => ?_)
  have C : CX K G (AH h0 sz) RX2 cX2_refuses 2 (some .int) (rmD 0 0 0) [] := C
  subst hKl
  refine WR.imp (P' := Wd G (adr, Sc, (n, P, F), mu, g)) (fun h e => e ▸ hwd) ?_
  show WR K G _ _ _ [some (.ref (adr 5)), some (.int x)] 0 0 0 []
  refine R_aload_n (pc := 0) C dX2_refuses_0 rfl ?_
  refine R_iload_n (pc := 1) C dX2_refuses_1 rfl ?_
  refine R_putf (pc := 2) C dX2_refuses_2 (i := 0) (wm0) rfl inlX2 tyX2_ok nmX2 (by decide) k_17_18 rfl rfl rfl (Nat.le_of_ble_eq_true rfl) (pm_thr) ?_
  refine R_iconst (pc := 5) C dX2_refuses_5 (v := 0) (by decide) ?_
  exact R_iret (pc := 6) C dX2_refuses_6 rfl (Nat.le_of_ble_eq_true rfl) (Nat.le_of_ble_eq_true rfl) (fun h hh => ⟨rfl, hh⟩)
set_option maxHeartbeats 4000000 in
set_option maxRecDepth 100000 in
theorem mX2_in (hl : l.stackTraces = false) {x a b : Int32}  : ∀ h, CN l yX2_in cX2_in 3 (some .boolean) 0 0 0 [.int x, .int a, .int b] G h (fun v h1 => v = some (.int (if qR x a b = true then 1 else 0)) ∧ h1 = h) := by
  intro h0
  refine CN.of hl (by decide +kernel) rfl (Nat.le_of_ble_eq_true rfl) (fun K sz hKl hin C => ?_)
  have C : CX K G (AH h0 sz) RX2 cX2_in 3 (some .boolean) (rmD 0 0 0) [] := C
  subst hKl
  show WR K G _ _ _ [some (.int x), some (.int a), some (.int b)] 0 0 0 []
  refine R_iload_n (pc := 0) C dX2_in_0 rfl ?_
  refine R_iload_n (pc := 1) C dX2_in_1 rfl ?_
  refine R_icmp_lt (pc := 2) C dX2_in_2 (tgt := 14) (by decide) (fun c2 => ?_) (fun c2 => ?_)
  · refine R_iconst (pc := 14) C dX2_in_14 (v := 0) (by decide) ?_
    exact R_zret (pc := 15) C dX2_in_15 rfl rfl (Nat.le_of_ble_eq_true rfl) (Nat.le_of_ble_eq_true rfl) (fun h hh => ⟨by rw [qR_f (fun q => q.1 c2)]; rfl, hh.symm⟩)
  · refine R_iload_n (pc := 5) C dX2_in_5 rfl ?_
    refine R_iload_n (pc := 6) C dX2_in_6 rfl ?_
    refine R_icmp_gt (pc := 7) C dX2_in_7 (tgt := 14) (by decide) (fun c7 => ?_) (fun c7 => ?_)
    · refine R_iconst (pc := 14) C dX2_in_14 (v := 0) (by decide) ?_
      exact R_zret (pc := 15) C dX2_in_15 rfl rfl (Nat.le_of_ble_eq_true rfl) (Nat.le_of_ble_eq_true rfl) (fun h hh => ⟨by rw [qR_f (fun q => absurd q.2 (Int32.not_le.mpr c7))]; rfl, hh.symm⟩)
    · refine R_iconst (pc := 10) C dX2_in_10 (v := 1) (by decide) ?_
      refine R_goto (pc := 11) C dX2_in_11 (tgt := 15) (by decide) ?_
      exact R_zret (pc := 15) C dX2_in_15 rfl rfl (Nat.le_of_ble_eq_true rfl) (Nat.le_of_ble_eq_true rfl) (fun h hh => ⟨by rw [qR_t ⟨c2, Int32.not_lt.mp c7⟩]; rfl, hh.symm⟩)
set_option maxHeartbeats 4000000 in
set_option maxRecDepth 100000 in
theorem mX2_isWell (hl : l.stackTraces = false) {x : Int32} (hn : n ≤ 8) : ∀ h, Wd G (adr, Sc, (n, P, F), mu, g) h → CN l yX2_isWell cX2_isWell 2 (some .boolean) 1 0 0 [.ref (adr 5), .int x] G h (fun v h1 => v = some (.int (if qW n x = true then 1 else 0)) ∧ Wd G (adr, Sc, (n, P, F), mu, g) h1) := by
  intro h0 hwd
  refine CN.of hl (by decide +kernel) rfl (Nat.le_of_ble_eq_true rfl) (fun K sz hKl hin C => ?_)
  have C : CX K G (AH h0 sz) RX2 cX2_isWell 2 (some .boolean) (rmD 1 0 0) [] := C
  subst hKl
  refine WR.imp (P' := Wd G (adr, Sc, (n, P, F), mu, g)) (fun h e => e ▸ hwd) ?_
  show WR K G _ _ _ [some (.ref (adr 5)), some (.int x)] 0 0 0 []
  refine R_iload_n (pc := 0) C dX2_isWell_0 rfl ?_
  refine R_iconst (pc := 1) C dX2_isWell_1 (v := 0) (by decide) ?_
  refine R_aload_n (pc := 2) C dX2_isWell_2 rfl ?_
  refine R_getf (pc := 3) C dX2_isWell_3 (i := 1) (wm0) rfl inlX2 (by decide) k_17_19 rfl ?_
  refine R_iconst (pc := 6) C dX2_isWell_6 (v := 1) (by decide) ?_
  refine R_isub (pc := 7) C dX2_isWell_7 ?_
  refine R_callSN (pc := 8) C dX2_isWell_8 (vs := [_, _, _]) (fun h hh => mX2_in hl h) ⟨k_17_20, k_17_21, k_1_5, k_17_22⟩ (sgn (nv := 3) rfl ⟨by decide +kernel, by decide +kernel, by decide +kernel⟩) ⟨⟨Nat.le_of_ble_eq_true rfl, Nat.le_of_ble_eq_true rfl⟩, ⟨Nat.le_of_ble_eq_true rfl, Nat.le_of_ble_eq_true rfl⟩, Nat.le_of_ble_eq_true rfl⟩ rfl rfl (fun h9 hh9 v9 => ?_)
  refine WR.pr (fun e9 => ?_)
  subst e9
  refine WR.imp (P' := Wd G (adr, Sc, (n, P, F), mu, g)) (fun h1 e1 => e1 ▸ hh9) ?_
  show WR K G _ _ _ _ _ _ _ (.int _ :: _)
  rw [well_in hn]
  exact R_zret (pc := 11) C dX2_isWell_11 rfl (by cases qW n x <;> rfl) (Nat.le_of_ble_eq_true rfl) (Nat.le_of_ble_eq_true rfl) (fun h hh => ⟨rfl, hh⟩)
set_option maxHeartbeats 4000000 in
set_option maxRecDepth 100000 in
theorem mX2_isAsked (hl : l.stackTraces = false) {x : Int32} (hn : n ≤ 8) : ∀ h, Wd G (adr, Sc, (n, P, F), mu, g) h → CN l yX2_isAsked cX2_isAsked 2 (some .boolean) 2 0 0 [.ref (adr 5), .int x] G h (fun v h1 => v = some (.int (if qW n x = true then 1 else 0)) ∧ Wd G (adr, Sc, (n, P, F), su mu 0 0 (kAsk n x), g) h1) := by
  intro h0 hwd
  refine CN.of hl (by decide +kernel) rfl (Nat.le_of_ble_eq_true rfl) (fun K sz hKl hin C => ?_)
  have C : CX K G (AH h0 sz) RX2 cX2_isAsked 2 (some .boolean) (rmD 2 0 0) [] := C
  subst hKl
  refine WR.imp (P' := Wd G (adr, Sc, (n, P, F), mu, g)) (fun h e => e ▸ hwd) ?_
  show WR K G _ _ _ [some (.ref (adr 5)), some (.int x)] 0 0 0 []
  refine R_aload_n (pc := 0) C dX2_isAsked_0 rfl ?_
  refine R_aload_n (pc := 1) C dX2_isAsked_1 rfl ?_
  refine R_iload_n (pc := 2) C dX2_isAsked_2 rfl ?_
  refine R_callVN (pc := 3) C dX2_isAsked_3 (vs := [_]) (fun h hh => mX2_isWell hl hn h hh) (isOb_of (wm0) rfl) ⟨k_19_17, k_19_18, k_19_19, k_1_5, k_19_20⟩ (sgn (nv := 1) rfl ⟨by decide +kernel, by decide +kernel, by decide +kernel⟩) ⟨⟨Nat.le_of_ble_eq_true rfl, Nat.le_of_ble_eq_true rfl⟩, ⟨Nat.le_of_ble_eq_true rfl, Nat.le_of_ble_eq_true rfl⟩, Nat.le_of_ble_eq_true rfl⟩ rfl rfl (fun h9 hh9 v9 => ?_)
  refine WR.pr (fun e9 => ?_)
  subst e9
  show WR K G _ _ _ _ _ _ _ (.int _ :: _)
  refine R_if_eq (pc := 6) C dX2_isAsked_6 (tgt := 13) (by decide) (fun c6 => ?_) (fun c6 => ?_)
  · refine R_iconst (pc := 13) C dX2_isAsked_13 (v := 1) (by decide) ?_
    refine R_putf (pc := 14) C dX2_isAsked_14 (i := 0) (wm0) rfl inlX2 tyX2_ok nmX2 (by decide) k_17_18 rfl rfl rfl (Nat.le_of_ble_eq_true rfl) (pm_thr) ?_
    refine R_aload_n (pc := 17) C dX2_isAsked_17 rfl ?_
    have hk : kAsk n x = 1 := by unfold kAsk; rw [b01 c6]; rfl
    refine R_getf (pc := 18) C dX2_isAsked_18 (i := 0) (wm0) rfl inlX2 (by decide) k_17_18 rfl ?_
    rw [su_s]
    refine R_if_ne (pc := 21) C dX2_isAsked_21 (tgt := 28) (by decide) (fun c21 => ?_) (fun c21 => absurd c21 (by decide))
    refine R_iconst (pc := 28) C dX2_isAsked_28 (v := 0) (by decide) ?_
    exact R_zret (pc := 29) C dX2_isAsked_29 rfl rfl (Nat.le_of_ble_eq_true rfl) (Nat.le_of_ble_eq_true rfl) (fun h hh => ⟨by rw [b01 c6]; rfl, by rw [hk]; exact hh⟩)
  · refine R_iconst (pc := 9) C dX2_isAsked_9 (v := 0) (by decide) ?_
    refine R_goto (pc := 10) C dX2_isAsked_10 (tgt := 14) (by decide) ?_
    refine R_putf (pc := 14) C dX2_isAsked_14 (i := 0) (wm0) rfl inlX2 tyX2_ok nmX2 (by decide) k_17_18 rfl rfl rfl (Nat.le_of_ble_eq_true rfl) (pm_thr) ?_
    refine R_aload_n (pc := 17) C dX2_isAsked_17 rfl ?_
    have hk : kAsk n x = 0 := by unfold kAsk; rw [b01' c6]; rfl
    refine R_getf (pc := 18) C dX2_isAsked_18 (i := 0) (wm0) rfl inlX2 (by decide) k_17_18 rfl ?_
    rw [su_s]
    refine R_if_ne (pc := 21) C dX2_isAsked_21 (tgt := 28) (by decide) (fun c21 => absurd rfl c21) (fun c21 => ?_)
    refine R_iconst (pc := 24) C dX2_isAsked_24 (v := 1) (by decide) ?_
    refine R_goto (pc := 25) C dX2_isAsked_25 (tgt := 29) (by decide) ?_
    exact R_zret (pc := 29) C dX2_isAsked_29 rfl rfl (Nat.le_of_ble_eq_true rfl) (Nat.le_of_ble_eq_true rfl) (fun h hh => ⟨by rw [b01' c6]; rfl, by rw [hk]; exact hh⟩)
set_option maxHeartbeats 4000000 in
set_option maxRecDepth 100000 in
theorem mX2_level (hl : l.stackTraces = false) {x : Int32} (hn : n ≤ 8) : ∀ h, Wd G (adr, Sc, (n, P, F), mu, g) h → CN l yX2_level cX2_level 2 (some .int) 3 0 0 [.ref (adr 5), .int x] G h (fun v h1 => mPost (kAsk n x) (F 2 (ix x)) (fun m9 => Wd G (adr, Sc, (n, P, F), m9, g)) (fun m9 => Wd G (adr, Sc, (n, P, F), m9, g)) v h1) := by
  intro h0 hwd
  refine CN.of hl (by decide +kernel) rfl (Nat.le_of_ble_eq_true rfl) (fun K sz hKl hin C => ?_)
  have C : CX K G (AH h0 sz) RX2 cX2_level 2 (some .int) (rmD 3 0 0) [] := C
  subst hKl
  refine WR.imp (P' := Wd G (adr, Sc, (n, P, F), mu, g)) (fun h e => e ▸ hwd) ?_
  show WR K G _ _ _ [some (.ref (adr 5)), some (.int x)] 0 0 0 []
  refine R_aload_n (pc := 0) C dX2_level_0 rfl ?_
  refine R_iload_n (pc := 1) C dX2_level_1 rfl ?_
  refine R_callVN (pc := 2) C dX2_level_2 (vs := [_]) (fun h hh => mX2_isAsked hl hn h hh) (isOb_of (wm0) rfl) ⟨k_19_13, k_19_14, k_19_15, k_1_5, k_19_16⟩ (sgn (nv := 1) rfl ⟨by decide +kernel, by decide +kernel, by decide +kernel⟩) ⟨⟨Nat.le_of_ble_eq_true rfl, Nat.le_of_ble_eq_true rfl⟩, ⟨Nat.le_of_ble_eq_true rfl, Nat.le_of_ble_eq_true rfl⟩, Nat.le_of_ble_eq_true rfl⟩ rfl rfl (fun h9 hh9 v9 => ?_)
  refine WR.pr (fun e9 => ?_)
  subst e9
  show WR K G _ _ _ _ _ _ _ (.int _ :: _)
  refine R_if_eq (pc := 5) C dX2_level_5 (tgt := 17) (by decide) (fun c5 => ?_) (fun c5 => ?_)
  · refine R_iconst (pc := 17) C dX2_level_17 (v := 0) (by decide) ?_
    have hk : kAsk n x = 1 := by simp [kAsk, b01 c5]
    have hq : kAsk n x = 1 := by simp [kAsk, b01 c5]
    exact R_iret (pc := 18) C dX2_level_18 rfl (Nat.le_of_ble_eq_true rfl) (Nat.le_of_ble_eq_true rfl) (fun h hh => Or.inr ⟨by rw [hk]; decide, ⟨_, rfl⟩, _, su_s.trans (hq.trans hk.symm), hh⟩)
  · obtain ⟨i, hi, rfl⟩ := qW_e hn (b01' c5)
    refine R_aload_n (pc := 8) C dX2_level_8 rfl ?_
    refine R_getf (pc := 9) C dX2_level_9 (i := 4) (wm0) rfl inlX2 (by decide) k_2_20 rfl ?_
    refine R_iload_n (pc := 12) C dX2_level_12 rfl ?_
    refine R_iald (pc := 13) C dX2_level_13 (wm_2) (rfl) (by omega) (by decide) rfl ?_
    refine R_goto (pc := 14) C dX2_level_14 (tgt := 18) (by decide) ?_
    have hk : kAsk n (nI i) = 0 := by simp [kAsk, qW_t hn hi]
    have hq : kAsk n (nI i) = 0 := by simp [kAsk, qW_t hn hi]
    exact R_iret (pc := 18) C dX2_level_18 rfl (Nat.le_of_ble_eq_true rfl) (Nat.le_of_ble_eq_true rfl) (fun h hh => Or.inl ⟨hk, by rw [ix_nI (by omega)], _, su_s.trans hq, hh⟩)
set_option maxHeartbeats 4000000 in
set_option maxRecDepth 100000 in
theorem mX2_drew (hl : l.stackTraces = false) {x : Int32} (hn : n ≤ 8) : ∀ h, Wd G (adr, Sc, (n, P, F), mu, g) h → CN l yX2_drew cX2_drew 2 (some .int) 3 0 0 [.ref (adr 5), .int x] G h (fun v h1 => mPost (kAsk n x) (F 11 (ix x)) (fun m9 => Wd G (adr, Sc, (n, P, F), m9, g)) (fun m9 => Wd G (adr, Sc, (n, P, F), m9, g)) v h1) := by
  intro h0 hwd
  refine CN.of hl (by decide +kernel) rfl (Nat.le_of_ble_eq_true rfl) (fun K sz hKl hin C => ?_)
  have C : CX K G (AH h0 sz) RX2 cX2_drew 2 (some .int) (rmD 3 0 0) [] := C
  subst hKl
  refine WR.imp (P' := Wd G (adr, Sc, (n, P, F), mu, g)) (fun h e => e ▸ hwd) ?_
  show WR K G _ _ _ [some (.ref (adr 5)), some (.int x)] 0 0 0 []
  refine R_aload_n (pc := 0) C dX2_drew_0 rfl ?_
  refine R_iload_n (pc := 1) C dX2_drew_1 rfl ?_
  refine R_callVN (pc := 2) C dX2_drew_2 (vs := [_]) (fun h hh => mX2_isAsked hl hn h hh) (isOb_of (wm0) rfl) ⟨k_19_13, k_19_14, k_19_15, k_1_5, k_19_16⟩ (sgn (nv := 1) rfl ⟨by decide +kernel, by decide +kernel, by decide +kernel⟩) ⟨⟨Nat.le_of_ble_eq_true rfl, Nat.le_of_ble_eq_true rfl⟩, ⟨Nat.le_of_ble_eq_true rfl, Nat.le_of_ble_eq_true rfl⟩, Nat.le_of_ble_eq_true rfl⟩ rfl rfl (fun h9 hh9 v9 => ?_)
  refine WR.pr (fun e9 => ?_)
  subst e9
  show WR K G _ _ _ _ _ _ _ (.int _ :: _)
  refine R_if_eq (pc := 5) C dX2_drew_5 (tgt := 17) (by decide) (fun c5 => ?_) (fun c5 => ?_)
  · refine R_iconst (pc := 17) C dX2_drew_17 (v := 0) (by decide) ?_
    have hk : kAsk n x = 1 := by simp [kAsk, b01 c5]
    have hq : kAsk n x = 1 := by simp [kAsk, b01 c5]
    exact R_iret (pc := 18) C dX2_drew_18 rfl (Nat.le_of_ble_eq_true rfl) (Nat.le_of_ble_eq_true rfl) (fun h hh => Or.inr ⟨by rw [hk]; decide, ⟨_, rfl⟩, _, su_s.trans (hq.trans hk.symm), hh⟩)
  · obtain ⟨i, hi, rfl⟩ := qW_e hn (b01' c5)
    refine R_aload_n (pc := 8) C dX2_drew_8 rfl ?_
    refine R_getf (pc := 9) C dX2_drew_9 (i := 13) (wm0) rfl inlX2 (by decide) k_3_6 rfl ?_
    refine R_iload_n (pc := 12) C dX2_drew_12 rfl ?_
    refine R_iald (pc := 13) C dX2_drew_13 (wm_11) (rfl) (by omega) (by decide) rfl ?_
    refine R_goto (pc := 14) C dX2_drew_14 (tgt := 18) (by decide) ?_
    have hk : kAsk n (nI i) = 0 := by simp [kAsk, qW_t hn hi]
    have hq : kAsk n (nI i) = 0 := by simp [kAsk, qW_t hn hi]
    exact R_iret (pc := 18) C dX2_drew_18 rfl (Nat.le_of_ble_eq_true rfl) (Nat.le_of_ble_eq_true rfl) (fun h hh => Or.inl ⟨hk, by rw [ix_nI (by omega)], _, su_s.trans hq, hh⟩)
set_option maxHeartbeats 4000000 in
set_option maxRecDepth 100000 in
theorem mX2_told (hl : l.stackTraces = false) {x : Int32} (hn : n ≤ 8) : ∀ h, Wd G (adr, Sc, (n, P, F), mu, g) h → CN l yX2_told cX2_told 2 (some .int) 3 0 0 [.ref (adr 5), .int x] G h (fun v h1 => mPost (kAsk n x) (F 12 (ix x)) (fun m9 => Wd G (adr, Sc, (n, P, F), m9, g)) (fun m9 => Wd G (adr, Sc, (n, P, F), m9, g)) v h1) := by
  intro h0 hwd
  refine CN.of hl (by decide +kernel) rfl (Nat.le_of_ble_eq_true rfl) (fun K sz hKl hin C => ?_)
  have C : CX K G (AH h0 sz) RX2 cX2_told 2 (some .int) (rmD 3 0 0) [] := C
  subst hKl
  refine WR.imp (P' := Wd G (adr, Sc, (n, P, F), mu, g)) (fun h e => e ▸ hwd) ?_
  show WR K G _ _ _ [some (.ref (adr 5)), some (.int x)] 0 0 0 []
  refine R_aload_n (pc := 0) C dX2_told_0 rfl ?_
  refine R_iload_n (pc := 1) C dX2_told_1 rfl ?_
  refine R_callVN (pc := 2) C dX2_told_2 (vs := [_]) (fun h hh => mX2_isAsked hl hn h hh) (isOb_of (wm0) rfl) ⟨k_19_13, k_19_14, k_19_15, k_1_5, k_19_16⟩ (sgn (nv := 1) rfl ⟨by decide +kernel, by decide +kernel, by decide +kernel⟩) ⟨⟨Nat.le_of_ble_eq_true rfl, Nat.le_of_ble_eq_true rfl⟩, ⟨Nat.le_of_ble_eq_true rfl, Nat.le_of_ble_eq_true rfl⟩, Nat.le_of_ble_eq_true rfl⟩ rfl rfl (fun h9 hh9 v9 => ?_)
  refine WR.pr (fun e9 => ?_)
  subst e9
  show WR K G _ _ _ _ _ _ _ (.int _ :: _)
  refine R_if_eq (pc := 5) C dX2_told_5 (tgt := 17) (by decide) (fun c5 => ?_) (fun c5 => ?_)
  · refine R_iconst (pc := 17) C dX2_told_17 (v := 0) (by decide) ?_
    have hk : kAsk n x = 1 := by simp [kAsk, b01 c5]
    have hq : kAsk n x = 1 := by simp [kAsk, b01 c5]
    exact R_iret (pc := 18) C dX2_told_18 rfl (Nat.le_of_ble_eq_true rfl) (Nat.le_of_ble_eq_true rfl) (fun h hh => Or.inr ⟨by rw [hk]; decide, ⟨_, rfl⟩, _, su_s.trans (hq.trans hk.symm), hh⟩)
  · obtain ⟨i, hi, rfl⟩ := qW_e hn (b01' c5)
    refine R_aload_n (pc := 8) C dX2_told_8 rfl ?_
    refine R_getf (pc := 9) C dX2_told_9 (i := 14) (wm0) rfl inlX2 (by decide) k_3_7 rfl ?_
    refine R_iload_n (pc := 12) C dX2_told_12 rfl ?_
    refine R_iald (pc := 13) C dX2_told_13 (wm_12) (rfl) (by omega) (by decide) rfl ?_
    refine R_goto (pc := 14) C dX2_told_14 (tgt := 18) (by decide) ?_
    have hk : kAsk n (nI i) = 0 := by simp [kAsk, qW_t hn hi]
    have hq : kAsk n (nI i) = 0 := by simp [kAsk, qW_t hn hi]
    exact R_iret (pc := 18) C dX2_told_18 rfl (Nat.le_of_ble_eq_true rfl) (Nat.le_of_ble_eq_true rfl) (fun h hh => Or.inl ⟨hk, by rw [ix_nI (by omega)], _, su_s.trans hq, hh⟩)
set_option maxHeartbeats 4000000 in
set_option maxRecDepth 100000 in
theorem mX2_bank (hl : l.stackTraces = false) {x : Int32} (hn : n ≤ 8) : ∀ h, Wd G (adr, Sc, (n, P, F), mu, g) h → CN l yX2_bank cX2_bank 2 (some .int) 3 0 0 [.ref (adr 5), .int x] G h (fun v h1 => mPost (kAsk n x) (F 9 (ix x)) (fun m9 => Wd G (adr, Sc, (n, P, F), m9, g)) (fun m9 => Wd G (adr, Sc, (n, P, F), m9, g)) v h1) := by
  intro h0 hwd
  refine CN.of hl (by decide +kernel) rfl (Nat.le_of_ble_eq_true rfl) (fun K sz hKl hin C => ?_)
  have C : CX K G (AH h0 sz) RX2 cX2_bank 2 (some .int) (rmD 3 0 0) [] := C
  subst hKl
  refine WR.imp (P' := Wd G (adr, Sc, (n, P, F), mu, g)) (fun h e => e ▸ hwd) ?_
  show WR K G _ _ _ [some (.ref (adr 5)), some (.int x)] 0 0 0 []
  refine R_aload_n (pc := 0) C dX2_bank_0 rfl ?_
  refine R_iload_n (pc := 1) C dX2_bank_1 rfl ?_
  refine R_callVN (pc := 2) C dX2_bank_2 (vs := [_]) (fun h hh => mX2_isAsked hl hn h hh) (isOb_of (wm0) rfl) ⟨k_19_13, k_19_14, k_19_15, k_1_5, k_19_16⟩ (sgn (nv := 1) rfl ⟨by decide +kernel, by decide +kernel, by decide +kernel⟩) ⟨⟨Nat.le_of_ble_eq_true rfl, Nat.le_of_ble_eq_true rfl⟩, ⟨Nat.le_of_ble_eq_true rfl, Nat.le_of_ble_eq_true rfl⟩, Nat.le_of_ble_eq_true rfl⟩ rfl rfl (fun h9 hh9 v9 => ?_)
  refine WR.pr (fun e9 => ?_)
  subst e9
  show WR K G _ _ _ _ _ _ _ (.int _ :: _)
  refine R_if_eq (pc := 5) C dX2_bank_5 (tgt := 17) (by decide) (fun c5 => ?_) (fun c5 => ?_)
  · refine R_iconst (pc := 17) C dX2_bank_17 (v := 0) (by decide) ?_
    have hk : kAsk n x = 1 := by simp [kAsk, b01 c5]
    have hq : kAsk n x = 1 := by simp [kAsk, b01 c5]
    exact R_iret (pc := 18) C dX2_bank_18 rfl (Nat.le_of_ble_eq_true rfl) (Nat.le_of_ble_eq_true rfl) (fun h hh => Or.inr ⟨by rw [hk]; decide, ⟨_, rfl⟩, _, su_s.trans (hq.trans hk.symm), hh⟩)
  · obtain ⟨i, hi, rfl⟩ := qW_e hn (b01' c5)
    refine R_aload_n (pc := 8) C dX2_bank_8 rfl ?_
    refine R_getf (pc := 9) C dX2_bank_9 (i := 11) (wm0) rfl inlX2 (by decide) k_3_4 rfl ?_
    refine R_iload_n (pc := 12) C dX2_bank_12 rfl ?_
    refine R_iald (pc := 13) C dX2_bank_13 (wm_9) (rfl) (by omega) (by decide) rfl ?_
    refine R_goto (pc := 14) C dX2_bank_14 (tgt := 18) (by decide) ?_
    have hk : kAsk n (nI i) = 0 := by simp [kAsk, qW_t hn hi]
    have hq : kAsk n (nI i) = 0 := by simp [kAsk, qW_t hn hi]
    exact R_iret (pc := 18) C dX2_bank_18 rfl (Nat.le_of_ble_eq_true rfl) (Nat.le_of_ble_eq_true rfl) (fun h hh => Or.inl ⟨hk, by rw [ix_nI (by omega)], _, su_s.trans hq, hh⟩)
set_option maxHeartbeats 4000000 in
set_option maxRecDepth 100000 in
theorem mX2_fines (hl : l.stackTraces = false) {x : Int32} (hn : n ≤ 8) : ∀ h, Wd G (adr, Sc, (n, P, F), mu, g) h → CN l yX2_fines cX2_fines 2 (some .int) 3 0 0 [.ref (adr 5), .int x] G h (fun v h1 => mPost (kAsk n x) (F 10 (ix x)) (fun m9 => Wd G (adr, Sc, (n, P, F), m9, g)) (fun m9 => Wd G (adr, Sc, (n, P, F), m9, g)) v h1) := by
  intro h0 hwd
  refine CN.of hl (by decide +kernel) rfl (Nat.le_of_ble_eq_true rfl) (fun K sz hKl hin C => ?_)
  have C : CX K G (AH h0 sz) RX2 cX2_fines 2 (some .int) (rmD 3 0 0) [] := C
  subst hKl
  refine WR.imp (P' := Wd G (adr, Sc, (n, P, F), mu, g)) (fun h e => e ▸ hwd) ?_
  show WR K G _ _ _ [some (.ref (adr 5)), some (.int x)] 0 0 0 []
  refine R_aload_n (pc := 0) C dX2_fines_0 rfl ?_
  refine R_iload_n (pc := 1) C dX2_fines_1 rfl ?_
  refine R_callVN (pc := 2) C dX2_fines_2 (vs := [_]) (fun h hh => mX2_isAsked hl hn h hh) (isOb_of (wm0) rfl) ⟨k_19_13, k_19_14, k_19_15, k_1_5, k_19_16⟩ (sgn (nv := 1) rfl ⟨by decide +kernel, by decide +kernel, by decide +kernel⟩) ⟨⟨Nat.le_of_ble_eq_true rfl, Nat.le_of_ble_eq_true rfl⟩, ⟨Nat.le_of_ble_eq_true rfl, Nat.le_of_ble_eq_true rfl⟩, Nat.le_of_ble_eq_true rfl⟩ rfl rfl (fun h9 hh9 v9 => ?_)
  refine WR.pr (fun e9 => ?_)
  subst e9
  show WR K G _ _ _ _ _ _ _ (.int _ :: _)
  refine R_if_eq (pc := 5) C dX2_fines_5 (tgt := 17) (by decide) (fun c5 => ?_) (fun c5 => ?_)
  · refine R_iconst (pc := 17) C dX2_fines_17 (v := 0) (by decide) ?_
    have hk : kAsk n x = 1 := by simp [kAsk, b01 c5]
    have hq : kAsk n x = 1 := by simp [kAsk, b01 c5]
    exact R_iret (pc := 18) C dX2_fines_18 rfl (Nat.le_of_ble_eq_true rfl) (Nat.le_of_ble_eq_true rfl) (fun h hh => Or.inr ⟨by rw [hk]; decide, ⟨_, rfl⟩, _, su_s.trans (hq.trans hk.symm), hh⟩)
  · obtain ⟨i, hi, rfl⟩ := qW_e hn (b01' c5)
    refine R_aload_n (pc := 8) C dX2_fines_8 rfl ?_
    refine R_getf (pc := 9) C dX2_fines_9 (i := 12) (wm0) rfl inlX2 (by decide) k_3_5 rfl ?_
    refine R_iload_n (pc := 12) C dX2_fines_12 rfl ?_
    refine R_iald (pc := 13) C dX2_fines_13 (wm_10) (rfl) (by omega) (by decide) rfl ?_
    refine R_goto (pc := 14) C dX2_fines_14 (tgt := 18) (by decide) ?_
    have hk : kAsk n (nI i) = 0 := by simp [kAsk, qW_t hn hi]
    have hq : kAsk n (nI i) = 0 := by simp [kAsk, qW_t hn hi]
    exact R_iret (pc := 18) C dX2_fines_18 rfl (Nat.le_of_ble_eq_true rfl) (Nat.le_of_ble_eq_true rfl) (fun h hh => Or.inl ⟨hk, by rw [ix_nI (by omega)], _, su_s.trans hq, hh⟩)
set_option maxHeartbeats 4000000 in
set_option maxRecDepth 100000 in
theorem mX2_plan (hl : l.stackTraces = false) {x a : Int32} (hn : n ≤ 8) : ∀ h, Wd G (adr, Sc, (n, P, F), mu, g) h → CN l yX2_plan cX2_plan 4 (some .int) 3 0 0 [.ref (adr 5), .int x, .int a] G h (fun v h1 => mPost (kPlan n x a 2000) (F 6 (ix x)) (fun m9 => Wd G (adr, Sc, (n, P, F), m9, g)) (fun m9 => Wd G (adr, Sc, (n, P, su F 6 (ix x) a), m9, g)) v h1) := by
  intro h0 hwd
  refine CN.of hl (by decide +kernel) rfl (Nat.le_of_ble_eq_true rfl) (fun K sz hKl hin C => ?_)
  have C : CX K G (AH h0 sz) RX2 cX2_plan 4 (some .int) (rmD 3 0 0) [] := C
  subst hKl
  refine WR.imp (P' := Wd G (adr, Sc, (n, P, F), mu, g)) (fun h e => e ▸ hwd) ?_
  show WR K G _ _ _ [some (.ref (adr 5)), some (.int x), some (.int a), none] 0 0 0 []
  refine R_aload_n (pc := 0) C dX2_plan_0 rfl ?_
  refine R_iload_n (pc := 1) C dX2_plan_1 rfl ?_
  refine R_callVN (pc := 2) C dX2_plan_2 (vs := [_]) (fun h hh => mX2_isAsked hl hn h hh) (isOb_of (wm0) rfl) ⟨k_19_13, k_19_14, k_19_15, k_1_5, k_19_16⟩ (sgn (nv := 1) rfl ⟨by decide +kernel, by decide +kernel, by decide +kernel⟩) ⟨⟨Nat.le_of_ble_eq_true rfl, Nat.le_of_ble_eq_true rfl⟩, ⟨Nat.le_of_ble_eq_true rfl, Nat.le_of_ble_eq_true rfl⟩, Nat.le_of_ble_eq_true rfl⟩ rfl rfl (fun h9 hh9 v9 => ?_)
  refine WR.pr (fun e9 => ?_)
  subst e9
  show WR K G _ _ _ _ _ _ _ (.int _ :: _)
  refine R_if_ne (pc := 5) C dX2_plan_5 (tgt := 10) (by decide) (fun c5 => ?_) (fun c5 => ?_)
  · obtain ⟨i, hi, rfl⟩ := qW_e hn (b01' c5)
    refine R_iload_n (pc := 10) C dX2_plan_10 rfl ?_
    refine R_iconst (pc := 11) C dX2_plan_11 (v := 0) (by decide) ?_
    refine R_sipush (pc := 12) C dX2_plan_12 (v := 2000) (by decide) ?_
    refine R_callSN (pc := 15) C dX2_plan_15 (vs := [_, _, _]) (fun h hh => mX2_in hl h) ⟨k_17_20, k_17_21, k_1_5, k_17_22⟩ (sgn (nv := 3) rfl ⟨by decide +kernel, by decide +kernel, by decide +kernel⟩) ⟨⟨Nat.le_of_ble_eq_true rfl, Nat.le_of_ble_eq_true rfl⟩, ⟨Nat.le_of_ble_eq_true rfl, Nat.le_of_ble_eq_true rfl⟩, Nat.le_of_ble_eq_true rfl⟩ rfl rfl (fun h9 hh9 v9 => ?_)
    refine WR.pr (fun e9 => ?_)
    subst e9
    refine WR.imp (P' := Wd G (adr, Sc, (n, P, F), su mu 0 0 (kAsk n (nI i)), g)) (fun h1 e1 => e1 ▸ hh9) ?_
    show WR K G _ _ _ _ _ _ _ (.int _ :: _)
    refine R_if_ne (pc := 18) C dX2_plan_18 (tgt := 27) (by decide) (fun c18 => ?_) (fun c18 => ?_)
    · refine R_aload_n (pc := 27) C dX2_plan_27 rfl ?_
      refine R_getf (pc := 28) C dX2_plan_28 (i := 8) (wm0) rfl inlX2 (by decide) k_3_0 rfl ?_
      refine R_iload_n (pc := 31) C dX2_plan_31 rfl ?_
      refine R_iald (pc := 32) C dX2_plan_32 (wm_6) (rfl) (by omega) (by decide) rfl ?_
      refine R_istore_n (pc := 33) C dX2_plan_33 (Nat.le_of_ble_eq_true rfl) (lv' := [some (.ref _), some (.int _), some (.int _), some (.int _)]) rfl ?_
      refine R_aload_n (pc := 34) C dX2_plan_34 rfl ?_
      refine R_getf (pc := 35) C dX2_plan_35 (i := 8) (wm0) rfl inlX2 (by decide) k_3_0 rfl ?_
      refine R_iload_n (pc := 38) C dX2_plan_38 rfl ?_
      refine R_iload_n (pc := 39) C dX2_plan_39 rfl ?_
      refine R_iast (pc := 40) C dX2_plan_40 (wm_6) (rfl) (by omega) (by decide) (pm_6) ?_
      refine R_iload_n (pc := 41) C dX2_plan_41 rfl ?_
      have hk : kPlan n (nI i) a 2000 = 0 := by simp [kPlan, qW_t hn hi, b01' c18]
      have hq : kAsk n (nI i) = 0 := by simp [kAsk, qW_t hn hi]
      exact R_iret (pc := 42) C dX2_plan_42 rfl (Nat.le_of_ble_eq_true rfl) (Nat.le_of_ble_eq_true rfl) (fun h hh => Or.inl ⟨hk, by rw [ix_nI (by omega)], _, su_s.trans hq, by rw [ix_nI (by omega)]; exact hh⟩)
    · refine R_aload_n (pc := 21) C dX2_plan_21 rfl ?_
      refine R_iconst (pc := 22) C dX2_plan_22 (v := 2) (by decide) ?_
      refine R_callVN (pc := 23) C dX2_plan_23 (vs := [_]) (fun h hh => mX2_refuses hl h hh) (isOb_of (wm0) rfl) ⟨k_17_23, k_18_0, k_18_1, k_1_5, k_18_2⟩ (sgn (nv := 1) rfl ⟨by decide +kernel, by decide +kernel, by decide +kernel⟩) ⟨⟨Nat.le_of_ble_eq_true rfl, Nat.le_of_ble_eq_true rfl⟩, ⟨Nat.le_of_ble_eq_true rfl, Nat.le_of_ble_eq_true rfl⟩, Nat.le_of_ble_eq_true rfl⟩ rfl rfl (fun h9 hh9 v9 => ?_)
      refine WR.pr (fun e9 => ?_)
      subst e9
      show WR K G _ _ _ _ _ _ _ (.int _ :: _)
      have hk : kPlan n (nI i) a 2000 = 2 := by simp [kPlan, qW_t hn hi, b01 c18]
      exact R_iret (pc := 26) C dX2_plan_26 rfl (Nat.le_of_ble_eq_true rfl) (Nat.le_of_ble_eq_true rfl) (fun h hh => Or.inr ⟨by rw [hk]; decide, ⟨_, rfl⟩, _, su_s.trans hk.symm, hh⟩)
  · refine R_iconst (pc := 8) C dX2_plan_8 (v := 0) (by decide) ?_
    have hk : kPlan n x a 2000 = 1 := by simp [kPlan, b01 c5]
    have hq : kAsk n x = 1 := by simp [kAsk, b01 c5]
    exact R_iret (pc := 9) C dX2_plan_9 rfl (Nat.le_of_ble_eq_true rfl) (Nat.le_of_ble_eq_true rfl) (fun h hh => Or.inr ⟨by rw [hk]; decide, ⟨_, rfl⟩, _, su_s.trans (hq.trans hk.symm), hh⟩)
set_option maxHeartbeats 4000000 in
set_option maxRecDepth 100000 in
theorem mX2_power (hl : l.stackTraces = false) {x a : Int32} (hn : n ≤ 8) : ∀ h, Wd G (adr, Sc, (n, P, F), mu, g) h → CN l yX2_power cX2_power 4 (some .int) 3 0 0 [.ref (adr 5), .int x, .int a] G h (fun v h1 => mPost (kPlan n x a 1000) (F 8 (ix x)) (fun m9 => Wd G (adr, Sc, (n, P, F), m9, g)) (fun m9 => Wd G (adr, Sc, (n, P, su F 8 (ix x) a), m9, g)) v h1) := by
  intro h0 hwd
  refine CN.of hl (by decide +kernel) rfl (Nat.le_of_ble_eq_true rfl) (fun K sz hKl hin C => ?_)
  have C : CX K G (AH h0 sz) RX2 cX2_power 4 (some .int) (rmD 3 0 0) [] := C
  subst hKl
  refine WR.imp (P' := Wd G (adr, Sc, (n, P, F), mu, g)) (fun h e => e ▸ hwd) ?_
  show WR K G _ _ _ [some (.ref (adr 5)), some (.int x), some (.int a), none] 0 0 0 []
  refine R_aload_n (pc := 0) C dX2_power_0 rfl ?_
  refine R_iload_n (pc := 1) C dX2_power_1 rfl ?_
  refine R_callVN (pc := 2) C dX2_power_2 (vs := [_]) (fun h hh => mX2_isAsked hl hn h hh) (isOb_of (wm0) rfl) ⟨k_19_13, k_19_14, k_19_15, k_1_5, k_19_16⟩ (sgn (nv := 1) rfl ⟨by decide +kernel, by decide +kernel, by decide +kernel⟩) ⟨⟨Nat.le_of_ble_eq_true rfl, Nat.le_of_ble_eq_true rfl⟩, ⟨Nat.le_of_ble_eq_true rfl, Nat.le_of_ble_eq_true rfl⟩, Nat.le_of_ble_eq_true rfl⟩ rfl rfl (fun h9 hh9 v9 => ?_)
  refine WR.pr (fun e9 => ?_)
  subst e9
  show WR K G _ _ _ _ _ _ _ (.int _ :: _)
  refine R_if_ne (pc := 5) C dX2_power_5 (tgt := 10) (by decide) (fun c5 => ?_) (fun c5 => ?_)
  · obtain ⟨i, hi, rfl⟩ := qW_e hn (b01' c5)
    refine R_iload_n (pc := 10) C dX2_power_10 rfl ?_
    refine R_iconst (pc := 11) C dX2_power_11 (v := 0) (by decide) ?_
    refine R_sipush (pc := 12) C dX2_power_12 (v := 1000) (by decide) ?_
    refine R_callSN (pc := 15) C dX2_power_15 (vs := [_, _, _]) (fun h hh => mX2_in hl h) ⟨k_17_20, k_17_21, k_1_5, k_17_22⟩ (sgn (nv := 3) rfl ⟨by decide +kernel, by decide +kernel, by decide +kernel⟩) ⟨⟨Nat.le_of_ble_eq_true rfl, Nat.le_of_ble_eq_true rfl⟩, ⟨Nat.le_of_ble_eq_true rfl, Nat.le_of_ble_eq_true rfl⟩, Nat.le_of_ble_eq_true rfl⟩ rfl rfl (fun h9 hh9 v9 => ?_)
    refine WR.pr (fun e9 => ?_)
    subst e9
    refine WR.imp (P' := Wd G (adr, Sc, (n, P, F), su mu 0 0 (kAsk n (nI i)), g)) (fun h1 e1 => e1 ▸ hh9) ?_
    show WR K G _ _ _ _ _ _ _ (.int _ :: _)
    refine R_if_ne (pc := 18) C dX2_power_18 (tgt := 27) (by decide) (fun c18 => ?_) (fun c18 => ?_)
    · refine R_aload_n (pc := 27) C dX2_power_27 rfl ?_
      refine R_getf (pc := 28) C dX2_power_28 (i := 10) (wm0) rfl inlX2 (by decide) k_3_3 rfl ?_
      refine R_iload_n (pc := 31) C dX2_power_31 rfl ?_
      refine R_iald (pc := 32) C dX2_power_32 (wm_8) (rfl) (by omega) (by decide) rfl ?_
      refine R_istore_n (pc := 33) C dX2_power_33 (Nat.le_of_ble_eq_true rfl) (lv' := [some (.ref _), some (.int _), some (.int _), some (.int _)]) rfl ?_
      refine R_aload_n (pc := 34) C dX2_power_34 rfl ?_
      refine R_getf (pc := 35) C dX2_power_35 (i := 10) (wm0) rfl inlX2 (by decide) k_3_3 rfl ?_
      refine R_iload_n (pc := 38) C dX2_power_38 rfl ?_
      refine R_iload_n (pc := 39) C dX2_power_39 rfl ?_
      refine R_iast (pc := 40) C dX2_power_40 (wm_8) (rfl) (by omega) (by decide) (pm_8) ?_
      refine R_iload_n (pc := 41) C dX2_power_41 rfl ?_
      have hk : kPlan n (nI i) a 1000 = 0 := by simp [kPlan, qW_t hn hi, b01' c18]
      have hq : kAsk n (nI i) = 0 := by simp [kAsk, qW_t hn hi]
      exact R_iret (pc := 42) C dX2_power_42 rfl (Nat.le_of_ble_eq_true rfl) (Nat.le_of_ble_eq_true rfl) (fun h hh => Or.inl ⟨hk, by rw [ix_nI (by omega)], _, su_s.trans hq, by rw [ix_nI (by omega)]; exact hh⟩)
    · refine R_aload_n (pc := 21) C dX2_power_21 rfl ?_
      refine R_iconst (pc := 22) C dX2_power_22 (v := 2) (by decide) ?_
      refine R_callVN (pc := 23) C dX2_power_23 (vs := [_]) (fun h hh => mX2_refuses hl h hh) (isOb_of (wm0) rfl) ⟨k_17_23, k_18_0, k_18_1, k_1_5, k_18_2⟩ (sgn (nv := 1) rfl ⟨by decide +kernel, by decide +kernel, by decide +kernel⟩) ⟨⟨Nat.le_of_ble_eq_true rfl, Nat.le_of_ble_eq_true rfl⟩, ⟨Nat.le_of_ble_eq_true rfl, Nat.le_of_ble_eq_true rfl⟩, Nat.le_of_ble_eq_true rfl⟩ rfl rfl (fun h9 hh9 v9 => ?_)
      refine WR.pr (fun e9 => ?_)
      subst e9
      show WR K G _ _ _ _ _ _ _ (.int _ :: _)
      have hk : kPlan n (nI i) a 1000 = 2 := by simp [kPlan, qW_t hn hi, b01 c18]
      exact R_iret (pc := 26) C dX2_power_26 rfl (Nat.le_of_ble_eq_true rfl) (Nat.le_of_ble_eq_true rfl) (fun h hh => Or.inr ⟨by rw [hk]; decide, ⟨_, rfl⟩, _, su_s.trans hk.symm, hh⟩)
  · refine R_iconst (pc := 8) C dX2_power_8 (v := 0) (by decide) ?_
    have hk : kPlan n x a 1000 = 1 := by simp [kPlan, b01 c5]
    have hq : kAsk n x = 1 := by simp [kAsk, b01 c5]
    exact R_iret (pc := 9) C dX2_power_9 rfl (Nat.le_of_ble_eq_true rfl) (Nat.le_of_ble_eq_true rfl) (fun h hh => Or.inr ⟨by rw [hk]; decide, ⟨_, rfl⟩, _, su_s.trans (hq.trans hk.symm), hh⟩)
set_option maxHeartbeats 4000000 in
set_option maxRecDepth 100000 in
theorem mX2_setRecharge (hl : l.stackTraces = false) {x a : Int32}  : ∀ h, Wd G (adr, Sc, (n, P, F), mu, g) h → CN l yX2_setRecharge cX2_setRecharge 4 (some .int) 3 0 0 [.ref (adr 5), .int x, .int a] G h (fun v h1 => mPost (kRech x a) (F 14 (ix x)) (fun m9 => Wd G (adr, Sc, (n, P, F), m9, g)) (fun m9 => Wd G (adr, Sc, (n, P, su F 14 (ix x) a), m9, g)) v h1) := by
  intro h0 hwd
  refine CN.of hl (by decide +kernel) rfl (Nat.le_of_ble_eq_true rfl) (fun K sz hKl hin C => ?_)
  have C : CX K G (AH h0 sz) RX2 cX2_setRecharge 4 (some .int) (rmD 3 0 0) [] := C
  subst hKl
  refine WR.imp (P' := Wd G (adr, Sc, (n, P, F), mu, g)) (fun h e => e ▸ hwd) ?_
  show WR K G _ _ _ [some (.ref (adr 5)), some (.int x), some (.int a), none] 0 0 0 []
  refine R_aload_n (pc := 0) C dX2_setRecharge_0 rfl ?_
  refine R_iconst (pc := 1) C dX2_setRecharge_1 (v := 0) (by decide) ?_
  refine R_putf (pc := 2) C dX2_setRecharge_2 (i := 0) (wm0) rfl inlX2 tyX2_ok nmX2 (by decide) k_17_18 rfl rfl rfl (Nat.le_of_ble_eq_true rfl) (pm_thr) ?_
  refine R_iload_n (pc := 5) C dX2_setRecharge_5 rfl ?_
  refine R_iconst (pc := 6) C dX2_setRecharge_6 (v := 0) (by decide) ?_
  refine R_iconst (pc := 7) C dX2_setRecharge_7 (v := 2) (by decide) ?_
  refine R_callSN (pc := 8) C dX2_setRecharge_8 (vs := [_, _, _]) (fun h hh => mX2_in hl h) ⟨k_17_20, k_17_21, k_1_5, k_17_22⟩ (sgn (nv := 3) rfl ⟨by decide +kernel, by decide +kernel, by decide +kernel⟩) ⟨⟨Nat.le_of_ble_eq_true rfl, Nat.le_of_ble_eq_true rfl⟩, ⟨Nat.le_of_ble_eq_true rfl, Nat.le_of_ble_eq_true rfl⟩, Nat.le_of_ble_eq_true rfl⟩ rfl rfl (fun h9 hh9 v9 => ?_)
  refine WR.pr (fun e9 => ?_)
  subst e9
  refine WR.imp (P' := Wd G (adr, Sc, (n, P, F), su mu 0 0 0, g)) (fun h1 e1 => e1 ▸ hh9) ?_
  show WR K G _ _ _ _ _ _ _ (.int _ :: _)
  refine R_if_ne (pc := 11) C dX2_setRecharge_11 (tgt := 20) (by decide) (fun c11 => ?_) (fun c11 => ?_)
  · refine R_iload_n (pc := 20) C dX2_setRecharge_20 rfl ?_
    refine R_iconst (pc := 21) C dX2_setRecharge_21 (v := 0) (by decide) ?_
    refine R_sipush (pc := 22) C dX2_setRecharge_22 (v := 1000) (by decide) ?_
    refine R_callSN (pc := 25) C dX2_setRecharge_25 (vs := [_, _, _]) (fun h hh => mX2_in hl h) ⟨k_17_20, k_17_21, k_1_5, k_17_22⟩ (sgn (nv := 3) rfl ⟨by decide +kernel, by decide +kernel, by decide +kernel⟩) ⟨⟨Nat.le_of_ble_eq_true rfl, Nat.le_of_ble_eq_true rfl⟩, ⟨Nat.le_of_ble_eq_true rfl, Nat.le_of_ble_eq_true rfl⟩, Nat.le_of_ble_eq_true rfl⟩ rfl rfl (fun h9 hh9 v9 => ?_)
    refine WR.pr (fun e9 => ?_)
    subst e9
    refine WR.imp (P' := Wd G (adr, Sc, (n, P, F), su mu 0 0 0, g)) (fun h1 e1 => e1 ▸ hh9) ?_
    show WR K G _ _ _ _ _ _ _ (.int _ :: _)
    refine R_if_ne (pc := 28) C dX2_setRecharge_28 (tgt := 37) (by decide) (fun c28 => ?_) (fun c28 => ?_)
    · have hx := b01' c11
      obtain ⟨i, hi, rfl⟩ := in_lt (m := 3) (by omega) (qR_e hx).1 (Int32.lt_of_le_of_lt (qR_e hx).2 (by decide))
      refine R_aload_n (pc := 37) C dX2_setRecharge_37 rfl ?_
      refine R_getf (pc := 38) C dX2_setRecharge_38 (i := 16) (wm0) rfl inlX2 (by decide) k_3_9 rfl ?_
      refine R_iload_n (pc := 41) C dX2_setRecharge_41 rfl ?_
      refine R_iald (pc := 42) C dX2_setRecharge_42 (wm_14) (rfl) (by omega) (by decide) rfl ?_
      refine R_istore_n (pc := 43) C dX2_setRecharge_43 (Nat.le_of_ble_eq_true rfl) (lv' := [some (.ref _), some (.int _), some (.int _), some (.int _)]) rfl ?_
      refine R_aload_n (pc := 44) C dX2_setRecharge_44 rfl ?_
      refine R_getf (pc := 45) C dX2_setRecharge_45 (i := 16) (wm0) rfl inlX2 (by decide) k_3_9 rfl ?_
      refine R_iload_n (pc := 48) C dX2_setRecharge_48 rfl ?_
      refine R_iload_n (pc := 49) C dX2_setRecharge_49 rfl ?_
      refine R_iast (pc := 50) C dX2_setRecharge_50 (wm_14) (rfl) (by omega) (by decide) (pm_14) ?_
      refine R_iload_n (pc := 51) C dX2_setRecharge_51 rfl ?_
      have hk : kRech (nI i) a = 0 := by simp [kRech, hx, b01' c28]
      exact R_iret (pc := 52) C dX2_setRecharge_52 rfl (Nat.le_of_ble_eq_true rfl) (Nat.le_of_ble_eq_true rfl) (fun h hh => Or.inl ⟨hk, by rw [ix_nI (by omega)], _, su_s, by rw [ix_nI (by omega)]; exact hh⟩)
    · refine R_aload_n (pc := 31) C dX2_setRecharge_31 rfl ?_
      refine R_iconst (pc := 32) C dX2_setRecharge_32 (v := 2) (by decide) ?_
      refine R_callVN (pc := 33) C dX2_setRecharge_33 (vs := [_]) (fun h hh => mX2_refuses hl h hh) (isOb_of (wm0) rfl) ⟨k_17_23, k_18_0, k_18_1, k_1_5, k_18_2⟩ (sgn (nv := 1) rfl ⟨by decide +kernel, by decide +kernel, by decide +kernel⟩) ⟨⟨Nat.le_of_ble_eq_true rfl, Nat.le_of_ble_eq_true rfl⟩, ⟨Nat.le_of_ble_eq_true rfl, Nat.le_of_ble_eq_true rfl⟩, Nat.le_of_ble_eq_true rfl⟩ rfl rfl (fun h9 hh9 v9 => ?_)
      refine WR.pr (fun e9 => ?_)
      subst e9
      show WR K G _ _ _ _ _ _ _ (.int _ :: _)
      have hk : kRech x a = 2 := by simp [kRech, b01' c11, b01 c28]
      exact R_iret (pc := 36) C dX2_setRecharge_36 rfl (Nat.le_of_ble_eq_true rfl) (Nat.le_of_ble_eq_true rfl) (fun h hh => Or.inr ⟨by rw [hk]; decide, ⟨_, rfl⟩, _, su_s.trans hk.symm, hh⟩)
  · refine R_aload_n (pc := 14) C dX2_setRecharge_14 rfl ?_
    refine R_iconst (pc := 15) C dX2_setRecharge_15 (v := 1) (by decide) ?_
    refine R_callVN (pc := 16) C dX2_setRecharge_16 (vs := [_]) (fun h hh => mX2_refuses hl h hh) (isOb_of (wm0) rfl) ⟨k_17_23, k_18_0, k_18_1, k_1_5, k_18_2⟩ (sgn (nv := 1) rfl ⟨by decide +kernel, by decide +kernel, by decide +kernel⟩) ⟨⟨Nat.le_of_ble_eq_true rfl, Nat.le_of_ble_eq_true rfl⟩, ⟨Nat.le_of_ble_eq_true rfl, Nat.le_of_ble_eq_true rfl⟩, Nat.le_of_ble_eq_true rfl⟩ rfl rfl (fun h9 hh9 v9 => ?_)
    refine WR.pr (fun e9 => ?_)
    subst e9
    show WR K G _ _ _ _ _ _ _ (.int _ :: _)
    have hk : kRech x a = 1 := by simp [kRech, b01 c11]
    exact R_iret (pc := 19) C dX2_setRecharge_19 rfl (Nat.le_of_ble_eq_true rfl) (Nat.le_of_ble_eq_true rfl) (fun h hh => Or.inr ⟨by rw [hk]; decide, ⟨_, rfl⟩, _, su_s.trans hk.symm, hh⟩)
set_option maxHeartbeats 4000000 in
set_option maxRecDepth 100000 in
theorem mX2_years (hl : l.stackTraces = false)   : ∀ h, Wd G (adr, Sc, (n, P, F), mu, g) h → CN l yX2_years cX2_years 1 (some .int) 0 0 0 [.ref (adr 5)] G h (fun v h1 => v = some (.int (F 16 1)) ∧ Wd G (adr, Sc, (n, P, F), su mu 0 0 0, g) h1) := by
  intro h0 hwd
  refine CN.of hl (by decide +kernel) rfl (Nat.le_of_ble_eq_true rfl) (fun K sz hKl hin C => ?_)
  have C : CX K G (AH h0 sz) RX2 cX2_years 1 (some .int) (rmD 0 0 0) [] := C
  subst hKl
  refine WR.imp (P' := Wd G (adr, Sc, (n, P, F), mu, g)) (fun h e => e ▸ hwd) ?_
  show WR K G _ _ _ [some (.ref (adr 5))] 0 0 0 []
  refine R_aload_n (pc := 0) C dX2_years_0 rfl ?_
  refine R_iconst (pc := 1) C dX2_years_1 (v := 0) (by decide) ?_
  refine R_putf (pc := 2) C dX2_years_2 (i := 0) (wm0) rfl inlX2 tyX2_ok nmX2 (by decide) k_17_18 rfl rfl rfl (Nat.le_of_ble_eq_true rfl) (pm_thr) ?_
  refine R_aload_n (pc := 5) C dX2_years_5 rfl ?_
  refine R_getf (pc := 6) C dX2_years_6 (i := 20) (wm0) rfl inlX2 (by decide) k_26_21 rfl ?_
  exact R_iret (pc := 9) C dX2_years_9 rfl (Nat.le_of_ble_eq_true rfl) (Nat.le_of_ble_eq_true rfl) (fun h hh => ⟨rfl, hh⟩)
set_option maxHeartbeats 4000000 in
set_option maxRecDepth 100000 in
theorem mX2_fund (hl : l.stackTraces = false)   : ∀ h, Wd G (adr, Sc, (n, P, F), mu, g) h → CN l yX2_fund cX2_fund 1 (some .int) 0 0 0 [.ref (adr 5)] G h (fun v h1 => v = some (.int (F 16 0)) ∧ Wd G (adr, Sc, (n, P, F), su mu 0 0 0, g) h1) := by
  intro h0 hwd
  refine CN.of hl (by decide +kernel) rfl (Nat.le_of_ble_eq_true rfl) (fun K sz hKl hin C => ?_)
  have C : CX K G (AH h0 sz) RX2 cX2_fund 1 (some .int) (rmD 0 0 0) [] := C
  subst hKl
  refine WR.imp (P' := Wd G (adr, Sc, (n, P, F), mu, g)) (fun h e => e ▸ hwd) ?_
  show WR K G _ _ _ [some (.ref (adr 5))] 0 0 0 []
  refine R_aload_n (pc := 0) C dX2_fund_0 rfl ?_
  refine R_iconst (pc := 1) C dX2_fund_1 (v := 0) (by decide) ?_
  refine R_putf (pc := 2) C dX2_fund_2 (i := 0) (wm0) rfl inlX2 tyX2_ok nmX2 (by decide) k_17_18 rfl rfl rfl (Nat.le_of_ble_eq_true rfl) (pm_thr) ?_
  refine R_aload_n (pc := 5) C dX2_fund_5 rfl ?_
  refine R_getf (pc := 6) C dX2_fund_6 (i := 19) (wm0) rfl inlX2 (by decide) k_27_23 rfl ?_
  exact R_iret (pc := 9) C dX2_fund_9 rfl (Nat.le_of_ble_eq_true rfl) (Nat.le_of_ble_eq_true rfl) (fun h hh => ⟨rfl, hh⟩)
set_option maxHeartbeats 4000000 in
set_option maxRecDepth 100000 in
theorem mX2_reaches (hl : l.stackTraces = false) {lo po : Int32} {i : Nat} (hi : i < 8) : ∀ h, Wd G (adr, Sc, (n, P, F), mu, g) h → CN l yX2_reaches cX2_reaches 7 (some .int) 0 0 0 [.ref (adr 5), .int lo, .int po, .int (nI i)] G h (fun v h1 => v = some (.int (spReachM (F 0 i) (F 1 i) lo po)) ∧ Wd G (adr, Sc, (n, P, F), mu, g) h1) := by
  intro h0 hwd
  refine CN.of hl (by decide +kernel) rfl (Nat.le_of_ble_eq_true rfl) (fun K sz hKl hin C => ?_)
  have C : CX K G (AH h0 sz) RX2 cX2_reaches 7 (some .int) (rmD 0 0 0) [] := C
  subst hKl
  refine WR.imp (P' := Wd G (adr, Sc, (n, P, F), mu, g)) (fun h e => e ▸ hwd) ?_
  show WR K G _ _ _ [some (.ref (adr 5)), some (.int lo), some (.int po), some (.int (nI i)), none, none, none] 0 0 0 []
  refine R_iload_n (pc := 0) C dX2_reaches_0 rfl ?_
  refine R_aload_n (pc := 1) C dX2_reaches_1 rfl ?_
  refine R_getf (pc := 2) C dX2_reaches_2 (i := 3) (wm0) rfl inlX2 (by decide) k_2_19 rfl ?_
  refine R_iload_n (pc := 5) C dX2_reaches_5 rfl ?_
  refine R_iald (pc := 6) C dX2_reaches_6 (wm_1) (rfl) (by omega) (by decide) rfl ?_
  refine R_icmp_le (pc := 7) C dX2_reaches_7 (tgt := 21) (by decide) (fun c7 => ?_) (fun c7 => ?_)
  · refine R_aload_n (pc := 21) C dX2_reaches_21 rfl ?_
    refine R_getf (pc := 22) C dX2_reaches_22 (i := 3) (wm0) rfl inlX2 (by decide) k_2_19 rfl ?_
    refine R_iload_n (pc := 25) C dX2_reaches_25 rfl ?_
    refine R_iald (pc := 26) C dX2_reaches_26 (wm_1) (rfl) (by omega) (by decide) rfl ?_
    refine R_iload_n (pc := 27) C dX2_reaches_27 rfl ?_
    refine R_isub (pc := 28) C dX2_reaches_28 ?_
    refine R_topi (fun x29 e29 => ?_)
    have f29 : x29 = fM po (F 1 i) := e29.trans (if_pos c7).symm
    refine R_istore (pc := 29) C dX2_reaches_29 (Nat.le_of_ble_eq_true rfl) (lv' := [some (.ref _), some (.int _), some (.int _), some (.int _), some (.int _), none, none]) rfl ?_
    refine R_iload_n (pc := 31) C dX2_reaches_31 rfl ?_
    refine R_aload_n (pc := 32) C dX2_reaches_32 rfl ?_
    refine R_getf (pc := 33) C dX2_reaches_33 (i := 2) (wm0) rfl inlX2 (by decide) k_2_18 rfl ?_
    refine R_iload_n (pc := 36) C dX2_reaches_36 rfl ?_
    refine R_iald (pc := 37) C dX2_reaches_37 (wm_0) (rfl) (by omega) (by decide) rfl ?_
    refine R_icmp_le (pc := 38) C dX2_reaches_38 (tgt := 52) (by decide) (fun c38 => ?_) (fun c38 => ?_)
    · refine R_aload_n (pc := 52) C dX2_reaches_52 rfl ?_
      refine R_getf (pc := 53) C dX2_reaches_53 (i := 2) (wm0) rfl inlX2 (by decide) k_2_18 rfl ?_
      refine R_iload_n (pc := 56) C dX2_reaches_56 rfl ?_
      refine R_iald (pc := 57) C dX2_reaches_57 (wm_0) (rfl) (by omega) (by decide) rfl ?_
      refine R_iload_n (pc := 58) C dX2_reaches_58 rfl ?_
      refine R_isub (pc := 59) C dX2_reaches_59 ?_
      refine R_topi (fun x60 e60 => ?_)
      have f60 : x60 = fM lo (F 0 i) := e60.trans (if_pos c38).symm
      refine R_istore (pc := 60) C dX2_reaches_60 (Nat.le_of_ble_eq_true rfl) (lv' := [some (.ref _), some (.int _), some (.int _), some (.int _), some (.int _), some (.int _), none]) rfl ?_
      refine R_iload (pc := 62) C dX2_reaches_62 rfl ?_
      refine R_bipush (pc := 64) C dX2_reaches_64 (v := 10) (by decide) ?_
      refine R_icmp_le (pc := 66) C dX2_reaches_66 (tgt := 73) (by decide) (fun c66 => ?_) (fun c66 => ?_)
      · refine R_bipush (pc := 73) C dX2_reaches_73 (v := 100) (by decide) ?_
        refine R_bipush (pc := 75) C dX2_reaches_75 (v := 10) (by decide) ?_
        refine R_iload (pc := 77) C dX2_reaches_77 rfl ?_
        refine R_imul (pc := 79) C dX2_reaches_79 ?_
        refine R_isub (pc := 80) C dX2_reaches_80 ?_
        refine R_topi (fun x81 e81 => ?_)
        have f81 : x81 = wMo x29 := e81.trans (if_pos c66).symm
        refine R_istore (pc := 81) C dX2_reaches_81 (Nat.le_of_ble_eq_true rfl) (lv' := [some (.ref _), some (.int _), some (.int _), some (.int _), some (.int _), some (.int _), some (.int _)]) rfl ?_
        refine R_iload (pc := 83) C dX2_reaches_83 rfl ?_
        refine R_if_ne (pc := 85) C dX2_reaches_85 (tgt := 93) (by decide) (fun c85 => ?_) (fun c85 => ?_)
        · refine R_iload (pc := 93) C dX2_reaches_93 rfl ?_
          refine R_iconst (pc := 95) C dX2_reaches_95 (v := 1) (by decide) ?_
          refine R_icmp_ne (pc := 96) C dX2_reaches_96 (tgt := 106) (by decide) (fun c96 => ?_) (fun c96 => ?_)
          · refine R_iconst (pc := 106) C dX2_reaches_106 (v := 0) (by decide) ?_
            exact R_iret (pc := 107) C dX2_reaches_107 rfl (Nat.le_of_ble_eq_true rfl) (Nat.le_of_ble_eq_true rfl) (fun h hh => ⟨by rw [spReachM, ← f60, ← f29, ← f81, if_neg c85, if_neg c96], hh⟩)
          · refine R_iload (pc := 99) C dX2_reaches_99 rfl ?_
            refine R_iconst (pc := 101) C dX2_reaches_101 (v := 2) (by decide) ?_
            refine R_idiv (pc := 102) C dX2_reaches_102 (by decide) ?_
            refine R_goto (pc := 103) C dX2_reaches_103 (tgt := 107) (by decide) ?_
            exact R_iret (pc := 107) C dX2_reaches_107 rfl (Nat.le_of_ble_eq_true rfl) (Nat.le_of_ble_eq_true rfl) (fun h hh => ⟨by rw [spReachM, ← f60, ← f29, ← f81, if_neg c85, if_pos c96], hh⟩)
        · refine R_iload (pc := 88) C dX2_reaches_88 rfl ?_
          refine R_goto (pc := 90) C dX2_reaches_90 (tgt := 107) (by decide) ?_
          exact R_iret (pc := 107) C dX2_reaches_107 rfl (Nat.le_of_ble_eq_true rfl) (Nat.le_of_ble_eq_true rfl) (fun h hh => ⟨by rw [spReachM, ← f60, ← f29, ← f81, if_pos c85], hh⟩)
      · refine R_iconst (pc := 69) C dX2_reaches_69 (v := 0) (by decide) ?_
        refine R_goto (pc := 70) C dX2_reaches_70 (tgt := 81) (by decide) ?_
        refine R_topi (fun x81 e81 => ?_)
        have f81 : x81 = wMo x29 := e81.trans (if_neg c66).symm
        refine R_istore (pc := 81) C dX2_reaches_81 (Nat.le_of_ble_eq_true rfl) (lv' := [some (.ref _), some (.int _), some (.int _), some (.int _), some (.int _), some (.int _), some (.int _)]) rfl ?_
        refine R_iload (pc := 83) C dX2_reaches_83 rfl ?_
        refine R_if_ne (pc := 85) C dX2_reaches_85 (tgt := 93) (by decide) (fun c85 => ?_) (fun c85 => ?_)
        · refine R_iload (pc := 93) C dX2_reaches_93 rfl ?_
          refine R_iconst (pc := 95) C dX2_reaches_95 (v := 1) (by decide) ?_
          refine R_icmp_ne (pc := 96) C dX2_reaches_96 (tgt := 106) (by decide) (fun c96 => ?_) (fun c96 => ?_)
          · refine R_iconst (pc := 106) C dX2_reaches_106 (v := 0) (by decide) ?_
            exact R_iret (pc := 107) C dX2_reaches_107 rfl (Nat.le_of_ble_eq_true rfl) (Nat.le_of_ble_eq_true rfl) (fun h hh => ⟨by rw [spReachM, ← f60, ← f29, ← f81, if_neg c85, if_neg c96], hh⟩)
          · refine R_iload (pc := 99) C dX2_reaches_99 rfl ?_
            refine R_iconst (pc := 101) C dX2_reaches_101 (v := 2) (by decide) ?_
            refine R_idiv (pc := 102) C dX2_reaches_102 (by decide) ?_
            refine R_goto (pc := 103) C dX2_reaches_103 (tgt := 107) (by decide) ?_
            exact R_iret (pc := 107) C dX2_reaches_107 rfl (Nat.le_of_ble_eq_true rfl) (Nat.le_of_ble_eq_true rfl) (fun h hh => ⟨by rw [spReachM, ← f60, ← f29, ← f81, if_neg c85, if_pos c96], hh⟩)
        · refine R_iload (pc := 88) C dX2_reaches_88 rfl ?_
          refine R_goto (pc := 90) C dX2_reaches_90 (tgt := 107) (by decide) ?_
          exact R_iret (pc := 107) C dX2_reaches_107 rfl (Nat.le_of_ble_eq_true rfl) (Nat.le_of_ble_eq_true rfl) (fun h hh => ⟨by rw [spReachM, ← f60, ← f29, ← f81, if_pos c85], hh⟩)
    · refine R_iload_n (pc := 41) C dX2_reaches_41 rfl ?_
      refine R_aload_n (pc := 42) C dX2_reaches_42 rfl ?_
      refine R_getf (pc := 43) C dX2_reaches_43 (i := 2) (wm0) rfl inlX2 (by decide) k_2_18 rfl ?_
      refine R_iload_n (pc := 46) C dX2_reaches_46 rfl ?_
      refine R_iald (pc := 47) C dX2_reaches_47 (wm_0) (rfl) (by omega) (by decide) rfl ?_
      refine R_isub (pc := 48) C dX2_reaches_48 ?_
      refine R_goto (pc := 49) C dX2_reaches_49 (tgt := 60) (by decide) ?_
      refine R_topi (fun x60 e60 => ?_)
      have f60 : x60 = fM lo (F 0 i) := e60.trans (if_neg c38).symm
      refine R_istore (pc := 60) C dX2_reaches_60 (Nat.le_of_ble_eq_true rfl) (lv' := [some (.ref _), some (.int _), some (.int _), some (.int _), some (.int _), some (.int _), none]) rfl ?_
      refine R_iload (pc := 62) C dX2_reaches_62 rfl ?_
      refine R_bipush (pc := 64) C dX2_reaches_64 (v := 10) (by decide) ?_
      refine R_icmp_le (pc := 66) C dX2_reaches_66 (tgt := 73) (by decide) (fun c66 => ?_) (fun c66 => ?_)
      · refine R_bipush (pc := 73) C dX2_reaches_73 (v := 100) (by decide) ?_
        refine R_bipush (pc := 75) C dX2_reaches_75 (v := 10) (by decide) ?_
        refine R_iload (pc := 77) C dX2_reaches_77 rfl ?_
        refine R_imul (pc := 79) C dX2_reaches_79 ?_
        refine R_isub (pc := 80) C dX2_reaches_80 ?_
        refine R_topi (fun x81 e81 => ?_)
        have f81 : x81 = wMo x29 := e81.trans (if_pos c66).symm
        refine R_istore (pc := 81) C dX2_reaches_81 (Nat.le_of_ble_eq_true rfl) (lv' := [some (.ref _), some (.int _), some (.int _), some (.int _), some (.int _), some (.int _), some (.int _)]) rfl ?_
        refine R_iload (pc := 83) C dX2_reaches_83 rfl ?_
        refine R_if_ne (pc := 85) C dX2_reaches_85 (tgt := 93) (by decide) (fun c85 => ?_) (fun c85 => ?_)
        · refine R_iload (pc := 93) C dX2_reaches_93 rfl ?_
          refine R_iconst (pc := 95) C dX2_reaches_95 (v := 1) (by decide) ?_
          refine R_icmp_ne (pc := 96) C dX2_reaches_96 (tgt := 106) (by decide) (fun c96 => ?_) (fun c96 => ?_)
          · refine R_iconst (pc := 106) C dX2_reaches_106 (v := 0) (by decide) ?_
            exact R_iret (pc := 107) C dX2_reaches_107 rfl (Nat.le_of_ble_eq_true rfl) (Nat.le_of_ble_eq_true rfl) (fun h hh => ⟨by rw [spReachM, ← f60, ← f29, ← f81, if_neg c85, if_neg c96], hh⟩)
          · refine R_iload (pc := 99) C dX2_reaches_99 rfl ?_
            refine R_iconst (pc := 101) C dX2_reaches_101 (v := 2) (by decide) ?_
            refine R_idiv (pc := 102) C dX2_reaches_102 (by decide) ?_
            refine R_goto (pc := 103) C dX2_reaches_103 (tgt := 107) (by decide) ?_
            exact R_iret (pc := 107) C dX2_reaches_107 rfl (Nat.le_of_ble_eq_true rfl) (Nat.le_of_ble_eq_true rfl) (fun h hh => ⟨by rw [spReachM, ← f60, ← f29, ← f81, if_neg c85, if_pos c96], hh⟩)
        · refine R_iload (pc := 88) C dX2_reaches_88 rfl ?_
          refine R_goto (pc := 90) C dX2_reaches_90 (tgt := 107) (by decide) ?_
          exact R_iret (pc := 107) C dX2_reaches_107 rfl (Nat.le_of_ble_eq_true rfl) (Nat.le_of_ble_eq_true rfl) (fun h hh => ⟨by rw [spReachM, ← f60, ← f29, ← f81, if_pos c85], hh⟩)
      · refine R_iconst (pc := 69) C dX2_reaches_69 (v := 0) (by decide) ?_
        refine R_goto (pc := 70) C dX2_reaches_70 (tgt := 81) (by decide) ?_
        refine R_topi (fun x81 e81 => ?_)
        have f81 : x81 = wMo x29 := e81.trans (if_neg c66).symm
        refine R_istore (pc := 81) C dX2_reaches_81 (Nat.le_of_ble_eq_true rfl) (lv' := [some (.ref _), some (.int _), some (.int _), some (.int _), some (.int _), some (.int _), some (.int _)]) rfl ?_
        refine R_iload (pc := 83) C dX2_reaches_83 rfl ?_
        refine R_if_ne (pc := 85) C dX2_reaches_85 (tgt := 93) (by decide) (fun c85 => ?_) (fun c85 => ?_)
        · refine R_iload (pc := 93) C dX2_reaches_93 rfl ?_
          refine R_iconst (pc := 95) C dX2_reaches_95 (v := 1) (by decide) ?_
          refine R_icmp_ne (pc := 96) C dX2_reaches_96 (tgt := 106) (by decide) (fun c96 => ?_) (fun c96 => ?_)
          · refine R_iconst (pc := 106) C dX2_reaches_106 (v := 0) (by decide) ?_
            exact R_iret (pc := 107) C dX2_reaches_107 rfl (Nat.le_of_ble_eq_true rfl) (Nat.le_of_ble_eq_true rfl) (fun h hh => ⟨by rw [spReachM, ← f60, ← f29, ← f81, if_neg c85, if_neg c96], hh⟩)
          · refine R_iload (pc := 99) C dX2_reaches_99 rfl ?_
            refine R_iconst (pc := 101) C dX2_reaches_101 (v := 2) (by decide) ?_
            refine R_idiv (pc := 102) C dX2_reaches_102 (by decide) ?_
            refine R_goto (pc := 103) C dX2_reaches_103 (tgt := 107) (by decide) ?_
            exact R_iret (pc := 107) C dX2_reaches_107 rfl (Nat.le_of_ble_eq_true rfl) (Nat.le_of_ble_eq_true rfl) (fun h hh => ⟨by rw [spReachM, ← f60, ← f29, ← f81, if_neg c85, if_pos c96], hh⟩)
        · refine R_iload (pc := 88) C dX2_reaches_88 rfl ?_
          refine R_goto (pc := 90) C dX2_reaches_90 (tgt := 107) (by decide) ?_
          exact R_iret (pc := 107) C dX2_reaches_107 rfl (Nat.le_of_ble_eq_true rfl) (Nat.le_of_ble_eq_true rfl) (fun h hh => ⟨by rw [spReachM, ← f60, ← f29, ← f81, if_pos c85], hh⟩)
  · refine R_iload_n (pc := 10) C dX2_reaches_10 rfl ?_
    refine R_aload_n (pc := 11) C dX2_reaches_11 rfl ?_
    refine R_getf (pc := 12) C dX2_reaches_12 (i := 3) (wm0) rfl inlX2 (by decide) k_2_19 rfl ?_
    refine R_iload_n (pc := 15) C dX2_reaches_15 rfl ?_
    refine R_iald (pc := 16) C dX2_reaches_16 (wm_1) (rfl) (by omega) (by decide) rfl ?_
    refine R_isub (pc := 17) C dX2_reaches_17 ?_
    refine R_goto (pc := 18) C dX2_reaches_18 (tgt := 29) (by decide) ?_
    refine R_topi (fun x29 e29 => ?_)
    have f29 : x29 = fM po (F 1 i) := e29.trans (if_neg c7).symm
    refine R_istore (pc := 29) C dX2_reaches_29 (Nat.le_of_ble_eq_true rfl) (lv' := [some (.ref _), some (.int _), some (.int _), some (.int _), some (.int _), none, none]) rfl ?_
    refine R_iload_n (pc := 31) C dX2_reaches_31 rfl ?_
    refine R_aload_n (pc := 32) C dX2_reaches_32 rfl ?_
    refine R_getf (pc := 33) C dX2_reaches_33 (i := 2) (wm0) rfl inlX2 (by decide) k_2_18 rfl ?_
    refine R_iload_n (pc := 36) C dX2_reaches_36 rfl ?_
    refine R_iald (pc := 37) C dX2_reaches_37 (wm_0) (rfl) (by omega) (by decide) rfl ?_
    refine R_icmp_le (pc := 38) C dX2_reaches_38 (tgt := 52) (by decide) (fun c38 => ?_) (fun c38 => ?_)
    · refine R_aload_n (pc := 52) C dX2_reaches_52 rfl ?_
      refine R_getf (pc := 53) C dX2_reaches_53 (i := 2) (wm0) rfl inlX2 (by decide) k_2_18 rfl ?_
      refine R_iload_n (pc := 56) C dX2_reaches_56 rfl ?_
      refine R_iald (pc := 57) C dX2_reaches_57 (wm_0) (rfl) (by omega) (by decide) rfl ?_
      refine R_iload_n (pc := 58) C dX2_reaches_58 rfl ?_
      refine R_isub (pc := 59) C dX2_reaches_59 ?_
      refine R_topi (fun x60 e60 => ?_)
      have f60 : x60 = fM lo (F 0 i) := e60.trans (if_pos c38).symm
      refine R_istore (pc := 60) C dX2_reaches_60 (Nat.le_of_ble_eq_true rfl) (lv' := [some (.ref _), some (.int _), some (.int _), some (.int _), some (.int _), some (.int _), none]) rfl ?_
      refine R_iload (pc := 62) C dX2_reaches_62 rfl ?_
      refine R_bipush (pc := 64) C dX2_reaches_64 (v := 10) (by decide) ?_
      refine R_icmp_le (pc := 66) C dX2_reaches_66 (tgt := 73) (by decide) (fun c66 => ?_) (fun c66 => ?_)
      · refine R_bipush (pc := 73) C dX2_reaches_73 (v := 100) (by decide) ?_
        refine R_bipush (pc := 75) C dX2_reaches_75 (v := 10) (by decide) ?_
        refine R_iload (pc := 77) C dX2_reaches_77 rfl ?_
        refine R_imul (pc := 79) C dX2_reaches_79 ?_
        refine R_isub (pc := 80) C dX2_reaches_80 ?_
        refine R_topi (fun x81 e81 => ?_)
        have f81 : x81 = wMo x29 := e81.trans (if_pos c66).symm
        refine R_istore (pc := 81) C dX2_reaches_81 (Nat.le_of_ble_eq_true rfl) (lv' := [some (.ref _), some (.int _), some (.int _), some (.int _), some (.int _), some (.int _), some (.int _)]) rfl ?_
        refine R_iload (pc := 83) C dX2_reaches_83 rfl ?_
        refine R_if_ne (pc := 85) C dX2_reaches_85 (tgt := 93) (by decide) (fun c85 => ?_) (fun c85 => ?_)
        · refine R_iload (pc := 93) C dX2_reaches_93 rfl ?_
          refine R_iconst (pc := 95) C dX2_reaches_95 (v := 1) (by decide) ?_
          refine R_icmp_ne (pc := 96) C dX2_reaches_96 (tgt := 106) (by decide) (fun c96 => ?_) (fun c96 => ?_)
          · refine R_iconst (pc := 106) C dX2_reaches_106 (v := 0) (by decide) ?_
            exact R_iret (pc := 107) C dX2_reaches_107 rfl (Nat.le_of_ble_eq_true rfl) (Nat.le_of_ble_eq_true rfl) (fun h hh => ⟨by rw [spReachM, ← f60, ← f29, ← f81, if_neg c85, if_neg c96], hh⟩)
          · refine R_iload (pc := 99) C dX2_reaches_99 rfl ?_
            refine R_iconst (pc := 101) C dX2_reaches_101 (v := 2) (by decide) ?_
            refine R_idiv (pc := 102) C dX2_reaches_102 (by decide) ?_
            refine R_goto (pc := 103) C dX2_reaches_103 (tgt := 107) (by decide) ?_
            exact R_iret (pc := 107) C dX2_reaches_107 rfl (Nat.le_of_ble_eq_true rfl) (Nat.le_of_ble_eq_true rfl) (fun h hh => ⟨by rw [spReachM, ← f60, ← f29, ← f81, if_neg c85, if_pos c96], hh⟩)
        · refine R_iload (pc := 88) C dX2_reaches_88 rfl ?_
          refine R_goto (pc := 90) C dX2_reaches_90 (tgt := 107) (by decide) ?_
          exact R_iret (pc := 107) C dX2_reaches_107 rfl (Nat.le_of_ble_eq_true rfl) (Nat.le_of_ble_eq_true rfl) (fun h hh => ⟨by rw [spReachM, ← f60, ← f29, ← f81, if_pos c85], hh⟩)
      · refine R_iconst (pc := 69) C dX2_reaches_69 (v := 0) (by decide) ?_
        refine R_goto (pc := 70) C dX2_reaches_70 (tgt := 81) (by decide) ?_
        refine R_topi (fun x81 e81 => ?_)
        have f81 : x81 = wMo x29 := e81.trans (if_neg c66).symm
        refine R_istore (pc := 81) C dX2_reaches_81 (Nat.le_of_ble_eq_true rfl) (lv' := [some (.ref _), some (.int _), some (.int _), some (.int _), some (.int _), some (.int _), some (.int _)]) rfl ?_
        refine R_iload (pc := 83) C dX2_reaches_83 rfl ?_
        refine R_if_ne (pc := 85) C dX2_reaches_85 (tgt := 93) (by decide) (fun c85 => ?_) (fun c85 => ?_)
        · refine R_iload (pc := 93) C dX2_reaches_93 rfl ?_
          refine R_iconst (pc := 95) C dX2_reaches_95 (v := 1) (by decide) ?_
          refine R_icmp_ne (pc := 96) C dX2_reaches_96 (tgt := 106) (by decide) (fun c96 => ?_) (fun c96 => ?_)
          · refine R_iconst (pc := 106) C dX2_reaches_106 (v := 0) (by decide) ?_
            exact R_iret (pc := 107) C dX2_reaches_107 rfl (Nat.le_of_ble_eq_true rfl) (Nat.le_of_ble_eq_true rfl) (fun h hh => ⟨by rw [spReachM, ← f60, ← f29, ← f81, if_neg c85, if_neg c96], hh⟩)
          · refine R_iload (pc := 99) C dX2_reaches_99 rfl ?_
            refine R_iconst (pc := 101) C dX2_reaches_101 (v := 2) (by decide) ?_
            refine R_idiv (pc := 102) C dX2_reaches_102 (by decide) ?_
            refine R_goto (pc := 103) C dX2_reaches_103 (tgt := 107) (by decide) ?_
            exact R_iret (pc := 107) C dX2_reaches_107 rfl (Nat.le_of_ble_eq_true rfl) (Nat.le_of_ble_eq_true rfl) (fun h hh => ⟨by rw [spReachM, ← f60, ← f29, ← f81, if_neg c85, if_pos c96], hh⟩)
        · refine R_iload (pc := 88) C dX2_reaches_88 rfl ?_
          refine R_goto (pc := 90) C dX2_reaches_90 (tgt := 107) (by decide) ?_
          exact R_iret (pc := 107) C dX2_reaches_107 rfl (Nat.le_of_ble_eq_true rfl) (Nat.le_of_ble_eq_true rfl) (fun h hh => ⟨by rw [spReachM, ← f60, ← f29, ← f81, if_pos c85], hh⟩)
    · refine R_iload_n (pc := 41) C dX2_reaches_41 rfl ?_
      refine R_aload_n (pc := 42) C dX2_reaches_42 rfl ?_
      refine R_getf (pc := 43) C dX2_reaches_43 (i := 2) (wm0) rfl inlX2 (by decide) k_2_18 rfl ?_
      refine R_iload_n (pc := 46) C dX2_reaches_46 rfl ?_
      refine R_iald (pc := 47) C dX2_reaches_47 (wm_0) (rfl) (by omega) (by decide) rfl ?_
      refine R_isub (pc := 48) C dX2_reaches_48 ?_
      refine R_goto (pc := 49) C dX2_reaches_49 (tgt := 60) (by decide) ?_
      refine R_topi (fun x60 e60 => ?_)
      have f60 : x60 = fM lo (F 0 i) := e60.trans (if_neg c38).symm
      refine R_istore (pc := 60) C dX2_reaches_60 (Nat.le_of_ble_eq_true rfl) (lv' := [some (.ref _), some (.int _), some (.int _), some (.int _), some (.int _), some (.int _), none]) rfl ?_
      refine R_iload (pc := 62) C dX2_reaches_62 rfl ?_
      refine R_bipush (pc := 64) C dX2_reaches_64 (v := 10) (by decide) ?_
      refine R_icmp_le (pc := 66) C dX2_reaches_66 (tgt := 73) (by decide) (fun c66 => ?_) (fun c66 => ?_)
      · refine R_bipush (pc := 73) C dX2_reaches_73 (v := 100) (by decide) ?_
        refine R_bipush (pc := 75) C dX2_reaches_75 (v := 10) (by decide) ?_
        refine R_iload (pc := 77) C dX2_reaches_77 rfl ?_
        refine R_imul (pc := 79) C dX2_reaches_79 ?_
        refine R_isub (pc := 80) C dX2_reaches_80 ?_
        refine R_topi (fun x81 e81 => ?_)
        have f81 : x81 = wMo x29 := e81.trans (if_pos c66).symm
        refine R_istore (pc := 81) C dX2_reaches_81 (Nat.le_of_ble_eq_true rfl) (lv' := [some (.ref _), some (.int _), some (.int _), some (.int _), some (.int _), some (.int _), some (.int _)]) rfl ?_
        refine R_iload (pc := 83) C dX2_reaches_83 rfl ?_
        refine R_if_ne (pc := 85) C dX2_reaches_85 (tgt := 93) (by decide) (fun c85 => ?_) (fun c85 => ?_)
        · refine R_iload (pc := 93) C dX2_reaches_93 rfl ?_
          refine R_iconst (pc := 95) C dX2_reaches_95 (v := 1) (by decide) ?_
          refine R_icmp_ne (pc := 96) C dX2_reaches_96 (tgt := 106) (by decide) (fun c96 => ?_) (fun c96 => ?_)
          · refine R_iconst (pc := 106) C dX2_reaches_106 (v := 0) (by decide) ?_
            exact R_iret (pc := 107) C dX2_reaches_107 rfl (Nat.le_of_ble_eq_true rfl) (Nat.le_of_ble_eq_true rfl) (fun h hh => ⟨by rw [spReachM, ← f60, ← f29, ← f81, if_neg c85, if_neg c96], hh⟩)
          · refine R_iload (pc := 99) C dX2_reaches_99 rfl ?_
            refine R_iconst (pc := 101) C dX2_reaches_101 (v := 2) (by decide) ?_
            refine R_idiv (pc := 102) C dX2_reaches_102 (by decide) ?_
            refine R_goto (pc := 103) C dX2_reaches_103 (tgt := 107) (by decide) ?_
            exact R_iret (pc := 107) C dX2_reaches_107 rfl (Nat.le_of_ble_eq_true rfl) (Nat.le_of_ble_eq_true rfl) (fun h hh => ⟨by rw [spReachM, ← f60, ← f29, ← f81, if_neg c85, if_pos c96], hh⟩)
        · refine R_iload (pc := 88) C dX2_reaches_88 rfl ?_
          refine R_goto (pc := 90) C dX2_reaches_90 (tgt := 107) (by decide) ?_
          exact R_iret (pc := 107) C dX2_reaches_107 rfl (Nat.le_of_ble_eq_true rfl) (Nat.le_of_ble_eq_true rfl) (fun h hh => ⟨by rw [spReachM, ← f60, ← f29, ← f81, if_pos c85], hh⟩)
      · refine R_iconst (pc := 69) C dX2_reaches_69 (v := 0) (by decide) ?_
        refine R_goto (pc := 70) C dX2_reaches_70 (tgt := 81) (by decide) ?_
        refine R_topi (fun x81 e81 => ?_)
        have f81 : x81 = wMo x29 := e81.trans (if_neg c66).symm
        refine R_istore (pc := 81) C dX2_reaches_81 (Nat.le_of_ble_eq_true rfl) (lv' := [some (.ref _), some (.int _), some (.int _), some (.int _), some (.int _), some (.int _), some (.int _)]) rfl ?_
        refine R_iload (pc := 83) C dX2_reaches_83 rfl ?_
        refine R_if_ne (pc := 85) C dX2_reaches_85 (tgt := 93) (by decide) (fun c85 => ?_) (fun c85 => ?_)
        · refine R_iload (pc := 93) C dX2_reaches_93 rfl ?_
          refine R_iconst (pc := 95) C dX2_reaches_95 (v := 1) (by decide) ?_
          refine R_icmp_ne (pc := 96) C dX2_reaches_96 (tgt := 106) (by decide) (fun c96 => ?_) (fun c96 => ?_)
          · refine R_iconst (pc := 106) C dX2_reaches_106 (v := 0) (by decide) ?_
            exact R_iret (pc := 107) C dX2_reaches_107 rfl (Nat.le_of_ble_eq_true rfl) (Nat.le_of_ble_eq_true rfl) (fun h hh => ⟨by rw [spReachM, ← f60, ← f29, ← f81, if_neg c85, if_neg c96], hh⟩)
          · refine R_iload (pc := 99) C dX2_reaches_99 rfl ?_
            refine R_iconst (pc := 101) C dX2_reaches_101 (v := 2) (by decide) ?_
            refine R_idiv (pc := 102) C dX2_reaches_102 (by decide) ?_
            refine R_goto (pc := 103) C dX2_reaches_103 (tgt := 107) (by decide) ?_
            exact R_iret (pc := 107) C dX2_reaches_107 rfl (Nat.le_of_ble_eq_true rfl) (Nat.le_of_ble_eq_true rfl) (fun h hh => ⟨by rw [spReachM, ← f60, ← f29, ← f81, if_neg c85, if_pos c96], hh⟩)
        · refine R_iload (pc := 88) C dX2_reaches_88 rfl ?_
          refine R_goto (pc := 90) C dX2_reaches_90 (tgt := 107) (by decide) ?_
          exact R_iret (pc := 107) C dX2_reaches_107 rfl (Nat.le_of_ble_eq_true rfl) (Nat.le_of_ble_eq_true rfl) (fun h hh => ⟨by rw [spReachM, ← f60, ← f29, ← f81, if_pos c85], hh⟩)
set_option maxHeartbeats 4000000 in
set_option maxRecDepth 100000 in
theorem mX2_reach (hl : l.stackTraces = false) {x y : Int32} (hn : n ≤ 8) : ∀ h, Wd G (adr, Sc, (n, P, F), mu, g) h → CN l yX2_reach cX2_reach 3 (some .int) 3 0 0 [.ref (adr 5), .int x, .int y] G h (fun v h1 => mPost (kReach n x y) (spReachM (F 0 (ix y)) (F 1 (ix y)) (F 0 (ix x)) (F 1 (ix x))) (fun m9 => Wd G (adr, Sc, (n, P, F), m9, g)) (fun m9 => Wd G (adr, Sc, (n, P, F), m9, g)) v h1) := by
  intro h0 hwd
  refine CN.of hl (by decide +kernel) rfl (Nat.le_of_ble_eq_true rfl) (fun K sz hKl hin C => ?_)
  have C : CX K G (AH h0 sz) RX2 cX2_reach 3 (some .int) (rmD 3 0 0) [] := C
  subst hKl
  refine WR.imp (P' := Wd G (adr, Sc, (n, P, F), mu, g)) (fun h e => e ▸ hwd) ?_
  show WR K G _ _ _ [some (.ref (adr 5)), some (.int x), some (.int y)] 0 0 0 []
  refine R_aload_n (pc := 0) C dX2_reach_0 rfl ?_
  refine R_iconst (pc := 1) C dX2_reach_1 (v := 0) (by decide) ?_
  refine R_putf (pc := 2) C dX2_reach_2 (i := 0) (wm0) rfl inlX2 tyX2_ok nmX2 (by decide) k_17_18 rfl rfl rfl (Nat.le_of_ble_eq_true rfl) (pm_thr) ?_
  refine R_aload_n (pc := 5) C dX2_reach_5 rfl ?_
  refine R_iload_n (pc := 6) C dX2_reach_6 rfl ?_
  refine R_callVN (pc := 7) C dX2_reach_7 (vs := [_]) (fun h hh => mX2_isWell hl hn h hh) (isOb_of (wm0) rfl) ⟨k_19_17, k_19_18, k_19_19, k_1_5, k_19_20⟩ (sgn (nv := 1) rfl ⟨by decide +kernel, by decide +kernel, by decide +kernel⟩) ⟨⟨Nat.le_of_ble_eq_true rfl, Nat.le_of_ble_eq_true rfl⟩, ⟨Nat.le_of_ble_eq_true rfl, Nat.le_of_ble_eq_true rfl⟩, Nat.le_of_ble_eq_true rfl⟩ rfl rfl (fun h9 hh9 v9 => ?_)
  refine WR.pr (fun e9 => ?_)
  subst e9
  show WR K G _ _ _ _ _ _ _ (.int _ :: _)
  refine R_if_eq (pc := 10) C dX2_reach_10 (tgt := 41) (by decide) (fun c10 => ?_) (fun c10 => ?_)
  · refine R_aload_n (pc := 41) C dX2_reach_41 rfl ?_
    refine R_iconst (pc := 42) C dX2_reach_42 (v := 1) (by decide) ?_
    refine R_callVN (pc := 43) C dX2_reach_43 (vs := [_]) (fun h hh => mX2_refuses hl h hh) (isOb_of (wm0) rfl) ⟨k_17_23, k_18_0, k_18_1, k_1_5, k_18_2⟩ (sgn (nv := 1) rfl ⟨by decide +kernel, by decide +kernel, by decide +kernel⟩) ⟨⟨Nat.le_of_ble_eq_true rfl, Nat.le_of_ble_eq_true rfl⟩, ⟨Nat.le_of_ble_eq_true rfl, Nat.le_of_ble_eq_true rfl⟩, Nat.le_of_ble_eq_true rfl⟩ rfl rfl (fun h9 hh9 v9 => ?_)
    refine WR.pr (fun e9 => ?_)
    subst e9
    show WR K G _ _ _ _ _ _ _ (.int _ :: _)
    have hk : kReach n x y = 1 := by simp [kReach, b01 c10]
    exact R_iret (pc := 46) C dX2_reach_46 rfl (Nat.le_of_ble_eq_true rfl) (Nat.le_of_ble_eq_true rfl) (fun h hh => Or.inr ⟨by rw [hk]; decide, ⟨_, rfl⟩, _, su_s.trans hk.symm, hh⟩)
  · refine R_aload_n (pc := 13) C dX2_reach_13 rfl ?_
    refine R_iload_n (pc := 14) C dX2_reach_14 rfl ?_
    refine R_callVN (pc := 15) C dX2_reach_15 (vs := [_]) (fun h hh => mX2_isWell hl hn h hh) (isOb_of (wm0) rfl) ⟨k_19_17, k_19_18, k_19_19, k_1_5, k_19_20⟩ (sgn (nv := 1) rfl ⟨by decide +kernel, by decide +kernel, by decide +kernel⟩) ⟨⟨Nat.le_of_ble_eq_true rfl, Nat.le_of_ble_eq_true rfl⟩, ⟨Nat.le_of_ble_eq_true rfl, Nat.le_of_ble_eq_true rfl⟩, Nat.le_of_ble_eq_true rfl⟩ rfl rfl (fun h9 hh9 v9 => ?_)
    refine WR.pr (fun e9 => ?_)
    subst e9
    show WR K G _ _ _ _ _ _ _ (.int _ :: _)
    refine R_if_eq (pc := 18) C dX2_reach_18 (tgt := 41) (by decide) (fun c18 => ?_) (fun c18 => ?_)
    · refine R_aload_n (pc := 41) C dX2_reach_41 rfl ?_
      refine R_iconst (pc := 42) C dX2_reach_42 (v := 1) (by decide) ?_
      refine R_callVN (pc := 43) C dX2_reach_43 (vs := [_]) (fun h hh => mX2_refuses hl h hh) (isOb_of (wm0) rfl) ⟨k_17_23, k_18_0, k_18_1, k_1_5, k_18_2⟩ (sgn (nv := 1) rfl ⟨by decide +kernel, by decide +kernel, by decide +kernel⟩) ⟨⟨Nat.le_of_ble_eq_true rfl, Nat.le_of_ble_eq_true rfl⟩, ⟨Nat.le_of_ble_eq_true rfl, Nat.le_of_ble_eq_true rfl⟩, Nat.le_of_ble_eq_true rfl⟩ rfl rfl (fun h9 hh9 v9 => ?_)
      refine WR.pr (fun e9 => ?_)
      subst e9
      show WR K G _ _ _ _ _ _ _ (.int _ :: _)
      have hk : kReach n x y = 1 := by simp [kReach, b01 c18]
      exact R_iret (pc := 46) C dX2_reach_46 rfl (Nat.le_of_ble_eq_true rfl) (Nat.le_of_ble_eq_true rfl) (fun h hh => Or.inr ⟨by rw [hk]; decide, ⟨_, rfl⟩, _, su_s.trans hk.symm, hh⟩)
    · obtain ⟨i, hi, rfl⟩ := qW_e hn (b01' c10)
      obtain ⟨j, hj, rfl⟩ := qW_e hn (b01' c18)
      refine R_aload_n (pc := 21) C dX2_reach_21 rfl ?_
      refine R_aload_n (pc := 22) C dX2_reach_22 rfl ?_
      refine R_getf (pc := 23) C dX2_reach_23 (i := 2) (wm0) rfl inlX2 (by decide) k_2_18 rfl ?_
      refine R_iload_n (pc := 26) C dX2_reach_26 rfl ?_
      refine R_iald (pc := 27) C dX2_reach_27 (wm_0) (rfl) (by omega) (by decide) rfl ?_
      refine R_aload_n (pc := 28) C dX2_reach_28 rfl ?_
      refine R_getf (pc := 29) C dX2_reach_29 (i := 3) (wm0) rfl inlX2 (by decide) k_2_19 rfl ?_
      refine R_iload_n (pc := 32) C dX2_reach_32 rfl ?_
      refine R_iald (pc := 33) C dX2_reach_33 (wm_1) (rfl) (by omega) (by decide) rfl ?_
      refine R_iload_n (pc := 34) C dX2_reach_34 rfl ?_
      refine R_callVN (pc := 35) C dX2_reach_35 (vs := [_, _, _]) (fun h hh => mX2_reaches hl (by omega) h hh) (isOb_of (wm0) rfl) ⟨k_21_5, k_21_6, k_21_7, k_1_5, k_21_8⟩ (sgn (nv := 3) rfl ⟨by decide +kernel, by decide +kernel, by decide +kernel⟩) ⟨⟨Nat.le_of_ble_eq_true rfl, Nat.le_of_ble_eq_true rfl⟩, ⟨Nat.le_of_ble_eq_true rfl, Nat.le_of_ble_eq_true rfl⟩, Nat.le_of_ble_eq_true rfl⟩ rfl rfl (fun h9 hh9 v9 => ?_)
      refine WR.pr (fun e9 => ?_)
      subst e9
      show WR K G _ _ _ _ _ _ _ (.int _ :: _)
      refine R_goto (pc := 38) C dX2_reach_38 (tgt := 46) (by decide) ?_
      have hk : kReach n (nI i) (nI j) = 0 := by simp [kReach, qW_t hn hi, qW_t hn hj]
      exact R_iret (pc := 46) C dX2_reach_46 rfl (Nat.le_of_ble_eq_true rfl) (Nat.le_of_ble_eq_true rfl) (fun h hh => Or.inl ⟨hk, by rw [ix_nI (by omega), ix_nI (by omega)], _, su_s, hh⟩)
set_option maxHeartbeats 4000000 in
set_option maxRecDepth 100000 in
theorem mX2_toggleMeter (hl : l.stackTraces = false) {x : Int32} (hn : n ≤ 8) (hf7 : ∀ i, i < 8 → F 7 i = 0 ∨ F 7 i = 1) : ∀ h, Wd G (adr, Sc, (n, P, F), mu, g) h → CN l yX2_toggleMeter cX2_toggleMeter 2 (some .boolean) 3 0 0 [.ref (adr 5), .int x] G h (fun v h1 => mPost (kAsk n x) (F 7 (ix x)) (fun m9 => Wd G (adr, Sc, (n, P, F), m9, g)) (fun m9 => Wd G (adr, Sc, (n, P, su F 7 (ix x) (1 - F 7 (ix x))), m9, g)) v h1) := by
  intro h0 hwd
  refine CN.of hl (by decide +kernel) rfl (Nat.le_of_ble_eq_true rfl) (fun K sz hKl hin C => ?_)
  have C : CX K G (AH h0 sz) RX2 cX2_toggleMeter 2 (some .boolean) (rmD 3 0 0) [] := C
  subst hKl
  refine WR.imp (P' := Wd G (adr, Sc, (n, P, F), mu, g)) (fun h e => e ▸ hwd) ?_
  show WR K G _ _ _ [some (.ref (adr 5)), some (.int x)] 0 0 0 []
  refine R_aload_n (pc := 0) C dX2_toggleMeter_0 rfl ?_
  refine R_iload_n (pc := 1) C dX2_toggleMeter_1 rfl ?_
  refine R_callVN (pc := 2) C dX2_toggleMeter_2 (vs := [_]) (fun h hh => mX2_isAsked hl hn h hh) (isOb_of (wm0) rfl) ⟨k_19_13, k_19_14, k_19_15, k_1_5, k_19_16⟩ (sgn (nv := 1) rfl ⟨by decide +kernel, by decide +kernel, by decide +kernel⟩) ⟨⟨Nat.le_of_ble_eq_true rfl, Nat.le_of_ble_eq_true rfl⟩, ⟨Nat.le_of_ble_eq_true rfl, Nat.le_of_ble_eq_true rfl⟩, Nat.le_of_ble_eq_true rfl⟩ rfl rfl (fun h9 hh9 v9 => ?_)
  refine WR.pr (fun e9 => ?_)
  subst e9
  show WR K G _ _ _ _ _ _ _ (.int _ :: _)
  refine R_if_ne (pc := 5) C dX2_toggleMeter_5 (tgt := 10) (by decide) (fun c5 => ?_) (fun c5 => ?_)
  · obtain ⟨i, hi, rfl⟩ := qW_e hn (b01' c5)
    refine R_aload_n (pc := 10) C dX2_toggleMeter_10 rfl ?_
    refine R_getf (pc := 11) C dX2_toggleMeter_11 (i := 9) (wm0) rfl inlX2 (by decide) k_3_2 rfl ?_
    refine R_iload_n (pc := 14) C dX2_toggleMeter_14 rfl ?_
    refine R_aload_n (pc := 15) C dX2_toggleMeter_15 rfl ?_
    refine R_getf (pc := 16) C dX2_toggleMeter_16 (i := 9) (wm0) rfl inlX2 (by decide) k_3_2 rfl ?_
    refine R_iload_n (pc := 19) C dX2_toggleMeter_19 rfl ?_
    refine R_zald (pc := 20) C dX2_toggleMeter_20 (wm_7) (rfl) (by omega) (by decide) rfl ?_
    refine R_if_ne (pc := 21) C dX2_toggleMeter_21 (tgt := 28) (by decide) (fun c21 => ?_) (fun c21 => ?_)
    · refine R_iconst (pc := 28) C dX2_toggleMeter_28 (v := 0) (by decide) ?_
      refine R_zast (pc := 29) C dX2_toggleMeter_29 (wm_7) (rfl) (by omega) (by decide) (rfl) (pme_7 (v0 := 1 - F 7 i) (by rcases hf7 i (by omega) with q | q <;> rw [q] at c21 ⊢ <;> revert c21 <;> decide)) ?_
      refine R_aload_n (pc := 30) C dX2_toggleMeter_30 rfl ?_
      refine R_getf (pc := 31) C dX2_toggleMeter_31 (i := 9) (wm0) rfl inlX2 (by decide) k_3_2 rfl ?_
      refine R_iload_n (pc := 34) C dX2_toggleMeter_34 rfl ?_
      refine R_zald (pc := 35) C dX2_toggleMeter_35 (wm_7) (rfl) (by omega) (by decide) rfl ?_
      refine R_if_ne (pc := 36) C dX2_toggleMeter_36 (tgt := 43) (by decide) (fun c36 => ?_) (fun c36 => ?_)
      · refine R_iconst (pc := 43) C dX2_toggleMeter_43 (v := 0) (by decide) ?_
        have hk : kAsk n (nI i) = 0 := by simp [kAsk, qW_t hn hi]
        have hv : (.int 0 : Value) = .int (F 7 i) := by rw [su_s] at c36; congr 1; rcases hf7 i (by omega) with q | q <;> rw [q] at c36 ⊢ <;> revert c36 <;> decide
        exact R_zret (pc := 44) C dX2_toggleMeter_44 rfl rfl (Nat.le_of_ble_eq_true rfl) (Nat.le_of_ble_eq_true rfl) (fun h hh => Or.inl ⟨hk, by rw [ix_nI (by omega), hv], _, su_s.trans hk, by rw [ix_nI (by omega)]; exact hh⟩)
      · refine R_iconst (pc := 39) C dX2_toggleMeter_39 (v := 1) (by decide) ?_
        refine R_goto (pc := 40) C dX2_toggleMeter_40 (tgt := 44) (by decide) ?_
        have hk : kAsk n (nI i) = 0 := by simp [kAsk, qW_t hn hi]
        have hv : (.int 1 : Value) = .int (F 7 i) := by rw [su_s] at c36; congr 1; rcases hf7 i (by omega) with q | q <;> rw [q] at c36 ⊢ <;> revert c36 <;> decide
        exact R_zret (pc := 44) C dX2_toggleMeter_44 rfl rfl (Nat.le_of_ble_eq_true rfl) (Nat.le_of_ble_eq_true rfl) (fun h hh => Or.inl ⟨hk, by rw [ix_nI (by omega), hv], _, su_s.trans hk, by rw [ix_nI (by omega)]; exact hh⟩)
    · refine R_iconst (pc := 24) C dX2_toggleMeter_24 (v := 1) (by decide) ?_
      refine R_goto (pc := 25) C dX2_toggleMeter_25 (tgt := 29) (by decide) ?_
      refine R_zast (pc := 29) C dX2_toggleMeter_29 (wm_7) (rfl) (by omega) (by decide) (rfl) (pme_7 (v0 := 1 - F 7 i) (by rcases hf7 i (by omega) with q | q <;> rw [q] at c21 ⊢ <;> revert c21 <;> decide)) ?_
      refine R_aload_n (pc := 30) C dX2_toggleMeter_30 rfl ?_
      refine R_getf (pc := 31) C dX2_toggleMeter_31 (i := 9) (wm0) rfl inlX2 (by decide) k_3_2 rfl ?_
      refine R_iload_n (pc := 34) C dX2_toggleMeter_34 rfl ?_
      refine R_zald (pc := 35) C dX2_toggleMeter_35 (wm_7) (rfl) (by omega) (by decide) rfl ?_
      refine R_if_ne (pc := 36) C dX2_toggleMeter_36 (tgt := 43) (by decide) (fun c36 => ?_) (fun c36 => ?_)
      · refine R_iconst (pc := 43) C dX2_toggleMeter_43 (v := 0) (by decide) ?_
        have hk : kAsk n (nI i) = 0 := by simp [kAsk, qW_t hn hi]
        have hv : (.int 0 : Value) = .int (F 7 i) := by rw [su_s] at c36; congr 1; rcases hf7 i (by omega) with q | q <;> rw [q] at c36 ⊢ <;> revert c36 <;> decide
        exact R_zret (pc := 44) C dX2_toggleMeter_44 rfl rfl (Nat.le_of_ble_eq_true rfl) (Nat.le_of_ble_eq_true rfl) (fun h hh => Or.inl ⟨hk, by rw [ix_nI (by omega), hv], _, su_s.trans hk, by rw [ix_nI (by omega)]; exact hh⟩)
      · refine R_iconst (pc := 39) C dX2_toggleMeter_39 (v := 1) (by decide) ?_
        refine R_goto (pc := 40) C dX2_toggleMeter_40 (tgt := 44) (by decide) ?_
        have hk : kAsk n (nI i) = 0 := by simp [kAsk, qW_t hn hi]
        have hv : (.int 1 : Value) = .int (F 7 i) := by rw [su_s] at c36; congr 1; rcases hf7 i (by omega) with q | q <;> rw [q] at c36 ⊢ <;> revert c36 <;> decide
        exact R_zret (pc := 44) C dX2_toggleMeter_44 rfl rfl (Nat.le_of_ble_eq_true rfl) (Nat.le_of_ble_eq_true rfl) (fun h hh => Or.inl ⟨hk, by rw [ix_nI (by omega), hv], _, su_s.trans hk, by rw [ix_nI (by omega)]; exact hh⟩)
  · refine R_iconst (pc := 8) C dX2_toggleMeter_8 (v := 0) (by decide) ?_
    have hk : kAsk n x = 1 := by simp [kAsk, b01 c5]
    exact R_zret (pc := 9) C dX2_toggleMeter_9 rfl rfl (Nat.le_of_ble_eq_true rfl) (Nat.le_of_ble_eq_true rfl) (fun h hh => Or.inr ⟨by rw [hk]; decide, ⟨_, rfl⟩, _, su_s, hh⟩)
set_option maxHeartbeats 4000000 in
set_option maxRecDepth 100000 in
theorem mX2_lend (hl : l.stackTraces = false) {x y a : Int32} (hn : n ≤ 8) : ∀ h, Wd G (adr, Sc, (n, P, F), mu, g) h → CN l yX2_lend cX2_lend 4 (some .int) 3 0 0 [.ref (adr 5), .int x, .int y, .int a] G h (fun v h1 => mPost (kLend n F x y a) (F 13 (8 * ix x + ix y) + a) (fun m9 => Wd G (adr, Sc, (n, P, F), m9, g)) (fun m9 => Wd G (adr, Sc, (n, P, fLend F (ix x) (ix y) a), m9, g)) v h1) := by
  intro h0 hwd
  refine CN.of hl (by decide +kernel) rfl (Nat.le_of_ble_eq_true rfl) (fun K sz hKl hin C => ?_)
  have C : CX K G (AH h0 sz) RX2 cX2_lend 4 (some .int) (rmD 3 0 0) [] := C
  subst hKl
  refine WR.imp (P' := Wd G (adr, Sc, (n, P, F), mu, g)) (fun h e => e ▸ hwd) ?_
  show WR K G _ _ _ [some (.ref (adr 5)), some (.int x), some (.int y), some (.int a)] 0 0 0 []
  refine R_aload_n (pc := 0) C dX2_lend_0 rfl ?_
  refine R_iconst (pc := 1) C dX2_lend_1 (v := 0) (by decide) ?_
  refine R_putf (pc := 2) C dX2_lend_2 (i := 0) (wm0) rfl inlX2 tyX2_ok nmX2 (by decide) k_17_18 rfl rfl rfl (Nat.le_of_ble_eq_true rfl) (pm_thr) ?_
  refine R_aload_n (pc := 5) C dX2_lend_5 rfl ?_
  refine R_iload_n (pc := 6) C dX2_lend_6 rfl ?_
  refine R_callVN (pc := 7) C dX2_lend_7 (vs := [_]) (fun h hh => mX2_isWell hl hn h hh) (isOb_of (wm0) rfl) ⟨k_19_17, k_19_18, k_19_19, k_1_5, k_19_20⟩ (sgn (nv := 1) rfl ⟨by decide +kernel, by decide +kernel, by decide +kernel⟩) ⟨⟨Nat.le_of_ble_eq_true rfl, Nat.le_of_ble_eq_true rfl⟩, ⟨Nat.le_of_ble_eq_true rfl, Nat.le_of_ble_eq_true rfl⟩, Nat.le_of_ble_eq_true rfl⟩ rfl rfl (fun h9 hh9 v9 => ?_)
  refine WR.pr (fun e9 => ?_)
  subst e9
  show WR K G _ _ _ _ _ _ _ (.int _ :: _)
  refine R_if_eq (pc := 10) C dX2_lend_10 (tgt := 21) (by decide) (fun c10 => ?_) (fun c10 => ?_)
  · refine R_aload_n (pc := 21) C dX2_lend_21 rfl ?_
    refine R_iconst (pc := 22) C dX2_lend_22 (v := 1) (by decide) ?_
    refine R_callVN (pc := 23) C dX2_lend_23 (vs := [_]) (fun h hh => mX2_refuses hl h hh) (isOb_of (wm0) rfl) ⟨k_17_23, k_18_0, k_18_1, k_1_5, k_18_2⟩ (sgn (nv := 1) rfl ⟨by decide +kernel, by decide +kernel, by decide +kernel⟩) ⟨⟨Nat.le_of_ble_eq_true rfl, Nat.le_of_ble_eq_true rfl⟩, ⟨Nat.le_of_ble_eq_true rfl, Nat.le_of_ble_eq_true rfl⟩, Nat.le_of_ble_eq_true rfl⟩ rfl rfl (fun h9 hh9 v9 => ?_)
    refine WR.pr (fun e9 => ?_)
    subst e9
    show WR K G _ _ _ _ _ _ _ (.int _ :: _)
    have hk : kLend n F x y a = 1 := by simp [kLend, b01 c10]
    exact R_iret (pc := 26) C dX2_lend_26 rfl (Nat.le_of_ble_eq_true rfl) (Nat.le_of_ble_eq_true rfl) (fun h hh => Or.inr ⟨by rw [hk]; decide, ⟨_, rfl⟩, _, su_s.trans hk.symm, hh⟩)
  · refine R_aload_n (pc := 13) C dX2_lend_13 rfl ?_
    refine R_iload_n (pc := 14) C dX2_lend_14 rfl ?_
    refine R_callVN (pc := 15) C dX2_lend_15 (vs := [_]) (fun h hh => mX2_isWell hl hn h hh) (isOb_of (wm0) rfl) ⟨k_19_17, k_19_18, k_19_19, k_1_5, k_19_20⟩ (sgn (nv := 1) rfl ⟨by decide +kernel, by decide +kernel, by decide +kernel⟩) ⟨⟨Nat.le_of_ble_eq_true rfl, Nat.le_of_ble_eq_true rfl⟩, ⟨Nat.le_of_ble_eq_true rfl, Nat.le_of_ble_eq_true rfl⟩, Nat.le_of_ble_eq_true rfl⟩ rfl rfl (fun h9 hh9 v9 => ?_)
    refine WR.pr (fun e9 => ?_)
    subst e9
    show WR K G _ _ _ _ _ _ _ (.int _ :: _)
    refine R_if_ne (pc := 18) C dX2_lend_18 (tgt := 27) (by decide) (fun c18 => ?_) (fun c18 => ?_)
    · refine R_iload_n (pc := 27) C dX2_lend_27 rfl ?_
      refine R_iload_n (pc := 28) C dX2_lend_28 rfl ?_
      refine R_icmp_eq (pc := 29) C dX2_lend_29 (tgt := 43) (by decide) (fun c29 => ?_) (fun c29 => ?_)
      · refine R_aload_n (pc := 43) C dX2_lend_43 rfl ?_
        refine R_iconst (pc := 44) C dX2_lend_44 (v := 2) (by decide) ?_
        refine R_callVN (pc := 45) C dX2_lend_45 (vs := [_]) (fun h hh => mX2_refuses hl h hh) (isOb_of (wm0) rfl) ⟨k_17_23, k_18_0, k_18_1, k_1_5, k_18_2⟩ (sgn (nv := 1) rfl ⟨by decide +kernel, by decide +kernel, by decide +kernel⟩) ⟨⟨Nat.le_of_ble_eq_true rfl, Nat.le_of_ble_eq_true rfl⟩, ⟨Nat.le_of_ble_eq_true rfl, Nat.le_of_ble_eq_true rfl⟩, Nat.le_of_ble_eq_true rfl⟩ rfl rfl (fun h9 hh9 v9 => ?_)
        refine WR.pr (fun e9 => ?_)
        subst e9
        show WR K G _ _ _ _ _ _ _ (.int _ :: _)
        have hk : kLend n F x y a = 2 := by simp [kLend, b01' c10, b01' c18, c29]
        exact R_iret (pc := 48) C dX2_lend_48 rfl (Nat.le_of_ble_eq_true rfl) (Nat.le_of_ble_eq_true rfl) (fun h hh => Or.inr ⟨by rw [hk]; decide, ⟨_, rfl⟩, _, su_s.trans hk.symm, hh⟩)
      · refine R_iload_n (pc := 32) C dX2_lend_32 rfl ?_
        refine R_iconst (pc := 33) C dX2_lend_33 (v := 1) (by decide) ?_
        refine R_sipush (pc := 34) C dX2_lend_34 (v := 10000) (by decide) ?_
        refine R_callSN (pc := 37) C dX2_lend_37 (vs := [_, _, _]) (fun h hh => mX2_in hl h) ⟨k_17_20, k_17_21, k_1_5, k_17_22⟩ (sgn (nv := 3) rfl ⟨by decide +kernel, by decide +kernel, by decide +kernel⟩) ⟨⟨Nat.le_of_ble_eq_true rfl, Nat.le_of_ble_eq_true rfl⟩, ⟨Nat.le_of_ble_eq_true rfl, Nat.le_of_ble_eq_true rfl⟩, Nat.le_of_ble_eq_true rfl⟩ rfl rfl (fun h9 hh9 v9 => ?_)
        refine WR.pr (fun e9 => ?_)
        subst e9
        refine WR.imp (P' := Wd G (adr, Sc, (n, P, F), su mu 0 0 0, g)) (fun h1 e1 => e1 ▸ hh9) ?_
        show WR K G _ _ _ _ _ _ _ (.int _ :: _)
        refine R_if_ne (pc := 40) C dX2_lend_40 (tgt := 49) (by decide) (fun c40 => ?_) (fun c40 => ?_)
        · have hd := c29
          obtain ⟨i, hi, rfl⟩ := qW_e hn (b01' c10)
          obtain ⟨j, hj, rfl⟩ := qW_e hn (b01' c18)
          have hji : j ≠ i := fun q => hd (by rw [q])
          refine R_aload_n (pc := 49) C dX2_lend_49 rfl ?_
          refine R_getf (pc := 50) C dX2_lend_50 (i := 11) (wm0) rfl inlX2 (by decide) k_3_4 rfl ?_
          refine R_iload_n (pc := 53) C dX2_lend_53 rfl ?_
          refine R_iald (pc := 54) C dX2_lend_54 (wm_9) (rfl) (by omega) (by decide) rfl ?_
          refine R_iload_n (pc := 55) C dX2_lend_55 rfl ?_
          refine R_icmp_ge (pc := 56) C dX2_lend_56 (tgt := 65) (by decide) (fun c56 => ?_) (fun c56 => ?_)
          · refine R_aload_n (pc := 65) C dX2_lend_65 rfl ?_
            refine R_getf (pc := 66) C dX2_lend_66 (i := 11) (wm0) rfl inlX2 (by decide) k_3_4 rfl ?_
            refine R_iload_n (pc := 69) C dX2_lend_69 rfl ?_
            refine R_dup2 (pc := 70) C dX2_lend_70 rfl rfl ?_
            refine R_iald (pc := 71) C dX2_lend_71 (wm_9) (rfl) (by omega) (by decide) rfl ?_
            refine R_iload_n (pc := 72) C dX2_lend_72 rfl ?_
            refine R_isub (pc := 73) C dX2_lend_73 ?_
            refine R_iast (pc := 74) C dX2_lend_74 (wm_9) (rfl) (by omega) (by decide) (pm_9) ?_
            refine R_aload_n (pc := 75) C dX2_lend_75 rfl ?_
            refine R_getf (pc := 76) C dX2_lend_76 (i := 11) (wm0) rfl inlX2 (by decide) k_3_4 rfl ?_
            refine R_iload_n (pc := 79) C dX2_lend_79 rfl ?_
            refine R_dup2 (pc := 80) C dX2_lend_80 rfl rfl ?_
            refine R_iald (pc := 81) C dX2_lend_81 (wm_9) (rfl) (by omega) (by decide) rfl ?_
            refine R_iload_n (pc := 82) C dX2_lend_82 rfl ?_
            refine R_iadd (pc := 83) C dX2_lend_83 ?_
            refine R_iast (pc := 84) C dX2_lend_84 (wm_9) (rfl) (by omega) (by decide) (pme_9 (v0 := F 9 j + a) (by rw [su_i hji])) ?_
            refine R_aload_n (pc := 85) C dX2_lend_85 rfl ?_
            refine R_getf (pc := 86) C dX2_lend_86 (i := 15) (wm0) rfl inlX2 (by decide) k_3_8 rfl ?_
            refine R_bipush (pc := 89) C dX2_lend_89 (v := 8) (by decide) ?_
            refine R_iload_n (pc := 91) C dX2_lend_91 rfl ?_
            refine R_imul (pc := 92) C dX2_lend_92 ?_
            refine R_iload_n (pc := 93) C dX2_lend_93 rfl ?_
            refine R_iadd (pc := 94) C dX2_lend_94 ?_
            refine R_dup2 (pc := 95) C dX2_lend_95 rfl rfl ?_
            refine R_iald (pc := 96) C dX2_lend_96 (wm_13) (idx8) (show 8 * i + j < 64 by omega) (by decide) rfl ?_
            refine R_iload_n (pc := 97) C dX2_lend_97 rfl ?_
            refine R_iadd (pc := 98) C dX2_lend_98 ?_
            refine R_iast (pc := 99) C dX2_lend_99 (wm_13) (idx8) (show 8 * i + j < 64 by omega) (by decide) (pme_13 (v0 := F 13 (8 * i + j) + a) (by rw [su_f (by omega), su_f (by omega)])) ?_
            refine R_aload_n (pc := 100) C dX2_lend_100 rfl ?_
            refine R_getf (pc := 101) C dX2_lend_101 (i := 15) (wm0) rfl inlX2 (by decide) k_3_8 rfl ?_
            refine R_bipush (pc := 104) C dX2_lend_104 (v := 8) (by decide) ?_
            refine R_iload_n (pc := 106) C dX2_lend_106 rfl ?_
            refine R_imul (pc := 107) C dX2_lend_107 ?_
            refine R_iload_n (pc := 108) C dX2_lend_108 rfl ?_
            refine R_iadd (pc := 109) C dX2_lend_109 ?_
            refine R_iald (pc := 110) C dX2_lend_110 (wm_13) (idx8) (show 8 * i + j < 64 by omega) (by decide) rfl ?_
            have hk : kLend n F (nI i) (nI j) a = 0 := by simp [kLend, qW_t hn hi, qW_t hn hj, hd, b01' c40, ix_nI (show i < 2 ^ 31 by omega), Int32.not_lt.mpr c56]
            exact R_iret (pc := 111) C dX2_lend_111 rfl (Nat.le_of_ble_eq_true rfl) (Nat.le_of_ble_eq_true rfl) (fun h hh => Or.inl ⟨hk, by rw [ix_nI (by omega), ix_nI (by omega), su_s], _, su_s, by rw [ix_nI (by omega), ix_nI (by omega)]; exact hh⟩)
          · refine R_aload_n (pc := 59) C dX2_lend_59 rfl ?_
            refine R_iconst (pc := 60) C dX2_lend_60 (v := 3) (by decide) ?_
            refine R_callVN (pc := 61) C dX2_lend_61 (vs := [_]) (fun h hh => mX2_refuses hl h hh) (isOb_of (wm0) rfl) ⟨k_17_23, k_18_0, k_18_1, k_1_5, k_18_2⟩ (sgn (nv := 1) rfl ⟨by decide +kernel, by decide +kernel, by decide +kernel⟩) ⟨⟨Nat.le_of_ble_eq_true rfl, Nat.le_of_ble_eq_true rfl⟩, ⟨Nat.le_of_ble_eq_true rfl, Nat.le_of_ble_eq_true rfl⟩, Nat.le_of_ble_eq_true rfl⟩ rfl rfl (fun h9 hh9 v9 => ?_)
            refine WR.pr (fun e9 => ?_)
            subst e9
            show WR K G _ _ _ _ _ _ _ (.int _ :: _)
            have hk : kLend n F (nI i) (nI j) a = 3 := by simp [kLend, qW_t hn hi, qW_t hn hj, hd, b01' c40, ix_nI (show i < 2 ^ 31 by omega), Int32.not_le.mp c56]
            exact R_iret (pc := 64) C dX2_lend_64 rfl (Nat.le_of_ble_eq_true rfl) (Nat.le_of_ble_eq_true rfl) (fun h hh => Or.inr ⟨by rw [hk]; decide, ⟨_, rfl⟩, _, su_s.trans hk.symm, hh⟩)
        · refine R_aload_n (pc := 43) C dX2_lend_43 rfl ?_
          refine R_iconst (pc := 44) C dX2_lend_44 (v := 2) (by decide) ?_
          refine R_callVN (pc := 45) C dX2_lend_45 (vs := [_]) (fun h hh => mX2_refuses hl h hh) (isOb_of (wm0) rfl) ⟨k_17_23, k_18_0, k_18_1, k_1_5, k_18_2⟩ (sgn (nv := 1) rfl ⟨by decide +kernel, by decide +kernel, by decide +kernel⟩) ⟨⟨Nat.le_of_ble_eq_true rfl, Nat.le_of_ble_eq_true rfl⟩, ⟨Nat.le_of_ble_eq_true rfl, Nat.le_of_ble_eq_true rfl⟩, Nat.le_of_ble_eq_true rfl⟩ rfl rfl (fun h9 hh9 v9 => ?_)
          refine WR.pr (fun e9 => ?_)
          subst e9
          show WR K G _ _ _ _ _ _ _ (.int _ :: _)
          have hk : kLend n F x y a = 2 := by simp [kLend, b01' c10, b01' c18, c29, b01 c40]
          exact R_iret (pc := 48) C dX2_lend_48 rfl (Nat.le_of_ble_eq_true rfl) (Nat.le_of_ble_eq_true rfl) (fun h hh => Or.inr ⟨by rw [hk]; decide, ⟨_, rfl⟩, _, su_s.trans hk.symm, hh⟩)
    · refine R_aload_n (pc := 21) C dX2_lend_21 rfl ?_
      refine R_iconst (pc := 22) C dX2_lend_22 (v := 1) (by decide) ?_
      refine R_callVN (pc := 23) C dX2_lend_23 (vs := [_]) (fun h hh => mX2_refuses hl h hh) (isOb_of (wm0) rfl) ⟨k_17_23, k_18_0, k_18_1, k_1_5, k_18_2⟩ (sgn (nv := 1) rfl ⟨by decide +kernel, by decide +kernel, by decide +kernel⟩) ⟨⟨Nat.le_of_ble_eq_true rfl, Nat.le_of_ble_eq_true rfl⟩, ⟨Nat.le_of_ble_eq_true rfl, Nat.le_of_ble_eq_true rfl⟩, Nat.le_of_ble_eq_true rfl⟩ rfl rfl (fun h9 hh9 v9 => ?_)
      refine WR.pr (fun e9 => ?_)
      subst e9
      show WR K G _ _ _ _ _ _ _ (.int _ :: _)
      have hk : kLend n F x y a = 1 := by simp [kLend, b01 c18]
      exact R_iret (pc := 26) C dX2_lend_26 rfl (Nat.le_of_ble_eq_true rfl) (Nat.le_of_ble_eq_true rfl) (fun h hh => Or.inr ⟨by rw [hk]; decide, ⟨_, rfl⟩, _, su_s.trans hk.symm, hh⟩)
set_option maxHeartbeats 4000000 in
set_option maxRecDepth 100000 in
theorem mX2_callBack (hl : l.stackTraces = false) {x y : Int32} (hn : n ≤ 8) : ∀ h, Wd G (adr, Sc, (n, P, F), mu, g) h → CN l yX2_callBack cX2_callBack 5 (some .int) 3 0 0 [.ref (adr 5), .int x, .int y] G h (fun v h1 => mPost (kBack n x y) (minI (F 13 (8 * ix x + ix y)) (F 9 (ix y))) (fun m9 => Wd G (adr, Sc, (n, P, F), m9, g)) (fun m9 => Wd G (adr, Sc, (n, P, fBack F (ix x) (ix y) (minI (F 13 (8 * ix x + ix y)) (F 9 (ix y)))), m9, g)) v h1) := by
  intro h0 hwd
  refine CN.of hl (by decide +kernel) rfl (Nat.le_of_ble_eq_true rfl) (fun K sz hKl hin C => ?_)
  have C : CX K G (AH h0 sz) RX2 cX2_callBack 5 (some .int) (rmD 3 0 0) [] := C
  subst hKl
  refine WR.imp (P' := Wd G (adr, Sc, (n, P, F), mu, g)) (fun h e => e ▸ hwd) ?_
  show WR K G _ _ _ [some (.ref (adr 5)), some (.int x), some (.int y), none, none] 0 0 0 []
  refine R_aload_n (pc := 0) C dX2_callBack_0 rfl ?_
  refine R_iconst (pc := 1) C dX2_callBack_1 (v := 0) (by decide) ?_
  refine R_putf (pc := 2) C dX2_callBack_2 (i := 0) (wm0) rfl inlX2 tyX2_ok nmX2 (by decide) k_17_18 rfl rfl rfl (Nat.le_of_ble_eq_true rfl) (pm_thr) ?_
  refine R_aload_n (pc := 5) C dX2_callBack_5 rfl ?_
  refine R_iload_n (pc := 6) C dX2_callBack_6 rfl ?_
  refine R_callVN (pc := 7) C dX2_callBack_7 (vs := [_]) (fun h hh => mX2_isWell hl hn h hh) (isOb_of (wm0) rfl) ⟨k_19_17, k_19_18, k_19_19, k_1_5, k_19_20⟩ (sgn (nv := 1) rfl ⟨by decide +kernel, by decide +kernel, by decide +kernel⟩) ⟨⟨Nat.le_of_ble_eq_true rfl, Nat.le_of_ble_eq_true rfl⟩, ⟨Nat.le_of_ble_eq_true rfl, Nat.le_of_ble_eq_true rfl⟩, Nat.le_of_ble_eq_true rfl⟩ rfl rfl (fun h9 hh9 v9 => ?_)
  refine WR.pr (fun e9 => ?_)
  subst e9
  show WR K G _ _ _ _ _ _ _ (.int _ :: _)
  refine R_if_eq (pc := 10) C dX2_callBack_10 (tgt := 21) (by decide) (fun c10 => ?_) (fun c10 => ?_)
  · refine R_aload_n (pc := 21) C dX2_callBack_21 rfl ?_
    refine R_iconst (pc := 22) C dX2_callBack_22 (v := 1) (by decide) ?_
    refine R_callVN (pc := 23) C dX2_callBack_23 (vs := [_]) (fun h hh => mX2_refuses hl h hh) (isOb_of (wm0) rfl) ⟨k_17_23, k_18_0, k_18_1, k_1_5, k_18_2⟩ (sgn (nv := 1) rfl ⟨by decide +kernel, by decide +kernel, by decide +kernel⟩) ⟨⟨Nat.le_of_ble_eq_true rfl, Nat.le_of_ble_eq_true rfl⟩, ⟨Nat.le_of_ble_eq_true rfl, Nat.le_of_ble_eq_true rfl⟩, Nat.le_of_ble_eq_true rfl⟩ rfl rfl (fun h9 hh9 v9 => ?_)
    refine WR.pr (fun e9 => ?_)
    subst e9
    show WR K G _ _ _ _ _ _ _ (.int _ :: _)
    have hk : kBack n x y = 1 := by simp [kBack, b01 c10]
    exact R_iret (pc := 26) C dX2_callBack_26 rfl (Nat.le_of_ble_eq_true rfl) (Nat.le_of_ble_eq_true rfl) (fun h hh => Or.inr ⟨by rw [hk]; decide, ⟨_, rfl⟩, _, su_s.trans hk.symm, hh⟩)
  · refine R_aload_n (pc := 13) C dX2_callBack_13 rfl ?_
    refine R_iload_n (pc := 14) C dX2_callBack_14 rfl ?_
    refine R_callVN (pc := 15) C dX2_callBack_15 (vs := [_]) (fun h hh => mX2_isWell hl hn h hh) (isOb_of (wm0) rfl) ⟨k_19_17, k_19_18, k_19_19, k_1_5, k_19_20⟩ (sgn (nv := 1) rfl ⟨by decide +kernel, by decide +kernel, by decide +kernel⟩) ⟨⟨Nat.le_of_ble_eq_true rfl, Nat.le_of_ble_eq_true rfl⟩, ⟨Nat.le_of_ble_eq_true rfl, Nat.le_of_ble_eq_true rfl⟩, Nat.le_of_ble_eq_true rfl⟩ rfl rfl (fun h9 hh9 v9 => ?_)
    refine WR.pr (fun e9 => ?_)
    subst e9
    show WR K G _ _ _ _ _ _ _ (.int _ :: _)
    refine R_if_ne (pc := 18) C dX2_callBack_18 (tgt := 27) (by decide) (fun c18 => ?_) (fun c18 => ?_)
    · refine R_iload_n (pc := 27) C dX2_callBack_27 rfl ?_
      refine R_iload_n (pc := 28) C dX2_callBack_28 rfl ?_
      refine R_icmp_ne (pc := 29) C dX2_callBack_29 (tgt := 38) (by decide) (fun c29 => ?_) (fun c29 => ?_)
      · have hd := c29
        obtain ⟨i, hi, rfl⟩ := qW_e hn (b01' c10)
        obtain ⟨j, hj, rfl⟩ := qW_e hn (b01' c18)
        have hji : j ≠ i := fun q => hd (by rw [q])
        refine R_aload_n (pc := 38) C dX2_callBack_38 rfl ?_
        refine R_getf (pc := 39) C dX2_callBack_39 (i := 15) (wm0) rfl inlX2 (by decide) k_3_8 rfl ?_
        refine R_bipush (pc := 42) C dX2_callBack_42 (v := 8) (by decide) ?_
        refine R_iload_n (pc := 44) C dX2_callBack_44 rfl ?_
        refine R_imul (pc := 45) C dX2_callBack_45 ?_
        refine R_iload_n (pc := 46) C dX2_callBack_46 rfl ?_
        refine R_iadd (pc := 47) C dX2_callBack_47 ?_
        refine R_iald (pc := 48) C dX2_callBack_48 (wm_13) (idx8) (show 8 * i + j < 64 by omega) (by decide) rfl ?_
        refine R_istore_n (pc := 49) C dX2_callBack_49 (Nat.le_of_ble_eq_true rfl) (lv' := [some (.ref _), some (.int _), some (.int _), some (.int _), none]) rfl ?_
        refine R_iload_n (pc := 50) C dX2_callBack_50 rfl ?_
        refine R_aload_n (pc := 51) C dX2_callBack_51 rfl ?_
        refine R_getf (pc := 52) C dX2_callBack_52 (i := 11) (wm0) rfl inlX2 (by decide) k_3_4 rfl ?_
        refine R_iload_n (pc := 55) C dX2_callBack_55 rfl ?_
        refine R_iald (pc := 56) C dX2_callBack_56 (wm_9) (rfl) (by omega) (by decide) rfl ?_
        refine R_icmp_ge (pc := 57) C dX2_callBack_57 (tgt := 64) (by decide) (fun c57 => ?_) (fun c57 => ?_)
        · refine R_aload_n (pc := 64) C dX2_callBack_64 rfl ?_
          refine R_getf (pc := 65) C dX2_callBack_65 (i := 11) (wm0) rfl inlX2 (by decide) k_3_4 rfl ?_
          refine R_iload_n (pc := 68) C dX2_callBack_68 rfl ?_
          refine R_iald (pc := 69) C dX2_callBack_69 (wm_9) (rfl) (by omega) (by decide) rfl ?_
          refine R_topi (fun b e70 => ?_)
          have fb : b = minI (F 13 (8 * i + j)) (F 9 j) := e70.trans (minI_le c57)
          refine R_istore (pc := 70) C dX2_callBack_70 (Nat.le_of_ble_eq_true rfl) (lv' := [some (.ref _), some (.int _), some (.int _), some (.int _), some (.int _)]) rfl ?_
          refine R_aload_n (pc := 72) C dX2_callBack_72 rfl ?_
          refine R_getf (pc := 73) C dX2_callBack_73 (i := 11) (wm0) rfl inlX2 (by decide) k_3_4 rfl ?_
          refine R_iload_n (pc := 76) C dX2_callBack_76 rfl ?_
          refine R_dup2 (pc := 77) C dX2_callBack_77 rfl rfl ?_
          refine R_iald (pc := 78) C dX2_callBack_78 (wm_9) (rfl) (by omega) (by decide) rfl ?_
          refine R_iload (pc := 79) C dX2_callBack_79 rfl ?_
          refine R_isub (pc := 81) C dX2_callBack_81 ?_
          refine R_iast (pc := 82) C dX2_callBack_82 (wm_9) (rfl) (by omega) (by decide) (pm_9) ?_
          refine R_aload_n (pc := 83) C dX2_callBack_83 rfl ?_
          refine R_getf (pc := 84) C dX2_callBack_84 (i := 11) (wm0) rfl inlX2 (by decide) k_3_4 rfl ?_
          refine R_iload_n (pc := 87) C dX2_callBack_87 rfl ?_
          refine R_dup2 (pc := 88) C dX2_callBack_88 rfl rfl ?_
          refine R_iald (pc := 89) C dX2_callBack_89 (wm_9) (rfl) (by omega) (by decide) rfl ?_
          refine R_iload (pc := 90) C dX2_callBack_90 rfl ?_
          refine R_iadd (pc := 92) C dX2_callBack_92 ?_
          refine R_iast (pc := 93) C dX2_callBack_93 (wm_9) (rfl) (by omega) (by decide) (pme_9 (v0 := F 9 i + b) (by rw [su_i hji.symm])) ?_
          refine R_aload_n (pc := 94) C dX2_callBack_94 rfl ?_
          refine R_getf (pc := 95) C dX2_callBack_95 (i := 15) (wm0) rfl inlX2 (by decide) k_3_8 rfl ?_
          refine R_bipush (pc := 98) C dX2_callBack_98 (v := 8) (by decide) ?_
          refine R_iload_n (pc := 100) C dX2_callBack_100 rfl ?_
          refine R_imul (pc := 101) C dX2_callBack_101 ?_
          refine R_iload_n (pc := 102) C dX2_callBack_102 rfl ?_
          refine R_iadd (pc := 103) C dX2_callBack_103 ?_
          refine R_dup2 (pc := 104) C dX2_callBack_104 rfl rfl ?_
          refine R_iald (pc := 105) C dX2_callBack_105 (wm_13) (idx8) (show 8 * i + j < 64 by omega) (by decide) rfl ?_
          refine R_iload (pc := 106) C dX2_callBack_106 rfl ?_
          refine R_isub (pc := 108) C dX2_callBack_108 ?_
          refine R_iast (pc := 109) C dX2_callBack_109 (wm_13) (idx8) (show 8 * i + j < 64 by omega) (by decide) (pme_13 (v0 := F 13 (8 * i + j) - b) (by rw [su_f (by omega), su_f (by omega)])) ?_
          refine R_iload (pc := 110) C dX2_callBack_110 rfl ?_
          have hk : kBack n (nI i) (nI j) = 0 := by simp [kBack, qW_t hn hi, qW_t hn hj, hd]
          exact R_iret (pc := 112) C dX2_callBack_112 rfl (Nat.le_of_ble_eq_true rfl) (Nat.le_of_ble_eq_true rfl) (fun h hh => Or.inl ⟨hk, by rw [ix_nI (by omega), ix_nI (by omega), ← fb], _, su_s, by rw [ix_nI (by omega), ix_nI (by omega), ← fb, fBack, su_comm (show (13 : Nat) ≠ 9 by omega), su_comm (show (13 : Nat) ≠ 9 by omega)]; exact hh⟩)
        · refine R_iload_n (pc := 60) C dX2_callBack_60 rfl ?_
          refine R_goto (pc := 61) C dX2_callBack_61 (tgt := 70) (by decide) ?_
          refine R_topi (fun b e70 => ?_)
          have fb : b = minI (F 13 (8 * i + j)) (F 9 j) := e70.trans (minI_nle c57)
          refine R_istore (pc := 70) C dX2_callBack_70 (Nat.le_of_ble_eq_true rfl) (lv' := [some (.ref _), some (.int _), some (.int _), some (.int _), some (.int _)]) rfl ?_
          refine R_aload_n (pc := 72) C dX2_callBack_72 rfl ?_
          refine R_getf (pc := 73) C dX2_callBack_73 (i := 11) (wm0) rfl inlX2 (by decide) k_3_4 rfl ?_
          refine R_iload_n (pc := 76) C dX2_callBack_76 rfl ?_
          refine R_dup2 (pc := 77) C dX2_callBack_77 rfl rfl ?_
          refine R_iald (pc := 78) C dX2_callBack_78 (wm_9) (rfl) (by omega) (by decide) rfl ?_
          refine R_iload (pc := 79) C dX2_callBack_79 rfl ?_
          refine R_isub (pc := 81) C dX2_callBack_81 ?_
          refine R_iast (pc := 82) C dX2_callBack_82 (wm_9) (rfl) (by omega) (by decide) (pm_9) ?_
          refine R_aload_n (pc := 83) C dX2_callBack_83 rfl ?_
          refine R_getf (pc := 84) C dX2_callBack_84 (i := 11) (wm0) rfl inlX2 (by decide) k_3_4 rfl ?_
          refine R_iload_n (pc := 87) C dX2_callBack_87 rfl ?_
          refine R_dup2 (pc := 88) C dX2_callBack_88 rfl rfl ?_
          refine R_iald (pc := 89) C dX2_callBack_89 (wm_9) (rfl) (by omega) (by decide) rfl ?_
          refine R_iload (pc := 90) C dX2_callBack_90 rfl ?_
          refine R_iadd (pc := 92) C dX2_callBack_92 ?_
          refine R_iast (pc := 93) C dX2_callBack_93 (wm_9) (rfl) (by omega) (by decide) (pme_9 (v0 := F 9 i + b) (by rw [su_i hji.symm])) ?_
          refine R_aload_n (pc := 94) C dX2_callBack_94 rfl ?_
          refine R_getf (pc := 95) C dX2_callBack_95 (i := 15) (wm0) rfl inlX2 (by decide) k_3_8 rfl ?_
          refine R_bipush (pc := 98) C dX2_callBack_98 (v := 8) (by decide) ?_
          refine R_iload_n (pc := 100) C dX2_callBack_100 rfl ?_
          refine R_imul (pc := 101) C dX2_callBack_101 ?_
          refine R_iload_n (pc := 102) C dX2_callBack_102 rfl ?_
          refine R_iadd (pc := 103) C dX2_callBack_103 ?_
          refine R_dup2 (pc := 104) C dX2_callBack_104 rfl rfl ?_
          refine R_iald (pc := 105) C dX2_callBack_105 (wm_13) (idx8) (show 8 * i + j < 64 by omega) (by decide) rfl ?_
          refine R_iload (pc := 106) C dX2_callBack_106 rfl ?_
          refine R_isub (pc := 108) C dX2_callBack_108 ?_
          refine R_iast (pc := 109) C dX2_callBack_109 (wm_13) (idx8) (show 8 * i + j < 64 by omega) (by decide) (pme_13 (v0 := F 13 (8 * i + j) - b) (by rw [su_f (by omega), su_f (by omega)])) ?_
          refine R_iload (pc := 110) C dX2_callBack_110 rfl ?_
          have hk : kBack n (nI i) (nI j) = 0 := by simp [kBack, qW_t hn hi, qW_t hn hj, hd]
          exact R_iret (pc := 112) C dX2_callBack_112 rfl (Nat.le_of_ble_eq_true rfl) (Nat.le_of_ble_eq_true rfl) (fun h hh => Or.inl ⟨hk, by rw [ix_nI (by omega), ix_nI (by omega), ← fb], _, su_s, by rw [ix_nI (by omega), ix_nI (by omega), ← fb, fBack, su_comm (show (13 : Nat) ≠ 9 by omega), su_comm (show (13 : Nat) ≠ 9 by omega)]; exact hh⟩)
      · refine R_aload_n (pc := 32) C dX2_callBack_32 rfl ?_
        refine R_iconst (pc := 33) C dX2_callBack_33 (v := 2) (by decide) ?_
        refine R_callVN (pc := 34) C dX2_callBack_34 (vs := [_]) (fun h hh => mX2_refuses hl h hh) (isOb_of (wm0) rfl) ⟨k_17_23, k_18_0, k_18_1, k_1_5, k_18_2⟩ (sgn (nv := 1) rfl ⟨by decide +kernel, by decide +kernel, by decide +kernel⟩) ⟨⟨Nat.le_of_ble_eq_true rfl, Nat.le_of_ble_eq_true rfl⟩, ⟨Nat.le_of_ble_eq_true rfl, Nat.le_of_ble_eq_true rfl⟩, Nat.le_of_ble_eq_true rfl⟩ rfl rfl (fun h9 hh9 v9 => ?_)
        refine WR.pr (fun e9 => ?_)
        subst e9
        show WR K G _ _ _ _ _ _ _ (.int _ :: _)
        have hk : kBack n x y = 2 := by simp [kBack, b01' c10, b01' c18, c29]
        exact R_iret (pc := 37) C dX2_callBack_37 rfl (Nat.le_of_ble_eq_true rfl) (Nat.le_of_ble_eq_true rfl) (fun h hh => Or.inr ⟨by rw [hk]; decide, ⟨_, rfl⟩, _, su_s.trans hk.symm, hh⟩)
    · refine R_aload_n (pc := 21) C dX2_callBack_21 rfl ?_
      refine R_iconst (pc := 22) C dX2_callBack_22 (v := 1) (by decide) ?_
      refine R_callVN (pc := 23) C dX2_callBack_23 (vs := [_]) (fun h hh => mX2_refuses hl h hh) (isOb_of (wm0) rfl) ⟨k_17_23, k_18_0, k_18_1, k_1_5, k_18_2⟩ (sgn (nv := 1) rfl ⟨by decide +kernel, by decide +kernel, by decide +kernel⟩) ⟨⟨Nat.le_of_ble_eq_true rfl, Nat.le_of_ble_eq_true rfl⟩, ⟨Nat.le_of_ble_eq_true rfl, Nat.le_of_ble_eq_true rfl⟩, Nat.le_of_ble_eq_true rfl⟩ rfl rfl (fun h9 hh9 v9 => ?_)
      refine WR.pr (fun e9 => ?_)
      subst e9
      show WR K G _ _ _ _ _ _ _ (.int _ :: _)
      have hk : kBack n x y = 1 := by simp [kBack, b01 c18]
      exact R_iret (pc := 26) C dX2_callBack_26 rfl (Nat.le_of_ble_eq_true rfl) (Nat.le_of_ble_eq_true rfl) (fun h hh => Or.inr ⟨by rw [hk]; decide, ⟨_, rfl⟩, _, su_s.trans hk.symm, hh⟩)
set_option maxHeartbeats 4000000 in
set_option maxRecDepth 100000 in
theorem mX2_build (hl : l.stackTraces = false) {x : Int32} (hP : P ≤ 5) : ∀ h, Wd G (adr, Sc, (n, P, F), mu, g) h → CN l yX2_build cX2_build 2 (some .int) 3 0 0 [.ref (adr 5), .int x] G h (fun v h1 => mPost (kBuild P F x) (nI (P + 1)) (fun m9 => Wd G (adr, Sc, (n, P, F), m9, g)) (fun m9 => Wd G (adr, Sc, (n, (P + 1), fBuild F P x), m9, g)) v h1) := by
  intro h0 hwd
  refine CN.of hl (by decide +kernel) rfl (Nat.le_of_ble_eq_true rfl) (fun K sz hKl hin C => ?_)
  have C : CX K G (AH h0 sz) RX2 cX2_build 2 (some .int) (rmD 3 0 0) [] := C
  subst hKl
  refine WR.imp (P' := Wd G (adr, Sc, (n, P, F), mu, g)) (fun h e => e ▸ hwd) ?_
  show WR K G _ _ _ [some (.ref (adr 5)), some (.int x)] 0 0 0 []
  refine R_aload_n (pc := 0) C dX2_build_0 rfl ?_
  refine R_iconst (pc := 1) C dX2_build_1 (v := 0) (by decide) ?_
  refine R_putf (pc := 2) C dX2_build_2 (i := 0) (wm0) rfl inlX2 tyX2_ok nmX2 (by decide) k_17_18 rfl rfl rfl (Nat.le_of_ble_eq_true rfl) (pm_thr) ?_
  refine R_iload_n (pc := 5) C dX2_build_5 rfl ?_
  refine R_iconst (pc := 6) C dX2_build_6 (v := 0) (by decide) ?_
  refine R_bipush (pc := 7) C dX2_build_7 (v := 99) (by decide) ?_
  refine R_callSN (pc := 9) C dX2_build_9 (vs := [_, _, _]) (fun h hh => mX2_in hl h) ⟨k_17_20, k_17_21, k_1_5, k_17_22⟩ (sgn (nv := 3) rfl ⟨by decide +kernel, by decide +kernel, by decide +kernel⟩) ⟨⟨Nat.le_of_ble_eq_true rfl, Nat.le_of_ble_eq_true rfl⟩, ⟨Nat.le_of_ble_eq_true rfl, Nat.le_of_ble_eq_true rfl⟩, Nat.le_of_ble_eq_true rfl⟩ rfl rfl (fun h9 hh9 v9 => ?_)
  refine WR.pr (fun e9 => ?_)
  subst e9
  refine WR.imp (P' := Wd G (adr, Sc, (n, P, F), su mu 0 0 0, g)) (fun h1 e1 => e1 ▸ hh9) ?_
  show WR K G _ _ _ _ _ _ _ (.int _ :: _)
  refine R_if_ne (pc := 12) C dX2_build_12 (tgt := 21) (by decide) (fun c12 => ?_) (fun c12 => ?_)
  · refine R_aload_n (pc := 21) C dX2_build_21 rfl ?_
    refine R_getf (pc := 22) C dX2_build_22 (i := 19) (wm0) rfl inlX2 (by decide) k_27_23 rfl ?_
    refine R_bipush (pc := 25) C dX2_build_25 (v := 100) (by decide) ?_
    refine R_icmp_lt (pc := 27) C dX2_build_27 (tgt := 38) (by decide) (fun c27 => ?_) (fun c27 => ?_)
    · refine R_aload_n (pc := 38) C dX2_build_38 rfl ?_
      refine R_iconst (pc := 39) C dX2_build_39 (v := 2) (by decide) ?_
      refine R_callVN (pc := 40) C dX2_build_40 (vs := [_]) (fun h hh => mX2_refuses hl h hh) (isOb_of (wm0) rfl) ⟨k_17_23, k_18_0, k_18_1, k_1_5, k_18_2⟩ (sgn (nv := 1) rfl ⟨by decide +kernel, by decide +kernel, by decide +kernel⟩) ⟨⟨Nat.le_of_ble_eq_true rfl, Nat.le_of_ble_eq_true rfl⟩, ⟨Nat.le_of_ble_eq_true rfl, Nat.le_of_ble_eq_true rfl⟩, Nat.le_of_ble_eq_true rfl⟩ rfl rfl (fun h9 hh9 v9 => ?_)
      refine WR.pr (fun e9 => ?_)
      subst e9
      show WR K G _ _ _ _ _ _ _ (.int _ :: _)
      have hk : kBuild P F x = 2 := by simp [kBuild, b01' c12, c27]
      exact R_iret (pc := 43) C dX2_build_43 rfl (Nat.le_of_ble_eq_true rfl) (Nat.le_of_ble_eq_true rfl) (fun h hh => Or.inr ⟨by rw [hk]; decide, ⟨_, rfl⟩, _, su_s.trans hk.symm, hh⟩)
    · refine R_aload_n (pc := 30) C dX2_build_30 rfl ?_
      refine R_getf (pc := 31) C dX2_build_31 (i := 17) (wm0) rfl inlX2 (by decide) k_27_6 rfl ?_
      refine R_iconst (pc := 34) C dX2_build_34 (v := 5) (by decide) ?_
      refine R_icmp_ne (pc := 35) C dX2_build_35 (tgt := 44) (by decide) (fun c35 => ?_) (fun c35 => ?_)
      · have hP5 : P < 5 := Nat.lt_of_le_of_ne hP (fun q => c35 (by rw [q]; rfl))
        refine R_aload_n (pc := 44) C dX2_build_44 rfl ?_
        refine R_getf (pc := 45) C dX2_build_45 (i := 18) (wm0) rfl inlX2 (by decide) k_3_10 rfl ?_
        refine R_aload_n (pc := 48) C dX2_build_48 rfl ?_
        refine R_getf (pc := 49) C dX2_build_49 (i := 17) (wm0) rfl inlX2 (by decide) k_27_6 rfl ?_
        refine R_iload_n (pc := 52) C dX2_build_52 rfl ?_
        refine R_iast (pc := 53) C dX2_build_53 (wm_15) (rfl) (hP5) (by decide) (pm_15) ?_
        refine R_aload_n (pc := 54) C dX2_build_54 rfl ?_
        refine R_dup (pc := 55) C dX2_build_55 rfl ?_
        refine R_getf (pc := 56) C dX2_build_56 (i := 17) (wm0) rfl inlX2 (by decide) k_27_6 rfl ?_
        refine R_iconst (pc := 59) C dX2_build_59 (v := 1) (by decide) ?_
        refine R_iadd (pc := 60) C dX2_build_60 ?_
        refine R_putf (pc := 61) C dX2_build_61 (i := 17) (wm0) rfl inlX2 tyX2_ok nmX2 (by decide) k_27_6 rfl rfl rfl (Nat.le_of_ble_eq_true rfl) (pm_ponds (nI_1 P)) ?_
        refine R_aload_n (pc := 64) C dX2_build_64 rfl ?_
        refine R_dup (pc := 65) C dX2_build_65 rfl ?_
        refine R_getf (pc := 66) C dX2_build_66 (i := 19) (wm0) rfl inlX2 (by decide) k_27_23 rfl ?_
        refine R_bipush (pc := 69) C dX2_build_69 (v := 100) (by decide) ?_
        refine R_isub (pc := 71) C dX2_build_71 ?_
        refine R_putf (pc := 72) C dX2_build_72 (i := 19) (wm0) rfl inlX2 tyX2_ok nmX2 (by decide) k_27_23 rfl rfl rfl (Nat.le_of_ble_eq_true rfl) (pm_fund) ?_
        refine R_aload_n (pc := 75) C dX2_build_75 rfl ?_
        refine R_getf (pc := 76) C dX2_build_76 (i := 17) (wm0) rfl inlX2 (by decide) k_27_6 rfl ?_
        have hk : kBuild P F x = 0 := by simp [kBuild, b01' c12, c27, show ¬ 5 ≤ P by omega]
        exact R_iret (pc := 79) C dX2_build_79 rfl (Nat.le_of_ble_eq_true rfl) (Nat.le_of_ble_eq_true rfl) (fun h hh => Or.inl ⟨hk, rfl, _, su_s, by unfold fBuild; rw [su_comm (show (16 : Nat) ≠ 15 by omega)]; exact hh⟩)
      · refine R_aload_n (pc := 38) C dX2_build_38 rfl ?_
        refine R_iconst (pc := 39) C dX2_build_39 (v := 2) (by decide) ?_
        refine R_callVN (pc := 40) C dX2_build_40 (vs := [_]) (fun h hh => mX2_refuses hl h hh) (isOb_of (wm0) rfl) ⟨k_17_23, k_18_0, k_18_1, k_1_5, k_18_2⟩ (sgn (nv := 1) rfl ⟨by decide +kernel, by decide +kernel, by decide +kernel⟩) ⟨⟨Nat.le_of_ble_eq_true rfl, Nat.le_of_ble_eq_true rfl⟩, ⟨Nat.le_of_ble_eq_true rfl, Nat.le_of_ble_eq_true rfl⟩, Nat.le_of_ble_eq_true rfl⟩ rfl rfl (fun h9 hh9 v9 => ?_)
        refine WR.pr (fun e9 => ?_)
        subst e9
        show WR K G _ _ _ _ _ _ _ (.int _ :: _)
        have hk : kBuild P F x = 2 := by simp [kBuild, b01' c12, five_eq hP c35]
        exact R_iret (pc := 43) C dX2_build_43 rfl (Nat.le_of_ble_eq_true rfl) (Nat.le_of_ble_eq_true rfl) (fun h hh => Or.inr ⟨by rw [hk]; decide, ⟨_, rfl⟩, _, su_s.trans hk.symm, hh⟩)
  · refine R_aload_n (pc := 15) C dX2_build_15 rfl ?_
    refine R_iconst (pc := 16) C dX2_build_16 (v := 1) (by decide) ?_
    refine R_callVN (pc := 17) C dX2_build_17 (vs := [_]) (fun h hh => mX2_refuses hl h hh) (isOb_of (wm0) rfl) ⟨k_17_23, k_18_0, k_18_1, k_1_5, k_18_2⟩ (sgn (nv := 1) rfl ⟨by decide +kernel, by decide +kernel, by decide +kernel⟩) ⟨⟨Nat.le_of_ble_eq_true rfl, Nat.le_of_ble_eq_true rfl⟩, ⟨Nat.le_of_ble_eq_true rfl, Nat.le_of_ble_eq_true rfl⟩, Nat.le_of_ble_eq_true rfl⟩ rfl rfl (fun h9 hh9 v9 => ?_)
    refine WR.pr (fun e9 => ?_)
    subst e9
    show WR K G _ _ _ _ _ _ _ (.int _ :: _)
    have hk : kBuild P F x = 1 := by simp [kBuild, b01 c12]
    exact R_iret (pc := 20) C dX2_build_20 rfl (Nat.le_of_ble_eq_true rfl) (Nat.le_of_ble_eq_true rfl) (fun h hh => Or.inr ⟨by rw [hk]; decide, ⟨_, rfl⟩, _, su_s.trans hk.symm, hh⟩)
set_option maxHeartbeats 4000000 in
set_option maxRecDepth 100000 in
theorem mX2_addWell (hl : l.stackTraces = false) {a b c d e f : Int32} (hn : n ≤ 8) : ∀ h, Wd G (adr, Sc, (n, P, F), mu, g) h → CN l yX2_addWell cX2_addWell 7 (some .int) 3 0 0 [.ref (adr 5), .int a, .int b, .int c, .int d, .int e, .int f] G h (fun v h1 => mPost (kAdd n a b c d e f) (nI n) (fun m9 => Wd G (adr, Sc, (n, P, F), m9, g)) (fun m9 => Wd G (adr, Sc, ((n + 1), P, fAdd F n a b c d e f), m9, g)) v h1) := by
  intro h0 hwd
  refine CN.of hl (by decide +kernel) rfl (Nat.le_of_ble_eq_true rfl) (fun K sz hKl hin C => ?_)
  have C : CX K G (AH h0 sz) RX2 cX2_addWell 7 (some .int) (rmD 3 0 0) [] := C
  subst hKl
  refine WR.imp (P' := Wd G (adr, Sc, (n, P, F), mu, g)) (fun h e => e ▸ hwd) ?_
  show WR K G _ _ _ [some (.ref (adr 5)), some (.int a), some (.int b), some (.int c), some (.int d), some (.int e), some (.int f)] 0 0 0 []
  refine R_aload_n (pc := 0) C dX2_addWell_0 rfl ?_
  refine R_iconst (pc := 1) C dX2_addWell_1 (v := 0) (by decide) ?_
  refine R_putf (pc := 2) C dX2_addWell_2 (i := 0) (wm0) rfl inlX2 tyX2_ok nmX2 (by decide) k_17_18 rfl rfl rfl (Nat.le_of_ble_eq_true rfl) (pm_thr) ?_
  refine R_iload_n (pc := 5) C dX2_addWell_5 rfl ?_
  refine R_iconst (pc := 6) C dX2_addWell_6 (v := 0) (by decide) ?_
  refine R_iconst (pc := 7) C dX2_addWell_7 (v := 2) (by decide) ?_
  refine R_callSN (pc := 8) C dX2_addWell_8 (vs := [_, _, _]) (fun h hh => mX2_in hl h) ⟨k_17_20, k_17_21, k_1_5, k_17_22⟩ (sgn (nv := 3) rfl ⟨by decide +kernel, by decide +kernel, by decide +kernel⟩) ⟨⟨Nat.le_of_ble_eq_true rfl, Nat.le_of_ble_eq_true rfl⟩, ⟨Nat.le_of_ble_eq_true rfl, Nat.le_of_ble_eq_true rfl⟩, Nat.le_of_ble_eq_true rfl⟩ rfl rfl (fun h9 hh9 v9 => ?_)
  refine WR.pr (fun e9 => ?_)
  subst e9
  refine WR.imp (P' := Wd G (adr, Sc, (n, P, F), su mu 0 0 0, g)) (fun h1 e1 => e1 ▸ hh9) ?_
  show WR K G _ _ _ _ _ _ _ (.int _ :: _)
  refine R_if_ne (pc := 11) C dX2_addWell_11 (tgt := 20) (by decide) (fun c11 => ?_) (fun c11 => ?_)
  · refine R_iload_n (pc := 20) C dX2_addWell_20 rfl ?_
    refine R_iconst (pc := 21) C dX2_addWell_21 (v := 0) (by decide) ?_
    refine R_bipush (pc := 22) C dX2_addWell_22 (v := 99) (by decide) ?_
    refine R_callSN (pc := 24) C dX2_addWell_24 (vs := [_, _, _]) (fun h hh => mX2_in hl h) ⟨k_17_20, k_17_21, k_1_5, k_17_22⟩ (sgn (nv := 3) rfl ⟨by decide +kernel, by decide +kernel, by decide +kernel⟩) ⟨⟨Nat.le_of_ble_eq_true rfl, Nat.le_of_ble_eq_true rfl⟩, ⟨Nat.le_of_ble_eq_true rfl, Nat.le_of_ble_eq_true rfl⟩, Nat.le_of_ble_eq_true rfl⟩ rfl rfl (fun h9 hh9 v9 => ?_)
    refine WR.pr (fun e9 => ?_)
    subst e9
    refine WR.imp (P' := Wd G (adr, Sc, (n, P, F), su mu 0 0 0, g)) (fun h1 e1 => e1 ▸ hh9) ?_
    show WR K G _ _ _ _ _ _ _ (.int _ :: _)
    refine R_if_eq (pc := 27) C dX2_addWell_27 (tgt := 81) (by decide) (fun c27 => ?_) (fun c27 => ?_)
    · refine R_aload_n (pc := 81) C dX2_addWell_81 rfl ?_
      refine R_iconst (pc := 82) C dX2_addWell_82 (v := 2) (by decide) ?_
      refine R_callVN (pc := 83) C dX2_addWell_83 (vs := [_]) (fun h hh => mX2_refuses hl h hh) (isOb_of (wm0) rfl) ⟨k_17_23, k_18_0, k_18_1, k_1_5, k_18_2⟩ (sgn (nv := 1) rfl ⟨by decide +kernel, by decide +kernel, by decide +kernel⟩) ⟨⟨Nat.le_of_ble_eq_true rfl, Nat.le_of_ble_eq_true rfl⟩, ⟨Nat.le_of_ble_eq_true rfl, Nat.le_of_ble_eq_true rfl⟩, Nat.le_of_ble_eq_true rfl⟩ rfl rfl (fun h9 hh9 v9 => ?_)
      refine WR.pr (fun e9 => ?_)
      subst e9
      show WR K G _ _ _ _ _ _ _ (.int _ :: _)
      have hk : kAdd n a b c d e f = 2 := by simp [kAdd, b01' c11, b01 c27]
      exact R_iret (pc := 86) C dX2_addWell_86 rfl (Nat.le_of_ble_eq_true rfl) (Nat.le_of_ble_eq_true rfl) (fun h hh => Or.inr ⟨by rw [hk]; decide, ⟨_, rfl⟩, _, su_s.trans hk.symm, hh⟩)
    · refine R_iload_n (pc := 30) C dX2_addWell_30 rfl ?_
      refine R_sipush (pc := 31) C dX2_addWell_31 (v := -10000) (by decide) ?_
      refine R_sipush (pc := 34) C dX2_addWell_34 (v := 10000) (by decide) ?_
      refine R_callSN (pc := 37) C dX2_addWell_37 (vs := [_, _, _]) (fun h hh => mX2_in hl h) ⟨k_17_20, k_17_21, k_1_5, k_17_22⟩ (sgn (nv := 3) rfl ⟨by decide +kernel, by decide +kernel, by decide +kernel⟩) ⟨⟨Nat.le_of_ble_eq_true rfl, Nat.le_of_ble_eq_true rfl⟩, ⟨Nat.le_of_ble_eq_true rfl, Nat.le_of_ble_eq_true rfl⟩, Nat.le_of_ble_eq_true rfl⟩ rfl rfl (fun h9 hh9 v9 => ?_)
      refine WR.pr (fun e9 => ?_)
      subst e9
      refine WR.imp (P' := Wd G (adr, Sc, (n, P, F), su mu 0 0 0, g)) (fun h1 e1 => e1 ▸ hh9) ?_
      show WR K G _ _ _ _ _ _ _ (.int _ :: _)
      refine R_if_eq (pc := 40) C dX2_addWell_40 (tgt := 81) (by decide) (fun c40 => ?_) (fun c40 => ?_)
      · refine R_aload_n (pc := 81) C dX2_addWell_81 rfl ?_
        refine R_iconst (pc := 82) C dX2_addWell_82 (v := 2) (by decide) ?_
        refine R_callVN (pc := 83) C dX2_addWell_83 (vs := [_]) (fun h hh => mX2_refuses hl h hh) (isOb_of (wm0) rfl) ⟨k_17_23, k_18_0, k_18_1, k_1_5, k_18_2⟩ (sgn (nv := 1) rfl ⟨by decide +kernel, by decide +kernel, by decide +kernel⟩) ⟨⟨Nat.le_of_ble_eq_true rfl, Nat.le_of_ble_eq_true rfl⟩, ⟨Nat.le_of_ble_eq_true rfl, Nat.le_of_ble_eq_true rfl⟩, Nat.le_of_ble_eq_true rfl⟩ rfl rfl (fun h9 hh9 v9 => ?_)
        refine WR.pr (fun e9 => ?_)
        subst e9
        show WR K G _ _ _ _ _ _ _ (.int _ :: _)
        have hk : kAdd n a b c d e f = 2 := by simp [kAdd, b01' c11, b01 c40]
        exact R_iret (pc := 86) C dX2_addWell_86 rfl (Nat.le_of_ble_eq_true rfl) (Nat.le_of_ble_eq_true rfl) (fun h hh => Or.inr ⟨by rw [hk]; decide, ⟨_, rfl⟩, _, su_s.trans hk.symm, hh⟩)
      · refine R_iload (pc := 43) C dX2_addWell_43 rfl ?_
        refine R_sipush (pc := 45) C dX2_addWell_45 (v := -10000) (by decide) ?_
        refine R_sipush (pc := 48) C dX2_addWell_48 (v := 10000) (by decide) ?_
        refine R_callSN (pc := 51) C dX2_addWell_51 (vs := [_, _, _]) (fun h hh => mX2_in hl h) ⟨k_17_20, k_17_21, k_1_5, k_17_22⟩ (sgn (nv := 3) rfl ⟨by decide +kernel, by decide +kernel, by decide +kernel⟩) ⟨⟨Nat.le_of_ble_eq_true rfl, Nat.le_of_ble_eq_true rfl⟩, ⟨Nat.le_of_ble_eq_true rfl, Nat.le_of_ble_eq_true rfl⟩, Nat.le_of_ble_eq_true rfl⟩ rfl rfl (fun h9 hh9 v9 => ?_)
        refine WR.pr (fun e9 => ?_)
        subst e9
        refine WR.imp (P' := Wd G (adr, Sc, (n, P, F), su mu 0 0 0, g)) (fun h1 e1 => e1 ▸ hh9) ?_
        show WR K G _ _ _ _ _ _ _ (.int _ :: _)
        refine R_if_eq (pc := 54) C dX2_addWell_54 (tgt := 81) (by decide) (fun c54 => ?_) (fun c54 => ?_)
        · refine R_aload_n (pc := 81) C dX2_addWell_81 rfl ?_
          refine R_iconst (pc := 82) C dX2_addWell_82 (v := 2) (by decide) ?_
          refine R_callVN (pc := 83) C dX2_addWell_83 (vs := [_]) (fun h hh => mX2_refuses hl h hh) (isOb_of (wm0) rfl) ⟨k_17_23, k_18_0, k_18_1, k_1_5, k_18_2⟩ (sgn (nv := 1) rfl ⟨by decide +kernel, by decide +kernel, by decide +kernel⟩) ⟨⟨Nat.le_of_ble_eq_true rfl, Nat.le_of_ble_eq_true rfl⟩, ⟨Nat.le_of_ble_eq_true rfl, Nat.le_of_ble_eq_true rfl⟩, Nat.le_of_ble_eq_true rfl⟩ rfl rfl (fun h9 hh9 v9 => ?_)
          refine WR.pr (fun e9 => ?_)
          subst e9
          show WR K G _ _ _ _ _ _ _ (.int _ :: _)
          have hk : kAdd n a b c d e f = 2 := by simp [kAdd, b01' c11, b01 c54]
          exact R_iret (pc := 86) C dX2_addWell_86 rfl (Nat.le_of_ble_eq_true rfl) (Nat.le_of_ble_eq_true rfl) (fun h hh => Or.inr ⟨by rw [hk]; decide, ⟨_, rfl⟩, _, su_s.trans hk.symm, hh⟩)
        · refine R_iload (pc := 57) C dX2_addWell_57 rfl ?_
          refine R_iconst (pc := 59) C dX2_addWell_59 (v := 0) (by decide) ?_
          refine R_sipush (pc := 60) C dX2_addWell_60 (v := 1000) (by decide) ?_
          refine R_callSN (pc := 63) C dX2_addWell_63 (vs := [_, _, _]) (fun h hh => mX2_in hl h) ⟨k_17_20, k_17_21, k_1_5, k_17_22⟩ (sgn (nv := 3) rfl ⟨by decide +kernel, by decide +kernel, by decide +kernel⟩) ⟨⟨Nat.le_of_ble_eq_true rfl, Nat.le_of_ble_eq_true rfl⟩, ⟨Nat.le_of_ble_eq_true rfl, Nat.le_of_ble_eq_true rfl⟩, Nat.le_of_ble_eq_true rfl⟩ rfl rfl (fun h9 hh9 v9 => ?_)
          refine WR.pr (fun e9 => ?_)
          subst e9
          refine WR.imp (P' := Wd G (adr, Sc, (n, P, F), su mu 0 0 0, g)) (fun h1 e1 => e1 ▸ hh9) ?_
          show WR K G _ _ _ _ _ _ _ (.int _ :: _)
          refine R_if_eq (pc := 66) C dX2_addWell_66 (tgt := 81) (by decide) (fun c66 => ?_) (fun c66 => ?_)
          · refine R_aload_n (pc := 81) C dX2_addWell_81 rfl ?_
            refine R_iconst (pc := 82) C dX2_addWell_82 (v := 2) (by decide) ?_
            refine R_callVN (pc := 83) C dX2_addWell_83 (vs := [_]) (fun h hh => mX2_refuses hl h hh) (isOb_of (wm0) rfl) ⟨k_17_23, k_18_0, k_18_1, k_1_5, k_18_2⟩ (sgn (nv := 1) rfl ⟨by decide +kernel, by decide +kernel, by decide +kernel⟩) ⟨⟨Nat.le_of_ble_eq_true rfl, Nat.le_of_ble_eq_true rfl⟩, ⟨Nat.le_of_ble_eq_true rfl, Nat.le_of_ble_eq_true rfl⟩, Nat.le_of_ble_eq_true rfl⟩ rfl rfl (fun h9 hh9 v9 => ?_)
            refine WR.pr (fun e9 => ?_)
            subst e9
            show WR K G _ _ _ _ _ _ _ (.int _ :: _)
            have hk : kAdd n a b c d e f = 2 := by simp [kAdd, b01' c11, b01 c66]
            exact R_iret (pc := 86) C dX2_addWell_86 rfl (Nat.le_of_ble_eq_true rfl) (Nat.le_of_ble_eq_true rfl) (fun h hh => Or.inr ⟨by rw [hk]; decide, ⟨_, rfl⟩, _, su_s.trans hk.symm, hh⟩)
          · refine R_iload (pc := 69) C dX2_addWell_69 rfl ?_
            refine R_iconst (pc := 71) C dX2_addWell_71 (v := 0) (by decide) ?_
            refine R_sipush (pc := 72) C dX2_addWell_72 (v := 1000) (by decide) ?_
            refine R_callSN (pc := 75) C dX2_addWell_75 (vs := [_, _, _]) (fun h hh => mX2_in hl h) ⟨k_17_20, k_17_21, k_1_5, k_17_22⟩ (sgn (nv := 3) rfl ⟨by decide +kernel, by decide +kernel, by decide +kernel⟩) ⟨⟨Nat.le_of_ble_eq_true rfl, Nat.le_of_ble_eq_true rfl⟩, ⟨Nat.le_of_ble_eq_true rfl, Nat.le_of_ble_eq_true rfl⟩, Nat.le_of_ble_eq_true rfl⟩ rfl rfl (fun h9 hh9 v9 => ?_)
            refine WR.pr (fun e9 => ?_)
            subst e9
            refine WR.imp (P' := Wd G (adr, Sc, (n, P, F), su mu 0 0 0, g)) (fun h1 e1 => e1 ▸ hh9) ?_
            show WR K G _ _ _ _ _ _ _ (.int _ :: _)
            refine R_if_ne (pc := 78) C dX2_addWell_78 (tgt := 87) (by decide) (fun c78 => ?_) (fun c78 => ?_)
            · refine R_aload_n (pc := 87) C dX2_addWell_87 rfl ?_
              refine R_getf (pc := 88) C dX2_addWell_88 (i := 1) (wm0) rfl inlX2 (by decide) k_17_19 rfl ?_
              refine R_bipush (pc := 91) C dX2_addWell_91 (v := 8) (by decide) ?_
              refine R_icmp_ne (pc := 93) C dX2_addWell_93 (tgt := 102) (by decide) (fun c93 => ?_) (fun c93 => ?_)
              · have h8 : n < 8 := Nat.lt_of_le_of_ne hn (fun q => c93 (by rw [q]; rfl))
                refine R_aload_n (pc := 102) C dX2_addWell_102 rfl ?_
                refine R_getf (pc := 103) C dX2_addWell_103 (i := 2) (wm0) rfl inlX2 (by decide) k_2_18 rfl ?_
                refine R_aload_n (pc := 106) C dX2_addWell_106 rfl ?_
                refine R_getf (pc := 107) C dX2_addWell_107 (i := 1) (wm0) rfl inlX2 (by decide) k_17_19 rfl ?_
                refine R_iload_n (pc := 110) C dX2_addWell_110 rfl ?_
                refine R_iast (pc := 111) C dX2_addWell_111 (wm_0) (rfl) (h8) (by decide) (pm_0) ?_
                refine R_aload_n (pc := 112) C dX2_addWell_112 rfl ?_
                refine R_getf (pc := 113) C dX2_addWell_113 (i := 3) (wm0) rfl inlX2 (by decide) k_2_19 rfl ?_
                refine R_aload_n (pc := 116) C dX2_addWell_116 rfl ?_
                refine R_getf (pc := 117) C dX2_addWell_117 (i := 1) (wm0) rfl inlX2 (by decide) k_17_19 rfl ?_
                refine R_iload_n (pc := 120) C dX2_addWell_120 rfl ?_
                refine R_iast (pc := 121) C dX2_addWell_121 (wm_1) (rfl) (h8) (by decide) (pm_1) ?_
                refine R_aload_n (pc := 122) C dX2_addWell_122 rfl ?_
                refine R_getf (pc := 123) C dX2_addWell_123 (i := 4) (wm0) rfl inlX2 (by decide) k_2_20 rfl ?_
                refine R_aload_n (pc := 126) C dX2_addWell_126 rfl ?_
                refine R_getf (pc := 127) C dX2_addWell_127 (i := 1) (wm0) rfl inlX2 (by decide) k_17_19 rfl ?_
                refine R_iload_n (pc := 130) C dX2_addWell_130 rfl ?_
                refine R_iast (pc := 131) C dX2_addWell_131 (wm_2) (rfl) (h8) (by decide) (pm_2) ?_
                refine R_aload_n (pc := 132) C dX2_addWell_132 rfl ?_
                refine R_getf (pc := 133) C dX2_addWell_133 (i := 5) (wm0) rfl inlX2 (by decide) k_2_21 rfl ?_
                refine R_aload_n (pc := 136) C dX2_addWell_136 rfl ?_
                refine R_getf (pc := 137) C dX2_addWell_137 (i := 1) (wm0) rfl inlX2 (by decide) k_17_19 rfl ?_
                refine R_iload (pc := 140) C dX2_addWell_140 rfl ?_
                refine R_iast (pc := 142) C dX2_addWell_142 (wm_3) (rfl) (h8) (by decide) (pm_3) ?_
                refine R_aload_n (pc := 143) C dX2_addWell_143 rfl ?_
                refine R_getf (pc := 144) C dX2_addWell_144 (i := 6) (wm0) rfl inlX2 (by decide) k_2_22 rfl ?_
                refine R_aload_n (pc := 147) C dX2_addWell_147 rfl ?_
                refine R_getf (pc := 148) C dX2_addWell_148 (i := 1) (wm0) rfl inlX2 (by decide) k_17_19 rfl ?_
                refine R_iload (pc := 151) C dX2_addWell_151 rfl ?_
                refine R_iast (pc := 153) C dX2_addWell_153 (wm_4) (rfl) (h8) (by decide) (pm_4) ?_
                refine R_aload_n (pc := 154) C dX2_addWell_154 rfl ?_
                refine R_getf (pc := 155) C dX2_addWell_155 (i := 7) (wm0) rfl inlX2 (by decide) k_2_23 rfl ?_
                refine R_aload_n (pc := 158) C dX2_addWell_158 rfl ?_
                refine R_getf (pc := 159) C dX2_addWell_159 (i := 1) (wm0) rfl inlX2 (by decide) k_17_19 rfl ?_
                refine R_iload (pc := 162) C dX2_addWell_162 rfl ?_
                refine R_iast (pc := 164) C dX2_addWell_164 (wm_5) (rfl) (h8) (by decide) (pm_5) ?_
                refine R_aload_n (pc := 165) C dX2_addWell_165 rfl ?_
                refine R_dup (pc := 166) C dX2_addWell_166 rfl ?_
                refine R_getf (pc := 167) C dX2_addWell_167 (i := 1) (wm0) rfl inlX2 (by decide) k_17_19 rfl ?_
                refine R_iconst (pc := 170) C dX2_addWell_170 (v := 1) (by decide) ?_
                refine R_iadd (pc := 171) C dX2_addWell_171 ?_
                refine R_putf (pc := 172) C dX2_addWell_172 (i := 1) (wm0) rfl inlX2 tyX2_ok nmX2 (by decide) k_17_19 rfl rfl rfl (Nat.le_of_ble_eq_true rfl) (pm_wells (nI_1 n)) ?_
                refine R_aload_n (pc := 175) C dX2_addWell_175 rfl ?_
                refine R_getf (pc := 176) C dX2_addWell_176 (i := 1) (wm0) rfl inlX2 (by decide) k_17_19 rfl ?_
                refine R_iconst (pc := 179) C dX2_addWell_179 (v := 1) (by decide) ?_
                refine R_isub (pc := 180) C dX2_addWell_180 ?_
                have hk : kAdd n a b c d e f = 0 := by simp [kAdd, b01' c11, b01' c27, b01' c40, b01' c54, b01' c66, b01' c78, show ¬ n = 8 by omega]
                exact R_iret (pc := 181) C dX2_addWell_181 rfl (Nat.le_of_ble_eq_true rfl) (Nat.le_of_ble_eq_true rfl) (fun h hh => Or.inl ⟨hk, by rw [nI_pred], _, su_s, hh⟩)
              · refine R_aload_n (pc := 96) C dX2_addWell_96 rfl ?_
                refine R_iconst (pc := 97) C dX2_addWell_97 (v := 3) (by decide) ?_
                refine R_callVN (pc := 98) C dX2_addWell_98 (vs := [_]) (fun h hh => mX2_refuses hl h hh) (isOb_of (wm0) rfl) ⟨k_17_23, k_18_0, k_18_1, k_1_5, k_18_2⟩ (sgn (nv := 1) rfl ⟨by decide +kernel, by decide +kernel, by decide +kernel⟩) ⟨⟨Nat.le_of_ble_eq_true rfl, Nat.le_of_ble_eq_true rfl⟩, ⟨Nat.le_of_ble_eq_true rfl, Nat.le_of_ble_eq_true rfl⟩, Nat.le_of_ble_eq_true rfl⟩ rfl rfl (fun h9 hh9 v9 => ?_)
                refine WR.pr (fun e9 => ?_)
                subst e9
                show WR K G _ _ _ _ _ _ _ (.int _ :: _)
                have hk : kAdd n a b c d e f = 3 := by simp [kAdd, b01' c11, b01' c27, b01' c40, b01' c54, b01' c66, b01' c78, eight_eq hn c93]
                exact R_iret (pc := 101) C dX2_addWell_101 rfl (Nat.le_of_ble_eq_true rfl) (Nat.le_of_ble_eq_true rfl) (fun h hh => Or.inr ⟨by rw [hk]; decide, ⟨_, rfl⟩, _, su_s.trans hk.symm, hh⟩)
            · refine R_aload_n (pc := 81) C dX2_addWell_81 rfl ?_
              refine R_iconst (pc := 82) C dX2_addWell_82 (v := 2) (by decide) ?_
              refine R_callVN (pc := 83) C dX2_addWell_83 (vs := [_]) (fun h hh => mX2_refuses hl h hh) (isOb_of (wm0) rfl) ⟨k_17_23, k_18_0, k_18_1, k_1_5, k_18_2⟩ (sgn (nv := 1) rfl ⟨by decide +kernel, by decide +kernel, by decide +kernel⟩) ⟨⟨Nat.le_of_ble_eq_true rfl, Nat.le_of_ble_eq_true rfl⟩, ⟨Nat.le_of_ble_eq_true rfl, Nat.le_of_ble_eq_true rfl⟩, Nat.le_of_ble_eq_true rfl⟩ rfl rfl (fun h9 hh9 v9 => ?_)
              refine WR.pr (fun e9 => ?_)
              subst e9
              show WR K G _ _ _ _ _ _ _ (.int _ :: _)
              have hk : kAdd n a b c d e f = 2 := by simp [kAdd, b01' c11, b01 c78]
              exact R_iret (pc := 86) C dX2_addWell_86 rfl (Nat.le_of_ble_eq_true rfl) (Nat.le_of_ble_eq_true rfl) (fun h hh => Or.inr ⟨by rw [hk]; decide, ⟨_, rfl⟩, _, su_s.trans hk.symm, hh⟩)
  · refine R_aload_n (pc := 14) C dX2_addWell_14 rfl ?_
    refine R_iconst (pc := 15) C dX2_addWell_15 (v := 1) (by decide) ?_
    refine R_callVN (pc := 16) C dX2_addWell_16 (vs := [_]) (fun h hh => mX2_refuses hl h hh) (isOb_of (wm0) rfl) ⟨k_17_23, k_18_0, k_18_1, k_1_5, k_18_2⟩ (sgn (nv := 1) rfl ⟨by decide +kernel, by decide +kernel, by decide +kernel⟩) ⟨⟨Nat.le_of_ble_eq_true rfl, Nat.le_of_ble_eq_true rfl⟩, ⟨Nat.le_of_ble_eq_true rfl, Nat.le_of_ble_eq_true rfl⟩, Nat.le_of_ble_eq_true rfl⟩ rfl rfl (fun h9 hh9 v9 => ?_)
    refine WR.pr (fun e9 => ?_)
    subst e9
    show WR K G _ _ _ _ _ _ _ (.int _ :: _)
    have hk : kAdd n a b c d e f = 1 := by simp [kAdd, b01 c11]
    exact R_iret (pc := 19) C dX2_addWell_19 rfl (Nat.le_of_ble_eq_true rfl) (Nat.le_of_ble_eq_true rfl) (fun h hh => Or.inr ⟨by rw [hk]; decide, ⟨_, rfl⟩, _, su_s.trans hk.symm, hh⟩)
end
