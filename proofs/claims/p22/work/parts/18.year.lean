/-! 18: bitCount, year. Written by wip/p22/gen/m18.py -/
def bcU (x : Int32) (k : Int32) : Int32 := (x.toUInt32 >>> (k.toUInt32 &&& Int32.toUInt32 31)).toInt32
def bc1 (x : Int32) : Int32 := x - (bcU x 1 &&& 1431655765)
def bc2 (x : Int32) : Int32 := (x &&& 858993459) + (bcU x 2 &&& 858993459)
def bc3 (x : Int32) : Int32 := (x + bcU x 4) &&& 252645135
def bc4 (x : Int32) : Int32 := x + bcU x 8
def bc5 (x : Int32) : Int32 := x + bcU x 16
def bcAll (x : Int32) : Int32 := bc5 (bc4 (bc3 (bc2 (bc1 x)))) &&& 63
theorem bc_mk8 : ∀ b0 b1 b2 b3 b4 b5 b6 b7 : Bool, bcAll (mk8 b0 b1 b2 b3 b4 b5 b6 b7) = nI (0 + (if b0 = true then 1 else 0) + (if b1 = true then 1 else 0) + (if b2 = true then 1 else 0) + (if b3 = true then 1 else 0) + (if b4 = true then 1 else 0) + (if b5 = true then 1 else 0) + (if b6 = true then 1 else 0) + (if b7 = true then 1 else 0)) := by decide +kernel
theorem bc_mk {D : Nat → Bool} : bcAll (mk D) = nI (cnt D 8) := bc_mk8 (D 0) (D 1) (D 2) (D 3) (D 4) (D 5) (D 6) (D 7)
def kYear (F : Nat → Nat → Int32) : Int32 := if F 16 1 < 60 then 0 else 1
section
variable {l : Launch} {G : GT} {adr : Nat → Nat} {n P : Nat} {F mu : Nat → Nat → Int32} {g : Nat → Int64} {Sm : St}
set_option maxHeartbeats 4000000 in
set_option maxRecDepth 100000 in
theorem mJ6_bitCount_0f7a4 (hl : l.stackTraces = false) {x : Int32}  : ∀ h, CN l yJ6_bitCount_0f7a4 cJ6_bitCount_0f7a4 1 (some .int) 0 0 0 [.int x] G h (fun v h1 => v = some (.int (bcAll x)) ∧ h1 = h) := by
  intro h0
  refine CN.of hl (by decide +kernel) rfl (Nat.le_of_ble_eq_true rfl) (fun K sz hKl hin C => ?_)
  have C : CX K G (AH h0 sz) RJ6 cJ6_bitCount_0f7a4 1 (some .int) (rmD 0 0 0) [] := C
  subst hKl
  show WR K G _ _ _ [some (.int x)] 0 0 0 []
  refine R_iload_n (pc := 0) C dJ6_bitCount_0f7a4_0 rfl ?_
  refine R_iload_n (pc := 1) C dJ6_bitCount_0f7a4_1 rfl ?_
  refine R_iconst (pc := 2) C dJ6_bitCount_0f7a4_2 (v := 1) (by decide) ?_
  refine R_iushr (pc := 3) C dJ6_bitCount_0f7a4_3 ?_
  refine R_ldcw (pc := 4) C dJ6_bitCount_0f7a4_4 k_22_15 ?_
  refine R_iand (pc := 7) C dJ6_bitCount_0f7a4_7 ?_
  refine R_isub (pc := 8) C dJ6_bitCount_0f7a4_8 ?_
  refine R_topi (fun x1 e1 => ?_)
  have e1 : x1 = bc1 x := e1
  refine R_istore_n (pc := 9) C dJ6_bitCount_0f7a4_9 (Nat.le_of_ble_eq_true rfl) (lv' := [some (.int _)]) rfl ?_
  refine R_iload_n (pc := 10) C dJ6_bitCount_0f7a4_10 rfl ?_
  refine R_ldcw (pc := 11) C dJ6_bitCount_0f7a4_11 k_22_16 ?_
  refine R_iand (pc := 14) C dJ6_bitCount_0f7a4_14 ?_
  refine R_iload_n (pc := 15) C dJ6_bitCount_0f7a4_15 rfl ?_
  refine R_iconst (pc := 16) C dJ6_bitCount_0f7a4_16 (v := 2) (by decide) ?_
  refine R_iushr (pc := 17) C dJ6_bitCount_0f7a4_17 ?_
  refine R_ldcw (pc := 18) C dJ6_bitCount_0f7a4_18 k_22_16 ?_
  refine R_iand (pc := 21) C dJ6_bitCount_0f7a4_21 ?_
  refine R_iadd (pc := 22) C dJ6_bitCount_0f7a4_22 ?_
  refine R_topi (fun x2 e2 => ?_)
  have e2 : x2 = bc2 x1 := e2
  refine R_istore_n (pc := 23) C dJ6_bitCount_0f7a4_23 (Nat.le_of_ble_eq_true rfl) (lv' := [some (.int _)]) rfl ?_
  refine R_iload_n (pc := 24) C dJ6_bitCount_0f7a4_24 rfl ?_
  refine R_iload_n (pc := 25) C dJ6_bitCount_0f7a4_25 rfl ?_
  refine R_iconst (pc := 26) C dJ6_bitCount_0f7a4_26 (v := 4) (by decide) ?_
  refine R_iushr (pc := 27) C dJ6_bitCount_0f7a4_27 ?_
  refine R_iadd (pc := 28) C dJ6_bitCount_0f7a4_28 ?_
  refine R_ldcw (pc := 29) C dJ6_bitCount_0f7a4_29 k_22_17 ?_
  refine R_iand (pc := 32) C dJ6_bitCount_0f7a4_32 ?_
  refine R_topi (fun x3 e3 => ?_)
  have e3 : x3 = bc3 x2 := e3
  refine R_istore_n (pc := 33) C dJ6_bitCount_0f7a4_33 (Nat.le_of_ble_eq_true rfl) (lv' := [some (.int _)]) rfl ?_
  refine R_iload_n (pc := 34) C dJ6_bitCount_0f7a4_34 rfl ?_
  refine R_iload_n (pc := 35) C dJ6_bitCount_0f7a4_35 rfl ?_
  refine R_bipush (pc := 36) C dJ6_bitCount_0f7a4_36 (v := 8) (by decide) ?_
  refine R_iushr (pc := 38) C dJ6_bitCount_0f7a4_38 ?_
  refine R_iadd (pc := 39) C dJ6_bitCount_0f7a4_39 ?_
  refine R_topi (fun x4 e4 => ?_)
  have e4 : x4 = bc4 x3 := e4
  refine R_istore_n (pc := 40) C dJ6_bitCount_0f7a4_40 (Nat.le_of_ble_eq_true rfl) (lv' := [some (.int _)]) rfl ?_
  refine R_iload_n (pc := 41) C dJ6_bitCount_0f7a4_41 rfl ?_
  refine R_iload_n (pc := 42) C dJ6_bitCount_0f7a4_42 rfl ?_
  refine R_bipush (pc := 43) C dJ6_bitCount_0f7a4_43 (v := 16) (by decide) ?_
  refine R_iushr (pc := 45) C dJ6_bitCount_0f7a4_45 ?_
  refine R_iadd (pc := 46) C dJ6_bitCount_0f7a4_46 ?_
  refine R_topi (fun x5 e5 => ?_)
  have e5 : x5 = bc5 x4 := e5
  refine R_istore_n (pc := 47) C dJ6_bitCount_0f7a4_47 (Nat.le_of_ble_eq_true rfl) (lv' := [some (.int _)]) rfl ?_
  refine R_iload_n (pc := 48) C dJ6_bitCount_0f7a4_48 rfl ?_
  refine R_bipush (pc := 49) C dJ6_bitCount_0f7a4_49 (v := 63) (by decide) ?_
  refine R_iand (pc := 51) C dJ6_bitCount_0f7a4_51 ?_
  exact R_iret (pc := 52) C dJ6_bitCount_0f7a4_52 rfl (Nat.le_of_ble_eq_true rfl) (Nat.le_of_ble_eq_true rfl) (fun h hh => ⟨by rw [e5, e4, e3, e2, e1]; rfl, hh.symm⟩)
set_option maxHeartbeats 4000000 in
set_option maxRecDepth 100000 in
theorem mX1_year (hl : l.stackTraces = false)  (hn : n ≤ 8) (hP : P ≤ 5) (hlay : ∀ i, i < n → ∃ a, a < 3 ∧ F 0 i = nI a) : ∀ h, Wd G (adr, (n, P, F), Sm, mu, g) h → CT l yX1_year cX1_year 2 (some .int) 7 1 6 [.ref (adr 0)] G h (fun v h1 => (kYear F = 0 ∧ v = some (.int (nI (cnt (spSt n P (shr F n)) 8)))) ∧ Wd G (adr, (n, P, su (yrF n P F) 16 1 (yrF n P F 16 1 + 1)), Sm, mu, g) h1) (fun E h1 => (kYear F = 1 ∧ E = eISE) ∧ Wd G (adr, (n, P, F), Sm, mu, g) h1) := by
  intro h0 hwd
  refine CT.of hl (by decide +kernel) rfl (Nat.le_of_ble_eq_true rfl) (fun K sz hKl C => ?_)
  have C : CX K G (AH h0 sz) RX1 cX1_year 2 (some .int) (rmD 7 1 6) [] := C
  subst hKl
  refine WR.imp (P' := Wd G (adr, (n, P, F), Sm, mu, g)) (fun h e => e ▸ hwd) ?_
  show WR K G _ _ _ [some (.ref (adr 0)), none] 0 0 0 []
  have hl1 : ∀ i, i < n → ∃ a, a < 3 ∧ shr F n 0 i = nI a := fun i hi => by rw [shr_ne (by omega)]; exact hlay i hi
  refine R_aload_n (pc := 0) C dX1_year_0 rfl ?_
  refine R_getf (pc := 1) C dX1_year_1 (i := 5) (wc0) rfl inlX1 (by decide) k_1_18 rfl ?_
  refine R_bipush (pc := 4) C dX1_year_4 (v := 60) (by decide) ?_
  refine R_icmp_lt (pc := 6) C dX1_year_6 (tgt := 19) (by decide) (fun c6 => ?_) (fun c6 => ?_)
  · refine R_aload_n (pc := 19) C dX1_year_19 rfl ?_
    refine R_callVN (pc := 20) C dX1_year_20 (vs := []) (fun h hh => mX1_shrinkBanks hl hn h hh) (isOb_of (wc0) rfl) ⟨k_19_2, k_19_3, k_19_4, k_1_2, k_19_5⟩ (sgn (nv := 0) rfl ⟨by decide +kernel, by decide +kernel, by decide +kernel⟩) ⟨⟨Nat.le_of_ble_eq_true rfl, Nat.le_of_ble_eq_true rfl⟩, ⟨Nat.le_of_ble_eq_true rfl, Nat.le_of_ble_eq_true rfl⟩, Nat.le_of_ble_eq_true rfl⟩ rfl rfl (fun h9 hh9 v9 => ?_)
    refine WR.pr (fun e9 => ?_)
    subst e9
    show WR K G _ _ _ _ _ _ _ _
    refine R_aload_n (pc := 23) C dX1_year_23 rfl ?_
    refine R_callVN (pc := 24) C dX1_year_24 (vs := []) (fun h hh => mX1_whoIsStopped hl hn hP hl1 h hh) (isOb_of (wc0) rfl) ⟨k_19_6, k_19_7, k_19_8, k_1_2, k_19_9⟩ (sgn (nv := 0) rfl ⟨by decide +kernel, by decide +kernel, by decide +kernel⟩) ⟨⟨Nat.le_of_ble_eq_true rfl, Nat.le_of_ble_eq_true rfl⟩, ⟨Nat.le_of_ble_eq_true rfl, Nat.le_of_ble_eq_true rfl⟩, Nat.le_of_ble_eq_true rfl⟩ rfl rfl (fun h9 hh9 v9 => ?_)
    refine WR.pr (fun e9 => ?_)
    subst e9
    show WR K G _ _ _ _ _ _ _ (.int _ :: _)
    refine R_istore_n (pc := 27) C dX1_year_27 (Nat.le_of_ble_eq_true rfl) (lv' := [some (.ref _), some (.int _)]) rfl ?_
    refine R_aload_n (pc := 28) C dX1_year_28 rfl ?_
    refine R_iload_n (pc := 29) C dX1_year_29 rfl ?_
    refine R_callVN (pc := 30) C dX1_year_30 (vs := [_]) (fun h hh => mX1_drawWater hl hn hP hl1 h hh) (isOb_of (wc0) rfl) ⟨k_21_7, k_21_8, k_21_9, k_1_2, k_21_10⟩ (sgn (nv := 1) rfl ⟨by decide +kernel, by decide +kernel, by decide +kernel⟩) ⟨⟨Nat.le_of_ble_eq_true rfl, Nat.le_of_ble_eq_true rfl⟩, ⟨Nat.le_of_ble_eq_true rfl, Nat.le_of_ble_eq_true rfl⟩, Nat.le_of_ble_eq_true rfl⟩ rfl rfl (fun h9 hh9 v9 => ?_)
    refine WR.pr (fun e9 => ?_)
    subst e9
    show WR K G _ _ _ _ _ _ _ _
    refine R_aload_n (pc := 33) C dX1_year_33 rfl ?_
    refine R_callVN (pc := 34) C dX1_year_34 (vs := []) (fun h hh => mX1_tellWater hl hn h hh) (isOb_of (wc0) rfl) ⟨k_21_12, k_21_13, k_21_14, k_1_2, k_21_15⟩ (sgn (nv := 0) rfl ⟨by decide +kernel, by decide +kernel, by decide +kernel⟩) ⟨⟨Nat.le_of_ble_eq_true rfl, Nat.le_of_ble_eq_true rfl⟩, ⟨Nat.le_of_ble_eq_true rfl, Nat.le_of_ble_eq_true rfl⟩, Nat.le_of_ble_eq_true rfl⟩ rfl rfl (fun h9 hh9 v9 => ?_)
    refine WR.pr (fun e9 => ?_)
    subst e9
    show WR K G _ _ _ _ _ _ _ _
    refine R_aload_n (pc := 37) C dX1_year_37 rfl ?_
    refine R_iload_n (pc := 38) C dX1_year_38 rfl ?_
    refine R_callVN (pc := 39) C dX1_year_39 (vs := [_]) (fun h hh => mX1_settleRights hl hn h hh) (isOb_of (wc0) rfl) ⟨k_21_21, k_21_22, k_21_23, k_1_2, k_22_0⟩ (sgn (nv := 1) rfl ⟨by decide +kernel, by decide +kernel, by decide +kernel⟩) ⟨⟨Nat.le_of_ble_eq_true rfl, Nat.le_of_ble_eq_true rfl⟩, ⟨Nat.le_of_ble_eq_true rfl, Nat.le_of_ble_eq_true rfl⟩, Nat.le_of_ble_eq_true rfl⟩ rfl rfl (fun h9 hh9 v9 => ?_)
    refine WR.pr (fun e9 => ?_)
    subst e9
    show WR K G _ _ _ _ _ _ _ _
    refine R_aload_n (pc := 42) C dX1_year_42 rfl ?_
    refine R_callVN (pc := 43) C dX1_year_43 (vs := []) (fun h hh => mX1_forgetPower hl hn h hh) (isOb_of (wc0) rfl) ⟨k_22_8, k_22_9, k_22_10, k_1_2, k_22_11⟩ (sgn (nv := 0) rfl ⟨by decide +kernel, by decide +kernel, by decide +kernel⟩) ⟨⟨Nat.le_of_ble_eq_true rfl, Nat.le_of_ble_eq_true rfl⟩, ⟨Nat.le_of_ble_eq_true rfl, Nat.le_of_ble_eq_true rfl⟩, Nat.le_of_ble_eq_true rfl⟩ rfl rfl (fun h9 hh9 v9 => ?_)
    refine WR.pr (fun e9 => ?_)
    subst e9
    show WR K G _ _ _ _ _ _ _ _
    refine R_aload_n (pc := 46) C dX1_year_46 rfl ?_
    refine R_dup (pc := 47) C dX1_year_47 rfl ?_
    refine R_getf (pc := 48) C dX1_year_48 (i := 5) (wc0) rfl inlX1 (by decide) k_1_18 rfl ?_
    refine R_iconst (pc := 51) C dX1_year_51 (v := 1) (by decide) ?_
    refine R_iadd (pc := 52) C dX1_year_52 ?_
    refine R_putf (pc := 53) C dX1_year_53 (i := 5) (wc0) rfl inlX1 tyX1_ok nmX1 (by decide) k_1_18 rfl rfl rfl (Nat.le_of_ble_eq_true rfl) (pc_years) ?_
    refine R_iload_n (pc := 56) C dX1_year_56 rfl ?_
    refine R_callSN (pc := 57) C dX1_year_57 (vs := [_]) (fun h hh => mJ6_bitCount_0f7a4 hl h) ⟨k_22_12, k_22_13, k_11_14, k_22_14⟩ (sgn (nv := 1) rfl ⟨by decide +kernel, by decide +kernel, by decide +kernel⟩) ⟨⟨Nat.le_of_ble_eq_true rfl, Nat.le_of_ble_eq_true rfl⟩, ⟨Nat.le_of_ble_eq_true rfl, Nat.le_of_ble_eq_true rfl⟩, Nat.le_of_ble_eq_true rfl⟩ rfl rfl (fun h9 hh9 v9 => ?_)
    refine WR.pr (fun e9 => ?_)
    subst e9
    refine WR.imp (P' := Wd G (adr, (n, P, su (yrF n P F) 16 1 (yrF n P F 16 1 + 1)), Sm, mu, g)) (fun h1 e1 => e1 ▸ hh9) ?_
    show WR K G _ _ _ _ _ _ _ (.int _ :: _)
    refine R_ok ?_
    exact R_iret (pc := 60) C dX1_year_60 rfl (Nat.le_of_ble_eq_true rfl) (Nat.le_of_ble_eq_true rfl) (fun h hh => ⟨⟨if_pos c6, by rw [bc_mk]⟩, hh⟩)
  · exact R_thrISE (pc := 9) C dX1_year_9 dX1_year_12 dX1_year_13 dX1_year_15 dX1_year_18 (C.st.2.2.2.2.2.2.1.2.2.2.2.2.2.2.2.2) rfl ⟨⟨Nat.le_of_ble_eq_true rfl, Nat.le_of_ble_eq_true rfl⟩, Nat.le_of_ble_eq_true rfl, Nat.le_of_ble_eq_true rfl⟩ ⟨Nat.le_of_ble_eq_true rfl, Nat.le_of_ble_eq_true rfl⟩ (fun h hh => ⟨⟨if_neg c6, rfl⟩, hh⟩)
end
