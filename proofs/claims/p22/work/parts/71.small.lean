/-! 71: the law's small methods: cell, low, size, reach, mean. Written by wip/p22/gen/m71.py -/
theorem i9 (i c : Nat) : (9 : Int32) * nI i + nI c = nI (9 * i + c) := by rw [show (9 : Int32) = nI 9 from rfl, pk_mul, nI_add]
theorem i9z (i : Nat) : (9 : Int32) * nI i = nI (9 * i + 0) := by rw [show (9 : Int32) = nI 9 from rfl, pk_mul]; rfl
theorem i4 (i c : Nat) : (4 : Int32) * nI i + nI c = nI (4 * i + c) := by rw [show (4 : Int32) = nI 4 from rfl, pk_mul, nI_add]
theorem i4z (i : Nat) : (4 : Int32) * nI i = nI (4 * i + 0) := by rw [show (4 : Int32) = nI 4 from rfl, pk_mul]; rfl
theorem i5 (i c : Nat) : (5 : Int32) * nI i + nI c = nI (5 * i + c) := by rw [show (5 : Int32) = nI 5 from rfl, pk_mul, nI_add]
theorem rdw {F : Nat → Nat → Int32} {f i : Nat} (hf : f < 9) : wRow F (9 * i + f) = F f i := by
  unfold wRow
  rw [show (9 * i + f) % 9 = f by omega, show (9 * i + f) / 9 = i by omega]
theorem rdb {F : Nat → Nat → Int32} {f i : Nat} (hf : f < 4) : bRow F (4 * i + f) = F (9 + f) i := by
  unfold bRow
  rw [show (4 * i + f) % 4 = f by omega, show (4 * i + f) / 4 = i by omega]
theorem rdb0 {F : Nat → Nat → Int32} {i : Nat} : bRow F (4 * i + 0) = F 9 i := rdb (by omega)
theorem rdb1 {F : Nat → Nat → Int32} {i : Nat} : bRow F (4 * i + 1) = F 10 i := rdb (by omega)
theorem rdb2 {F : Nat → Nat → Int32} {i : Nat} : bRow F (4 * i + 2) = F 11 i := rdb (by omega)
theorem rdb3 {F : Nat → Nat → Int32} {i : Nat} : bRow F (4 * i + 3) = F 12 i := rdb (by omega)
theorem rdl {F : Nat → Nat → Int32} {i j : Nat} (hj : j < 5) : oRow F (5 * i + j) = F 13 (8 * i + j) := by
  unfold oRow
  rw [show (5 * i + j) % 5 = j by omega, show (5 * i + j) / 5 = i by omega]
theorem rdq0 {n P : Nat} {F : Nat → Nat → Int32} : qRow n P F 0 = nI n := rfl
theorem rdq1 {n P : Nat} {F : Nat → Nat → Int32} : qRow n P F 1 = F 16 1 := rfl
theorem rdq2 {n P : Nat} {F : Nat → Nat → Int32} : qRow n P F 2 = F 16 0 := rfl
theorem rdq3 {n P : Nat} {F : Nat → Nat → Int32} : qRow n P F 3 = nI P := rfl
theorem rdq4 {n P a : Nat} {F : Nat → Nat → Int32} (ha : a < 3) : qRow n P F (4 + a) = F 14 a := by
  unfold qRow
  rw [if_neg (by omega), if_neg (by omega), if_neg (by omega), if_neg (by omega), if_pos (by omega), show 4 + a - 4 = a by omega]
theorem rdq7 {n P a : Nat} {F : Nat → Nat → Int32} : qRow n P F (7 + a) = F 15 a := by
  unfold qRow
  rw [if_neg (by omega), if_neg (by omega), if_neg (by omega), if_neg (by omega), if_neg (by omega), show 7 + a - 7 = a by omega]
def lowV (x m : Int32) : Int32 := (x &&& 2147483647) - (x &&& 2147483647) / m * m
theorem lowV_ex (x : Int32) {m : Nat} (h0 : 0 < m) (hm : m < 2 ^ 31) : ∃ j, j < m ∧ lowV x (nI m) = nI j := ⟨lowN x m, lowN_lt x h0, low_eq x h0 hm⟩
section
variable {l : Launch} {G : GT} {adr : Nat → Nat} {n P : Nat} {F mu : Nat → Nat → Int32} {g : Nat → Int64} {Sc : St}
set_option maxHeartbeats 4000000 in
set_option maxRecDepth 100000 in
theorem mL_cell (hl : l.stackTraces = false) {k : Nat} (hk : k < 100) (hL : G.2.2 201 < 2 ^ 31) : ∀ h, CN l yL_cell cL_cell 2 (some .int) 0 0 0 [.ref (G.2.2 200), .int (nI k)] G h (fun v h1 => (∃ z, v = some (.int z)) ∧ h1 = h) := by
  intro h0
  refine CN.of hl (by decide +kernel) rfl (Nat.le_of_ble_eq_true rfl) (fun K sz hKl hin C => ?_)
  have C : CX K G (AH h0 sz) RL cL_cell 2 (some .int) (rmD 0 0 0) [] := C
  subst hKl
  show WR K G _ _ _ [some (.ref (G.2.2 200)), some (.int (nI k))] 0 0 0 []
  refine R_iload_n (pc := 0) C dL_cell_0 rfl ?_
  refine R_aload_n (pc := 1) C dL_cell_1 rfl ?_
  refine R_tlen (pc := 2) C dL_cell_2 (C.st.2.2.2.2.2.2.2.2) (v := nI (G.2.2 201)) rfl ?_
  refine R_icmp_ge (pc := 3) C dL_cell_3 (tgt := 12) (by decide) (fun c3 => ?_) (fun c3 => ?_)
  · refine R_ldc (pc := 12) C dL_cell_12 k_2_14 ?_
    refine R_iload_n (pc := 14) C dL_cell_14 rfl ?_
    refine R_bipush (pc := 15) C dL_cell_15 (v := 9) (by decide) ?_
    refine R_iadd (pc := 17) C dL_cell_17 ?_
    refine R_imul (pc := 18) C dL_cell_18 ?_
    refine R_ldc (pc := 19) C dL_cell_19 k_2_15 ?_
    refine R_iadd (pc := 21) C dL_cell_21 ?_
    exact R_iret (pc := 22) C dL_cell_22 rfl (Nat.le_of_ble_eq_true rfl) (Nat.le_of_ble_eq_true rfl) (fun h hh => ⟨⟨_, rfl⟩, hh.symm⟩)
  · have hlt : k < G.2.2 201 := by
      by_cases c : k < G.2.2 201
      · exact c
      · exact absurd ((nI_leI hL (by omega)).mpr (Nat.not_lt.mp c)) c3
    refine R_aload_n (pc := 6) C dL_cell_6 rfl ?_
    refine R_iload_n (pc := 7) C dL_cell_7 rfl ?_
    refine R_tial (pc := 8) C dL_cell_8 (C.st.2.2.2.2.2.2.2.2) rfl (j := k) hlt hL rfl ?_
    refine R_goto (pc := 9) C dL_cell_9 (tgt := 22) (by decide) ?_
    exact R_iret (pc := 22) C dL_cell_22 rfl (Nat.le_of_ble_eq_true rfl) (Nat.le_of_ble_eq_true rfl) (fun h hh => ⟨⟨_, rfl⟩, hh.symm⟩)
set_option maxHeartbeats 4000000 in
set_option maxRecDepth 100000 in
theorem mL_low (hl : l.stackTraces = false) {x m : Int32} (hm : ¬ m = 0) : ∀ h, CN l yL_low cL_low 2 (some .int) 0 0 0 [.int x, .int m] G h (fun v h1 => v = some (.int (lowV x m)) ∧ h1 = h) := by
  intro h0
  refine CN.of hl (by decide +kernel) rfl (Nat.le_of_ble_eq_true rfl) (fun K sz hKl hin C => ?_)
  have C : CX K G (AH h0 sz) RL cL_low 2 (some .int) (rmD 0 0 0) [] := C
  subst hKl
  show WR K G _ _ _ [some (.int x), some (.int m)] 0 0 0 []
  refine R_iload_n (pc := 0) C dL_low_0 rfl ?_
  refine R_ldc (pc := 1) C dL_low_1 k_2_19 ?_
  refine R_iand (pc := 3) C dL_low_3 ?_
  refine R_iload_n (pc := 4) C dL_low_4 rfl ?_
  refine R_irem (pc := 5) C dL_low_5 hm ?_
  exact R_iret (pc := 6) C dL_low_6 rfl (Nat.le_of_ble_eq_true rfl) (Nat.le_of_ble_eq_true rfl) (fun h hh => ⟨rfl, hh.symm⟩)
set_option maxHeartbeats 4000000 in
set_option maxRecDepth 100000 in
theorem mL_size (hl : l.stackTraces = false) {x : Int32}  : ∀ h, CN l yL_size cL_size 1 (some .int) 0 0 0 [.int x] G h (fun v h1 => v = some (.int (sizeL x)) ∧ h1 = h) := by
  intro h0
  refine CN.of hl (by decide +kernel) rfl (Nat.le_of_ble_eq_true rfl) (fun K sz hKl hin C => ?_)
  have C : CX K G (AH h0 sz) RL cL_size 1 (some .int) (rmD 0 0 0) [] := C
  subst hKl
  show WR K G _ _ _ [some (.int x)] 0 0 0 []
  refine R_iload_n (pc := 0) C dL_size_0 rfl ?_
  refine R_if_ge (pc := 1) C dL_size_1 (tgt := 9) (by decide) (fun c1 => ?_) (fun c1 => ?_)
  · refine R_iload_n (pc := 9) C dL_size_9 rfl ?_
    exact R_iret (pc := 10) C dL_size_10 rfl (Nat.le_of_ble_eq_true rfl) (Nat.le_of_ble_eq_true rfl) (fun h hh => ⟨by rw [sizeL, if_pos c1], hh.symm⟩)
  · refine R_iload_n (pc := 4) C dL_size_4 rfl ?_
    refine R_ineg (pc := 5) C dL_size_5 ?_
    refine R_goto (pc := 6) C dL_size_6 (tgt := 10) (by decide) ?_
    exact R_iret (pc := 10) C dL_size_10 rfl (Nat.le_of_ble_eq_true rfl) (Nat.le_of_ble_eq_true rfl) (fun h hh => ⟨by rw [sizeL, if_neg c1], hh.symm⟩)
set_option maxHeartbeats 4000000 in
set_option maxRecDepth 100000 in
theorem mL_reach (hl : l.stackTraces = false) {lo po : Int32} {i : Nat} (hi : i < 5) : ∀ h, Wd G (adr, Sc, (n, P, F), mu, g) h → CN l yL_reach cL_reach 7 (some .int) 1 0 0 [.int lo, .int po, .int (nI i), .ref (adr 5)] G h (fun v h1 => v = some (.int (spReachL (F 0 i) (F 1 i) lo po)) ∧ Wd G (adr, Sc, (n, P, F), mu, g) h1) := by
  intro h0 hwd
  refine CN.of hl (by decide +kernel) rfl (Nat.le_of_ble_eq_true rfl) (fun K sz hKl hin C => ?_)
  have C : CX K G (AH h0 sz) RL cL_reach 7 (some .int) (rmD 1 0 0) [] := C
  subst hKl
  refine WR.imp (P' := Wd G (adr, Sc, (n, P, F), mu, g)) (fun h e => e ▸ hwd) ?_
  show WR K G _ _ _ [some (.int lo), some (.int po), some (.int (nI i)), some (.ref (adr 5)), none, none, none] 0 0 0 []
  refine R_iload_n (pc := 0) C dL_reach_0 rfl ?_
  refine R_aload_n (pc := 1) C dL_reach_1 rfl ?_
  refine R_bipush (pc := 2) C dL_reach_2 (v := 9) (by decide) ?_
  refine R_iload_n (pc := 4) C dL_reach_4 rfl ?_
  refine R_imul (pc := 5) C dL_reach_5 ?_
  refine R_iconst (pc := 6) C dL_reach_6 (v := 1) (by decide) ?_
  refine R_iadd (pc := 7) C dL_reach_7 ?_
  refine R_iald (pc := 8) C dL_reach_8 (wmw) (i9 i 1) (by omega) (by decide) (rdw (by omega)) ?_
  refine R_isub (pc := 9) C dL_reach_9 ?_
  refine R_callSN (pc := 10) C dL_reach_10 (vs := [_]) (fun h hh => mL_size hl h) ⟨k_23_17, k_23_18, k_2_12, k_23_19⟩ (sgn (nv := 1) rfl ⟨by decide +kernel, by decide +kernel, by decide +kernel⟩) ⟨⟨Nat.le_of_ble_eq_true rfl, Nat.le_of_ble_eq_true rfl⟩, ⟨Nat.le_of_ble_eq_true rfl, Nat.le_of_ble_eq_true rfl⟩, Nat.le_of_ble_eq_true rfl⟩ rfl rfl (fun h9 hh9 v9 => ?_)
  refine WR.pr (fun e9 => ?_)
  subst e9
  refine WR.imp (P' := Wd G (adr, Sc, (n, P, F), mu, g)) (fun h1 e1 => e1 ▸ hh9) ?_
  show WR K G _ _ _ _ _ _ _ (.int _ :: _)
  refine R_istore (pc := 13) C dL_reach_13 (Nat.le_of_ble_eq_true rfl) (lv' := [some (.int _), some (.int _), some (.int _), some (.ref _), some (.int _), none, none]) rfl ?_
  refine R_iload_n (pc := 15) C dL_reach_15 rfl ?_
  refine R_aload_n (pc := 16) C dL_reach_16 rfl ?_
  refine R_bipush (pc := 17) C dL_reach_17 (v := 9) (by decide) ?_
  refine R_iload_n (pc := 19) C dL_reach_19 rfl ?_
  refine R_imul (pc := 20) C dL_reach_20 ?_
  refine R_iald (pc := 21) C dL_reach_21 (wmw) (i9z i) (by omega) (by decide) (rdw (by omega)) ?_
  refine R_isub (pc := 22) C dL_reach_22 ?_
  refine R_callSN (pc := 23) C dL_reach_23 (vs := [_]) (fun h hh => mL_size hl h) ⟨k_23_17, k_23_18, k_2_12, k_23_19⟩ (sgn (nv := 1) rfl ⟨by decide +kernel, by decide +kernel, by decide +kernel⟩) ⟨⟨Nat.le_of_ble_eq_true rfl, Nat.le_of_ble_eq_true rfl⟩, ⟨Nat.le_of_ble_eq_true rfl, Nat.le_of_ble_eq_true rfl⟩, Nat.le_of_ble_eq_true rfl⟩ rfl rfl (fun h9 hh9 v9 => ?_)
  refine WR.pr (fun e9 => ?_)
  subst e9
  refine WR.imp (P' := Wd G (adr, Sc, (n, P, F), mu, g)) (fun h1 e1 => e1 ▸ hh9) ?_
  show WR K G _ _ _ _ _ _ _ (.int _ :: _)
  refine R_istore (pc := 26) C dL_reach_26 (Nat.le_of_ble_eq_true rfl) (lv' := [some (.int _), some (.int _), some (.int _), some (.ref _), some (.int _), some (.int _), none]) rfl ?_
  refine R_iload (pc := 28) C dL_reach_28 rfl ?_
  refine R_bipush (pc := 30) C dL_reach_30 (v := 10) (by decide) ?_
  refine R_icmp_ge (pc := 32) C dL_reach_32 (tgt := 46) (by decide) (fun c32 => ?_) (fun c32 => ?_)
  · refine R_iconst (pc := 46) C dL_reach_46 (v := 0) (by decide) ?_
    refine R_istore (pc := 47) C dL_reach_47 (Nat.le_of_ble_eq_true rfl) (lv' := [some (.int _), some (.int _), some (.int _), some (.ref _), some (.int _), some (.int _), some (.int _)]) rfl ?_
    refine R_iload (pc := 49) C dL_reach_49 rfl ?_
    refine R_iconst (pc := 51) C dL_reach_51 (v := 1) (by decide) ?_
    refine R_icmp_le (pc := 52) C dL_reach_52 (tgt := 59) (by decide) (fun c52 => ?_) (fun c52 => ?_)
    · refine R_iload (pc := 59) C dL_reach_59 rfl ?_
      refine R_iconst (pc := 61) C dL_reach_61 (v := 1) (by decide) ?_
      refine R_icmp_ne (pc := 62) C dL_reach_62 (tgt := 72) (by decide) (fun c62 => ?_) (fun c62 => ?_)
      · refine R_iload (pc := 72) C dL_reach_72 rfl ?_
        exact R_iret (pc := 74) C dL_reach_74 rfl (Nat.le_of_ble_eq_true rfl) (Nat.le_of_ble_eq_true rfl) (fun h hh => ⟨by rw [spReachL, if_pos c52, if_neg c62, wLo, if_neg (Int32.not_lt.mpr c32)], hh⟩)
      · refine R_iload (pc := 65) C dL_reach_65 rfl ?_
        refine R_iconst (pc := 67) C dL_reach_67 (v := 2) (by decide) ?_
        refine R_idiv (pc := 68) C dL_reach_68 (by decide) ?_
        refine R_goto (pc := 69) C dL_reach_69 (tgt := 74) (by decide) ?_
        exact R_iret (pc := 74) C dL_reach_74 rfl (Nat.le_of_ble_eq_true rfl) (Nat.le_of_ble_eq_true rfl) (fun h hh => ⟨by rw [spReachL, if_pos c52, if_pos c62, wLo, if_neg (Int32.not_lt.mpr c32)], hh⟩)
    · refine R_iconst (pc := 55) C dL_reach_55 (v := 0) (by decide) ?_
      refine R_goto (pc := 56) C dL_reach_56 (tgt := 74) (by decide) ?_
      exact R_iret (pc := 74) C dL_reach_74 rfl (Nat.le_of_ble_eq_true rfl) (Nat.le_of_ble_eq_true rfl) (fun h hh => ⟨by rw [spReachL, if_neg c52], hh⟩)
  · refine R_bipush (pc := 35) C dL_reach_35 (v := 100) (by decide) ?_
    refine R_bipush (pc := 37) C dL_reach_37 (v := 10) (by decide) ?_
    refine R_iload (pc := 39) C dL_reach_39 rfl ?_
    refine R_imul (pc := 41) C dL_reach_41 ?_
    refine R_isub (pc := 42) C dL_reach_42 ?_
    refine R_goto (pc := 43) C dL_reach_43 (tgt := 47) (by decide) ?_
    refine R_istore (pc := 47) C dL_reach_47 (Nat.le_of_ble_eq_true rfl) (lv' := [some (.int _), some (.int _), some (.int _), some (.ref _), some (.int _), some (.int _), some (.int _)]) rfl ?_
    refine R_iload (pc := 49) C dL_reach_49 rfl ?_
    refine R_iconst (pc := 51) C dL_reach_51 (v := 1) (by decide) ?_
    refine R_icmp_le (pc := 52) C dL_reach_52 (tgt := 59) (by decide) (fun c52 => ?_) (fun c52 => ?_)
    · refine R_iload (pc := 59) C dL_reach_59 rfl ?_
      refine R_iconst (pc := 61) C dL_reach_61 (v := 1) (by decide) ?_
      refine R_icmp_ne (pc := 62) C dL_reach_62 (tgt := 72) (by decide) (fun c62 => ?_) (fun c62 => ?_)
      · refine R_iload (pc := 72) C dL_reach_72 rfl ?_
        exact R_iret (pc := 74) C dL_reach_74 rfl (Nat.le_of_ble_eq_true rfl) (Nat.le_of_ble_eq_true rfl) (fun h hh => ⟨by rw [spReachL, if_pos c52, if_neg c62, wLo, if_pos (Int32.not_le.mp c32)], hh⟩)
      · refine R_iload (pc := 65) C dL_reach_65 rfl ?_
        refine R_iconst (pc := 67) C dL_reach_67 (v := 2) (by decide) ?_
        refine R_idiv (pc := 68) C dL_reach_68 (by decide) ?_
        refine R_goto (pc := 69) C dL_reach_69 (tgt := 74) (by decide) ?_
        exact R_iret (pc := 74) C dL_reach_74 rfl (Nat.le_of_ble_eq_true rfl) (Nat.le_of_ble_eq_true rfl) (fun h hh => ⟨by rw [spReachL, if_pos c52, if_pos c62, wLo, if_pos (Int32.not_le.mp c32)], hh⟩)
    · refine R_iconst (pc := 55) C dL_reach_55 (v := 0) (by decide) ?_
      refine R_goto (pc := 56) C dL_reach_56 (tgt := 74) (by decide) ?_
      exact R_iret (pc := 74) C dL_reach_74 rfl (Nat.le_of_ble_eq_true rfl) (Nat.le_of_ble_eq_true rfl) (fun h hh => ⟨by rw [spReachL, if_neg c52], hh⟩)
set_option maxHeartbeats 4000000 in
set_option maxRecDepth 100000 in
theorem mL_mean (hl : l.stackTraces = false) {la : Int32} (hn : n ≤ 5) : ∀ h, Wd G (adr, Sc, (n, P, F), mu, g) h → CN l yL_mean cL_mean 8 (some .int) 0 0 0 [.int la, .ref (adr 5), .ref (adr 6), .ref (adr 10)] G h (fun v h1 => v = some (.int (meanM n F la)) ∧ Wd G (adr, Sc, (n, P, F), mu, g) h1) := by
  intro h0 hwd
  refine CN.of hl (by decide +kernel) rfl (Nat.le_of_ble_eq_true rfl) (fun K sz hKl hin C => ?_)
  have C : CX K G (AH h0 sz) RL cL_mean 8 (some .int) (rmD 0 0 0) [] := C
  subst hKl
  refine WR.imp (P' := Wd G (adr, Sc, (n, P, F), mu, g)) (fun h e => e ▸ hwd) ?_
  show WR K G _ _ _ [some (.int la), some (.ref (adr 5)), some (.ref (adr 6)), some (.ref (adr 10)), none, none, none, none] 0 0 0 []
  refine R_iconst (pc := 0) C dL_mean_0 (v := 0) (by decide) ?_
  refine R_istore (pc := 1) C dL_mean_1 (Nat.le_of_ble_eq_true rfl) (lv' := [some (.int _), some (.ref _), some (.ref _), some (.ref _), some (.int _), none, none, none]) rfl ?_
  refine R_iconst (pc := 3) C dL_mean_3 (v := 0) (by decide) ?_
  refine R_istore (pc := 4) C dL_mean_4 (Nat.le_of_ble_eq_true rfl) (lv' := [some (.int _), some (.ref _), some (.ref _), some (.ref _), some (.int _), some (.int _), none, none]) rfl ?_
  refine R_iconst (pc := 6) C dL_mean_6 (v := 0) (by decide) ?_
  refine R_istore (pc := 7) C dL_mean_7 (Nat.le_of_ble_eq_true rfl) (lv' := [some (.int _), some (.ref _), some (.ref _), some (.ref _), some (.int _), some (.int _), some (.int _), none]) rfl ?_
  have LP9 : ∀ (m w : Nat) (s c : Int32), n < m + w → w ≤ n → s = msumM F la w → c = mcntM F la w → WR K G (AH h0 sz) (QM K G h0 sz 0 0 (fun v h1 => v = some (.int (meanM n F la)) ∧ Wd G (adr, Sc, (n, P, F), mu, g) h1)) (Wd G (adr, Sc, (n, P, F), mu, g)) [some (.int la), some (.ref (adr 5)), some (.ref (adr 6)), some (.ref (adr 10)), some (.int s), some (.int c), some (.int (nI w)), none] 0 0 9 [] := by
    intro m
    induction m with
    | zero => intro w s c h1 h2; exact absurd h1 (by omega)
    | succ m ih =>
      intro w s c h1 h2 hs hc
      refine R_iload (pc := 9) C dL_mean_9 rfl ?_
      refine R_aload_n (pc := 11) C dL_mean_11 rfl ?_
      refine R_iconst (pc := 12) C dL_mean_12 (v := 0) (by decide) ?_
      refine R_iald (pc := 13) C dL_mean_13 (wmq) (rfl) (by decide) (by decide) (rdq0) ?_
      refine R_icmp_ge (pc := 14) C dL_mean_14 (tgt := 91) (by decide) (fun c14 => ?_) (fun c14 => ?_)
      · have ew : n = w := Nat.le_antisymm (le_nI (by omega) (by omega) c14) h2
        subst ew
        refine R_iload (pc := 91) C dL_mean_91 rfl ?_
        refine R_if_le (pc := 93) C dL_mean_93 (tgt := 104) (by decide) (fun c93 => ?_) (fun c93 => ?_)
        · refine R_iconst (pc := 104) C dL_mean_104 (v := 0) (by decide) ?_
          exact R_iret (pc := 105) C dL_mean_105 rfl (Nat.le_of_ble_eq_true rfl) (Nat.le_of_ble_eq_true rfl) (fun h hh => ⟨by rw [mean_0 (by omega) (by rw [← hc]; exact Int32.not_lt.mpr c93)], hh⟩)
        · refine R_iload (pc := 96) C dL_mean_96 rfl ?_
          refine R_iload (pc := 98) C dL_mean_98 rfl ?_
          refine R_idiv (pc := 100) C dL_mean_100 (fun q => c93 (by rw [q]; exact Int32.le_refl _)) ?_
          refine R_goto (pc := 101) C dL_mean_101 (tgt := 105) (by decide) ?_
          exact R_iret (pc := 105) C dL_mean_105 rfl (Nat.le_of_ble_eq_true rfl) (Nat.le_of_ble_eq_true rfl) (fun h hh => ⟨by rw [mean_pos (by omega) (by rw [← hc]; exact Int32.not_le.mp c93), ← hs, ← hc], hh⟩)
      · have hw : w < n := gt_nI (by omega) (by omega) c14
        refine R_aload_n (pc := 17) C dL_mean_17 rfl ?_
        refine R_bipush (pc := 18) C dL_mean_18 (v := 9) (by decide) ?_
        refine R_iload (pc := 20) C dL_mean_20 rfl ?_
        refine R_imul (pc := 22) C dL_mean_22 ?_
        refine R_iald (pc := 23) C dL_mean_23 (wmw) (i9z w) (by omega) (by decide) (rdw (by omega)) ?_
        refine R_iload_n (pc := 24) C dL_mean_24 rfl ?_
        refine R_icmp_ne (pc := 25) C dL_mean_25 (tgt := 45) (by decide) (fun c25 => ?_) (fun c25 => ?_)
        · refine R_iconst (pc := 45) C dL_mean_45 (v := 0) (by decide) ?_
          refine R_istore (pc := 46) C dL_mean_46 (Nat.le_of_ble_eq_true rfl) (lv' := [some (.int _), some (.ref _), some (.ref _), some (.ref _), some (.int _), some (.int _), some (.int _), some (.int _)]) rfl ?_
          refine R_iload (pc := 48) C dL_mean_48 rfl ?_
          refine R_iload (pc := 50) C dL_mean_50 rfl ?_
          refine R_if_eq (pc := 52) C dL_mean_52 (tgt := 66) (by decide) (fun c52 => ?_) (fun c52 => absurd (rfl) c52)
          refine R_iconst (pc := 66) C dL_mean_66 (v := 0) (by decide) ?_
          refine R_iadd (pc := 67) C dL_mean_67 ?_
          refine R_istore (pc := 68) C dL_mean_68 (Nat.le_of_ble_eq_true rfl) (lv' := [some (.int _), some (.ref _), some (.ref _), some (.ref _), some (.int _), some (.int _), some (.int _), some (.int _)]) rfl ?_
          refine R_iload (pc := 70) C dL_mean_70 rfl ?_
          refine R_iload (pc := 72) C dL_mean_72 rfl ?_
          refine R_if_eq (pc := 74) C dL_mean_74 (tgt := 81) (by decide) (fun c74 => ?_) (fun c74 => absurd (rfl) c74)
          refine R_iconst (pc := 81) C dL_mean_81 (v := 0) (by decide) ?_
          refine R_iadd (pc := 82) C dL_mean_82 ?_
          refine R_istore (pc := 83) C dL_mean_83 (Nat.le_of_ble_eq_true rfl) (lv' := [some (.int _), some (.ref _), some (.ref _), some (.ref _), some (.int _), some (.int _), some (.int _), some (.int _)]) rfl ?_
          refine R_iinc (pc := 85) C dL_mean_85 rfl (inc1) (lv' := [some (.int _), some (.ref _), some (.ref _), some (.ref _), some (.int _), some (.int _), some (.int _), some (.int _)]) rfl ?_
          refine R_goto (pc := 88) C dL_mean_88 (tgt := 9) (by decide) ?_
          refine WR.ls (lv' := [some (.int _), some (.ref _), some (.ref _), some (.ref _), some (.int _), some (.int _), some (.int _), none]) (ls_s (ls_s (ls_s (ls_s (ls_s (ls_s (ls_s (ls_n ls_e)))))))) ?_
          exact ih (w + 1) _ _ (by omega) (by omega) (by rw [msumM, if_neg (fun q => c25 q.1), hs]) (by rw [mcntM, if_neg (fun q => c25 q.1), hc])
        · refine R_aload_n (pc := 28) C dL_mean_28 rfl ?_
          refine R_bipush (pc := 29) C dL_mean_29 (v := 9) (by decide) ?_
          refine R_iload (pc := 31) C dL_mean_31 rfl ?_
          refine R_imul (pc := 33) C dL_mean_33 ?_
          refine R_bipush (pc := 34) C dL_mean_34 (v := 7) (by decide) ?_
          refine R_iadd (pc := 36) C dL_mean_36 ?_
          refine R_iald (pc := 37) C dL_mean_37 (wmw) (i9 w 7) (by omega) (by decide) (rdw (by omega)) ?_
          refine R_if_ne (pc := 38) C dL_mean_38 (tgt := 45) (by decide) (fun c38 => ?_) (fun c38 => ?_)
          · refine R_iconst (pc := 45) C dL_mean_45 (v := 0) (by decide) ?_
            refine R_istore (pc := 46) C dL_mean_46 (Nat.le_of_ble_eq_true rfl) (lv' := [some (.int _), some (.ref _), some (.ref _), some (.ref _), some (.int _), some (.int _), some (.int _), some (.int _)]) rfl ?_
            refine R_iload (pc := 48) C dL_mean_48 rfl ?_
            refine R_iload (pc := 50) C dL_mean_50 rfl ?_
            refine R_if_eq (pc := 52) C dL_mean_52 (tgt := 66) (by decide) (fun c52 => ?_) (fun c52 => absurd (rfl) c52)
            refine R_iconst (pc := 66) C dL_mean_66 (v := 0) (by decide) ?_
            refine R_iadd (pc := 67) C dL_mean_67 ?_
            refine R_istore (pc := 68) C dL_mean_68 (Nat.le_of_ble_eq_true rfl) (lv' := [some (.int _), some (.ref _), some (.ref _), some (.ref _), some (.int _), some (.int _), some (.int _), some (.int _)]) rfl ?_
            refine R_iload (pc := 70) C dL_mean_70 rfl ?_
            refine R_iload (pc := 72) C dL_mean_72 rfl ?_
            refine R_if_eq (pc := 74) C dL_mean_74 (tgt := 81) (by decide) (fun c74 => ?_) (fun c74 => absurd (rfl) c74)
            refine R_iconst (pc := 81) C dL_mean_81 (v := 0) (by decide) ?_
            refine R_iadd (pc := 82) C dL_mean_82 ?_
            refine R_istore (pc := 83) C dL_mean_83 (Nat.le_of_ble_eq_true rfl) (lv' := [some (.int _), some (.ref _), some (.ref _), some (.ref _), some (.int _), some (.int _), some (.int _), some (.int _)]) rfl ?_
            refine R_iinc (pc := 85) C dL_mean_85 rfl (inc1) (lv' := [some (.int _), some (.ref _), some (.ref _), some (.ref _), some (.int _), some (.int _), some (.int _), some (.int _)]) rfl ?_
            refine R_goto (pc := 88) C dL_mean_88 (tgt := 9) (by decide) ?_
            refine WR.ls (lv' := [some (.int _), some (.ref _), some (.ref _), some (.ref _), some (.int _), some (.int _), some (.int _), none]) (ls_s (ls_s (ls_s (ls_s (ls_s (ls_s (ls_s (ls_n ls_e)))))))) ?_
            exact ih (w + 1) _ _ (by omega) (by omega) (by rw [msumM, if_neg (fun q => c38 q.2), hs]) (by rw [mcntM, if_neg (fun q => c38 q.2), hc])
          · refine R_iconst (pc := 41) C dL_mean_41 (v := 1) (by decide) ?_
            refine R_goto (pc := 42) C dL_mean_42 (tgt := 46) (by decide) ?_
            refine R_istore (pc := 46) C dL_mean_46 (Nat.le_of_ble_eq_true rfl) (lv' := [some (.int _), some (.ref _), some (.ref _), some (.ref _), some (.int _), some (.int _), some (.int _), some (.int _)]) rfl ?_
            refine R_iload (pc := 48) C dL_mean_48 rfl ?_
            refine R_iload (pc := 50) C dL_mean_50 rfl ?_
            refine R_if_eq (pc := 52) C dL_mean_52 (tgt := 66) (by decide) (fun c52 => absurd c52 (by decide)) (fun c52 => ?_)
            refine R_aload_n (pc := 55) C dL_mean_55 rfl ?_
            refine R_iconst (pc := 56) C dL_mean_56 (v := 4) (by decide) ?_
            refine R_iload (pc := 57) C dL_mean_57 rfl ?_
            refine R_imul (pc := 59) C dL_mean_59 ?_
            refine R_iconst (pc := 60) C dL_mean_60 (v := 2) (by decide) ?_
            refine R_iadd (pc := 61) C dL_mean_61 ?_
            refine R_iald (pc := 62) C dL_mean_62 (wmb) (i4 w 2) (by omega) (by decide) (rdb2) ?_
            refine R_goto (pc := 63) C dL_mean_63 (tgt := 67) (by decide) ?_
            refine R_iadd (pc := 67) C dL_mean_67 ?_
            refine R_istore (pc := 68) C dL_mean_68 (Nat.le_of_ble_eq_true rfl) (lv' := [some (.int _), some (.ref _), some (.ref _), some (.ref _), some (.int _), some (.int _), some (.int _), some (.int _)]) rfl ?_
            refine R_iload (pc := 70) C dL_mean_70 rfl ?_
            refine R_iload (pc := 72) C dL_mean_72 rfl ?_
            refine R_if_eq (pc := 74) C dL_mean_74 (tgt := 81) (by decide) (fun c74 => absurd c74 (by decide)) (fun c74 => ?_)
            refine R_iconst (pc := 77) C dL_mean_77 (v := 1) (by decide) ?_
            refine R_goto (pc := 78) C dL_mean_78 (tgt := 82) (by decide) ?_
            refine R_iadd (pc := 82) C dL_mean_82 ?_
            refine R_istore (pc := 83) C dL_mean_83 (Nat.le_of_ble_eq_true rfl) (lv' := [some (.int _), some (.ref _), some (.ref _), some (.ref _), some (.int _), some (.int _), some (.int _), some (.int _)]) rfl ?_
            refine R_iinc (pc := 85) C dL_mean_85 rfl (inc1) (lv' := [some (.int _), some (.ref _), some (.ref _), some (.ref _), some (.int _), some (.int _), some (.int _), some (.int _)]) rfl ?_
            refine R_goto (pc := 88) C dL_mean_88 (tgt := 9) (by decide) ?_
            refine WR.ls (lv' := [some (.int _), some (.ref _), some (.ref _), some (.ref _), some (.int _), some (.int _), some (.int _), none]) (ls_s (ls_s (ls_s (ls_s (ls_s (ls_s (ls_s (ls_n ls_e)))))))) ?_
            exact ih (w + 1) _ _ (by omega) (by omega) (by rw [msumM, if_pos ⟨c25, c38⟩, hs]) (by rw [mcntM, if_pos ⟨c25, c38⟩, hc])
  refine WR.ls (lv' := [some (.int _), some (.ref _), some (.ref _), some (.ref _), some (.int _), some (.int _), some (.int _), none]) (ls_s (ls_s (ls_s (ls_s (ls_s (ls_s (ls_s (ls_n ls_e)))))))) ?_
  exact LP9 (n + 1) 0 _ _ (by omega) (by omega) rfl rfl
end
