/-! 76: the law: a well is added; a bank lends or calls back. Written by wip/p22/gen/m76.py -/
theorem rngs {j c : Nat} (hj : j ≤ 20000) (hc : c ≤ 10000) (h : j ≤ c + 10000) : qR (nI j - nI c) (-10000) 10000 = true := by
  have e := pk_sub_toInt (a := j) (b := c) (by omega) (by omega)
  refine qR_t ⟨fun q => ?_, ?_⟩
  · rw [Int32.lt_iff_toInt_lt, e] at q
    have : (-10000 : Int32).toInt = -10000 := by decide
    omega
  · rw [Int32.le_iff_toInt_le, e]
    have : (10000 : Int32).toInt = 10000 := by decide
    omega
theorem rngp {j m : Nat} (hm : m ≤ 100000) (h : j ≤ m) : qR (nI j) 0 (nI m) = true := qR_t ⟨nI_pos (by omega), nI_le h (by omega)⟩
theorem kAdd_0 {n a d : Nat} {c4 c5 c6 x6 : Int32} (hn : n ≤ 4) (ha : a < 3) (hd : d < 100) (h4 : qR c4 (-10000) 10000 = true) (h5 : qR c5 (-10000) 10000 = true) (h6 : qR c6 0 1000 = true) (h7 : qR x6 0 1000 = true) : kAdd n (nI a) (nI d) c4 c5 c6 x6 = 0 := by
  unfold kAdd
  rw [if_pos (show qR (nI a) 0 2 = true from rngp (m := 2) (by omega) (by omega)), if_pos ⟨(show qR (nI d) 0 99 = true from rngp (m := 99) (by omega) (by omega)), h4, h5, h6, h7⟩, if_neg (by omega)]
/-- what lending does, or calling back -/
def LStep (n : Nat) (F F1 : Nat → Nat → Int32) : Prop :=
  F1 = F ∨ (∃ i j : Nat, i < n ∧ j < n ∧ i ≠ j ∧ F1 = fBack F i j (minI (F 13 (8 * i + j)) (F 9 j))) ∨ (∃ i j am : Nat, i < n ∧ j < n ∧ i ≠ j ∧ am ≤ 10000 ∧ ¬ F 9 i < nI am ∧ F1 = fLend F i j (nI am))
theorem other {n i e : Nat} (hi : i < n) (he : e < n - 1) : ∃ j, j < n ∧ i ≠ j ∧ (i + 1 + e) % n = j := by
  by_cases c : i + 1 + e < n
  · exact ⟨i + 1 + e, c, by omega, Nat.mod_eq_of_lt c⟩
  · refine ⟨i + 1 + e - n, by omega, by omega, ?_⟩
    rw [Nat.mod_eq_sub_mod (by omega), Nat.mod_eq_of_lt (by omega)]
theorem kBack_0 {n i j : Nat} (hn : n ≤ 8) (hi : i < n) (hj : j < n) (hij : i ≠ j) : kBack n (nI i) (nI j) = 0 := by
  unfold kBack
  rw [if_pos ⟨qW_t hn hi, qW_t hn hj⟩, if_neg (fun q => hij ((nI_eq (by omega) (by omega)).mp q))]
theorem kLend_v {n i j am : Nat} {F : Nat → Nat → Int32} (hn : n ≤ 8) (hi : i < n) (hj : j < n) (hij : i ≠ j) (h1 : 1 ≤ am) (h2 : am ≤ 10000) : kLend n F (nI i) (nI j) (nI am) = if F 9 i < nI am then 3 else 0 := by
  unfold kLend
  rw [if_pos ⟨qW_t hn hi, qW_t hn hj⟩, if_neg (fun q => q.elim (fun q => hij ((nI_eq (by omega) (by omega)).mp q)) (fun q => by rw [show qR (nI am) 1 10000 = true from qR_t ⟨nI_nlt (a := am) (b := 1) h1 (by omega), nI_le (b := 10000) h2 (by omega)⟩] at q; cases q)), ix_nI (by omega)]
section
variable {l : Launch} {G : GT} {adr : Nat → Nat} {n P : Nat} {F mu : Nat → Nat → Int32} {g : Nat → Int64} {Sc : St}
theorem pmi_9 {k : Nat} {v : Int32} (e : v = F 9 k) : ∀ h, Wd G (adr, Sc, (n, P, F), mu, g) h → Wd G (adr, Sc, (n, P, F), mu, g) (hu h (adr 6) (aI G 20 (upd (bRow F) (4 * k + 0) v))) := fun h hh => by
  have z := pme_9 (k := k) (v := v) (v0 := v) rfl h hh
  rw [su_id e] at z
  exact z
theorem pme_l {i j : Nat} {v v0 : Int32} (hj : j < 5) (e : v = v0) : ∀ h, Wd G (adr, Sc, (n, P, F), mu, g) h → Wd G (adr, Sc, (n, P, su F 13 (8 * i + j) v0), mu, g) (hu h (adr 7) (aI G 25 (upd (oRow F) (5 * i + j) v))) := by subst e; exact pm_l hj
theorem pmi_l {i j : Nat} {v : Int32} (hj : j < 5) (e : v = F 13 (8 * i + j)) : ∀ h, Wd G (adr, Sc, (n, P, F), mu, g) h → Wd G (adr, Sc, (n, P, F), mu, g) (hu h (adr 7) (aI G 25 (upd (oRow F) (5 * i + j) v))) := fun h hh => by
  have z := pme_l (i := i) (v := v) (v0 := v) hj rfl h hh
  rw [su_id e] at z
  exact z
end
section
variable {l : Launch} {G : GT} {adr : Nat → Nat} {n P : Nat} {F mu : Nat → Nat → Int32} {g : Nat → Int64}
set_option maxHeartbeats 4000000 in
set_option maxRecDepth 100000 in
theorem mL_adds (hl : l.stackTraces = false) {z : Int32} (hn : n ≤ 4) (hz1 : ∀ f, 6 ≤ f → f ≤ 12 → F f n = 0) (hz2 : ∀ j, j < 8 → F 13 (8 * n + j) = 0) : ∀ h, Wd G (adr, (n, P, F), (n, P, F), mu, g) h → CN l yL_adds cL_adds 5 (some .boolean) 9 13 110 [.ref (adr 0), .int z, .ref (adr 5), .ref (adr 10)] G h (fun v h1 => v = some (.int 1) ∧ ∃ (adr9 : Nat → Nat) (a d : Nat) (x3 x4 x5 x6 : Int32), (a < 3 ∧ d < 100 ∧ Bt x6 1000) ∧ (∀ x, x < 30 → x ≠ 2 → adr9 x = adr x) ∧ Wd G (adr9, (n + 1, P, fAdd F n (nI a) (nI d) x3 x4 x5 x6), (n + 1, P, fAdd F n (nI a) (nI d) x3 x4 x5 x6), mu, g) h1) := by
  intro h0 hwd
  refine CN.of hl (by decide +kernel) rfl (Nat.le_of_ble_eq_true rfl) (fun K sz hKl hin C => ?_)
  have C : CX K G (AH h0 sz) RL cL_adds 5 (some .boolean) (rmD 9 13 110) [] := C
  subst hKl
  refine WR.imp (P' := Wd G (adr, (n, P, F), (n, P, F), mu, g)) (fun h e => e ▸ hwd) ?_
  show WR K G _ _ _ [some (.ref (adr 0)), some (.int z), some (.ref (adr 5)), some (.ref (adr 10)), none] 0 0 0 []
  refine R_bipush (pc := 0) C dL_adds_0 (v := 9) (by decide) ?_
  refine R_aload_n (pc := 2) C dL_adds_2 rfl ?_
  refine R_iconst (pc := 3) C dL_adds_3 (v := 0) (by decide) ?_
  refine R_iald (pc := 4) C dL_adds_4 (wmq) (rfl) (by decide) (by decide) (rdq0) ?_
  refine R_imul (pc := 5) C dL_adds_5 ?_
  refine R_istore (pc := 6) C dL_adds_6 (Nat.le_of_ble_eq_true rfl) (lv' := [some (.ref _), some (.int _), some (.ref _), some (.ref _), some (.int _)]) rfl ?_
  refine R_aload_n (pc := 8) C dL_adds_8 rfl ?_
  refine R_iload (pc := 9) C dL_adds_9 rfl ?_
  refine R_iload_n (pc := 11) C dL_adds_11 rfl ?_
  refine R_iconst (pc := 12) C dL_adds_12 (v := 3) (by decide) ?_
  refine R_callP (pc := 13) C dL_adds_13 (vs := [_, _]) (mL_low hl (by decide)) ⟨k_2_16, k_2_17, k_2_12, k_2_18⟩ (sgn (nv := 2) rfl ⟨by decide +kernel, by decide +kernel, by decide +kernel⟩) ⟨⟨Nat.le_of_ble_eq_true rfl, Nat.le_of_ble_eq_true rfl⟩, ⟨Nat.le_of_ble_eq_true rfl, Nat.le_of_ble_eq_true rfl⟩, Nat.le_of_ble_eq_true rfl⟩ rfl rfl ?_
  refine R_topi (fun v0 ev0 => ?_)
  obtain ⟨a, ha, rfl⟩ : ∃ a, a < 3 ∧ v0 = nI a := by rw [ev0]; exact lowV_ex _ (m := 3) (by omega) (by omega)
  refine R_iast (pc := 16) C dL_adds_16 (wmw) (i9z n) (by omega) (by decide) (pm_w (f := 0) (by omega)) ?_
  refine R_aload_n (pc := 17) C dL_adds_17 rfl ?_
  refine R_iload (pc := 18) C dL_adds_18 rfl ?_
  refine R_iconst (pc := 20) C dL_adds_20 (v := 1) (by decide) ?_
  refine R_iadd (pc := 21) C dL_adds_21 ?_
  refine R_iload_n (pc := 22) C dL_adds_22 rfl ?_
  refine R_iconst (pc := 23) C dL_adds_23 (v := 2) (by decide) ?_
  refine R_ishr (pc := 24) C dL_adds_24 ?_
  refine R_iload_n (pc := 25) C dL_adds_25 rfl ?_
  refine R_bipush (pc := 26) C dL_adds_26 (v := 13) (by decide) ?_
  refine R_ishr (pc := 28) C dL_adds_28 ?_
  refine R_iconst (pc := 29) C dL_adds_29 (v := 3) (by decide) ?_
  refine R_callP (pc := 30) C dL_adds_30 (vs := [_, _]) (mL_low hl (by decide)) ⟨k_2_16, k_2_17, k_2_12, k_2_18⟩ (sgn (nv := 2) rfl ⟨by decide +kernel, by decide +kernel, by decide +kernel⟩) ⟨⟨Nat.le_of_ble_eq_true rfl, Nat.le_of_ble_eq_true rfl⟩, ⟨Nat.le_of_ble_eq_true rfl, Nat.le_of_ble_eq_true rfl⟩, Nat.le_of_ble_eq_true rfl⟩ rfl rfl ?_
  refine R_if_ne (pc := 33) C dL_adds_33 (tgt := 41) (by decide) (fun c33 => ?_) (fun c33 => ?_)
  · refine R_bipush (pc := 41) C dL_adds_41 (v := 14) (by decide) ?_
    refine R_callP (pc := 43) C dL_adds_43 (vs := [_, _]) (mL_low hl (by decide)) ⟨k_2_16, k_2_17, k_2_12, k_2_18⟩ (sgn (nv := 2) rfl ⟨by decide +kernel, by decide +kernel, by decide +kernel⟩) ⟨⟨Nat.le_of_ble_eq_true rfl, Nat.le_of_ble_eq_true rfl⟩, ⟨Nat.le_of_ble_eq_true rfl, Nat.le_of_ble_eq_true rfl⟩, Nat.le_of_ble_eq_true rfl⟩ rfl rfl ?_
    refine R_topi (fun v1 ev1 => ?_)
    obtain ⟨d, hd, rfl⟩ : ∃ d, d < 100 ∧ v1 = nI d := by rw [ev1]; obtain ⟨j, hj, e⟩ := lowV_ex (z >>> ((2 : Int32) &&& 31)) (m := 14) (by omega) (by omega); exact ⟨j, by omega, e⟩
    refine R_iast (pc := 46) C dL_adds_46 (wmw) (i9 n 1) (by omega) (by decide) (pm_w (f := 1) (by omega)) ?_
    refine R_aload_n (pc := 47) C dL_adds_47 rfl ?_
    refine R_iload (pc := 48) C dL_adds_48 rfl ?_
    refine R_iconst (pc := 50) C dL_adds_50 (v := 2) (by decide) ?_
    refine R_iadd (pc := 51) C dL_adds_51 ?_
    refine R_iload_n (pc := 52) C dL_adds_52 rfl ?_
    refine R_iconst (pc := 53) C dL_adds_53 (v := 4) (by decide) ?_
    refine R_ishr (pc := 54) C dL_adds_54 ?_
    refine R_iload_n (pc := 55) C dL_adds_55 rfl ?_
    refine R_bipush (pc := 56) C dL_adds_56 (v := 14) (by decide) ?_
    refine R_ishr (pc := 58) C dL_adds_58 ?_
    refine R_iconst (pc := 59) C dL_adds_59 (v := 4) (by decide) ?_
    refine R_callP (pc := 60) C dL_adds_60 (vs := [_, _]) (mL_low hl (by decide)) ⟨k_2_16, k_2_17, k_2_12, k_2_18⟩ (sgn (nv := 2) rfl ⟨by decide +kernel, by decide +kernel, by decide +kernel⟩) ⟨⟨Nat.le_of_ble_eq_true rfl, Nat.le_of_ble_eq_true rfl⟩, ⟨Nat.le_of_ble_eq_true rfl, Nat.le_of_ble_eq_true rfl⟩, Nat.le_of_ble_eq_true rfl⟩ rfl rfl ?_
    refine R_if_ne (pc := 63) C dL_adds_63 (tgt := 72) (by decide) (fun c63 => ?_) (fun c63 => ?_)
    · refine R_sipush (pc := 72) C dL_adds_72 (v := 900) (by decide) ?_
      refine R_callP (pc := 75) C dL_adds_75 (vs := [_, _]) (mL_low hl (by decide)) ⟨k_2_16, k_2_17, k_2_12, k_2_18⟩ (sgn (nv := 2) rfl ⟨by decide +kernel, by decide +kernel, by decide +kernel⟩) ⟨⟨Nat.le_of_ble_eq_true rfl, Nat.le_of_ble_eq_true rfl⟩, ⟨Nat.le_of_ble_eq_true rfl, Nat.le_of_ble_eq_true rfl⟩, Nat.le_of_ble_eq_true rfl⟩ rfl rfl ?_
      refine R_iload_n (pc := 78) C dL_adds_78 rfl ?_
      refine R_bipush (pc := 79) C dL_adds_79 (v := 14) (by decide) ?_
      refine R_ishr (pc := 81) C dL_adds_81 ?_
      refine R_iconst (pc := 82) C dL_adds_82 (v := 4) (by decide) ?_
      refine R_callP (pc := 83) C dL_adds_83 (vs := [_, _]) (mL_low hl (by decide)) ⟨k_2_16, k_2_17, k_2_12, k_2_18⟩ (sgn (nv := 2) rfl ⟨by decide +kernel, by decide +kernel, by decide +kernel⟩) ⟨⟨Nat.le_of_ble_eq_true rfl, Nat.le_of_ble_eq_true rfl⟩, ⟨Nat.le_of_ble_eq_true rfl, Nat.le_of_ble_eq_true rfl⟩, Nat.le_of_ble_eq_true rfl⟩ rfl rfl ?_
      refine R_if_ne (pc := 86) C dL_adds_86 (tgt := 95) (by decide) (fun _ => ?_) (fun c86 => absurd c86 c63)
      refine R_bipush (pc := 95) C dL_adds_95 (v := 100) (by decide) ?_
      refine R_isub (pc := 97) C dL_adds_97 ?_
      refine R_topi (fun v2 ev2 => ?_)
      have r2 : qR v2 (-10000) 10000 = true := by obtain ⟨j, hj, e⟩ := lowV_ex (z >>> ((4 : Int32) &&& 31)) (m := 900) (by omega) (by omega); rw [ev2, show lowV (z >>> ((4 : Int32) &&& 31)) 900 = nI j from e]; exact rngs (c := 100) (by omega) (by omega) (by omega)
      refine R_iast (pc := 98) C dL_adds_98 (wmw) (i9 n 2) (by omega) (by decide) (pm_w (f := 2) (by omega)) ?_
      refine R_aload_n (pc := 99) C dL_adds_99 rfl ?_
      refine R_iload (pc := 100) C dL_adds_100 rfl ?_
      refine R_iconst (pc := 102) C dL_adds_102 (v := 3) (by decide) ?_
      refine R_iadd (pc := 103) C dL_adds_103 ?_
      refine R_iload_n (pc := 104) C dL_adds_104 rfl ?_
      refine R_bipush (pc := 105) C dL_adds_105 (v := 6) (by decide) ?_
      refine R_ishr (pc := 107) C dL_adds_107 ?_
      refine R_sipush (pc := 108) C dL_adds_108 (v := 500) (by decide) ?_
      refine R_callP (pc := 111) C dL_adds_111 (vs := [_, _]) (mL_low hl (by decide)) ⟨k_2_16, k_2_17, k_2_12, k_2_18⟩ (sgn (nv := 2) rfl ⟨by decide +kernel, by decide +kernel, by decide +kernel⟩) ⟨⟨Nat.le_of_ble_eq_true rfl, Nat.le_of_ble_eq_true rfl⟩, ⟨Nat.le_of_ble_eq_true rfl, Nat.le_of_ble_eq_true rfl⟩, Nat.le_of_ble_eq_true rfl⟩ rfl rfl ?_
      refine R_bipush (pc := 114) C dL_adds_114 (v := 100) (by decide) ?_
      refine R_isub (pc := 116) C dL_adds_116 ?_
      refine R_topi (fun v3 ev3 => ?_)
      have r3 : qR v3 (-10000) 10000 = true := by obtain ⟨j, hj, e⟩ := lowV_ex (z >>> ((6 : Int32) &&& 31)) (m := 500) (by omega) (by omega); rw [ev3, show lowV (z >>> ((6 : Int32) &&& 31)) 500 = nI j from e]; exact rngs (c := 100) (by omega) (by omega) (by omega)
      refine R_iast (pc := 117) C dL_adds_117 (wmw) (i9 n 3) (by omega) (by decide) (pm_w (f := 3) (by omega)) ?_
      refine R_aload_n (pc := 118) C dL_adds_118 rfl ?_
      refine R_iload (pc := 119) C dL_adds_119 rfl ?_
      refine R_iconst (pc := 121) C dL_adds_121 (v := 4) (by decide) ?_
      refine R_iadd (pc := 122) C dL_adds_122 ?_
      refine R_iload_n (pc := 123) C dL_adds_123 rfl ?_
      refine R_bipush (pc := 124) C dL_adds_124 (v := 8) (by decide) ?_
      refine R_ishr (pc := 126) C dL_adds_126 ?_
      refine R_bipush (pc := 127) C dL_adds_127 (v := 6) (by decide) ?_
      refine R_callP (pc := 129) C dL_adds_129 (vs := [_, _]) (mL_low hl (by decide)) ⟨k_2_16, k_2_17, k_2_12, k_2_18⟩ (sgn (nv := 2) rfl ⟨by decide +kernel, by decide +kernel, by decide +kernel⟩) ⟨⟨Nat.le_of_ble_eq_true rfl, Nat.le_of_ble_eq_true rfl⟩, ⟨Nat.le_of_ble_eq_true rfl, Nat.le_of_ble_eq_true rfl⟩, Nat.le_of_ble_eq_true rfl⟩ rfl rfl ?_
      refine R_topi (fun v4 ev4 => ?_)
      have r4 : qR v4 0 1000 = true := by obtain ⟨j, hj, e⟩ := lowV_ex (z >>> ((8 : Int32) &&& 31)) (m := 6) (by omega) (by omega); rw [ev4, show lowV (z >>> ((8 : Int32) &&& 31)) 6 = nI j from e]; exact rngp (m := 1000) (by omega) (by omega)
      refine R_iast (pc := 132) C dL_adds_132 (wmw) (i9 n 4) (by omega) (by decide) (pm_w (f := 4) (by omega)) ?_
      refine R_aload_n (pc := 133) C dL_adds_133 rfl ?_
      refine R_iload (pc := 134) C dL_adds_134 rfl ?_
      refine R_iconst (pc := 136) C dL_adds_136 (v := 5) (by decide) ?_
      refine R_iadd (pc := 137) C dL_adds_137 ?_
      refine R_iload_n (pc := 138) C dL_adds_138 rfl ?_
      refine R_iconst (pc := 139) C dL_adds_139 (v := 5) (by decide) ?_
      refine R_ishr (pc := 140) C dL_adds_140 ?_
      refine R_iload_n (pc := 141) C dL_adds_141 rfl ?_
      refine R_bipush (pc := 142) C dL_adds_142 (v := 12) (by decide) ?_
      refine R_ishr (pc := 144) C dL_adds_144 ?_
      refine R_iconst (pc := 145) C dL_adds_145 (v := 3) (by decide) ?_
      refine R_callP (pc := 146) C dL_adds_146 (vs := [_, _]) (mL_low hl (by decide)) ⟨k_2_16, k_2_17, k_2_12, k_2_18⟩ (sgn (nv := 2) rfl ⟨by decide +kernel, by decide +kernel, by decide +kernel⟩) ⟨⟨Nat.le_of_ble_eq_true rfl, Nat.le_of_ble_eq_true rfl⟩, ⟨Nat.le_of_ble_eq_true rfl, Nat.le_of_ble_eq_true rfl⟩, Nat.le_of_ble_eq_true rfl⟩ rfl rfl ?_
      refine R_if_ne (pc := 149) C dL_adds_149 (tgt := 158) (by decide) (fun c149 => ?_) (fun c149 => ?_)
      · refine R_bipush (pc := 158) C dL_adds_158 (v := 60) (by decide) ?_
        refine R_callP (pc := 160) C dL_adds_160 (vs := [_, _]) (mL_low hl (by decide)) ⟨k_2_16, k_2_17, k_2_12, k_2_18⟩ (sgn (nv := 2) rfl ⟨by decide +kernel, by decide +kernel, by decide +kernel⟩) ⟨⟨Nat.le_of_ble_eq_true rfl, Nat.le_of_ble_eq_true rfl⟩, ⟨Nat.le_of_ble_eq_true rfl, Nat.le_of_ble_eq_true rfl⟩, Nat.le_of_ble_eq_true rfl⟩ rfl rfl ?_
        refine R_topi (fun v5 ev5 => ?_)
        have hb5 : Bt v5 1000 := by rw [ev5]; obtain ⟨j, hj, e⟩ := lowV_ex (z >>> ((5 : Int32) &&& 31)) (m := 60) (by omega) (by omega); exact ⟨j, by omega, e⟩
        have r5 : qR v5 0 1000 = true := by obtain ⟨j, hj, e⟩ := hb5; rw [e]; exact rngp (m := 1000) (by omega) hj
        refine R_iast (pc := 163) C dL_adds_163 (wmw) (i9 n 5) (by omega) (by decide) (pm_w (f := 5) (by omega)) ?_
        refine R_aload_n (pc := 164) C dL_adds_164 rfl ?_
        refine R_iconst (pc := 165) C dL_adds_165 (v := 0) (by decide) ?_
        refine R_dup2 (pc := 166) C dL_adds_166 rfl rfl ?_
        refine R_iald (pc := 167) C dL_adds_167 (wmq) (rfl) (by decide) (by decide) (rdq0) ?_
        refine R_iconst (pc := 168) C dL_adds_168 (v := 1) (by decide) ?_
        refine R_iadd (pc := 169) C dL_adds_169 ?_
        refine R_iast (pc := 170) C dL_adds_170 (wmq) (rfl) (by decide) (by decide) (pm_wells (n' := n + 1) (nI_1 n)) ?_
        refine WR.imp (P' := Wd G (adr, (n, P, F), (n + 1, P, fAdd F n (nI a) (nI d) v2 v3 v4 v5), mu, g)) (fun h hh => hh) ?_
        refine R_aload_n (pc := 171) C dL_adds_171 rfl ?_
        refine R_aload_n (pc := 172) C dL_adds_172 rfl ?_
        refine R_iload (pc := 173) C dL_adds_173 rfl ?_
        refine R_iald (pc := 175) C dL_adds_175 (wmw) (i9z n) (by omega) (by decide) ((rdw (by omega)).trans (fAdd_v.1)) ?_
        refine R_aload_n (pc := 176) C dL_adds_176 rfl ?_
        refine R_iload (pc := 177) C dL_adds_177 rfl ?_
        refine R_iconst (pc := 179) C dL_adds_179 (v := 1) (by decide) ?_
        refine R_iadd (pc := 180) C dL_adds_180 ?_
        refine R_iald (pc := 181) C dL_adds_181 (wmw) (i9 n 1) (by omega) (by decide) ((rdw (by omega)).trans (fAdd_v.2.1)) ?_
        refine R_aload_n (pc := 182) C dL_adds_182 rfl ?_
        refine R_iload (pc := 183) C dL_adds_183 rfl ?_
        refine R_iconst (pc := 185) C dL_adds_185 (v := 2) (by decide) ?_
        refine R_iadd (pc := 186) C dL_adds_186 ?_
        refine R_iald (pc := 187) C dL_adds_187 (wmw) (i9 n 2) (by omega) (by decide) ((rdw (by omega)).trans (fAdd_v.2.2.1)) ?_
        refine R_aload_n (pc := 188) C dL_adds_188 rfl ?_
        refine R_iload (pc := 189) C dL_adds_189 rfl ?_
        refine R_iconst (pc := 191) C dL_adds_191 (v := 3) (by decide) ?_
        refine R_iadd (pc := 192) C dL_adds_192 ?_
        refine R_iald (pc := 193) C dL_adds_193 (wmw) (i9 n 3) (by omega) (by decide) ((rdw (by omega)).trans (fAdd_v.2.2.2.1)) ?_
        refine R_aload_n (pc := 194) C dL_adds_194 rfl ?_
        refine R_iload (pc := 195) C dL_adds_195 rfl ?_
        refine R_iconst (pc := 197) C dL_adds_197 (v := 4) (by decide) ?_
        refine R_iadd (pc := 198) C dL_adds_198 ?_
        refine R_iald (pc := 199) C dL_adds_199 (wmw) (i9 n 4) (by omega) (by decide) ((rdw (by omega)).trans (fAdd_v.2.2.2.2.1)) ?_
        refine R_aload_n (pc := 200) C dL_adds_200 rfl ?_
        refine R_iload (pc := 201) C dL_adds_201 rfl ?_
        refine R_iconst (pc := 203) C dL_adds_203 (v := 5) (by decide) ?_
        refine R_iadd (pc := 204) C dL_adds_204 ?_
        refine R_iald (pc := 205) C dL_adds_205 (wmw) (i9 n 5) (by omega) (by decide) ((rdw (by omega)).trans (fAdd_v.2.2.2.2.2)) ?_
        have hk : kAdd n (nI a) (nI d) v2 v3 v4 v5 = 0 := kAdd_0 (by omega) ha hd r2 r3 r4 r5
        refine R_callVT (pc := 206) C dL_adds_206 (vs := [_, _, _, _, _, _]) (fun h hh => mX1_addWell hl (show n ≤ 8 by omega) hz1 hz2 h hh) (isOb_of (wc0) rfl) ⟨k_2_23, k_3_0, k_3_1, k_1_2, k_3_2⟩ (sgn (nv := 6) rfl ⟨by decide +kernel, by decide +kernel, by decide +kernel⟩) ⟨⟨Nat.le_of_ble_eq_true rfl, Nat.le_of_ble_eq_true rfl⟩, ⟨Nat.le_of_ble_eq_true rfl, Nat.le_of_ble_eq_true rfl⟩, Nat.le_of_ble_eq_true rfl⟩ rfl rfl (fun h9 hh9 E9 => X_pr (fun q9 => (exA_0 q9 hk).elim)) (fun h9 hh9 v9 => ?_)
        refine WR.pr (fun e9 => ?_)
        obtain ⟨-, e9⟩ := e9
        subst e9
        refine WR.ex (fun adr9 => WR.pr (fun hadr => ?_))
        rw [← hadr 10 (by decide) (by decide)]
        show WR K G _ _ _ _ _ _ _ (.int _ :: _)
        refine R_aload_n (pc := 209) C dL_adds_209 rfl ?_
        refine R_iconst (pc := 210) C dL_adds_210 (v := 0) (by decide) ?_
        refine R_iald (pc := 211) C dL_adds_211 (wmq) (rfl) (by decide) (by decide) (rdq0) ?_
        refine R_iconst (pc := 212) C dL_adds_212 (v := 1) (by decide) ?_
        refine R_isub (pc := 213) C dL_adds_213 ?_
        refine R_icmp_ne (pc := 214) C dL_adds_214 (tgt := 221) (by decide) (fun c214 => absurd c214 (fun q => q (nI_pred n).symm)) (fun c214 => ?_)
        refine R_iconst (pc := 217) C dL_adds_217 (v := 1) (by decide) ?_
        refine R_goto (pc := 218) C dL_adds_218 (tgt := 222) (by decide) ?_
        exact R_zret (pc := 222) C dL_adds_222 rfl rfl (Nat.le_of_ble_eq_true rfl) (Nat.le_of_ble_eq_true rfl) (fun h hh => ⟨rfl, adr9, a, d, v2, v3, v4, v5, ⟨ha, hd, hb5⟩, hadr, hh⟩)
      · refine R_sipush (pc := 152) C dL_adds_152 (v := 1001) (by decide) ?_
        refine R_goto (pc := 155) C dL_adds_155 (tgt := 160) (by decide) ?_
        refine R_callP (pc := 160) C dL_adds_160 (vs := [_, _]) (mL_low hl (by decide)) ⟨k_2_16, k_2_17, k_2_12, k_2_18⟩ (sgn (nv := 2) rfl ⟨by decide +kernel, by decide +kernel, by decide +kernel⟩) ⟨⟨Nat.le_of_ble_eq_true rfl, Nat.le_of_ble_eq_true rfl⟩, ⟨Nat.le_of_ble_eq_true rfl, Nat.le_of_ble_eq_true rfl⟩, Nat.le_of_ble_eq_true rfl⟩ rfl rfl ?_
        refine R_topi (fun v5 ev5 => ?_)
        have hb5 : Bt v5 1000 := by rw [ev5]; obtain ⟨j, hj, e⟩ := lowV_ex (z >>> ((5 : Int32) &&& 31)) (m := 1001) (by omega) (by omega); exact ⟨j, by omega, e⟩
        have r5 : qR v5 0 1000 = true := by obtain ⟨j, hj, e⟩ := hb5; rw [e]; exact rngp (m := 1000) (by omega) hj
        refine R_iast (pc := 163) C dL_adds_163 (wmw) (i9 n 5) (by omega) (by decide) (pm_w (f := 5) (by omega)) ?_
        refine R_aload_n (pc := 164) C dL_adds_164 rfl ?_
        refine R_iconst (pc := 165) C dL_adds_165 (v := 0) (by decide) ?_
        refine R_dup2 (pc := 166) C dL_adds_166 rfl rfl ?_
        refine R_iald (pc := 167) C dL_adds_167 (wmq) (rfl) (by decide) (by decide) (rdq0) ?_
        refine R_iconst (pc := 168) C dL_adds_168 (v := 1) (by decide) ?_
        refine R_iadd (pc := 169) C dL_adds_169 ?_
        refine R_iast (pc := 170) C dL_adds_170 (wmq) (rfl) (by decide) (by decide) (pm_wells (n' := n + 1) (nI_1 n)) ?_
        refine WR.imp (P' := Wd G (adr, (n, P, F), (n + 1, P, fAdd F n (nI a) (nI d) v2 v3 v4 v5), mu, g)) (fun h hh => hh) ?_
        refine R_aload_n (pc := 171) C dL_adds_171 rfl ?_
        refine R_aload_n (pc := 172) C dL_adds_172 rfl ?_
        refine R_iload (pc := 173) C dL_adds_173 rfl ?_
        refine R_iald (pc := 175) C dL_adds_175 (wmw) (i9z n) (by omega) (by decide) ((rdw (by omega)).trans (fAdd_v.1)) ?_
        refine R_aload_n (pc := 176) C dL_adds_176 rfl ?_
        refine R_iload (pc := 177) C dL_adds_177 rfl ?_
        refine R_iconst (pc := 179) C dL_adds_179 (v := 1) (by decide) ?_
        refine R_iadd (pc := 180) C dL_adds_180 ?_
        refine R_iald (pc := 181) C dL_adds_181 (wmw) (i9 n 1) (by omega) (by decide) ((rdw (by omega)).trans (fAdd_v.2.1)) ?_
        refine R_aload_n (pc := 182) C dL_adds_182 rfl ?_
        refine R_iload (pc := 183) C dL_adds_183 rfl ?_
        refine R_iconst (pc := 185) C dL_adds_185 (v := 2) (by decide) ?_
        refine R_iadd (pc := 186) C dL_adds_186 ?_
        refine R_iald (pc := 187) C dL_adds_187 (wmw) (i9 n 2) (by omega) (by decide) ((rdw (by omega)).trans (fAdd_v.2.2.1)) ?_
        refine R_aload_n (pc := 188) C dL_adds_188 rfl ?_
        refine R_iload (pc := 189) C dL_adds_189 rfl ?_
        refine R_iconst (pc := 191) C dL_adds_191 (v := 3) (by decide) ?_
        refine R_iadd (pc := 192) C dL_adds_192 ?_
        refine R_iald (pc := 193) C dL_adds_193 (wmw) (i9 n 3) (by omega) (by decide) ((rdw (by omega)).trans (fAdd_v.2.2.2.1)) ?_
        refine R_aload_n (pc := 194) C dL_adds_194 rfl ?_
        refine R_iload (pc := 195) C dL_adds_195 rfl ?_
        refine R_iconst (pc := 197) C dL_adds_197 (v := 4) (by decide) ?_
        refine R_iadd (pc := 198) C dL_adds_198 ?_
        refine R_iald (pc := 199) C dL_adds_199 (wmw) (i9 n 4) (by omega) (by decide) ((rdw (by omega)).trans (fAdd_v.2.2.2.2.1)) ?_
        refine R_aload_n (pc := 200) C dL_adds_200 rfl ?_
        refine R_iload (pc := 201) C dL_adds_201 rfl ?_
        refine R_iconst (pc := 203) C dL_adds_203 (v := 5) (by decide) ?_
        refine R_iadd (pc := 204) C dL_adds_204 ?_
        refine R_iald (pc := 205) C dL_adds_205 (wmw) (i9 n 5) (by omega) (by decide) ((rdw (by omega)).trans (fAdd_v.2.2.2.2.2)) ?_
        have hk : kAdd n (nI a) (nI d) v2 v3 v4 v5 = 0 := kAdd_0 (by omega) ha hd r2 r3 r4 r5
        refine R_callVT (pc := 206) C dL_adds_206 (vs := [_, _, _, _, _, _]) (fun h hh => mX1_addWell hl (show n ≤ 8 by omega) hz1 hz2 h hh) (isOb_of (wc0) rfl) ⟨k_2_23, k_3_0, k_3_1, k_1_2, k_3_2⟩ (sgn (nv := 6) rfl ⟨by decide +kernel, by decide +kernel, by decide +kernel⟩) ⟨⟨Nat.le_of_ble_eq_true rfl, Nat.le_of_ble_eq_true rfl⟩, ⟨Nat.le_of_ble_eq_true rfl, Nat.le_of_ble_eq_true rfl⟩, Nat.le_of_ble_eq_true rfl⟩ rfl rfl (fun h9 hh9 E9 => X_pr (fun q9 => (exA_0 q9 hk).elim)) (fun h9 hh9 v9 => ?_)
        refine WR.pr (fun e9 => ?_)
        obtain ⟨-, e9⟩ := e9
        subst e9
        refine WR.ex (fun adr9 => WR.pr (fun hadr => ?_))
        rw [← hadr 10 (by decide) (by decide)]
        show WR K G _ _ _ _ _ _ _ (.int _ :: _)
        refine R_aload_n (pc := 209) C dL_adds_209 rfl ?_
        refine R_iconst (pc := 210) C dL_adds_210 (v := 0) (by decide) ?_
        refine R_iald (pc := 211) C dL_adds_211 (wmq) (rfl) (by decide) (by decide) (rdq0) ?_
        refine R_iconst (pc := 212) C dL_adds_212 (v := 1) (by decide) ?_
        refine R_isub (pc := 213) C dL_adds_213 ?_
        refine R_icmp_ne (pc := 214) C dL_adds_214 (tgt := 221) (by decide) (fun c214 => absurd c214 (fun q => q (nI_pred n).symm)) (fun c214 => ?_)
        refine R_iconst (pc := 217) C dL_adds_217 (v := 1) (by decide) ?_
        refine R_goto (pc := 218) C dL_adds_218 (tgt := 222) (by decide) ?_
        exact R_zret (pc := 222) C dL_adds_222 rfl rfl (Nat.le_of_ble_eq_true rfl) (Nat.le_of_ble_eq_true rfl) (fun h hh => ⟨rfl, adr9, a, d, v2, v3, v4, v5, ⟨ha, hd, hb5⟩, hadr, hh⟩)
    · refine R_sipush (pc := 66) C dL_adds_66 (v := 20001) (by decide) ?_
      refine R_goto (pc := 69) C dL_adds_69 (tgt := 75) (by decide) ?_
      refine R_callP (pc := 75) C dL_adds_75 (vs := [_, _]) (mL_low hl (by decide)) ⟨k_2_16, k_2_17, k_2_12, k_2_18⟩ (sgn (nv := 2) rfl ⟨by decide +kernel, by decide +kernel, by decide +kernel⟩) ⟨⟨Nat.le_of_ble_eq_true rfl, Nat.le_of_ble_eq_true rfl⟩, ⟨Nat.le_of_ble_eq_true rfl, Nat.le_of_ble_eq_true rfl⟩, Nat.le_of_ble_eq_true rfl⟩ rfl rfl ?_
      refine R_iload_n (pc := 78) C dL_adds_78 rfl ?_
      refine R_bipush (pc := 79) C dL_adds_79 (v := 14) (by decide) ?_
      refine R_ishr (pc := 81) C dL_adds_81 ?_
      refine R_iconst (pc := 82) C dL_adds_82 (v := 4) (by decide) ?_
      refine R_callP (pc := 83) C dL_adds_83 (vs := [_, _]) (mL_low hl (by decide)) ⟨k_2_16, k_2_17, k_2_12, k_2_18⟩ (sgn (nv := 2) rfl ⟨by decide +kernel, by decide +kernel, by decide +kernel⟩) ⟨⟨Nat.le_of_ble_eq_true rfl, Nat.le_of_ble_eq_true rfl⟩, ⟨Nat.le_of_ble_eq_true rfl, Nat.le_of_ble_eq_true rfl⟩, Nat.le_of_ble_eq_true rfl⟩ rfl rfl ?_
      refine R_if_ne (pc := 86) C dL_adds_86 (tgt := 95) (by decide) (fun c86 => absurd c63 c86) (fun _ => ?_)
      refine R_sipush (pc := 89) C dL_adds_89 (v := 10000) (by decide) ?_
      refine R_goto (pc := 92) C dL_adds_92 (tgt := 97) (by decide) ?_
      refine R_isub (pc := 97) C dL_adds_97 ?_
      refine R_topi (fun v2 ev2 => ?_)
      have r2 : qR v2 (-10000) 10000 = true := by obtain ⟨j, hj, e⟩ := lowV_ex (z >>> ((4 : Int32) &&& 31)) (m := 20001) (by omega) (by omega); rw [ev2, show lowV (z >>> ((4 : Int32) &&& 31)) 20001 = nI j from e]; exact rngs (c := 10000) (by omega) (by omega) (by omega)
      refine R_iast (pc := 98) C dL_adds_98 (wmw) (i9 n 2) (by omega) (by decide) (pm_w (f := 2) (by omega)) ?_
      refine R_aload_n (pc := 99) C dL_adds_99 rfl ?_
      refine R_iload (pc := 100) C dL_adds_100 rfl ?_
      refine R_iconst (pc := 102) C dL_adds_102 (v := 3) (by decide) ?_
      refine R_iadd (pc := 103) C dL_adds_103 ?_
      refine R_iload_n (pc := 104) C dL_adds_104 rfl ?_
      refine R_bipush (pc := 105) C dL_adds_105 (v := 6) (by decide) ?_
      refine R_ishr (pc := 107) C dL_adds_107 ?_
      refine R_sipush (pc := 108) C dL_adds_108 (v := 500) (by decide) ?_
      refine R_callP (pc := 111) C dL_adds_111 (vs := [_, _]) (mL_low hl (by decide)) ⟨k_2_16, k_2_17, k_2_12, k_2_18⟩ (sgn (nv := 2) rfl ⟨by decide +kernel, by decide +kernel, by decide +kernel⟩) ⟨⟨Nat.le_of_ble_eq_true rfl, Nat.le_of_ble_eq_true rfl⟩, ⟨Nat.le_of_ble_eq_true rfl, Nat.le_of_ble_eq_true rfl⟩, Nat.le_of_ble_eq_true rfl⟩ rfl rfl ?_
      refine R_bipush (pc := 114) C dL_adds_114 (v := 100) (by decide) ?_
      refine R_isub (pc := 116) C dL_adds_116 ?_
      refine R_topi (fun v3 ev3 => ?_)
      have r3 : qR v3 (-10000) 10000 = true := by obtain ⟨j, hj, e⟩ := lowV_ex (z >>> ((6 : Int32) &&& 31)) (m := 500) (by omega) (by omega); rw [ev3, show lowV (z >>> ((6 : Int32) &&& 31)) 500 = nI j from e]; exact rngs (c := 100) (by omega) (by omega) (by omega)
      refine R_iast (pc := 117) C dL_adds_117 (wmw) (i9 n 3) (by omega) (by decide) (pm_w (f := 3) (by omega)) ?_
      refine R_aload_n (pc := 118) C dL_adds_118 rfl ?_
      refine R_iload (pc := 119) C dL_adds_119 rfl ?_
      refine R_iconst (pc := 121) C dL_adds_121 (v := 4) (by decide) ?_
      refine R_iadd (pc := 122) C dL_adds_122 ?_
      refine R_iload_n (pc := 123) C dL_adds_123 rfl ?_
      refine R_bipush (pc := 124) C dL_adds_124 (v := 8) (by decide) ?_
      refine R_ishr (pc := 126) C dL_adds_126 ?_
      refine R_bipush (pc := 127) C dL_adds_127 (v := 6) (by decide) ?_
      refine R_callP (pc := 129) C dL_adds_129 (vs := [_, _]) (mL_low hl (by decide)) ⟨k_2_16, k_2_17, k_2_12, k_2_18⟩ (sgn (nv := 2) rfl ⟨by decide +kernel, by decide +kernel, by decide +kernel⟩) ⟨⟨Nat.le_of_ble_eq_true rfl, Nat.le_of_ble_eq_true rfl⟩, ⟨Nat.le_of_ble_eq_true rfl, Nat.le_of_ble_eq_true rfl⟩, Nat.le_of_ble_eq_true rfl⟩ rfl rfl ?_
      refine R_topi (fun v4 ev4 => ?_)
      have r4 : qR v4 0 1000 = true := by obtain ⟨j, hj, e⟩ := lowV_ex (z >>> ((8 : Int32) &&& 31)) (m := 6) (by omega) (by omega); rw [ev4, show lowV (z >>> ((8 : Int32) &&& 31)) 6 = nI j from e]; exact rngp (m := 1000) (by omega) (by omega)
      refine R_iast (pc := 132) C dL_adds_132 (wmw) (i9 n 4) (by omega) (by decide) (pm_w (f := 4) (by omega)) ?_
      refine R_aload_n (pc := 133) C dL_adds_133 rfl ?_
      refine R_iload (pc := 134) C dL_adds_134 rfl ?_
      refine R_iconst (pc := 136) C dL_adds_136 (v := 5) (by decide) ?_
      refine R_iadd (pc := 137) C dL_adds_137 ?_
      refine R_iload_n (pc := 138) C dL_adds_138 rfl ?_
      refine R_iconst (pc := 139) C dL_adds_139 (v := 5) (by decide) ?_
      refine R_ishr (pc := 140) C dL_adds_140 ?_
      refine R_iload_n (pc := 141) C dL_adds_141 rfl ?_
      refine R_bipush (pc := 142) C dL_adds_142 (v := 12) (by decide) ?_
      refine R_ishr (pc := 144) C dL_adds_144 ?_
      refine R_iconst (pc := 145) C dL_adds_145 (v := 3) (by decide) ?_
      refine R_callP (pc := 146) C dL_adds_146 (vs := [_, _]) (mL_low hl (by decide)) ⟨k_2_16, k_2_17, k_2_12, k_2_18⟩ (sgn (nv := 2) rfl ⟨by decide +kernel, by decide +kernel, by decide +kernel⟩) ⟨⟨Nat.le_of_ble_eq_true rfl, Nat.le_of_ble_eq_true rfl⟩, ⟨Nat.le_of_ble_eq_true rfl, Nat.le_of_ble_eq_true rfl⟩, Nat.le_of_ble_eq_true rfl⟩ rfl rfl ?_
      refine R_if_ne (pc := 149) C dL_adds_149 (tgt := 158) (by decide) (fun c149 => ?_) (fun c149 => ?_)
      · refine R_bipush (pc := 158) C dL_adds_158 (v := 60) (by decide) ?_
        refine R_callP (pc := 160) C dL_adds_160 (vs := [_, _]) (mL_low hl (by decide)) ⟨k_2_16, k_2_17, k_2_12, k_2_18⟩ (sgn (nv := 2) rfl ⟨by decide +kernel, by decide +kernel, by decide +kernel⟩) ⟨⟨Nat.le_of_ble_eq_true rfl, Nat.le_of_ble_eq_true rfl⟩, ⟨Nat.le_of_ble_eq_true rfl, Nat.le_of_ble_eq_true rfl⟩, Nat.le_of_ble_eq_true rfl⟩ rfl rfl ?_
        refine R_topi (fun v5 ev5 => ?_)
        have hb5 : Bt v5 1000 := by rw [ev5]; obtain ⟨j, hj, e⟩ := lowV_ex (z >>> ((5 : Int32) &&& 31)) (m := 60) (by omega) (by omega); exact ⟨j, by omega, e⟩
        have r5 : qR v5 0 1000 = true := by obtain ⟨j, hj, e⟩ := hb5; rw [e]; exact rngp (m := 1000) (by omega) hj
        refine R_iast (pc := 163) C dL_adds_163 (wmw) (i9 n 5) (by omega) (by decide) (pm_w (f := 5) (by omega)) ?_
        refine R_aload_n (pc := 164) C dL_adds_164 rfl ?_
        refine R_iconst (pc := 165) C dL_adds_165 (v := 0) (by decide) ?_
        refine R_dup2 (pc := 166) C dL_adds_166 rfl rfl ?_
        refine R_iald (pc := 167) C dL_adds_167 (wmq) (rfl) (by decide) (by decide) (rdq0) ?_
        refine R_iconst (pc := 168) C dL_adds_168 (v := 1) (by decide) ?_
        refine R_iadd (pc := 169) C dL_adds_169 ?_
        refine R_iast (pc := 170) C dL_adds_170 (wmq) (rfl) (by decide) (by decide) (pm_wells (n' := n + 1) (nI_1 n)) ?_
        refine WR.imp (P' := Wd G (adr, (n, P, F), (n + 1, P, fAdd F n (nI a) (nI d) v2 v3 v4 v5), mu, g)) (fun h hh => hh) ?_
        refine R_aload_n (pc := 171) C dL_adds_171 rfl ?_
        refine R_aload_n (pc := 172) C dL_adds_172 rfl ?_
        refine R_iload (pc := 173) C dL_adds_173 rfl ?_
        refine R_iald (pc := 175) C dL_adds_175 (wmw) (i9z n) (by omega) (by decide) ((rdw (by omega)).trans (fAdd_v.1)) ?_
        refine R_aload_n (pc := 176) C dL_adds_176 rfl ?_
        refine R_iload (pc := 177) C dL_adds_177 rfl ?_
        refine R_iconst (pc := 179) C dL_adds_179 (v := 1) (by decide) ?_
        refine R_iadd (pc := 180) C dL_adds_180 ?_
        refine R_iald (pc := 181) C dL_adds_181 (wmw) (i9 n 1) (by omega) (by decide) ((rdw (by omega)).trans (fAdd_v.2.1)) ?_
        refine R_aload_n (pc := 182) C dL_adds_182 rfl ?_
        refine R_iload (pc := 183) C dL_adds_183 rfl ?_
        refine R_iconst (pc := 185) C dL_adds_185 (v := 2) (by decide) ?_
        refine R_iadd (pc := 186) C dL_adds_186 ?_
        refine R_iald (pc := 187) C dL_adds_187 (wmw) (i9 n 2) (by omega) (by decide) ((rdw (by omega)).trans (fAdd_v.2.2.1)) ?_
        refine R_aload_n (pc := 188) C dL_adds_188 rfl ?_
        refine R_iload (pc := 189) C dL_adds_189 rfl ?_
        refine R_iconst (pc := 191) C dL_adds_191 (v := 3) (by decide) ?_
        refine R_iadd (pc := 192) C dL_adds_192 ?_
        refine R_iald (pc := 193) C dL_adds_193 (wmw) (i9 n 3) (by omega) (by decide) ((rdw (by omega)).trans (fAdd_v.2.2.2.1)) ?_
        refine R_aload_n (pc := 194) C dL_adds_194 rfl ?_
        refine R_iload (pc := 195) C dL_adds_195 rfl ?_
        refine R_iconst (pc := 197) C dL_adds_197 (v := 4) (by decide) ?_
        refine R_iadd (pc := 198) C dL_adds_198 ?_
        refine R_iald (pc := 199) C dL_adds_199 (wmw) (i9 n 4) (by omega) (by decide) ((rdw (by omega)).trans (fAdd_v.2.2.2.2.1)) ?_
        refine R_aload_n (pc := 200) C dL_adds_200 rfl ?_
        refine R_iload (pc := 201) C dL_adds_201 rfl ?_
        refine R_iconst (pc := 203) C dL_adds_203 (v := 5) (by decide) ?_
        refine R_iadd (pc := 204) C dL_adds_204 ?_
        refine R_iald (pc := 205) C dL_adds_205 (wmw) (i9 n 5) (by omega) (by decide) ((rdw (by omega)).trans (fAdd_v.2.2.2.2.2)) ?_
        have hk : kAdd n (nI a) (nI d) v2 v3 v4 v5 = 0 := kAdd_0 (by omega) ha hd r2 r3 r4 r5
        refine R_callVT (pc := 206) C dL_adds_206 (vs := [_, _, _, _, _, _]) (fun h hh => mX1_addWell hl (show n ≤ 8 by omega) hz1 hz2 h hh) (isOb_of (wc0) rfl) ⟨k_2_23, k_3_0, k_3_1, k_1_2, k_3_2⟩ (sgn (nv := 6) rfl ⟨by decide +kernel, by decide +kernel, by decide +kernel⟩) ⟨⟨Nat.le_of_ble_eq_true rfl, Nat.le_of_ble_eq_true rfl⟩, ⟨Nat.le_of_ble_eq_true rfl, Nat.le_of_ble_eq_true rfl⟩, Nat.le_of_ble_eq_true rfl⟩ rfl rfl (fun h9 hh9 E9 => X_pr (fun q9 => (exA_0 q9 hk).elim)) (fun h9 hh9 v9 => ?_)
        refine WR.pr (fun e9 => ?_)
        obtain ⟨-, e9⟩ := e9
        subst e9
        refine WR.ex (fun adr9 => WR.pr (fun hadr => ?_))
        rw [← hadr 10 (by decide) (by decide)]
        show WR K G _ _ _ _ _ _ _ (.int _ :: _)
        refine R_aload_n (pc := 209) C dL_adds_209 rfl ?_
        refine R_iconst (pc := 210) C dL_adds_210 (v := 0) (by decide) ?_
        refine R_iald (pc := 211) C dL_adds_211 (wmq) (rfl) (by decide) (by decide) (rdq0) ?_
        refine R_iconst (pc := 212) C dL_adds_212 (v := 1) (by decide) ?_
        refine R_isub (pc := 213) C dL_adds_213 ?_
        refine R_icmp_ne (pc := 214) C dL_adds_214 (tgt := 221) (by decide) (fun c214 => absurd c214 (fun q => q (nI_pred n).symm)) (fun c214 => ?_)
        refine R_iconst (pc := 217) C dL_adds_217 (v := 1) (by decide) ?_
        refine R_goto (pc := 218) C dL_adds_218 (tgt := 222) (by decide) ?_
        exact R_zret (pc := 222) C dL_adds_222 rfl rfl (Nat.le_of_ble_eq_true rfl) (Nat.le_of_ble_eq_true rfl) (fun h hh => ⟨rfl, adr9, a, d, v2, v3, v4, v5, ⟨ha, hd, hb5⟩, hadr, hh⟩)
      · refine R_sipush (pc := 152) C dL_adds_152 (v := 1001) (by decide) ?_
        refine R_goto (pc := 155) C dL_adds_155 (tgt := 160) (by decide) ?_
        refine R_callP (pc := 160) C dL_adds_160 (vs := [_, _]) (mL_low hl (by decide)) ⟨k_2_16, k_2_17, k_2_12, k_2_18⟩ (sgn (nv := 2) rfl ⟨by decide +kernel, by decide +kernel, by decide +kernel⟩) ⟨⟨Nat.le_of_ble_eq_true rfl, Nat.le_of_ble_eq_true rfl⟩, ⟨Nat.le_of_ble_eq_true rfl, Nat.le_of_ble_eq_true rfl⟩, Nat.le_of_ble_eq_true rfl⟩ rfl rfl ?_
        refine R_topi (fun v5 ev5 => ?_)
        have hb5 : Bt v5 1000 := by rw [ev5]; obtain ⟨j, hj, e⟩ := lowV_ex (z >>> ((5 : Int32) &&& 31)) (m := 1001) (by omega) (by omega); exact ⟨j, by omega, e⟩
        have r5 : qR v5 0 1000 = true := by obtain ⟨j, hj, e⟩ := hb5; rw [e]; exact rngp (m := 1000) (by omega) hj
        refine R_iast (pc := 163) C dL_adds_163 (wmw) (i9 n 5) (by omega) (by decide) (pm_w (f := 5) (by omega)) ?_
        refine R_aload_n (pc := 164) C dL_adds_164 rfl ?_
        refine R_iconst (pc := 165) C dL_adds_165 (v := 0) (by decide) ?_
        refine R_dup2 (pc := 166) C dL_adds_166 rfl rfl ?_
        refine R_iald (pc := 167) C dL_adds_167 (wmq) (rfl) (by decide) (by decide) (rdq0) ?_
        refine R_iconst (pc := 168) C dL_adds_168 (v := 1) (by decide) ?_
        refine R_iadd (pc := 169) C dL_adds_169 ?_
        refine R_iast (pc := 170) C dL_adds_170 (wmq) (rfl) (by decide) (by decide) (pm_wells (n' := n + 1) (nI_1 n)) ?_
        refine WR.imp (P' := Wd G (adr, (n, P, F), (n + 1, P, fAdd F n (nI a) (nI d) v2 v3 v4 v5), mu, g)) (fun h hh => hh) ?_
        refine R_aload_n (pc := 171) C dL_adds_171 rfl ?_
        refine R_aload_n (pc := 172) C dL_adds_172 rfl ?_
        refine R_iload (pc := 173) C dL_adds_173 rfl ?_
        refine R_iald (pc := 175) C dL_adds_175 (wmw) (i9z n) (by omega) (by decide) ((rdw (by omega)).trans (fAdd_v.1)) ?_
        refine R_aload_n (pc := 176) C dL_adds_176 rfl ?_
        refine R_iload (pc := 177) C dL_adds_177 rfl ?_
        refine R_iconst (pc := 179) C dL_adds_179 (v := 1) (by decide) ?_
        refine R_iadd (pc := 180) C dL_adds_180 ?_
        refine R_iald (pc := 181) C dL_adds_181 (wmw) (i9 n 1) (by omega) (by decide) ((rdw (by omega)).trans (fAdd_v.2.1)) ?_
        refine R_aload_n (pc := 182) C dL_adds_182 rfl ?_
        refine R_iload (pc := 183) C dL_adds_183 rfl ?_
        refine R_iconst (pc := 185) C dL_adds_185 (v := 2) (by decide) ?_
        refine R_iadd (pc := 186) C dL_adds_186 ?_
        refine R_iald (pc := 187) C dL_adds_187 (wmw) (i9 n 2) (by omega) (by decide) ((rdw (by omega)).trans (fAdd_v.2.2.1)) ?_
        refine R_aload_n (pc := 188) C dL_adds_188 rfl ?_
        refine R_iload (pc := 189) C dL_adds_189 rfl ?_
        refine R_iconst (pc := 191) C dL_adds_191 (v := 3) (by decide) ?_
        refine R_iadd (pc := 192) C dL_adds_192 ?_
        refine R_iald (pc := 193) C dL_adds_193 (wmw) (i9 n 3) (by omega) (by decide) ((rdw (by omega)).trans (fAdd_v.2.2.2.1)) ?_
        refine R_aload_n (pc := 194) C dL_adds_194 rfl ?_
        refine R_iload (pc := 195) C dL_adds_195 rfl ?_
        refine R_iconst (pc := 197) C dL_adds_197 (v := 4) (by decide) ?_
        refine R_iadd (pc := 198) C dL_adds_198 ?_
        refine R_iald (pc := 199) C dL_adds_199 (wmw) (i9 n 4) (by omega) (by decide) ((rdw (by omega)).trans (fAdd_v.2.2.2.2.1)) ?_
        refine R_aload_n (pc := 200) C dL_adds_200 rfl ?_
        refine R_iload (pc := 201) C dL_adds_201 rfl ?_
        refine R_iconst (pc := 203) C dL_adds_203 (v := 5) (by decide) ?_
        refine R_iadd (pc := 204) C dL_adds_204 ?_
        refine R_iald (pc := 205) C dL_adds_205 (wmw) (i9 n 5) (by omega) (by decide) ((rdw (by omega)).trans (fAdd_v.2.2.2.2.2)) ?_
        have hk : kAdd n (nI a) (nI d) v2 v3 v4 v5 = 0 := kAdd_0 (by omega) ha hd r2 r3 r4 r5
        refine R_callVT (pc := 206) C dL_adds_206 (vs := [_, _, _, _, _, _]) (fun h hh => mX1_addWell hl (show n ≤ 8 by omega) hz1 hz2 h hh) (isOb_of (wc0) rfl) ⟨k_2_23, k_3_0, k_3_1, k_1_2, k_3_2⟩ (sgn (nv := 6) rfl ⟨by decide +kernel, by decide +kernel, by decide +kernel⟩) ⟨⟨Nat.le_of_ble_eq_true rfl, Nat.le_of_ble_eq_true rfl⟩, ⟨Nat.le_of_ble_eq_true rfl, Nat.le_of_ble_eq_true rfl⟩, Nat.le_of_ble_eq_true rfl⟩ rfl rfl (fun h9 hh9 E9 => X_pr (fun q9 => (exA_0 q9 hk).elim)) (fun h9 hh9 v9 => ?_)
        refine WR.pr (fun e9 => ?_)
        obtain ⟨-, e9⟩ := e9
        subst e9
        refine WR.ex (fun adr9 => WR.pr (fun hadr => ?_))
        rw [← hadr 10 (by decide) (by decide)]
        show WR K G _ _ _ _ _ _ _ (.int _ :: _)
        refine R_aload_n (pc := 209) C dL_adds_209 rfl ?_
        refine R_iconst (pc := 210) C dL_adds_210 (v := 0) (by decide) ?_
        refine R_iald (pc := 211) C dL_adds_211 (wmq) (rfl) (by decide) (by decide) (rdq0) ?_
        refine R_iconst (pc := 212) C dL_adds_212 (v := 1) (by decide) ?_
        refine R_isub (pc := 213) C dL_adds_213 ?_
        refine R_icmp_ne (pc := 214) C dL_adds_214 (tgt := 221) (by decide) (fun c214 => absurd c214 (fun q => q (nI_pred n).symm)) (fun c214 => ?_)
        refine R_iconst (pc := 217) C dL_adds_217 (v := 1) (by decide) ?_
        refine R_goto (pc := 218) C dL_adds_218 (tgt := 222) (by decide) ?_
        exact R_zret (pc := 222) C dL_adds_222 rfl rfl (Nat.le_of_ble_eq_true rfl) (Nat.le_of_ble_eq_true rfl) (fun h hh => ⟨rfl, adr9, a, d, v2, v3, v4, v5, ⟨ha, hd, hb5⟩, hadr, hh⟩)
  · refine R_bipush (pc := 36) C dL_adds_36 (v := 100) (by decide) ?_
    refine R_goto (pc := 38) C dL_adds_38 (tgt := 43) (by decide) ?_
    refine R_callP (pc := 43) C dL_adds_43 (vs := [_, _]) (mL_low hl (by decide)) ⟨k_2_16, k_2_17, k_2_12, k_2_18⟩ (sgn (nv := 2) rfl ⟨by decide +kernel, by decide +kernel, by decide +kernel⟩) ⟨⟨Nat.le_of_ble_eq_true rfl, Nat.le_of_ble_eq_true rfl⟩, ⟨Nat.le_of_ble_eq_true rfl, Nat.le_of_ble_eq_true rfl⟩, Nat.le_of_ble_eq_true rfl⟩ rfl rfl ?_
    refine R_topi (fun v1 ev1 => ?_)
    obtain ⟨d, hd, rfl⟩ : ∃ d, d < 100 ∧ v1 = nI d := by rw [ev1]; obtain ⟨j, hj, e⟩ := lowV_ex (z >>> ((2 : Int32) &&& 31)) (m := 100) (by omega) (by omega); exact ⟨j, by omega, e⟩
    refine R_iast (pc := 46) C dL_adds_46 (wmw) (i9 n 1) (by omega) (by decide) (pm_w (f := 1) (by omega)) ?_
    refine R_aload_n (pc := 47) C dL_adds_47 rfl ?_
    refine R_iload (pc := 48) C dL_adds_48 rfl ?_
    refine R_iconst (pc := 50) C dL_adds_50 (v := 2) (by decide) ?_
    refine R_iadd (pc := 51) C dL_adds_51 ?_
    refine R_iload_n (pc := 52) C dL_adds_52 rfl ?_
    refine R_iconst (pc := 53) C dL_adds_53 (v := 4) (by decide) ?_
    refine R_ishr (pc := 54) C dL_adds_54 ?_
    refine R_iload_n (pc := 55) C dL_adds_55 rfl ?_
    refine R_bipush (pc := 56) C dL_adds_56 (v := 14) (by decide) ?_
    refine R_ishr (pc := 58) C dL_adds_58 ?_
    refine R_iconst (pc := 59) C dL_adds_59 (v := 4) (by decide) ?_
    refine R_callP (pc := 60) C dL_adds_60 (vs := [_, _]) (mL_low hl (by decide)) ⟨k_2_16, k_2_17, k_2_12, k_2_18⟩ (sgn (nv := 2) rfl ⟨by decide +kernel, by decide +kernel, by decide +kernel⟩) ⟨⟨Nat.le_of_ble_eq_true rfl, Nat.le_of_ble_eq_true rfl⟩, ⟨Nat.le_of_ble_eq_true rfl, Nat.le_of_ble_eq_true rfl⟩, Nat.le_of_ble_eq_true rfl⟩ rfl rfl ?_
    refine R_if_ne (pc := 63) C dL_adds_63 (tgt := 72) (by decide) (fun c63 => ?_) (fun c63 => ?_)
    · refine R_sipush (pc := 72) C dL_adds_72 (v := 900) (by decide) ?_
      refine R_callP (pc := 75) C dL_adds_75 (vs := [_, _]) (mL_low hl (by decide)) ⟨k_2_16, k_2_17, k_2_12, k_2_18⟩ (sgn (nv := 2) rfl ⟨by decide +kernel, by decide +kernel, by decide +kernel⟩) ⟨⟨Nat.le_of_ble_eq_true rfl, Nat.le_of_ble_eq_true rfl⟩, ⟨Nat.le_of_ble_eq_true rfl, Nat.le_of_ble_eq_true rfl⟩, Nat.le_of_ble_eq_true rfl⟩ rfl rfl ?_
      refine R_iload_n (pc := 78) C dL_adds_78 rfl ?_
      refine R_bipush (pc := 79) C dL_adds_79 (v := 14) (by decide) ?_
      refine R_ishr (pc := 81) C dL_adds_81 ?_
      refine R_iconst (pc := 82) C dL_adds_82 (v := 4) (by decide) ?_
      refine R_callP (pc := 83) C dL_adds_83 (vs := [_, _]) (mL_low hl (by decide)) ⟨k_2_16, k_2_17, k_2_12, k_2_18⟩ (sgn (nv := 2) rfl ⟨by decide +kernel, by decide +kernel, by decide +kernel⟩) ⟨⟨Nat.le_of_ble_eq_true rfl, Nat.le_of_ble_eq_true rfl⟩, ⟨Nat.le_of_ble_eq_true rfl, Nat.le_of_ble_eq_true rfl⟩, Nat.le_of_ble_eq_true rfl⟩ rfl rfl ?_
      refine R_if_ne (pc := 86) C dL_adds_86 (tgt := 95) (by decide) (fun _ => ?_) (fun c86 => absurd c86 c63)
      refine R_bipush (pc := 95) C dL_adds_95 (v := 100) (by decide) ?_
      refine R_isub (pc := 97) C dL_adds_97 ?_
      refine R_topi (fun v2 ev2 => ?_)
      have r2 : qR v2 (-10000) 10000 = true := by obtain ⟨j, hj, e⟩ := lowV_ex (z >>> ((4 : Int32) &&& 31)) (m := 900) (by omega) (by omega); rw [ev2, show lowV (z >>> ((4 : Int32) &&& 31)) 900 = nI j from e]; exact rngs (c := 100) (by omega) (by omega) (by omega)
      refine R_iast (pc := 98) C dL_adds_98 (wmw) (i9 n 2) (by omega) (by decide) (pm_w (f := 2) (by omega)) ?_
      refine R_aload_n (pc := 99) C dL_adds_99 rfl ?_
      refine R_iload (pc := 100) C dL_adds_100 rfl ?_
      refine R_iconst (pc := 102) C dL_adds_102 (v := 3) (by decide) ?_
      refine R_iadd (pc := 103) C dL_adds_103 ?_
      refine R_iload_n (pc := 104) C dL_adds_104 rfl ?_
      refine R_bipush (pc := 105) C dL_adds_105 (v := 6) (by decide) ?_
      refine R_ishr (pc := 107) C dL_adds_107 ?_
      refine R_sipush (pc := 108) C dL_adds_108 (v := 500) (by decide) ?_
      refine R_callP (pc := 111) C dL_adds_111 (vs := [_, _]) (mL_low hl (by decide)) ⟨k_2_16, k_2_17, k_2_12, k_2_18⟩ (sgn (nv := 2) rfl ⟨by decide +kernel, by decide +kernel, by decide +kernel⟩) ⟨⟨Nat.le_of_ble_eq_true rfl, Nat.le_of_ble_eq_true rfl⟩, ⟨Nat.le_of_ble_eq_true rfl, Nat.le_of_ble_eq_true rfl⟩, Nat.le_of_ble_eq_true rfl⟩ rfl rfl ?_
      refine R_bipush (pc := 114) C dL_adds_114 (v := 100) (by decide) ?_
      refine R_isub (pc := 116) C dL_adds_116 ?_
      refine R_topi (fun v3 ev3 => ?_)
      have r3 : qR v3 (-10000) 10000 = true := by obtain ⟨j, hj, e⟩ := lowV_ex (z >>> ((6 : Int32) &&& 31)) (m := 500) (by omega) (by omega); rw [ev3, show lowV (z >>> ((6 : Int32) &&& 31)) 500 = nI j from e]; exact rngs (c := 100) (by omega) (by omega) (by omega)
      refine R_iast (pc := 117) C dL_adds_117 (wmw) (i9 n 3) (by omega) (by decide) (pm_w (f := 3) (by omega)) ?_
      refine R_aload_n (pc := 118) C dL_adds_118 rfl ?_
      refine R_iload (pc := 119) C dL_adds_119 rfl ?_
      refine R_iconst (pc := 121) C dL_adds_121 (v := 4) (by decide) ?_
      refine R_iadd (pc := 122) C dL_adds_122 ?_
      refine R_iload_n (pc := 123) C dL_adds_123 rfl ?_
      refine R_bipush (pc := 124) C dL_adds_124 (v := 8) (by decide) ?_
      refine R_ishr (pc := 126) C dL_adds_126 ?_
      refine R_bipush (pc := 127) C dL_adds_127 (v := 6) (by decide) ?_
      refine R_callP (pc := 129) C dL_adds_129 (vs := [_, _]) (mL_low hl (by decide)) ⟨k_2_16, k_2_17, k_2_12, k_2_18⟩ (sgn (nv := 2) rfl ⟨by decide +kernel, by decide +kernel, by decide +kernel⟩) ⟨⟨Nat.le_of_ble_eq_true rfl, Nat.le_of_ble_eq_true rfl⟩, ⟨Nat.le_of_ble_eq_true rfl, Nat.le_of_ble_eq_true rfl⟩, Nat.le_of_ble_eq_true rfl⟩ rfl rfl ?_
      refine R_topi (fun v4 ev4 => ?_)
      have r4 : qR v4 0 1000 = true := by obtain ⟨j, hj, e⟩ := lowV_ex (z >>> ((8 : Int32) &&& 31)) (m := 6) (by omega) (by omega); rw [ev4, show lowV (z >>> ((8 : Int32) &&& 31)) 6 = nI j from e]; exact rngp (m := 1000) (by omega) (by omega)
      refine R_iast (pc := 132) C dL_adds_132 (wmw) (i9 n 4) (by omega) (by decide) (pm_w (f := 4) (by omega)) ?_
      refine R_aload_n (pc := 133) C dL_adds_133 rfl ?_
      refine R_iload (pc := 134) C dL_adds_134 rfl ?_
      refine R_iconst (pc := 136) C dL_adds_136 (v := 5) (by decide) ?_
      refine R_iadd (pc := 137) C dL_adds_137 ?_
      refine R_iload_n (pc := 138) C dL_adds_138 rfl ?_
      refine R_iconst (pc := 139) C dL_adds_139 (v := 5) (by decide) ?_
      refine R_ishr (pc := 140) C dL_adds_140 ?_
      refine R_iload_n (pc := 141) C dL_adds_141 rfl ?_
      refine R_bipush (pc := 142) C dL_adds_142 (v := 12) (by decide) ?_
      refine R_ishr (pc := 144) C dL_adds_144 ?_
      refine R_iconst (pc := 145) C dL_adds_145 (v := 3) (by decide) ?_
      refine R_callP (pc := 146) C dL_adds_146 (vs := [_, _]) (mL_low hl (by decide)) ⟨k_2_16, k_2_17, k_2_12, k_2_18⟩ (sgn (nv := 2) rfl ⟨by decide +kernel, by decide +kernel, by decide +kernel⟩) ⟨⟨Nat.le_of_ble_eq_true rfl, Nat.le_of_ble_eq_true rfl⟩, ⟨Nat.le_of_ble_eq_true rfl, Nat.le_of_ble_eq_true rfl⟩, Nat.le_of_ble_eq_true rfl⟩ rfl rfl ?_
      refine R_if_ne (pc := 149) C dL_adds_149 (tgt := 158) (by decide) (fun c149 => ?_) (fun c149 => ?_)
      · refine R_bipush (pc := 158) C dL_adds_158 (v := 60) (by decide) ?_
        refine R_callP (pc := 160) C dL_adds_160 (vs := [_, _]) (mL_low hl (by decide)) ⟨k_2_16, k_2_17, k_2_12, k_2_18⟩ (sgn (nv := 2) rfl ⟨by decide +kernel, by decide +kernel, by decide +kernel⟩) ⟨⟨Nat.le_of_ble_eq_true rfl, Nat.le_of_ble_eq_true rfl⟩, ⟨Nat.le_of_ble_eq_true rfl, Nat.le_of_ble_eq_true rfl⟩, Nat.le_of_ble_eq_true rfl⟩ rfl rfl ?_
        refine R_topi (fun v5 ev5 => ?_)
        have hb5 : Bt v5 1000 := by rw [ev5]; obtain ⟨j, hj, e⟩ := lowV_ex (z >>> ((5 : Int32) &&& 31)) (m := 60) (by omega) (by omega); exact ⟨j, by omega, e⟩
        have r5 : qR v5 0 1000 = true := by obtain ⟨j, hj, e⟩ := hb5; rw [e]; exact rngp (m := 1000) (by omega) hj
        refine R_iast (pc := 163) C dL_adds_163 (wmw) (i9 n 5) (by omega) (by decide) (pm_w (f := 5) (by omega)) ?_
        refine R_aload_n (pc := 164) C dL_adds_164 rfl ?_
        refine R_iconst (pc := 165) C dL_adds_165 (v := 0) (by decide) ?_
        refine R_dup2 (pc := 166) C dL_adds_166 rfl rfl ?_
        refine R_iald (pc := 167) C dL_adds_167 (wmq) (rfl) (by decide) (by decide) (rdq0) ?_
        refine R_iconst (pc := 168) C dL_adds_168 (v := 1) (by decide) ?_
        refine R_iadd (pc := 169) C dL_adds_169 ?_
        refine R_iast (pc := 170) C dL_adds_170 (wmq) (rfl) (by decide) (by decide) (pm_wells (n' := n + 1) (nI_1 n)) ?_
        refine WR.imp (P' := Wd G (adr, (n, P, F), (n + 1, P, fAdd F n (nI a) (nI d) v2 v3 v4 v5), mu, g)) (fun h hh => hh) ?_
        refine R_aload_n (pc := 171) C dL_adds_171 rfl ?_
        refine R_aload_n (pc := 172) C dL_adds_172 rfl ?_
        refine R_iload (pc := 173) C dL_adds_173 rfl ?_
        refine R_iald (pc := 175) C dL_adds_175 (wmw) (i9z n) (by omega) (by decide) ((rdw (by omega)).trans (fAdd_v.1)) ?_
        refine R_aload_n (pc := 176) C dL_adds_176 rfl ?_
        refine R_iload (pc := 177) C dL_adds_177 rfl ?_
        refine R_iconst (pc := 179) C dL_adds_179 (v := 1) (by decide) ?_
        refine R_iadd (pc := 180) C dL_adds_180 ?_
        refine R_iald (pc := 181) C dL_adds_181 (wmw) (i9 n 1) (by omega) (by decide) ((rdw (by omega)).trans (fAdd_v.2.1)) ?_
        refine R_aload_n (pc := 182) C dL_adds_182 rfl ?_
        refine R_iload (pc := 183) C dL_adds_183 rfl ?_
        refine R_iconst (pc := 185) C dL_adds_185 (v := 2) (by decide) ?_
        refine R_iadd (pc := 186) C dL_adds_186 ?_
        refine R_iald (pc := 187) C dL_adds_187 (wmw) (i9 n 2) (by omega) (by decide) ((rdw (by omega)).trans (fAdd_v.2.2.1)) ?_
        refine R_aload_n (pc := 188) C dL_adds_188 rfl ?_
        refine R_iload (pc := 189) C dL_adds_189 rfl ?_
        refine R_iconst (pc := 191) C dL_adds_191 (v := 3) (by decide) ?_
        refine R_iadd (pc := 192) C dL_adds_192 ?_
        refine R_iald (pc := 193) C dL_adds_193 (wmw) (i9 n 3) (by omega) (by decide) ((rdw (by omega)).trans (fAdd_v.2.2.2.1)) ?_
        refine R_aload_n (pc := 194) C dL_adds_194 rfl ?_
        refine R_iload (pc := 195) C dL_adds_195 rfl ?_
        refine R_iconst (pc := 197) C dL_adds_197 (v := 4) (by decide) ?_
        refine R_iadd (pc := 198) C dL_adds_198 ?_
        refine R_iald (pc := 199) C dL_adds_199 (wmw) (i9 n 4) (by omega) (by decide) ((rdw (by omega)).trans (fAdd_v.2.2.2.2.1)) ?_
        refine R_aload_n (pc := 200) C dL_adds_200 rfl ?_
        refine R_iload (pc := 201) C dL_adds_201 rfl ?_
        refine R_iconst (pc := 203) C dL_adds_203 (v := 5) (by decide) ?_
        refine R_iadd (pc := 204) C dL_adds_204 ?_
        refine R_iald (pc := 205) C dL_adds_205 (wmw) (i9 n 5) (by omega) (by decide) ((rdw (by omega)).trans (fAdd_v.2.2.2.2.2)) ?_
        have hk : kAdd n (nI a) (nI d) v2 v3 v4 v5 = 0 := kAdd_0 (by omega) ha hd r2 r3 r4 r5
        refine R_callVT (pc := 206) C dL_adds_206 (vs := [_, _, _, _, _, _]) (fun h hh => mX1_addWell hl (show n ≤ 8 by omega) hz1 hz2 h hh) (isOb_of (wc0) rfl) ⟨k_2_23, k_3_0, k_3_1, k_1_2, k_3_2⟩ (sgn (nv := 6) rfl ⟨by decide +kernel, by decide +kernel, by decide +kernel⟩) ⟨⟨Nat.le_of_ble_eq_true rfl, Nat.le_of_ble_eq_true rfl⟩, ⟨Nat.le_of_ble_eq_true rfl, Nat.le_of_ble_eq_true rfl⟩, Nat.le_of_ble_eq_true rfl⟩ rfl rfl (fun h9 hh9 E9 => X_pr (fun q9 => (exA_0 q9 hk).elim)) (fun h9 hh9 v9 => ?_)
        refine WR.pr (fun e9 => ?_)
        obtain ⟨-, e9⟩ := e9
        subst e9
        refine WR.ex (fun adr9 => WR.pr (fun hadr => ?_))
        rw [← hadr 10 (by decide) (by decide)]
        show WR K G _ _ _ _ _ _ _ (.int _ :: _)
        refine R_aload_n (pc := 209) C dL_adds_209 rfl ?_
        refine R_iconst (pc := 210) C dL_adds_210 (v := 0) (by decide) ?_
        refine R_iald (pc := 211) C dL_adds_211 (wmq) (rfl) (by decide) (by decide) (rdq0) ?_
        refine R_iconst (pc := 212) C dL_adds_212 (v := 1) (by decide) ?_
        refine R_isub (pc := 213) C dL_adds_213 ?_
        refine R_icmp_ne (pc := 214) C dL_adds_214 (tgt := 221) (by decide) (fun c214 => absurd c214 (fun q => q (nI_pred n).symm)) (fun c214 => ?_)
        refine R_iconst (pc := 217) C dL_adds_217 (v := 1) (by decide) ?_
        refine R_goto (pc := 218) C dL_adds_218 (tgt := 222) (by decide) ?_
        exact R_zret (pc := 222) C dL_adds_222 rfl rfl (Nat.le_of_ble_eq_true rfl) (Nat.le_of_ble_eq_true rfl) (fun h hh => ⟨rfl, adr9, a, d, v2, v3, v4, v5, ⟨ha, hd, hb5⟩, hadr, hh⟩)
      · refine R_sipush (pc := 152) C dL_adds_152 (v := 1001) (by decide) ?_
        refine R_goto (pc := 155) C dL_adds_155 (tgt := 160) (by decide) ?_
        refine R_callP (pc := 160) C dL_adds_160 (vs := [_, _]) (mL_low hl (by decide)) ⟨k_2_16, k_2_17, k_2_12, k_2_18⟩ (sgn (nv := 2) rfl ⟨by decide +kernel, by decide +kernel, by decide +kernel⟩) ⟨⟨Nat.le_of_ble_eq_true rfl, Nat.le_of_ble_eq_true rfl⟩, ⟨Nat.le_of_ble_eq_true rfl, Nat.le_of_ble_eq_true rfl⟩, Nat.le_of_ble_eq_true rfl⟩ rfl rfl ?_
        refine R_topi (fun v5 ev5 => ?_)
        have hb5 : Bt v5 1000 := by rw [ev5]; obtain ⟨j, hj, e⟩ := lowV_ex (z >>> ((5 : Int32) &&& 31)) (m := 1001) (by omega) (by omega); exact ⟨j, by omega, e⟩
        have r5 : qR v5 0 1000 = true := by obtain ⟨j, hj, e⟩ := hb5; rw [e]; exact rngp (m := 1000) (by omega) hj
        refine R_iast (pc := 163) C dL_adds_163 (wmw) (i9 n 5) (by omega) (by decide) (pm_w (f := 5) (by omega)) ?_
        refine R_aload_n (pc := 164) C dL_adds_164 rfl ?_
        refine R_iconst (pc := 165) C dL_adds_165 (v := 0) (by decide) ?_
        refine R_dup2 (pc := 166) C dL_adds_166 rfl rfl ?_
        refine R_iald (pc := 167) C dL_adds_167 (wmq) (rfl) (by decide) (by decide) (rdq0) ?_
        refine R_iconst (pc := 168) C dL_adds_168 (v := 1) (by decide) ?_
        refine R_iadd (pc := 169) C dL_adds_169 ?_
        refine R_iast (pc := 170) C dL_adds_170 (wmq) (rfl) (by decide) (by decide) (pm_wells (n' := n + 1) (nI_1 n)) ?_
        refine WR.imp (P' := Wd G (adr, (n, P, F), (n + 1, P, fAdd F n (nI a) (nI d) v2 v3 v4 v5), mu, g)) (fun h hh => hh) ?_
        refine R_aload_n (pc := 171) C dL_adds_171 rfl ?_
        refine R_aload_n (pc := 172) C dL_adds_172 rfl ?_
        refine R_iload (pc := 173) C dL_adds_173 rfl ?_
        refine R_iald (pc := 175) C dL_adds_175 (wmw) (i9z n) (by omega) (by decide) ((rdw (by omega)).trans (fAdd_v.1)) ?_
        refine R_aload_n (pc := 176) C dL_adds_176 rfl ?_
        refine R_iload (pc := 177) C dL_adds_177 rfl ?_
        refine R_iconst (pc := 179) C dL_adds_179 (v := 1) (by decide) ?_
        refine R_iadd (pc := 180) C dL_adds_180 ?_
        refine R_iald (pc := 181) C dL_adds_181 (wmw) (i9 n 1) (by omega) (by decide) ((rdw (by omega)).trans (fAdd_v.2.1)) ?_
        refine R_aload_n (pc := 182) C dL_adds_182 rfl ?_
        refine R_iload (pc := 183) C dL_adds_183 rfl ?_
        refine R_iconst (pc := 185) C dL_adds_185 (v := 2) (by decide) ?_
        refine R_iadd (pc := 186) C dL_adds_186 ?_
        refine R_iald (pc := 187) C dL_adds_187 (wmw) (i9 n 2) (by omega) (by decide) ((rdw (by omega)).trans (fAdd_v.2.2.1)) ?_
        refine R_aload_n (pc := 188) C dL_adds_188 rfl ?_
        refine R_iload (pc := 189) C dL_adds_189 rfl ?_
        refine R_iconst (pc := 191) C dL_adds_191 (v := 3) (by decide) ?_
        refine R_iadd (pc := 192) C dL_adds_192 ?_
        refine R_iald (pc := 193) C dL_adds_193 (wmw) (i9 n 3) (by omega) (by decide) ((rdw (by omega)).trans (fAdd_v.2.2.2.1)) ?_
        refine R_aload_n (pc := 194) C dL_adds_194 rfl ?_
        refine R_iload (pc := 195) C dL_adds_195 rfl ?_
        refine R_iconst (pc := 197) C dL_adds_197 (v := 4) (by decide) ?_
        refine R_iadd (pc := 198) C dL_adds_198 ?_
        refine R_iald (pc := 199) C dL_adds_199 (wmw) (i9 n 4) (by omega) (by decide) ((rdw (by omega)).trans (fAdd_v.2.2.2.2.1)) ?_
        refine R_aload_n (pc := 200) C dL_adds_200 rfl ?_
        refine R_iload (pc := 201) C dL_adds_201 rfl ?_
        refine R_iconst (pc := 203) C dL_adds_203 (v := 5) (by decide) ?_
        refine R_iadd (pc := 204) C dL_adds_204 ?_
        refine R_iald (pc := 205) C dL_adds_205 (wmw) (i9 n 5) (by omega) (by decide) ((rdw (by omega)).trans (fAdd_v.2.2.2.2.2)) ?_
        have hk : kAdd n (nI a) (nI d) v2 v3 v4 v5 = 0 := kAdd_0 (by omega) ha hd r2 r3 r4 r5
        refine R_callVT (pc := 206) C dL_adds_206 (vs := [_, _, _, _, _, _]) (fun h hh => mX1_addWell hl (show n ≤ 8 by omega) hz1 hz2 h hh) (isOb_of (wc0) rfl) ⟨k_2_23, k_3_0, k_3_1, k_1_2, k_3_2⟩ (sgn (nv := 6) rfl ⟨by decide +kernel, by decide +kernel, by decide +kernel⟩) ⟨⟨Nat.le_of_ble_eq_true rfl, Nat.le_of_ble_eq_true rfl⟩, ⟨Nat.le_of_ble_eq_true rfl, Nat.le_of_ble_eq_true rfl⟩, Nat.le_of_ble_eq_true rfl⟩ rfl rfl (fun h9 hh9 E9 => X_pr (fun q9 => (exA_0 q9 hk).elim)) (fun h9 hh9 v9 => ?_)
        refine WR.pr (fun e9 => ?_)
        obtain ⟨-, e9⟩ := e9
        subst e9
        refine WR.ex (fun adr9 => WR.pr (fun hadr => ?_))
        rw [← hadr 10 (by decide) (by decide)]
        show WR K G _ _ _ _ _ _ _ (.int _ :: _)
        refine R_aload_n (pc := 209) C dL_adds_209 rfl ?_
        refine R_iconst (pc := 210) C dL_adds_210 (v := 0) (by decide) ?_
        refine R_iald (pc := 211) C dL_adds_211 (wmq) (rfl) (by decide) (by decide) (rdq0) ?_
        refine R_iconst (pc := 212) C dL_adds_212 (v := 1) (by decide) ?_
        refine R_isub (pc := 213) C dL_adds_213 ?_
        refine R_icmp_ne (pc := 214) C dL_adds_214 (tgt := 221) (by decide) (fun c214 => absurd c214 (fun q => q (nI_pred n).symm)) (fun c214 => ?_)
        refine R_iconst (pc := 217) C dL_adds_217 (v := 1) (by decide) ?_
        refine R_goto (pc := 218) C dL_adds_218 (tgt := 222) (by decide) ?_
        exact R_zret (pc := 222) C dL_adds_222 rfl rfl (Nat.le_of_ble_eq_true rfl) (Nat.le_of_ble_eq_true rfl) (fun h hh => ⟨rfl, adr9, a, d, v2, v3, v4, v5, ⟨ha, hd, hb5⟩, hadr, hh⟩)
    · refine R_sipush (pc := 66) C dL_adds_66 (v := 20001) (by decide) ?_
      refine R_goto (pc := 69) C dL_adds_69 (tgt := 75) (by decide) ?_
      refine R_callP (pc := 75) C dL_adds_75 (vs := [_, _]) (mL_low hl (by decide)) ⟨k_2_16, k_2_17, k_2_12, k_2_18⟩ (sgn (nv := 2) rfl ⟨by decide +kernel, by decide +kernel, by decide +kernel⟩) ⟨⟨Nat.le_of_ble_eq_true rfl, Nat.le_of_ble_eq_true rfl⟩, ⟨Nat.le_of_ble_eq_true rfl, Nat.le_of_ble_eq_true rfl⟩, Nat.le_of_ble_eq_true rfl⟩ rfl rfl ?_
      refine R_iload_n (pc := 78) C dL_adds_78 rfl ?_
      refine R_bipush (pc := 79) C dL_adds_79 (v := 14) (by decide) ?_
      refine R_ishr (pc := 81) C dL_adds_81 ?_
      refine R_iconst (pc := 82) C dL_adds_82 (v := 4) (by decide) ?_
      refine R_callP (pc := 83) C dL_adds_83 (vs := [_, _]) (mL_low hl (by decide)) ⟨k_2_16, k_2_17, k_2_12, k_2_18⟩ (sgn (nv := 2) rfl ⟨by decide +kernel, by decide +kernel, by decide +kernel⟩) ⟨⟨Nat.le_of_ble_eq_true rfl, Nat.le_of_ble_eq_true rfl⟩, ⟨Nat.le_of_ble_eq_true rfl, Nat.le_of_ble_eq_true rfl⟩, Nat.le_of_ble_eq_true rfl⟩ rfl rfl ?_
      refine R_if_ne (pc := 86) C dL_adds_86 (tgt := 95) (by decide) (fun c86 => absurd c63 c86) (fun _ => ?_)
      refine R_sipush (pc := 89) C dL_adds_89 (v := 10000) (by decide) ?_
      refine R_goto (pc := 92) C dL_adds_92 (tgt := 97) (by decide) ?_
      refine R_isub (pc := 97) C dL_adds_97 ?_
      refine R_topi (fun v2 ev2 => ?_)
      have r2 : qR v2 (-10000) 10000 = true := by obtain ⟨j, hj, e⟩ := lowV_ex (z >>> ((4 : Int32) &&& 31)) (m := 20001) (by omega) (by omega); rw [ev2, show lowV (z >>> ((4 : Int32) &&& 31)) 20001 = nI j from e]; exact rngs (c := 10000) (by omega) (by omega) (by omega)
      refine R_iast (pc := 98) C dL_adds_98 (wmw) (i9 n 2) (by omega) (by decide) (pm_w (f := 2) (by omega)) ?_
      refine R_aload_n (pc := 99) C dL_adds_99 rfl ?_
      refine R_iload (pc := 100) C dL_adds_100 rfl ?_
      refine R_iconst (pc := 102) C dL_adds_102 (v := 3) (by decide) ?_
      refine R_iadd (pc := 103) C dL_adds_103 ?_
      refine R_iload_n (pc := 104) C dL_adds_104 rfl ?_
      refine R_bipush (pc := 105) C dL_adds_105 (v := 6) (by decide) ?_
      refine R_ishr (pc := 107) C dL_adds_107 ?_
      refine R_sipush (pc := 108) C dL_adds_108 (v := 500) (by decide) ?_
      refine R_callP (pc := 111) C dL_adds_111 (vs := [_, _]) (mL_low hl (by decide)) ⟨k_2_16, k_2_17, k_2_12, k_2_18⟩ (sgn (nv := 2) rfl ⟨by decide +kernel, by decide +kernel, by decide +kernel⟩) ⟨⟨Nat.le_of_ble_eq_true rfl, Nat.le_of_ble_eq_true rfl⟩, ⟨Nat.le_of_ble_eq_true rfl, Nat.le_of_ble_eq_true rfl⟩, Nat.le_of_ble_eq_true rfl⟩ rfl rfl ?_
      refine R_bipush (pc := 114) C dL_adds_114 (v := 100) (by decide) ?_
      refine R_isub (pc := 116) C dL_adds_116 ?_
      refine R_topi (fun v3 ev3 => ?_)
      have r3 : qR v3 (-10000) 10000 = true := by obtain ⟨j, hj, e⟩ := lowV_ex (z >>> ((6 : Int32) &&& 31)) (m := 500) (by omega) (by omega); rw [ev3, show lowV (z >>> ((6 : Int32) &&& 31)) 500 = nI j from e]; exact rngs (c := 100) (by omega) (by omega) (by omega)
      refine R_iast (pc := 117) C dL_adds_117 (wmw) (i9 n 3) (by omega) (by decide) (pm_w (f := 3) (by omega)) ?_
      refine R_aload_n (pc := 118) C dL_adds_118 rfl ?_
      refine R_iload (pc := 119) C dL_adds_119 rfl ?_
      refine R_iconst (pc := 121) C dL_adds_121 (v := 4) (by decide) ?_
      refine R_iadd (pc := 122) C dL_adds_122 ?_
      refine R_iload_n (pc := 123) C dL_adds_123 rfl ?_
      refine R_bipush (pc := 124) C dL_adds_124 (v := 8) (by decide) ?_
      refine R_ishr (pc := 126) C dL_adds_126 ?_
      refine R_bipush (pc := 127) C dL_adds_127 (v := 6) (by decide) ?_
      refine R_callP (pc := 129) C dL_adds_129 (vs := [_, _]) (mL_low hl (by decide)) ⟨k_2_16, k_2_17, k_2_12, k_2_18⟩ (sgn (nv := 2) rfl ⟨by decide +kernel, by decide +kernel, by decide +kernel⟩) ⟨⟨Nat.le_of_ble_eq_true rfl, Nat.le_of_ble_eq_true rfl⟩, ⟨Nat.le_of_ble_eq_true rfl, Nat.le_of_ble_eq_true rfl⟩, Nat.le_of_ble_eq_true rfl⟩ rfl rfl ?_
      refine R_topi (fun v4 ev4 => ?_)
      have r4 : qR v4 0 1000 = true := by obtain ⟨j, hj, e⟩ := lowV_ex (z >>> ((8 : Int32) &&& 31)) (m := 6) (by omega) (by omega); rw [ev4, show lowV (z >>> ((8 : Int32) &&& 31)) 6 = nI j from e]; exact rngp (m := 1000) (by omega) (by omega)
      refine R_iast (pc := 132) C dL_adds_132 (wmw) (i9 n 4) (by omega) (by decide) (pm_w (f := 4) (by omega)) ?_
      refine R_aload_n (pc := 133) C dL_adds_133 rfl ?_
      refine R_iload (pc := 134) C dL_adds_134 rfl ?_
      refine R_iconst (pc := 136) C dL_adds_136 (v := 5) (by decide) ?_
      refine R_iadd (pc := 137) C dL_adds_137 ?_
      refine R_iload_n (pc := 138) C dL_adds_138 rfl ?_
      refine R_iconst (pc := 139) C dL_adds_139 (v := 5) (by decide) ?_
      refine R_ishr (pc := 140) C dL_adds_140 ?_
      refine R_iload_n (pc := 141) C dL_adds_141 rfl ?_
      refine R_bipush (pc := 142) C dL_adds_142 (v := 12) (by decide) ?_
      refine R_ishr (pc := 144) C dL_adds_144 ?_
      refine R_iconst (pc := 145) C dL_adds_145 (v := 3) (by decide) ?_
      refine R_callP (pc := 146) C dL_adds_146 (vs := [_, _]) (mL_low hl (by decide)) ⟨k_2_16, k_2_17, k_2_12, k_2_18⟩ (sgn (nv := 2) rfl ⟨by decide +kernel, by decide +kernel, by decide +kernel⟩) ⟨⟨Nat.le_of_ble_eq_true rfl, Nat.le_of_ble_eq_true rfl⟩, ⟨Nat.le_of_ble_eq_true rfl, Nat.le_of_ble_eq_true rfl⟩, Nat.le_of_ble_eq_true rfl⟩ rfl rfl ?_
      refine R_if_ne (pc := 149) C dL_adds_149 (tgt := 158) (by decide) (fun c149 => ?_) (fun c149 => ?_)
      · refine R_bipush (pc := 158) C dL_adds_158 (v := 60) (by decide) ?_
        refine R_callP (pc := 160) C dL_adds_160 (vs := [_, _]) (mL_low hl (by decide)) ⟨k_2_16, k_2_17, k_2_12, k_2_18⟩ (sgn (nv := 2) rfl ⟨by decide +kernel, by decide +kernel, by decide +kernel⟩) ⟨⟨Nat.le_of_ble_eq_true rfl, Nat.le_of_ble_eq_true rfl⟩, ⟨Nat.le_of_ble_eq_true rfl, Nat.le_of_ble_eq_true rfl⟩, Nat.le_of_ble_eq_true rfl⟩ rfl rfl ?_
        refine R_topi (fun v5 ev5 => ?_)
        have hb5 : Bt v5 1000 := by rw [ev5]; obtain ⟨j, hj, e⟩ := lowV_ex (z >>> ((5 : Int32) &&& 31)) (m := 60) (by omega) (by omega); exact ⟨j, by omega, e⟩
        have r5 : qR v5 0 1000 = true := by obtain ⟨j, hj, e⟩ := hb5; rw [e]; exact rngp (m := 1000) (by omega) hj
        refine R_iast (pc := 163) C dL_adds_163 (wmw) (i9 n 5) (by omega) (by decide) (pm_w (f := 5) (by omega)) ?_
        refine R_aload_n (pc := 164) C dL_adds_164 rfl ?_
        refine R_iconst (pc := 165) C dL_adds_165 (v := 0) (by decide) ?_
        refine R_dup2 (pc := 166) C dL_adds_166 rfl rfl ?_
        refine R_iald (pc := 167) C dL_adds_167 (wmq) (rfl) (by decide) (by decide) (rdq0) ?_
        refine R_iconst (pc := 168) C dL_adds_168 (v := 1) (by decide) ?_
        refine R_iadd (pc := 169) C dL_adds_169 ?_
        refine R_iast (pc := 170) C dL_adds_170 (wmq) (rfl) (by decide) (by decide) (pm_wells (n' := n + 1) (nI_1 n)) ?_
        refine WR.imp (P' := Wd G (adr, (n, P, F), (n + 1, P, fAdd F n (nI a) (nI d) v2 v3 v4 v5), mu, g)) (fun h hh => hh) ?_
        refine R_aload_n (pc := 171) C dL_adds_171 rfl ?_
        refine R_aload_n (pc := 172) C dL_adds_172 rfl ?_
        refine R_iload (pc := 173) C dL_adds_173 rfl ?_
        refine R_iald (pc := 175) C dL_adds_175 (wmw) (i9z n) (by omega) (by decide) ((rdw (by omega)).trans (fAdd_v.1)) ?_
        refine R_aload_n (pc := 176) C dL_adds_176 rfl ?_
        refine R_iload (pc := 177) C dL_adds_177 rfl ?_
        refine R_iconst (pc := 179) C dL_adds_179 (v := 1) (by decide) ?_
        refine R_iadd (pc := 180) C dL_adds_180 ?_
        refine R_iald (pc := 181) C dL_adds_181 (wmw) (i9 n 1) (by omega) (by decide) ((rdw (by omega)).trans (fAdd_v.2.1)) ?_
        refine R_aload_n (pc := 182) C dL_adds_182 rfl ?_
        refine R_iload (pc := 183) C dL_adds_183 rfl ?_
        refine R_iconst (pc := 185) C dL_adds_185 (v := 2) (by decide) ?_
        refine R_iadd (pc := 186) C dL_adds_186 ?_
        refine R_iald (pc := 187) C dL_adds_187 (wmw) (i9 n 2) (by omega) (by decide) ((rdw (by omega)).trans (fAdd_v.2.2.1)) ?_
        refine R_aload_n (pc := 188) C dL_adds_188 rfl ?_
        refine R_iload (pc := 189) C dL_adds_189 rfl ?_
        refine R_iconst (pc := 191) C dL_adds_191 (v := 3) (by decide) ?_
        refine R_iadd (pc := 192) C dL_adds_192 ?_
        refine R_iald (pc := 193) C dL_adds_193 (wmw) (i9 n 3) (by omega) (by decide) ((rdw (by omega)).trans (fAdd_v.2.2.2.1)) ?_
        refine R_aload_n (pc := 194) C dL_adds_194 rfl ?_
        refine R_iload (pc := 195) C dL_adds_195 rfl ?_
        refine R_iconst (pc := 197) C dL_adds_197 (v := 4) (by decide) ?_
        refine R_iadd (pc := 198) C dL_adds_198 ?_
        refine R_iald (pc := 199) C dL_adds_199 (wmw) (i9 n 4) (by omega) (by decide) ((rdw (by omega)).trans (fAdd_v.2.2.2.2.1)) ?_
        refine R_aload_n (pc := 200) C dL_adds_200 rfl ?_
        refine R_iload (pc := 201) C dL_adds_201 rfl ?_
        refine R_iconst (pc := 203) C dL_adds_203 (v := 5) (by decide) ?_
        refine R_iadd (pc := 204) C dL_adds_204 ?_
        refine R_iald (pc := 205) C dL_adds_205 (wmw) (i9 n 5) (by omega) (by decide) ((rdw (by omega)).trans (fAdd_v.2.2.2.2.2)) ?_
        have hk : kAdd n (nI a) (nI d) v2 v3 v4 v5 = 0 := kAdd_0 (by omega) ha hd r2 r3 r4 r5
        refine R_callVT (pc := 206) C dL_adds_206 (vs := [_, _, _, _, _, _]) (fun h hh => mX1_addWell hl (show n ≤ 8 by omega) hz1 hz2 h hh) (isOb_of (wc0) rfl) ⟨k_2_23, k_3_0, k_3_1, k_1_2, k_3_2⟩ (sgn (nv := 6) rfl ⟨by decide +kernel, by decide +kernel, by decide +kernel⟩) ⟨⟨Nat.le_of_ble_eq_true rfl, Nat.le_of_ble_eq_true rfl⟩, ⟨Nat.le_of_ble_eq_true rfl, Nat.le_of_ble_eq_true rfl⟩, Nat.le_of_ble_eq_true rfl⟩ rfl rfl (fun h9 hh9 E9 => X_pr (fun q9 => (exA_0 q9 hk).elim)) (fun h9 hh9 v9 => ?_)
        refine WR.pr (fun e9 => ?_)
        obtain ⟨-, e9⟩ := e9
        subst e9
        refine WR.ex (fun adr9 => WR.pr (fun hadr => ?_))
        rw [← hadr 10 (by decide) (by decide)]
        show WR K G _ _ _ _ _ _ _ (.int _ :: _)
        refine R_aload_n (pc := 209) C dL_adds_209 rfl ?_
        refine R_iconst (pc := 210) C dL_adds_210 (v := 0) (by decide) ?_
        refine R_iald (pc := 211) C dL_adds_211 (wmq) (rfl) (by decide) (by decide) (rdq0) ?_
        refine R_iconst (pc := 212) C dL_adds_212 (v := 1) (by decide) ?_
        refine R_isub (pc := 213) C dL_adds_213 ?_
        refine R_icmp_ne (pc := 214) C dL_adds_214 (tgt := 221) (by decide) (fun c214 => absurd c214 (fun q => q (nI_pred n).symm)) (fun c214 => ?_)
        refine R_iconst (pc := 217) C dL_adds_217 (v := 1) (by decide) ?_
        refine R_goto (pc := 218) C dL_adds_218 (tgt := 222) (by decide) ?_
        exact R_zret (pc := 222) C dL_adds_222 rfl rfl (Nat.le_of_ble_eq_true rfl) (Nat.le_of_ble_eq_true rfl) (fun h hh => ⟨rfl, adr9, a, d, v2, v3, v4, v5, ⟨ha, hd, hb5⟩, hadr, hh⟩)
      · refine R_sipush (pc := 152) C dL_adds_152 (v := 1001) (by decide) ?_
        refine R_goto (pc := 155) C dL_adds_155 (tgt := 160) (by decide) ?_
        refine R_callP (pc := 160) C dL_adds_160 (vs := [_, _]) (mL_low hl (by decide)) ⟨k_2_16, k_2_17, k_2_12, k_2_18⟩ (sgn (nv := 2) rfl ⟨by decide +kernel, by decide +kernel, by decide +kernel⟩) ⟨⟨Nat.le_of_ble_eq_true rfl, Nat.le_of_ble_eq_true rfl⟩, ⟨Nat.le_of_ble_eq_true rfl, Nat.le_of_ble_eq_true rfl⟩, Nat.le_of_ble_eq_true rfl⟩ rfl rfl ?_
        refine R_topi (fun v5 ev5 => ?_)
        have hb5 : Bt v5 1000 := by rw [ev5]; obtain ⟨j, hj, e⟩ := lowV_ex (z >>> ((5 : Int32) &&& 31)) (m := 1001) (by omega) (by omega); exact ⟨j, by omega, e⟩
        have r5 : qR v5 0 1000 = true := by obtain ⟨j, hj, e⟩ := hb5; rw [e]; exact rngp (m := 1000) (by omega) hj
        refine R_iast (pc := 163) C dL_adds_163 (wmw) (i9 n 5) (by omega) (by decide) (pm_w (f := 5) (by omega)) ?_
        refine R_aload_n (pc := 164) C dL_adds_164 rfl ?_
        refine R_iconst (pc := 165) C dL_adds_165 (v := 0) (by decide) ?_
        refine R_dup2 (pc := 166) C dL_adds_166 rfl rfl ?_
        refine R_iald (pc := 167) C dL_adds_167 (wmq) (rfl) (by decide) (by decide) (rdq0) ?_
        refine R_iconst (pc := 168) C dL_adds_168 (v := 1) (by decide) ?_
        refine R_iadd (pc := 169) C dL_adds_169 ?_
        refine R_iast (pc := 170) C dL_adds_170 (wmq) (rfl) (by decide) (by decide) (pm_wells (n' := n + 1) (nI_1 n)) ?_
        refine WR.imp (P' := Wd G (adr, (n, P, F), (n + 1, P, fAdd F n (nI a) (nI d) v2 v3 v4 v5), mu, g)) (fun h hh => hh) ?_
        refine R_aload_n (pc := 171) C dL_adds_171 rfl ?_
        refine R_aload_n (pc := 172) C dL_adds_172 rfl ?_
        refine R_iload (pc := 173) C dL_adds_173 rfl ?_
        refine R_iald (pc := 175) C dL_adds_175 (wmw) (i9z n) (by omega) (by decide) ((rdw (by omega)).trans (fAdd_v.1)) ?_
        refine R_aload_n (pc := 176) C dL_adds_176 rfl ?_
        refine R_iload (pc := 177) C dL_adds_177 rfl ?_
        refine R_iconst (pc := 179) C dL_adds_179 (v := 1) (by decide) ?_
        refine R_iadd (pc := 180) C dL_adds_180 ?_
        refine R_iald (pc := 181) C dL_adds_181 (wmw) (i9 n 1) (by omega) (by decide) ((rdw (by omega)).trans (fAdd_v.2.1)) ?_
        refine R_aload_n (pc := 182) C dL_adds_182 rfl ?_
        refine R_iload (pc := 183) C dL_adds_183 rfl ?_
        refine R_iconst (pc := 185) C dL_adds_185 (v := 2) (by decide) ?_
        refine R_iadd (pc := 186) C dL_adds_186 ?_
        refine R_iald (pc := 187) C dL_adds_187 (wmw) (i9 n 2) (by omega) (by decide) ((rdw (by omega)).trans (fAdd_v.2.2.1)) ?_
        refine R_aload_n (pc := 188) C dL_adds_188 rfl ?_
        refine R_iload (pc := 189) C dL_adds_189 rfl ?_
        refine R_iconst (pc := 191) C dL_adds_191 (v := 3) (by decide) ?_
        refine R_iadd (pc := 192) C dL_adds_192 ?_
        refine R_iald (pc := 193) C dL_adds_193 (wmw) (i9 n 3) (by omega) (by decide) ((rdw (by omega)).trans (fAdd_v.2.2.2.1)) ?_
        refine R_aload_n (pc := 194) C dL_adds_194 rfl ?_
        refine R_iload (pc := 195) C dL_adds_195 rfl ?_
        refine R_iconst (pc := 197) C dL_adds_197 (v := 4) (by decide) ?_
        refine R_iadd (pc := 198) C dL_adds_198 ?_
        refine R_iald (pc := 199) C dL_adds_199 (wmw) (i9 n 4) (by omega) (by decide) ((rdw (by omega)).trans (fAdd_v.2.2.2.2.1)) ?_
        refine R_aload_n (pc := 200) C dL_adds_200 rfl ?_
        refine R_iload (pc := 201) C dL_adds_201 rfl ?_
        refine R_iconst (pc := 203) C dL_adds_203 (v := 5) (by decide) ?_
        refine R_iadd (pc := 204) C dL_adds_204 ?_
        refine R_iald (pc := 205) C dL_adds_205 (wmw) (i9 n 5) (by omega) (by decide) ((rdw (by omega)).trans (fAdd_v.2.2.2.2.2)) ?_
        have hk : kAdd n (nI a) (nI d) v2 v3 v4 v5 = 0 := kAdd_0 (by omega) ha hd r2 r3 r4 r5
        refine R_callVT (pc := 206) C dL_adds_206 (vs := [_, _, _, _, _, _]) (fun h hh => mX1_addWell hl (show n ≤ 8 by omega) hz1 hz2 h hh) (isOb_of (wc0) rfl) ⟨k_2_23, k_3_0, k_3_1, k_1_2, k_3_2⟩ (sgn (nv := 6) rfl ⟨by decide +kernel, by decide +kernel, by decide +kernel⟩) ⟨⟨Nat.le_of_ble_eq_true rfl, Nat.le_of_ble_eq_true rfl⟩, ⟨Nat.le_of_ble_eq_true rfl, Nat.le_of_ble_eq_true rfl⟩, Nat.le_of_ble_eq_true rfl⟩ rfl rfl (fun h9 hh9 E9 => X_pr (fun q9 => (exA_0 q9 hk).elim)) (fun h9 hh9 v9 => ?_)
        refine WR.pr (fun e9 => ?_)
        obtain ⟨-, e9⟩ := e9
        subst e9
        refine WR.ex (fun adr9 => WR.pr (fun hadr => ?_))
        rw [← hadr 10 (by decide) (by decide)]
        show WR K G _ _ _ _ _ _ _ (.int _ :: _)
        refine R_aload_n (pc := 209) C dL_adds_209 rfl ?_
        refine R_iconst (pc := 210) C dL_adds_210 (v := 0) (by decide) ?_
        refine R_iald (pc := 211) C dL_adds_211 (wmq) (rfl) (by decide) (by decide) (rdq0) ?_
        refine R_iconst (pc := 212) C dL_adds_212 (v := 1) (by decide) ?_
        refine R_isub (pc := 213) C dL_adds_213 ?_
        refine R_icmp_ne (pc := 214) C dL_adds_214 (tgt := 221) (by decide) (fun c214 => absurd c214 (fun q => q (nI_pred n).symm)) (fun c214 => ?_)
        refine R_iconst (pc := 217) C dL_adds_217 (v := 1) (by decide) ?_
        refine R_goto (pc := 218) C dL_adds_218 (tgt := 222) (by decide) ?_
        exact R_zret (pc := 222) C dL_adds_222 rfl rfl (Nat.le_of_ble_eq_true rfl) (Nat.le_of_ble_eq_true rfl) (fun h hh => ⟨rfl, adr9, a, d, v2, v3, v4, v5, ⟨ha, hd, hb5⟩, hadr, hh⟩)
set_option maxHeartbeats 4000000 in
set_option maxRecDepth 100000 in
theorem mL_lends (hl : l.stackTraces = false) {z : Int32} (hn : n ≤ 5) (hn2 : 2 ≤ n) : ∀ h, Wd G (adr, (n, P, F), (n, P, F), mu, g) h → CN l yL_lends cL_lends 9 (some .boolean) 6 5 30 [.ref (adr 0), .int z, .ref (adr 6), .ref (adr 7), .ref (adr 10)] G h (fun v h1 => v = some (.int 1) ∧ ∃ F9 : Nat → Nat → Int32, LStep n F F9 ∧ Wd G (adr, (n, P, F9), (n, P, F9), mu, g) h1) := by
  intro h0 hwd
  refine CN.of hl (by decide +kernel) rfl (Nat.le_of_ble_eq_true rfl) (fun K sz hKl hin C => ?_)
  have C : CX K G (AH h0 sz) RL cL_lends 9 (some .boolean) (rmD 6 5 30) [] := C
  subst hKl
  refine WR.imp (P' := Wd G (adr, (n, P, F), (n, P, F), mu, g)) (fun h e => e ▸ hwd) ?_
  show WR K G _ _ _ [some (.ref (adr 0)), some (.int z), some (.ref (adr 6)), some (.ref (adr 7)), some (.ref (adr 10)), none, none, none, none] 0 0 0 []
  refine R_iload_n (pc := 0) C dL_lends_0 rfl ?_
  refine R_aload (pc := 1) C dL_lends_1 rfl ?_
  refine R_iconst (pc := 3) C dL_lends_3 (v := 0) (by decide) ?_
  refine R_iald (pc := 4) C dL_lends_4 (wmq) (rfl) (by decide) (by decide) (rdq0) ?_
  refine R_callP (pc := 5) C dL_lends_5 (vs := [_, _]) (mL_low hl (nI_ne0 (by omega) (by omega))) ⟨k_2_16, k_2_17, k_2_12, k_2_18⟩ (sgn (nv := 2) rfl ⟨by decide +kernel, by decide +kernel, by decide +kernel⟩) ⟨⟨Nat.le_of_ble_eq_true rfl, Nat.le_of_ble_eq_true rfl⟩, ⟨Nat.le_of_ble_eq_true rfl, Nat.le_of_ble_eq_true rfl⟩, Nat.le_of_ble_eq_true rfl⟩ rfl rfl ?_
  obtain ⟨i, hi, ei⟩ := lowV_ex z (m := n) (by omega) (by omega)
  rw [ei]
  refine R_istore (pc := 8) C dL_lends_8 (Nat.le_of_ble_eq_true rfl) (lv' := [some (.ref _), some (.int _), some (.ref _), some (.ref _), some (.ref _), some (.int _), none, none, none]) rfl ?_
  refine R_iload (pc := 10) C dL_lends_10 rfl ?_
  refine R_iconst (pc := 12) C dL_lends_12 (v := 1) (by decide) ?_
  refine R_iadd (pc := 13) C dL_lends_13 ?_
  refine R_iload_n (pc := 14) C dL_lends_14 rfl ?_
  refine R_iconst (pc := 15) C dL_lends_15 (v := 3) (by decide) ?_
  refine R_ishr (pc := 16) C dL_lends_16 ?_
  refine R_aload (pc := 17) C dL_lends_17 rfl ?_
  refine R_iconst (pc := 19) C dL_lends_19 (v := 0) (by decide) ?_
  refine R_iald (pc := 20) C dL_lends_20 (wmq) (rfl) (by decide) (by decide) (rdq0) ?_
  refine R_iconst (pc := 21) C dL_lends_21 (v := 1) (by decide) ?_
  refine R_isub (pc := 22) C dL_lends_22 ?_
  rw [show nI n - 1 = nI (n - 1) from pk_sub (a := n) (b := 1) (by omega)]
  refine R_callP (pc := 23) C dL_lends_23 (vs := [_, _]) (mL_low hl (nI_ne0 (by omega) (by omega))) ⟨k_2_16, k_2_17, k_2_12, k_2_18⟩ (sgn (nv := 2) rfl ⟨by decide +kernel, by decide +kernel, by decide +kernel⟩) ⟨⟨Nat.le_of_ble_eq_true rfl, Nat.le_of_ble_eq_true rfl⟩, ⟨Nat.le_of_ble_eq_true rfl, Nat.le_of_ble_eq_true rfl⟩, Nat.le_of_ble_eq_true rfl⟩ rfl rfl ?_
  obtain ⟨e, he, ee⟩ := lowV_ex (z >>> ((3 : Int32) &&& 31)) (m := n - 1) (by omega) (by omega)
  rw [ee]
  refine R_iadd (pc := 26) C dL_lends_26 ?_
  rw [nI_1, nI_add]
  refine R_aload (pc := 27) C dL_lends_27 rfl ?_
  refine R_iconst (pc := 29) C dL_lends_29 (v := 0) (by decide) ?_
  refine R_iald (pc := 30) C dL_lends_30 (wmq) (rfl) (by decide) (by decide) (rdq0) ?_
  refine R_irem (pc := 31) C dL_lends_31 (nI_ne0 (by omega) (by omega)) ?_
  rw [pk_rem (by omega) (by omega) (by omega)]
  obtain ⟨j, hj, hij, ej⟩ := other hi he
  rw [ej]
  refine R_istore (pc := 32) C dL_lends_32 (Nat.le_of_ble_eq_true rfl) (lv' := [some (.ref _), some (.int _), some (.ref _), some (.ref _), some (.ref _), some (.int _), some (.int _), none, none]) rfl ?_
  refine R_iload_n (pc := 34) C dL_lends_34 rfl ?_
  refine R_bipush (pc := 35) C dL_lends_35 (v := 6) (by decide) ?_
  refine R_ishr (pc := 37) C dL_lends_37 ?_
  refine R_iconst (pc := 38) C dL_lends_38 (v := 3) (by decide) ?_
  refine R_callP (pc := 39) C dL_lends_39 (vs := [_, _]) (mL_low hl (by decide)) ⟨k_2_16, k_2_17, k_2_12, k_2_18⟩ (sgn (nv := 2) rfl ⟨by decide +kernel, by decide +kernel, by decide +kernel⟩) ⟨⟨Nat.le_of_ble_eq_true rfl, Nat.le_of_ble_eq_true rfl⟩, ⟨Nat.le_of_ble_eq_true rfl, Nat.le_of_ble_eq_true rfl⟩, Nat.le_of_ble_eq_true rfl⟩ rfl rfl ?_
  refine R_if_ne (pc := 42) C dL_lends_42 (tgt := 138) (by decide) (fun c42 => ?_) (fun c42 => ?_)
  · refine R_iconst (pc := 138) C dL_lends_138 (v := 1) (by decide) ?_
    refine R_iload_n (pc := 139) C dL_lends_139 rfl ?_
    refine R_bipush (pc := 140) C dL_lends_140 (v := 8) (by decide) ?_
    refine R_ishr (pc := 142) C dL_lends_142 ?_
    refine R_iload_n (pc := 143) C dL_lends_143 rfl ?_
    refine R_bipush (pc := 144) C dL_lends_144 (v := 13) (by decide) ?_
    refine R_ishr (pc := 146) C dL_lends_146 ?_
    refine R_iconst (pc := 147) C dL_lends_147 (v := 3) (by decide) ?_
    refine R_callP (pc := 148) C dL_lends_148 (vs := [_, _]) (mL_low hl (by decide)) ⟨k_2_16, k_2_17, k_2_12, k_2_18⟩ (sgn (nv := 2) rfl ⟨by decide +kernel, by decide +kernel, by decide +kernel⟩) ⟨⟨Nat.le_of_ble_eq_true rfl, Nat.le_of_ble_eq_true rfl⟩, ⟨Nat.le_of_ble_eq_true rfl, Nat.le_of_ble_eq_true rfl⟩, Nat.le_of_ble_eq_true rfl⟩ rfl rfl ?_
    refine R_if_ne (pc := 151) C dL_lends_151 (tgt := 160) (by decide) (fun c151 => ?_) (fun c151 => ?_)
    · refine R_bipush (pc := 160) C dL_lends_160 (v := 40) (by decide) ?_
      refine R_callP (pc := 162) C dL_lends_162 (vs := [_, _]) (mL_low hl (by decide)) ⟨k_2_16, k_2_17, k_2_12, k_2_18⟩ (sgn (nv := 2) rfl ⟨by decide +kernel, by decide +kernel, by decide +kernel⟩) ⟨⟨Nat.le_of_ble_eq_true rfl, Nat.le_of_ble_eq_true rfl⟩, ⟨Nat.le_of_ble_eq_true rfl, Nat.le_of_ble_eq_true rfl⟩, Nat.le_of_ble_eq_true rfl⟩ rfl rfl ?_
      obtain ⟨e1, he1, ee1⟩ : ∃ e1, e1 < 10000 ∧ lowV (z >>> ((8 : Int32) &&& 31)) 40 = nI e1 := by obtain ⟨q, hq, e⟩ := lowV_ex (z >>> ((8 : Int32) &&& 31)) (m := 40) (by omega) (by omega); exact ⟨q, by omega, e⟩
      rw [ee1]
      refine R_iadd (pc := 165) C dL_lends_165 ?_
      rw [show (1 : Int32) + nI e1 = nI (1 + e1) from nI_add 1 e1]
      refine R_istore (pc := 166) C dL_lends_166 (Nat.le_of_ble_eq_true rfl) (lv' := [some (.ref _), some (.int _), some (.ref _), some (.ref _), some (.ref _), some (.int _), some (.int _), some (.int _), none]) rfl ?_
      refine R_aload_n (pc := 168) C dL_lends_168 rfl ?_
      refine R_iconst (pc := 169) C dL_lends_169 (v := 4) (by decide) ?_
      refine R_iload (pc := 170) C dL_lends_170 rfl ?_
      refine R_imul (pc := 172) C dL_lends_172 ?_
      refine R_iald (pc := 173) C dL_lends_173 (wmb) (i4z i) (by omega) (by decide) (rdb0) ?_
      refine R_iload (pc := 174) C dL_lends_174 rfl ?_
      refine R_icmp_lt (pc := 176) C dL_lends_176 (tgt := 183) (by decide) (fun c176 => ?_) (fun c176 => ?_)
      · refine R_iconst (pc := 183) C dL_lends_183 (v := 0) (by decide) ?_
        refine R_istore (pc := 184) C dL_lends_184 (Nat.le_of_ble_eq_true rfl) (lv' := [some (.ref _), some (.int _), some (.ref _), some (.ref _), some (.ref _), some (.int _), some (.int _), some (.int _), some (.int _)]) rfl ?_
        refine R_aload_n (pc := 186) C dL_lends_186 rfl ?_
        refine R_iconst (pc := 187) C dL_lends_187 (v := 4) (by decide) ?_
        refine R_iload (pc := 188) C dL_lends_188 rfl ?_
        refine R_imul (pc := 190) C dL_lends_190 ?_
        refine R_dup2 (pc := 191) C dL_lends_191 rfl rfl ?_
        refine R_iald (pc := 192) C dL_lends_192 (wmb) (i4z i) (by omega) (by decide) (rdb0) ?_
        refine R_iload (pc := 193) C dL_lends_193 rfl ?_
        refine R_if_eq (pc := 195) C dL_lends_195 (tgt := 203) (by decide) (fun c195 => ?_) (fun c195 => absurd (rfl) c195)
        refine R_iconst (pc := 203) C dL_lends_203 (v := 0) (by decide) ?_
        refine R_isub (pc := 204) C dL_lends_204 ?_
        refine R_iast (pc := 205) C dL_lends_205 (wmb) (i4z i) (by omega) (by decide) (pmi_9 (Int32.sub_zero _)) ?_
        refine R_aload_n (pc := 206) C dL_lends_206 rfl ?_
        refine R_iconst (pc := 207) C dL_lends_207 (v := 4) (by decide) ?_
        refine R_iload (pc := 208) C dL_lends_208 rfl ?_
        refine R_imul (pc := 210) C dL_lends_210 ?_
        refine R_dup2 (pc := 211) C dL_lends_211 rfl rfl ?_
        refine R_iald (pc := 212) C dL_lends_212 (wmb) (i4z j) (by omega) (by decide) (rdb0) ?_
        refine R_iload (pc := 213) C dL_lends_213 rfl ?_
        refine R_if_eq (pc := 215) C dL_lends_215 (tgt := 223) (by decide) (fun c215 => ?_) (fun c215 => absurd (rfl) c215)
        refine R_iconst (pc := 223) C dL_lends_223 (v := 0) (by decide) ?_
        refine R_iadd (pc := 224) C dL_lends_224 ?_
        refine R_iast (pc := 225) C dL_lends_225 (wmb) (i4z j) (by omega) (by decide) (pmi_9 (Int32.add_zero _)) ?_
        refine R_aload_n (pc := 226) C dL_lends_226 rfl ?_
        refine R_iconst (pc := 227) C dL_lends_227 (v := 5) (by decide) ?_
        refine R_iload (pc := 228) C dL_lends_228 rfl ?_
        refine R_imul (pc := 230) C dL_lends_230 ?_
        refine R_iload (pc := 231) C dL_lends_231 rfl ?_
        refine R_iadd (pc := 233) C dL_lends_233 ?_
        refine R_dup2 (pc := 234) C dL_lends_234 rfl rfl ?_
        refine R_iald (pc := 235) C dL_lends_235 (wml) (i5 i j) (by omega) (by decide) (rdl (by omega)) ?_
        refine R_iload (pc := 236) C dL_lends_236 rfl ?_
        refine R_if_eq (pc := 238) C dL_lends_238 (tgt := 246) (by decide) (fun c238 => ?_) (fun c238 => absurd (rfl) c238)
        refine R_iconst (pc := 246) C dL_lends_246 (v := 0) (by decide) ?_
        refine R_iadd (pc := 247) C dL_lends_247 ?_
        refine R_iast (pc := 248) C dL_lends_248 (wml) (i5 i j) (by omega) (by decide) (pmi_l (show j < 5 by omega) (Int32.add_zero _)) ?_
        refine R_aload_n (pc := 249) C dL_lends_249 rfl ?_
        refine R_iconst (pc := 250) C dL_lends_250 (v := 1) (by decide) ?_
        refine R_iload (pc := 251) C dL_lends_251 rfl ?_
        refine R_iload (pc := 253) C dL_lends_253 rfl ?_
        refine R_iload (pc := 255) C dL_lends_255 rfl ?_
        have hkv : kLend n F (nI i) (nI j) (nI (1 + e1)) = 3 := by rw [kLend_v (show n ≤ 8 by omega) hi hj hij (by omega) (by omega), if_pos c176]
        refine R_callSW (pc := 257) C dL_lends_257 (vs := [_, _, _, _, _]) (fun h hh => mL_calls1 hl (show n ≤ 8 by omega) (Or.inr hkv) h hh) ⟨k_18_18, k_18_19, k_2_12, k_18_20⟩ (sgn (nv := 5) rfl ⟨by decide +kernel, by decide +kernel, by decide +kernel⟩) ⟨⟨Nat.le_of_ble_eq_true rfl, Nat.le_of_ble_eq_true rfl⟩, ⟨Nat.le_of_ble_eq_true rfl, Nat.le_of_ble_eq_true rfl⟩, Nat.le_of_ble_eq_true rfl⟩ rfl rfl (fun h9 hh9 v9 => ?_)
        refine WR.all (fun h1 hh1 => ?_)
        obtain ⟨-, e9, hw9⟩ := hh1.resolve_left (fun q => absurd (hkv.symm.trans q.1) (by decide))
        subst e9
        refine WR.imp (P' := Wd G (adr, (n, P, F), (n, P, F), mu, g)) (fun h e => e ▸ hw9) ?_
        show WR K G _ _ _ _ _ _ _ (.int _ :: _)
        refine R_iload (pc := 260) C dL_lends_260 rfl ?_
        refine R_if_eq (pc := 262) C dL_lends_262 (tgt := 277) (by decide) (fun c262 => ?_) (fun c262 => absurd (rfl) c262)
        refine R_bipush (pc := 277) C dL_lends_277 (v := -3) (by decide) ?_
        refine R_icmp_ne (pc := 279) C dL_lends_279 (tgt := 286) (by decide) (fun c279 => absurd c279 (fun q => q rfl)) (fun c279 => ?_)
        refine R_iconst (pc := 282) C dL_lends_282 (v := 1) (by decide) ?_
        refine R_goto (pc := 283) C dL_lends_283 (tgt := 287) (by decide) ?_
        exact R_zret (pc := 287) C dL_lends_287 rfl rfl (Nat.le_of_ble_eq_true rfl) (Nat.le_of_ble_eq_true rfl) (fun h hh => ⟨rfl, _, Or.inl rfl, hh⟩)
      · refine R_iconst (pc := 179) C dL_lends_179 (v := 1) (by decide) ?_
        refine R_goto (pc := 180) C dL_lends_180 (tgt := 184) (by decide) ?_
        refine R_istore (pc := 184) C dL_lends_184 (Nat.le_of_ble_eq_true rfl) (lv' := [some (.ref _), some (.int _), some (.ref _), some (.ref _), some (.ref _), some (.int _), some (.int _), some (.int _), some (.int _)]) rfl ?_
        refine R_aload_n (pc := 186) C dL_lends_186 rfl ?_
        refine R_iconst (pc := 187) C dL_lends_187 (v := 4) (by decide) ?_
        refine R_iload (pc := 188) C dL_lends_188 rfl ?_
        refine R_imul (pc := 190) C dL_lends_190 ?_
        refine R_dup2 (pc := 191) C dL_lends_191 rfl rfl ?_
        refine R_iald (pc := 192) C dL_lends_192 (wmb) (i4z i) (by omega) (by decide) (rdb0) ?_
        refine R_iload (pc := 193) C dL_lends_193 rfl ?_
        refine R_if_eq (pc := 195) C dL_lends_195 (tgt := 203) (by decide) (fun c195 => absurd c195 (by decide)) (fun c195 => ?_)
        refine R_iload (pc := 198) C dL_lends_198 rfl ?_
        refine R_goto (pc := 200) C dL_lends_200 (tgt := 204) (by decide) ?_
        refine R_isub (pc := 204) C dL_lends_204 ?_
        refine R_iast (pc := 205) C dL_lends_205 (wmb) (i4z i) (by omega) (by decide) (pme_9 rfl) ?_
        refine R_aload_n (pc := 206) C dL_lends_206 rfl ?_
        refine R_iconst (pc := 207) C dL_lends_207 (v := 4) (by decide) ?_
        refine R_iload (pc := 208) C dL_lends_208 rfl ?_
        refine R_imul (pc := 210) C dL_lends_210 ?_
        refine R_dup2 (pc := 211) C dL_lends_211 rfl rfl ?_
        refine R_iald (pc := 212) C dL_lends_212 (wmb) (i4z j) (by omega) (by decide) (rdb0) ?_
        refine R_iload (pc := 213) C dL_lends_213 rfl ?_
        refine R_if_eq (pc := 215) C dL_lends_215 (tgt := 223) (by decide) (fun c215 => absurd c215 (by decide)) (fun c215 => ?_)
        refine R_iload (pc := 218) C dL_lends_218 rfl ?_
        refine R_goto (pc := 220) C dL_lends_220 (tgt := 224) (by decide) ?_
        refine R_iadd (pc := 224) C dL_lends_224 ?_
        refine R_iast (pc := 225) C dL_lends_225 (wmb) (i4z j) (by omega) (by decide) (pme_9 (v0 := F 9 j + (nI (1 + e1))) (by rw [su_i (Ne.symm hij)])) ?_
        refine R_aload_n (pc := 226) C dL_lends_226 rfl ?_
        refine R_iconst (pc := 227) C dL_lends_227 (v := 5) (by decide) ?_
        refine R_iload (pc := 228) C dL_lends_228 rfl ?_
        refine R_imul (pc := 230) C dL_lends_230 ?_
        refine R_iload (pc := 231) C dL_lends_231 rfl ?_
        refine R_iadd (pc := 233) C dL_lends_233 ?_
        refine R_dup2 (pc := 234) C dL_lends_234 rfl rfl ?_
        refine R_iald (pc := 235) C dL_lends_235 (wml) (i5 i j) (by omega) (by decide) (rdl (by omega)) ?_
        refine R_iload (pc := 236) C dL_lends_236 rfl ?_
        refine R_if_eq (pc := 238) C dL_lends_238 (tgt := 246) (by decide) (fun c238 => absurd c238 (by decide)) (fun c238 => ?_)
        refine R_iload (pc := 241) C dL_lends_241 rfl ?_
        refine R_goto (pc := 243) C dL_lends_243 (tgt := 247) (by decide) ?_
        refine R_iadd (pc := 247) C dL_lends_247 ?_
        refine R_iast (pc := 248) C dL_lends_248 (wml) (i5 i j) (by omega) (by decide) (pme_l (show j < 5 by omega) (v0 := F 13 (8 * i + j) + (nI (1 + e1))) (by rw [su_f (by omega), su_f (by omega)])) ?_
        refine R_aload_n (pc := 249) C dL_lends_249 rfl ?_
        refine R_iconst (pc := 250) C dL_lends_250 (v := 1) (by decide) ?_
        refine R_iload (pc := 251) C dL_lends_251 rfl ?_
        refine R_iload (pc := 253) C dL_lends_253 rfl ?_
        refine R_iload (pc := 255) C dL_lends_255 rfl ?_
        have hkv : kLend n F (nI i) (nI j) (nI (1 + e1)) = 0 := by rw [kLend_v (show n ≤ 8 by omega) hi hj hij (by omega) (by omega), if_neg c176]
        refine R_callSW (pc := 257) C dL_lends_257 (vs := [_, _, _, _, _]) (fun h hh => mL_calls1 hl (show n ≤ 8 by omega) (Or.inl hkv) h hh) ⟨k_18_18, k_18_19, k_2_12, k_18_20⟩ (sgn (nv := 5) rfl ⟨by decide +kernel, by decide +kernel, by decide +kernel⟩) ⟨⟨Nat.le_of_ble_eq_true rfl, Nat.le_of_ble_eq_true rfl⟩, ⟨Nat.le_of_ble_eq_true rfl, Nat.le_of_ble_eq_true rfl⟩, Nat.le_of_ble_eq_true rfl⟩ rfl rfl (fun h9 hh9 v9 => ?_)
        refine WR.all (fun h1 hh1 => ?_)
        obtain ⟨-, e9, hw9⟩ := hh1.resolve_right (fun q => q.1 hkv)
        subst e9
        rw [ix_nI (show i < 2 ^ 31 by omega), ix_nI (show j < 2 ^ 31 by omega)] at hw9
        refine WR.imp (P' := Wd G (adr, (n, P, fLend F i j (nI (1 + e1))), (n, P, fLend F i j (nI (1 + e1))), mu, g)) (fun h e => e ▸ hw9) ?_
        show WR K G _ _ _ _ _ _ _ (.int _ :: _)
        rw [ix_nI (show i < 2 ^ 31 by omega), ix_nI (show j < 2 ^ 31 by omega)]
        refine R_iload (pc := 260) C dL_lends_260 rfl ?_
        refine R_if_eq (pc := 262) C dL_lends_262 (tgt := 277) (by decide) (fun c262 => absurd c262 (by decide)) (fun c262 => ?_)
        refine R_aload_n (pc := 265) C dL_lends_265 rfl ?_
        refine R_iconst (pc := 266) C dL_lends_266 (v := 5) (by decide) ?_
        refine R_iload (pc := 267) C dL_lends_267 rfl ?_
        refine R_imul (pc := 269) C dL_lends_269 ?_
        refine R_iload (pc := 270) C dL_lends_270 rfl ?_
        refine R_iadd (pc := 272) C dL_lends_272 ?_
        refine R_iald (pc := 273) C dL_lends_273 (wml) (i5 i j) (by omega) (by decide) ((rdl (by omega)).trans su_s) ?_
        refine R_goto (pc := 274) C dL_lends_274 (tgt := 279) (by decide) ?_
        refine R_icmp_ne (pc := 279) C dL_lends_279 (tgt := 286) (by decide) (fun c279 => absurd c279 (fun q => q rfl)) (fun c279 => ?_)
        refine R_iconst (pc := 282) C dL_lends_282 (v := 1) (by decide) ?_
        refine R_goto (pc := 283) C dL_lends_283 (tgt := 287) (by decide) ?_
        exact R_zret (pc := 287) C dL_lends_287 rfl rfl (Nat.le_of_ble_eq_true rfl) (Nat.le_of_ble_eq_true rfl) (fun h hh => ⟨rfl, _, Or.inr (Or.inr ⟨i, j, 1 + e1, hi, hj, hij, by omega, c176, rfl⟩), hh⟩)
    · refine R_sipush (pc := 154) C dL_lends_154 (v := 10000) (by decide) ?_
      refine R_goto (pc := 157) C dL_lends_157 (tgt := 162) (by decide) ?_
      refine R_callP (pc := 162) C dL_lends_162 (vs := [_, _]) (mL_low hl (by decide)) ⟨k_2_16, k_2_17, k_2_12, k_2_18⟩ (sgn (nv := 2) rfl ⟨by decide +kernel, by decide +kernel, by decide +kernel⟩) ⟨⟨Nat.le_of_ble_eq_true rfl, Nat.le_of_ble_eq_true rfl⟩, ⟨Nat.le_of_ble_eq_true rfl, Nat.le_of_ble_eq_true rfl⟩, Nat.le_of_ble_eq_true rfl⟩ rfl rfl ?_
      obtain ⟨e1, he1, ee1⟩ : ∃ e1, e1 < 10000 ∧ lowV (z >>> ((8 : Int32) &&& 31)) 10000 = nI e1 := by obtain ⟨q, hq, e⟩ := lowV_ex (z >>> ((8 : Int32) &&& 31)) (m := 10000) (by omega) (by omega); exact ⟨q, by omega, e⟩
      rw [ee1]
      refine R_iadd (pc := 165) C dL_lends_165 ?_
      rw [show (1 : Int32) + nI e1 = nI (1 + e1) from nI_add 1 e1]
      refine R_istore (pc := 166) C dL_lends_166 (Nat.le_of_ble_eq_true rfl) (lv' := [some (.ref _), some (.int _), some (.ref _), some (.ref _), some (.ref _), some (.int _), some (.int _), some (.int _), none]) rfl ?_
      refine R_aload_n (pc := 168) C dL_lends_168 rfl ?_
      refine R_iconst (pc := 169) C dL_lends_169 (v := 4) (by decide) ?_
      refine R_iload (pc := 170) C dL_lends_170 rfl ?_
      refine R_imul (pc := 172) C dL_lends_172 ?_
      refine R_iald (pc := 173) C dL_lends_173 (wmb) (i4z i) (by omega) (by decide) (rdb0) ?_
      refine R_iload (pc := 174) C dL_lends_174 rfl ?_
      refine R_icmp_lt (pc := 176) C dL_lends_176 (tgt := 183) (by decide) (fun c176 => ?_) (fun c176 => ?_)
      · refine R_iconst (pc := 183) C dL_lends_183 (v := 0) (by decide) ?_
        refine R_istore (pc := 184) C dL_lends_184 (Nat.le_of_ble_eq_true rfl) (lv' := [some (.ref _), some (.int _), some (.ref _), some (.ref _), some (.ref _), some (.int _), some (.int _), some (.int _), some (.int _)]) rfl ?_
        refine R_aload_n (pc := 186) C dL_lends_186 rfl ?_
        refine R_iconst (pc := 187) C dL_lends_187 (v := 4) (by decide) ?_
        refine R_iload (pc := 188) C dL_lends_188 rfl ?_
        refine R_imul (pc := 190) C dL_lends_190 ?_
        refine R_dup2 (pc := 191) C dL_lends_191 rfl rfl ?_
        refine R_iald (pc := 192) C dL_lends_192 (wmb) (i4z i) (by omega) (by decide) (rdb0) ?_
        refine R_iload (pc := 193) C dL_lends_193 rfl ?_
        refine R_if_eq (pc := 195) C dL_lends_195 (tgt := 203) (by decide) (fun c195 => ?_) (fun c195 => absurd (rfl) c195)
        refine R_iconst (pc := 203) C dL_lends_203 (v := 0) (by decide) ?_
        refine R_isub (pc := 204) C dL_lends_204 ?_
        refine R_iast (pc := 205) C dL_lends_205 (wmb) (i4z i) (by omega) (by decide) (pmi_9 (Int32.sub_zero _)) ?_
        refine R_aload_n (pc := 206) C dL_lends_206 rfl ?_
        refine R_iconst (pc := 207) C dL_lends_207 (v := 4) (by decide) ?_
        refine R_iload (pc := 208) C dL_lends_208 rfl ?_
        refine R_imul (pc := 210) C dL_lends_210 ?_
        refine R_dup2 (pc := 211) C dL_lends_211 rfl rfl ?_
        refine R_iald (pc := 212) C dL_lends_212 (wmb) (i4z j) (by omega) (by decide) (rdb0) ?_
        refine R_iload (pc := 213) C dL_lends_213 rfl ?_
        refine R_if_eq (pc := 215) C dL_lends_215 (tgt := 223) (by decide) (fun c215 => ?_) (fun c215 => absurd (rfl) c215)
        refine R_iconst (pc := 223) C dL_lends_223 (v := 0) (by decide) ?_
        refine R_iadd (pc := 224) C dL_lends_224 ?_
        refine R_iast (pc := 225) C dL_lends_225 (wmb) (i4z j) (by omega) (by decide) (pmi_9 (Int32.add_zero _)) ?_
        refine R_aload_n (pc := 226) C dL_lends_226 rfl ?_
        refine R_iconst (pc := 227) C dL_lends_227 (v := 5) (by decide) ?_
        refine R_iload (pc := 228) C dL_lends_228 rfl ?_
        refine R_imul (pc := 230) C dL_lends_230 ?_
        refine R_iload (pc := 231) C dL_lends_231 rfl ?_
        refine R_iadd (pc := 233) C dL_lends_233 ?_
        refine R_dup2 (pc := 234) C dL_lends_234 rfl rfl ?_
        refine R_iald (pc := 235) C dL_lends_235 (wml) (i5 i j) (by omega) (by decide) (rdl (by omega)) ?_
        refine R_iload (pc := 236) C dL_lends_236 rfl ?_
        refine R_if_eq (pc := 238) C dL_lends_238 (tgt := 246) (by decide) (fun c238 => ?_) (fun c238 => absurd (rfl) c238)
        refine R_iconst (pc := 246) C dL_lends_246 (v := 0) (by decide) ?_
        refine R_iadd (pc := 247) C dL_lends_247 ?_
        refine R_iast (pc := 248) C dL_lends_248 (wml) (i5 i j) (by omega) (by decide) (pmi_l (show j < 5 by omega) (Int32.add_zero _)) ?_
        refine R_aload_n (pc := 249) C dL_lends_249 rfl ?_
        refine R_iconst (pc := 250) C dL_lends_250 (v := 1) (by decide) ?_
        refine R_iload (pc := 251) C dL_lends_251 rfl ?_
        refine R_iload (pc := 253) C dL_lends_253 rfl ?_
        refine R_iload (pc := 255) C dL_lends_255 rfl ?_
        have hkv : kLend n F (nI i) (nI j) (nI (1 + e1)) = 3 := by rw [kLend_v (show n ≤ 8 by omega) hi hj hij (by omega) (by omega), if_pos c176]
        refine R_callSW (pc := 257) C dL_lends_257 (vs := [_, _, _, _, _]) (fun h hh => mL_calls1 hl (show n ≤ 8 by omega) (Or.inr hkv) h hh) ⟨k_18_18, k_18_19, k_2_12, k_18_20⟩ (sgn (nv := 5) rfl ⟨by decide +kernel, by decide +kernel, by decide +kernel⟩) ⟨⟨Nat.le_of_ble_eq_true rfl, Nat.le_of_ble_eq_true rfl⟩, ⟨Nat.le_of_ble_eq_true rfl, Nat.le_of_ble_eq_true rfl⟩, Nat.le_of_ble_eq_true rfl⟩ rfl rfl (fun h9 hh9 v9 => ?_)
        refine WR.all (fun h1 hh1 => ?_)
        obtain ⟨-, e9, hw9⟩ := hh1.resolve_left (fun q => absurd (hkv.symm.trans q.1) (by decide))
        subst e9
        refine WR.imp (P' := Wd G (adr, (n, P, F), (n, P, F), mu, g)) (fun h e => e ▸ hw9) ?_
        show WR K G _ _ _ _ _ _ _ (.int _ :: _)
        refine R_iload (pc := 260) C dL_lends_260 rfl ?_
        refine R_if_eq (pc := 262) C dL_lends_262 (tgt := 277) (by decide) (fun c262 => ?_) (fun c262 => absurd (rfl) c262)
        refine R_bipush (pc := 277) C dL_lends_277 (v := -3) (by decide) ?_
        refine R_icmp_ne (pc := 279) C dL_lends_279 (tgt := 286) (by decide) (fun c279 => absurd c279 (fun q => q rfl)) (fun c279 => ?_)
        refine R_iconst (pc := 282) C dL_lends_282 (v := 1) (by decide) ?_
        refine R_goto (pc := 283) C dL_lends_283 (tgt := 287) (by decide) ?_
        exact R_zret (pc := 287) C dL_lends_287 rfl rfl (Nat.le_of_ble_eq_true rfl) (Nat.le_of_ble_eq_true rfl) (fun h hh => ⟨rfl, _, Or.inl rfl, hh⟩)
      · refine R_iconst (pc := 179) C dL_lends_179 (v := 1) (by decide) ?_
        refine R_goto (pc := 180) C dL_lends_180 (tgt := 184) (by decide) ?_
        refine R_istore (pc := 184) C dL_lends_184 (Nat.le_of_ble_eq_true rfl) (lv' := [some (.ref _), some (.int _), some (.ref _), some (.ref _), some (.ref _), some (.int _), some (.int _), some (.int _), some (.int _)]) rfl ?_
        refine R_aload_n (pc := 186) C dL_lends_186 rfl ?_
        refine R_iconst (pc := 187) C dL_lends_187 (v := 4) (by decide) ?_
        refine R_iload (pc := 188) C dL_lends_188 rfl ?_
        refine R_imul (pc := 190) C dL_lends_190 ?_
        refine R_dup2 (pc := 191) C dL_lends_191 rfl rfl ?_
        refine R_iald (pc := 192) C dL_lends_192 (wmb) (i4z i) (by omega) (by decide) (rdb0) ?_
        refine R_iload (pc := 193) C dL_lends_193 rfl ?_
        refine R_if_eq (pc := 195) C dL_lends_195 (tgt := 203) (by decide) (fun c195 => absurd c195 (by decide)) (fun c195 => ?_)
        refine R_iload (pc := 198) C dL_lends_198 rfl ?_
        refine R_goto (pc := 200) C dL_lends_200 (tgt := 204) (by decide) ?_
        refine R_isub (pc := 204) C dL_lends_204 ?_
        refine R_iast (pc := 205) C dL_lends_205 (wmb) (i4z i) (by omega) (by decide) (pme_9 rfl) ?_
        refine R_aload_n (pc := 206) C dL_lends_206 rfl ?_
        refine R_iconst (pc := 207) C dL_lends_207 (v := 4) (by decide) ?_
        refine R_iload (pc := 208) C dL_lends_208 rfl ?_
        refine R_imul (pc := 210) C dL_lends_210 ?_
        refine R_dup2 (pc := 211) C dL_lends_211 rfl rfl ?_
        refine R_iald (pc := 212) C dL_lends_212 (wmb) (i4z j) (by omega) (by decide) (rdb0) ?_
        refine R_iload (pc := 213) C dL_lends_213 rfl ?_
        refine R_if_eq (pc := 215) C dL_lends_215 (tgt := 223) (by decide) (fun c215 => absurd c215 (by decide)) (fun c215 => ?_)
        refine R_iload (pc := 218) C dL_lends_218 rfl ?_
        refine R_goto (pc := 220) C dL_lends_220 (tgt := 224) (by decide) ?_
        refine R_iadd (pc := 224) C dL_lends_224 ?_
        refine R_iast (pc := 225) C dL_lends_225 (wmb) (i4z j) (by omega) (by decide) (pme_9 (v0 := F 9 j + (nI (1 + e1))) (by rw [su_i (Ne.symm hij)])) ?_
        refine R_aload_n (pc := 226) C dL_lends_226 rfl ?_
        refine R_iconst (pc := 227) C dL_lends_227 (v := 5) (by decide) ?_
        refine R_iload (pc := 228) C dL_lends_228 rfl ?_
        refine R_imul (pc := 230) C dL_lends_230 ?_
        refine R_iload (pc := 231) C dL_lends_231 rfl ?_
        refine R_iadd (pc := 233) C dL_lends_233 ?_
        refine R_dup2 (pc := 234) C dL_lends_234 rfl rfl ?_
        refine R_iald (pc := 235) C dL_lends_235 (wml) (i5 i j) (by omega) (by decide) (rdl (by omega)) ?_
        refine R_iload (pc := 236) C dL_lends_236 rfl ?_
        refine R_if_eq (pc := 238) C dL_lends_238 (tgt := 246) (by decide) (fun c238 => absurd c238 (by decide)) (fun c238 => ?_)
        refine R_iload (pc := 241) C dL_lends_241 rfl ?_
        refine R_goto (pc := 243) C dL_lends_243 (tgt := 247) (by decide) ?_
        refine R_iadd (pc := 247) C dL_lends_247 ?_
        refine R_iast (pc := 248) C dL_lends_248 (wml) (i5 i j) (by omega) (by decide) (pme_l (show j < 5 by omega) (v0 := F 13 (8 * i + j) + (nI (1 + e1))) (by rw [su_f (by omega), su_f (by omega)])) ?_
        refine R_aload_n (pc := 249) C dL_lends_249 rfl ?_
        refine R_iconst (pc := 250) C dL_lends_250 (v := 1) (by decide) ?_
        refine R_iload (pc := 251) C dL_lends_251 rfl ?_
        refine R_iload (pc := 253) C dL_lends_253 rfl ?_
        refine R_iload (pc := 255) C dL_lends_255 rfl ?_
        have hkv : kLend n F (nI i) (nI j) (nI (1 + e1)) = 0 := by rw [kLend_v (show n ≤ 8 by omega) hi hj hij (by omega) (by omega), if_neg c176]
        refine R_callSW (pc := 257) C dL_lends_257 (vs := [_, _, _, _, _]) (fun h hh => mL_calls1 hl (show n ≤ 8 by omega) (Or.inl hkv) h hh) ⟨k_18_18, k_18_19, k_2_12, k_18_20⟩ (sgn (nv := 5) rfl ⟨by decide +kernel, by decide +kernel, by decide +kernel⟩) ⟨⟨Nat.le_of_ble_eq_true rfl, Nat.le_of_ble_eq_true rfl⟩, ⟨Nat.le_of_ble_eq_true rfl, Nat.le_of_ble_eq_true rfl⟩, Nat.le_of_ble_eq_true rfl⟩ rfl rfl (fun h9 hh9 v9 => ?_)
        refine WR.all (fun h1 hh1 => ?_)
        obtain ⟨-, e9, hw9⟩ := hh1.resolve_right (fun q => q.1 hkv)
        subst e9
        rw [ix_nI (show i < 2 ^ 31 by omega), ix_nI (show j < 2 ^ 31 by omega)] at hw9
        refine WR.imp (P' := Wd G (adr, (n, P, fLend F i j (nI (1 + e1))), (n, P, fLend F i j (nI (1 + e1))), mu, g)) (fun h e => e ▸ hw9) ?_
        show WR K G _ _ _ _ _ _ _ (.int _ :: _)
        rw [ix_nI (show i < 2 ^ 31 by omega), ix_nI (show j < 2 ^ 31 by omega)]
        refine R_iload (pc := 260) C dL_lends_260 rfl ?_
        refine R_if_eq (pc := 262) C dL_lends_262 (tgt := 277) (by decide) (fun c262 => absurd c262 (by decide)) (fun c262 => ?_)
        refine R_aload_n (pc := 265) C dL_lends_265 rfl ?_
        refine R_iconst (pc := 266) C dL_lends_266 (v := 5) (by decide) ?_
        refine R_iload (pc := 267) C dL_lends_267 rfl ?_
        refine R_imul (pc := 269) C dL_lends_269 ?_
        refine R_iload (pc := 270) C dL_lends_270 rfl ?_
        refine R_iadd (pc := 272) C dL_lends_272 ?_
        refine R_iald (pc := 273) C dL_lends_273 (wml) (i5 i j) (by omega) (by decide) ((rdl (by omega)).trans su_s) ?_
        refine R_goto (pc := 274) C dL_lends_274 (tgt := 279) (by decide) ?_
        refine R_icmp_ne (pc := 279) C dL_lends_279 (tgt := 286) (by decide) (fun c279 => absurd c279 (fun q => q rfl)) (fun c279 => ?_)
        refine R_iconst (pc := 282) C dL_lends_282 (v := 1) (by decide) ?_
        refine R_goto (pc := 283) C dL_lends_283 (tgt := 287) (by decide) ?_
        exact R_zret (pc := 287) C dL_lends_287 rfl rfl (Nat.le_of_ble_eq_true rfl) (Nat.le_of_ble_eq_true rfl) (fun h hh => ⟨rfl, _, Or.inr (Or.inr ⟨i, j, 1 + e1, hi, hj, hij, by omega, c176, rfl⟩), hh⟩)
  · refine R_aload_n (pc := 45) C dL_lends_45 rfl ?_
    refine R_iconst (pc := 46) C dL_lends_46 (v := 5) (by decide) ?_
    refine R_iload (pc := 47) C dL_lends_47 rfl ?_
    refine R_imul (pc := 49) C dL_lends_49 ?_
    refine R_iload (pc := 50) C dL_lends_50 rfl ?_
    refine R_iadd (pc := 52) C dL_lends_52 ?_
    refine R_iald (pc := 53) C dL_lends_53 (wml) (i5 i j) (by omega) (by decide) (rdl (by omega)) ?_
    refine R_aload_n (pc := 54) C dL_lends_54 rfl ?_
    refine R_iconst (pc := 55) C dL_lends_55 (v := 4) (by decide) ?_
    refine R_iload (pc := 56) C dL_lends_56 rfl ?_
    refine R_imul (pc := 58) C dL_lends_58 ?_
    refine R_iald (pc := 59) C dL_lends_59 (wmb) (i4z j) (by omega) (by decide) (rdb0) ?_
    refine R_icmp_le (pc := 60) C dL_lends_60 (tgt := 72) (by decide) (fun c60 => ?_) (fun c60 => ?_)
    · refine R_aload_n (pc := 72) C dL_lends_72 rfl ?_
      refine R_iconst (pc := 73) C dL_lends_73 (v := 5) (by decide) ?_
      refine R_iload (pc := 74) C dL_lends_74 rfl ?_
      refine R_imul (pc := 76) C dL_lends_76 ?_
      refine R_iload (pc := 77) C dL_lends_77 rfl ?_
      refine R_iadd (pc := 79) C dL_lends_79 ?_
      refine R_iald (pc := 80) C dL_lends_80 (wml) (i5 i j) (by omega) (by decide) (rdl (by omega)) ?_
      refine R_topi (fun due e81 => ?_)
      have hdue : due = (minI (F 13 (8 * i + j)) (F 9 j)) := by rw [e81, minI, if_neg (Int32.not_lt.mpr c60)]
      refine R_istore (pc := 81) C dL_lends_81 (Nat.le_of_ble_eq_true rfl) (lv' := [some (.ref _), some (.int _), some (.ref _), some (.ref _), some (.ref _), some (.int _), some (.int _), some (.int _), none]) rfl ?_
      refine R_aload_n (pc := 83) C dL_lends_83 rfl ?_
      refine R_iconst (pc := 84) C dL_lends_84 (v := 5) (by decide) ?_
      refine R_iload (pc := 85) C dL_lends_85 rfl ?_
      refine R_imul (pc := 87) C dL_lends_87 ?_
      refine R_iload (pc := 88) C dL_lends_88 rfl ?_
      refine R_iadd (pc := 90) C dL_lends_90 ?_
      refine R_dup2 (pc := 91) C dL_lends_91 rfl rfl ?_
      refine R_iald (pc := 92) C dL_lends_92 (wml) (i5 i j) (by omega) (by decide) (rdl (by omega)) ?_
      refine R_iload (pc := 93) C dL_lends_93 rfl ?_
      refine R_isub (pc := 95) C dL_lends_95 ?_
      refine R_iast (pc := 96) C dL_lends_96 (wml) (i5 i j) (by omega) (by decide) (pm_l (show j < 5 by omega)) ?_
      refine R_aload_n (pc := 97) C dL_lends_97 rfl ?_
      refine R_iconst (pc := 98) C dL_lends_98 (v := 4) (by decide) ?_
      refine R_iload (pc := 99) C dL_lends_99 rfl ?_
      refine R_imul (pc := 101) C dL_lends_101 ?_
      refine R_dup2 (pc := 102) C dL_lends_102 rfl rfl ?_
      refine R_iald (pc := 103) C dL_lends_103 (wmb) (i4z j) (by omega) (by decide) (rdb0) ?_
      refine R_iload (pc := 104) C dL_lends_104 rfl ?_
      refine R_isub (pc := 106) C dL_lends_106 ?_
      refine R_iast (pc := 107) C dL_lends_107 (wmb) (i4z j) (by omega) (by decide) (pme_9 (v0 := F 9 j - due) (by rw [su_f (by omega)])) ?_
      refine R_aload_n (pc := 108) C dL_lends_108 rfl ?_
      refine R_iconst (pc := 109) C dL_lends_109 (v := 4) (by decide) ?_
      refine R_iload (pc := 110) C dL_lends_110 rfl ?_
      refine R_imul (pc := 112) C dL_lends_112 ?_
      refine R_dup2 (pc := 113) C dL_lends_113 rfl rfl ?_
      refine R_iald (pc := 114) C dL_lends_114 (wmb) (i4z i) (by omega) (by decide) (rdb0) ?_
      refine R_iload (pc := 115) C dL_lends_115 rfl ?_
      refine R_iadd (pc := 117) C dL_lends_117 ?_
      refine R_iast (pc := 118) C dL_lends_118 (wmb) (i4z i) (by omega) (by decide) (pme_9 (v0 := F 9 i + due) (by rw [su_i hij, su_f (by omega)])) ?_
      refine R_aload_n (pc := 119) C dL_lends_119 rfl ?_
      refine R_iload (pc := 120) C dL_lends_120 rfl ?_
      refine R_iload (pc := 122) C dL_lends_122 rfl ?_
      refine R_callVT (pc := 124) C dL_lends_124 (vs := [_, _]) (fun h hh => mX1_callBack hl (show n ≤ 8 by omega) h hh) (isOb_of (wc0) rfl) ⟨k_18_8, k_18_9, k_18_10, k_1_2, k_18_11⟩ (sgn (nv := 2) rfl ⟨by decide +kernel, by decide +kernel, by decide +kernel⟩) ⟨⟨Nat.le_of_ble_eq_true rfl, Nat.le_of_ble_eq_true rfl⟩, ⟨Nat.le_of_ble_eq_true rfl, Nat.le_of_ble_eq_true rfl⟩, Nat.le_of_ble_eq_true rfl⟩ rfl rfl (fun h9 hh9 E9 => X_pr (fun q9 => (exA_0 q9 (kBack_0 (by omega) hi hj hij)).elim)) (fun h9 hh9 v9 => ?_)
      refine WR.pr (fun e9 => ?_)
      obtain ⟨-, e9⟩ := e9
      subst e9
      show WR K G _ _ _ _ _ _ _ (.int _ :: _)
      rw [ix_nI (show i < 2 ^ 31 by omega), ix_nI (show j < 2 ^ 31 by omega)]
      rw [← hdue]
      refine R_iload (pc := 127) C dL_lends_127 rfl ?_
      refine R_icmp_ne (pc := 129) C dL_lends_129 (tgt := 136) (by decide) (fun c129 => absurd c129 (fun q => q rfl)) (fun c129 => ?_)
      refine R_iconst (pc := 132) C dL_lends_132 (v := 1) (by decide) ?_
      refine R_goto (pc := 133) C dL_lends_133 (tgt := 137) (by decide) ?_
      exact R_zret (pc := 137) C dL_lends_137 rfl rfl (Nat.le_of_ble_eq_true rfl) (Nat.le_of_ble_eq_true rfl) (fun h hh => ⟨rfl, _, Or.inr (Or.inl ⟨i, j, hi, hj, hij, by rw [hdue]⟩), hh⟩)
    · refine R_aload_n (pc := 63) C dL_lends_63 rfl ?_
      refine R_iconst (pc := 64) C dL_lends_64 (v := 4) (by decide) ?_
      refine R_iload (pc := 65) C dL_lends_65 rfl ?_
      refine R_imul (pc := 67) C dL_lends_67 ?_
      refine R_iald (pc := 68) C dL_lends_68 (wmb) (i4z j) (by omega) (by decide) (rdb0) ?_
      refine R_goto (pc := 69) C dL_lends_69 (tgt := 81) (by decide) ?_
      refine R_topi (fun due e81 => ?_)
      have hdue : due = (minI (F 13 (8 * i + j)) (F 9 j)) := by rw [e81, minI, if_pos (Int32.not_le.mp c60)]
      refine R_istore (pc := 81) C dL_lends_81 (Nat.le_of_ble_eq_true rfl) (lv' := [some (.ref _), some (.int _), some (.ref _), some (.ref _), some (.ref _), some (.int _), some (.int _), some (.int _), none]) rfl ?_
      refine R_aload_n (pc := 83) C dL_lends_83 rfl ?_
      refine R_iconst (pc := 84) C dL_lends_84 (v := 5) (by decide) ?_
      refine R_iload (pc := 85) C dL_lends_85 rfl ?_
      refine R_imul (pc := 87) C dL_lends_87 ?_
      refine R_iload (pc := 88) C dL_lends_88 rfl ?_
      refine R_iadd (pc := 90) C dL_lends_90 ?_
      refine R_dup2 (pc := 91) C dL_lends_91 rfl rfl ?_
      refine R_iald (pc := 92) C dL_lends_92 (wml) (i5 i j) (by omega) (by decide) (rdl (by omega)) ?_
      refine R_iload (pc := 93) C dL_lends_93 rfl ?_
      refine R_isub (pc := 95) C dL_lends_95 ?_
      refine R_iast (pc := 96) C dL_lends_96 (wml) (i5 i j) (by omega) (by decide) (pm_l (show j < 5 by omega)) ?_
      refine R_aload_n (pc := 97) C dL_lends_97 rfl ?_
      refine R_iconst (pc := 98) C dL_lends_98 (v := 4) (by decide) ?_
      refine R_iload (pc := 99) C dL_lends_99 rfl ?_
      refine R_imul (pc := 101) C dL_lends_101 ?_
      refine R_dup2 (pc := 102) C dL_lends_102 rfl rfl ?_
      refine R_iald (pc := 103) C dL_lends_103 (wmb) (i4z j) (by omega) (by decide) (rdb0) ?_
      refine R_iload (pc := 104) C dL_lends_104 rfl ?_
      refine R_isub (pc := 106) C dL_lends_106 ?_
      refine R_iast (pc := 107) C dL_lends_107 (wmb) (i4z j) (by omega) (by decide) (pme_9 (v0 := F 9 j - due) (by rw [su_f (by omega)])) ?_
      refine R_aload_n (pc := 108) C dL_lends_108 rfl ?_
      refine R_iconst (pc := 109) C dL_lends_109 (v := 4) (by decide) ?_
      refine R_iload (pc := 110) C dL_lends_110 rfl ?_
      refine R_imul (pc := 112) C dL_lends_112 ?_
      refine R_dup2 (pc := 113) C dL_lends_113 rfl rfl ?_
      refine R_iald (pc := 114) C dL_lends_114 (wmb) (i4z i) (by omega) (by decide) (rdb0) ?_
      refine R_iload (pc := 115) C dL_lends_115 rfl ?_
      refine R_iadd (pc := 117) C dL_lends_117 ?_
      refine R_iast (pc := 118) C dL_lends_118 (wmb) (i4z i) (by omega) (by decide) (pme_9 (v0 := F 9 i + due) (by rw [su_i hij, su_f (by omega)])) ?_
      refine R_aload_n (pc := 119) C dL_lends_119 rfl ?_
      refine R_iload (pc := 120) C dL_lends_120 rfl ?_
      refine R_iload (pc := 122) C dL_lends_122 rfl ?_
      refine R_callVT (pc := 124) C dL_lends_124 (vs := [_, _]) (fun h hh => mX1_callBack hl (show n ≤ 8 by omega) h hh) (isOb_of (wc0) rfl) ⟨k_18_8, k_18_9, k_18_10, k_1_2, k_18_11⟩ (sgn (nv := 2) rfl ⟨by decide +kernel, by decide +kernel, by decide +kernel⟩) ⟨⟨Nat.le_of_ble_eq_true rfl, Nat.le_of_ble_eq_true rfl⟩, ⟨Nat.le_of_ble_eq_true rfl, Nat.le_of_ble_eq_true rfl⟩, Nat.le_of_ble_eq_true rfl⟩ rfl rfl (fun h9 hh9 E9 => X_pr (fun q9 => (exA_0 q9 (kBack_0 (by omega) hi hj hij)).elim)) (fun h9 hh9 v9 => ?_)
      refine WR.pr (fun e9 => ?_)
      obtain ⟨-, e9⟩ := e9
      subst e9
      show WR K G _ _ _ _ _ _ _ (.int _ :: _)
      rw [ix_nI (show i < 2 ^ 31 by omega), ix_nI (show j < 2 ^ 31 by omega)]
      rw [← hdue]
      refine R_iload (pc := 127) C dL_lends_127 rfl ?_
      refine R_icmp_ne (pc := 129) C dL_lends_129 (tgt := 136) (by decide) (fun c129 => absurd c129 (fun q => q rfl)) (fun c129 => ?_)
      refine R_iconst (pc := 132) C dL_lends_132 (v := 1) (by decide) ?_
      refine R_goto (pc := 133) C dL_lends_133 (tgt := 137) (by decide) ?_
      exact R_zret (pc := 137) C dL_lends_137 rfl rfl (Nat.le_of_ble_eq_true rfl) (Nat.le_of_ble_eq_true rfl) (fun h hh => ⟨rfl, _, Or.inr (Or.inl ⟨i, j, hi, hj, hij, by rw [hdue]⟩), hh⟩)
end
