/-! 79: the law's turns, a call each. Written by wip/p22/gen/m79.py -/
theorem kPlan_0 {n k am m : Nat} (hn : n ≤ 8) (hk : k < n) (hm : m ≤ 100000) (h : am ≤ m) : kPlan n (nI k) (nI am) (nI m) = 0 := by
  unfold kPlan
  rw [if_pos (qW_t hn hk), if_pos (rngp hm h)]
theorem kRech_0 {a am : Nat} (ha : a < 3) (h : am ≤ 1000) : kRech (nI a) (nI am) = 0 := by
  unfold kRech
  rw [if_pos (show qR (nI a) 0 2 = true from rngp (m := 2) (by omega) (by omega)), if_pos (show qR (nI am) 0 1000 = true from rngp (m := 1000) (by omega) h)]
theorem kBuild_v {P p : Nat} {F : Nat → Nat → Int32} (hp : p < 20) : kBuild P F (nI p) = if F 16 0 < 100 ∨ 5 ≤ P then 2 else 0 := by
  unfold kBuild
  rw [if_pos (show qR (nI p) 0 99 = true from rngp (m := 99) (by omega) (by omega))]
theorem le2 {n : Nat} (hn : n ≤ 8) (h : ¬ nI n < 2) : 2 ≤ n := by
  by_cases c : n < 2
  · exact absurd (show nI n < 2 from nI_lt (b := 2) c (by omega)) h
  · omega
theorem lt2 {n : Nat} (hn : n ≤ 8) (h : nI n < 2) : n < 2 := (nI_ltI (b := 2) (by omega) (by omega)).mp h
theorem lt5 {n : Nat} (hn : n ≤ 8) (h : ¬ 5 ≤ nI n) : n < 5 := by
  by_cases c : n < 5
  · exact c
  · exact absurd (show (5 : Int32) ≤ nI n from nI_le (a := 5) (by omega) (by omega)) h
theorem ge5 {n : Nat} (hn : n ≤ 8) (h : 5 ≤ nI n) : 5 ≤ n := (nI_leI (a := 5) (by omega) (by omega)).mp h
section
variable {G : GT} {adr : Nat → Nat} {n P : Nat} {F mu : Nat → Nat → Int32} {g : Nat → Int64} {Sc : St}
theorem pmi_pond {i : Nat} {v : Int32} (e : v = F 15 i) : ∀ h, Wd G (adr, Sc, (n, P, F), mu, g) h → Wd G (adr, Sc, (n, P, F), mu, g) (hu h (adr 10) (aI G 12 (upd (qRow n P F) (7 + i) v))) := fun h hh => by
  have z := pm_pond (i := i) (v := v) h hh
  rw [su_id e] at z
  exact z
theorem pmi_f {v : Int32} (e : v = F 16 0) : ∀ h, Wd G (adr, Sc, (n, P, F), mu, g) h → Wd G (adr, Sc, (n, P, F), mu, g) (hu h (adr 10) (aI G 12 (upd (qRow n P F) 2 v))) := fun h hh => by
  have z := pm_fund (v := v) h hh
  rw [su_id e] at z
  exact z
end
section
variable {K : KT} {G : GT} {A : Nat → Prop} {rt : Option FieldType} {rm : Room} {tb : List ExceptionTableEntry} {Q : State → Prop} {adr : Nat → Nat} {n P t b k0 c9 s9 : Nat} {F mu : Nat → Nat → Int32} {g : Nat → Int64} {z y kx : Int32}
set_option maxHeartbeats 4000000 in
set_option maxRecDepth 100000 in
theorem sg_adds (hl : K.l.stackTraces = false) (C : CX K G A RL cL_law 15 rt rm tb) (ht : t < 90) (hI : IV t n P F) (hn4 : n ≤ 4) (hrm : (16 ≤ rm.frames ∧ 654 ≤ rm.locals) ∧ c9 + 13 ≤ rm.cells ∧ s9 + 110 ≤ rm.slots)
    (kk : ∀ adr9 : Nat → Nat, (∀ x, x < 30 → x ≠ 2 → adr9 x = adr x) → ∀ (n9 P9 : Nat) (F9 m9 : Nat → Nat → Int32), IV (t + 1) n9 P9 F9 → WR K G A Q (Wd G (adr9, (n9, P9, F9), (n9, P9, F9), m9, g)) [some (.ref b), some (.ref (adr 0)), some (.ref (adr 10)), some (.ref (adr 5)), some (.ref (adr 6)), some (.ref (adr 7)), some (.ref (adr 8)), some (.ref (adr 9)), some (.int (nI t)), some (.int z), none, none, some (.int 1), none, none] (c9 + 13) (s9 + 110) 662 []) : WR K G A Q (Wd G (adr, (n, P, F), (n, P, F), mu, g)) [some (.ref b), some (.ref (adr 0)), some (.ref (adr 10)), some (.ref (adr 5)), some (.ref (adr 6)), some (.ref (adr 7)), some (.ref (adr 8)), some (.ref (adr 9)), some (.int (nI t)), some (.int z), some (.int y), some (.int kx), some (.int 1), none, none] c9 s9 111 [] := by
  obtain ⟨⟨hr1, hr2⟩, hr3, hr4⟩ := hrm
  have hn5 : n ≤ 5 := hI.2.1
  have hP5 : P ≤ 5 := hI.1.2.1
  refine R_aload_n (pc := 111) C dL_law_111 rfl ?_
  refine R_iload (pc := 112) C dL_law_112 rfl ?_
  refine R_iconst (pc := 114) C dL_law_114 (v := 4) (by decide) ?_
  refine R_ishr (pc := 115) C dL_law_115 ?_
  refine R_aload_n (pc := 116) C dL_law_116 rfl ?_
  refine R_aload_n (pc := 117) C dL_law_117 rfl ?_
  have hv := hI.1
  obtain ⟨-, -, -, -, -, z1, z2⟩ := hv
  refine R_callSN (pc := 118) C dL_law_118 (vs := [_, _, _, _]) (fun h hh => mL_adds hl hn4 (fun f h6 h12 => z1 f n h6 h12 (Nat.le_refl _)) (fun j hj => z2 _ (by omega)) h hh) ⟨k_2_20, k_2_21, k_2_12, k_2_22⟩ (sgn (nv := 4) rfl ⟨by decide +kernel, by decide +kernel, by decide +kernel⟩) ⟨⟨by omega, by omega⟩, ⟨by omega, by omega⟩, Nat.le_of_ble_eq_true rfl⟩ rfl rfl (fun h9 hh9 v9 => ?_)
  refine WR.pr (fun e9 => ?_)
  subst e9
  refine WR.ex (fun adr9 => WR.ex (fun a => WR.ex (fun d => WR.ex (fun x3 => WR.ex (fun x4 => WR.ex (fun x5 => WR.ex (fun x6 => WR.pr (fun hf => WR.pr (fun hadr => ?_)))))))))
  obtain ⟨ha, hd, hb5⟩ := hf
  show WR K G _ _ _ _ _ _ _ (.int _ :: _)
  refine R_istore (pc := 121) C dL_law_121 (Nat.le_of_ble_eq_true rfl) (lv' := [some (.ref _), some (.ref _), some (.ref _), some (.ref _), some (.ref _), some (.ref _), some (.ref _), some (.ref _), some (.int _), some (.int _), some (.int _), some (.int _), some (.int _), none, none]) rfl ?_
  refine R_goto (pc := 123) C dL_law_123 (tgt := 662) (by decide) ?_
  refine WR.ls (lv' := [some (.ref _), some (.ref _), some (.ref _), some (.ref _), some (.ref _), some (.ref _), some (.ref _), some (.ref _), some (.int _), some (.int _), none, none, some (.int _), none, none]) (ls_s (ls_s (ls_s (ls_s (ls_s (ls_s (ls_s (ls_s (ls_s (ls_s (ls_n (ls_n (ls_s (ls_n (ls_n ls_e))))))))))))))) ?_
  refine WR.wid (show _ ≤ c9 + 13 by omega) (show _ ≤ s9 + 110 by omega) ?_
  exact kk adr9 hadr _ _ _ _ (hI.add hn4 ha hd hb5)
set_option maxHeartbeats 4000000 in
set_option maxRecDepth 100000 in
theorem sg_plan (hl : K.l.stackTraces = false) (C : CX K G A RL cL_law 15 rt rm tb) (ht : t < 90) (hI : IV t n P F) (hk : k0 < n) (hrm : (16 ≤ rm.frames ∧ 654 ≤ rm.locals) ∧ c9 + 13 ≤ rm.cells ∧ s9 + 110 ≤ rm.slots)
    (kk : ∀ adr9 : Nat → Nat, (∀ x, x < 30 → x ≠ 2 → adr9 x = adr x) → ∀ (n9 P9 : Nat) (F9 m9 : Nat → Nat → Int32), IV (t + 1) n9 P9 F9 → WR K G A Q (Wd G (adr9, (n9, P9, F9), (n9, P9, F9), m9, g)) [some (.ref b), some (.ref (adr 0)), some (.ref (adr 10)), some (.ref (adr 5)), some (.ref (adr 6)), some (.ref (adr 7)), some (.ref (adr 8)), some (.ref (adr 9)), some (.int (nI t)), some (.int z), none, none, some (.int 1), none, none] (c9 + 13) (s9 + 110) 662 []) : WR K G A Q (Wd G (adr, (n, P, F), (n, P, F), mu, g)) [some (.ref b), some (.ref (adr 0)), some (.ref (adr 10)), some (.ref (adr 5)), some (.ref (adr 6)), some (.ref (adr 7)), some (.ref (adr 8)), some (.ref (adr 9)), some (.int (nI t)), some (.int z), some (.int y), some (.int (nI k0)), some (.int 1), none, none] c9 s9 132 [] := by
  obtain ⟨⟨hr1, hr2⟩, hr3, hr4⟩ := hrm
  have hn5 : n ≤ 5 := hI.2.1
  have hP5 : P ≤ 5 := hI.1.2.1
  refine R_aload_n (pc := 132) C dL_law_132 rfl ?_
  refine R_bipush (pc := 133) C dL_law_133 (v := 9) (by decide) ?_
  refine R_iload (pc := 135) C dL_law_135 rfl ?_
  refine R_imul (pc := 137) C dL_law_137 ?_
  refine R_bipush (pc := 138) C dL_law_138 (v := 6) (by decide) ?_
  refine R_iadd (pc := 140) C dL_law_140 ?_
  refine R_iald (pc := 141) C dL_law_141 (wmw) (i9 k0 6) (by omega) (by decide) (rdw (by omega)) ?_
  refine R_istore (pc := 142) C dL_law_142 (Nat.le_of_ble_eq_true rfl) (lv' := [some (.ref _), some (.ref _), some (.ref _), some (.ref _), some (.ref _), some (.ref _), some (.ref _), some (.ref _), some (.int _), some (.int _), some (.int _), some (.int _), some (.int _), some (.int _), none]) rfl ?_
  refine R_aload_n (pc := 144) C dL_law_144 rfl ?_
  refine R_bipush (pc := 145) C dL_law_145 (v := 9) (by decide) ?_
  refine R_iload (pc := 147) C dL_law_147 rfl ?_
  refine R_imul (pc := 149) C dL_law_149 ?_
  refine R_bipush (pc := 150) C dL_law_150 (v := 6) (by decide) ?_
  refine R_iadd (pc := 152) C dL_law_152 ?_
  refine R_iload (pc := 153) C dL_law_153 rfl ?_
  refine R_bipush (pc := 155) C dL_law_155 (v := 8) (by decide) ?_
  refine R_ishr (pc := 157) C dL_law_157 ?_
  refine R_iload (pc := 158) C dL_law_158 rfl ?_
  refine R_bipush (pc := 160) C dL_law_160 (v := 14) (by decide) ?_
  refine R_ishr (pc := 162) C dL_law_162 ?_
  refine R_iconst (pc := 163) C dL_law_163 (v := 3) (by decide) ?_
  refine R_callP (pc := 164) C dL_law_164 (vs := [_, _]) (mL_low hl (by decide)) ⟨k_2_16, k_2_17, k_2_12, k_2_18⟩ (sgn (nv := 2) rfl ⟨by decide +kernel, by decide +kernel, by decide +kernel⟩) ⟨⟨by omega, by omega⟩, ⟨by omega, by omega⟩, Nat.le_of_ble_eq_true rfl⟩ rfl rfl ?_
  refine R_if_ne (pc := 167) C dL_law_167 (tgt := 176) (by decide) (fun c167 => ?_) (fun c167 => ?_)
  · refine R_bipush (pc := 176) C dL_law_176 (v := 120) (by decide) ?_
    refine R_callP (pc := 178) C dL_law_178 (vs := [_, _]) (mL_low hl (by decide)) ⟨k_2_16, k_2_17, k_2_12, k_2_18⟩ (sgn (nv := 2) rfl ⟨by decide +kernel, by decide +kernel, by decide +kernel⟩) ⟨⟨by omega, by omega⟩, ⟨by omega, by omega⟩, Nat.le_of_ble_eq_true rfl⟩ rfl rfl ?_
    obtain ⟨am, ham, eam⟩ : ∃ am, am < 2001 ∧ lowV (z >>> ((8 : Int32) &&& 31)) 120 = nI am := by obtain ⟨q, hq, e⟩ := lowV_ex (z >>> ((8 : Int32) &&& 31)) (m := 120) (by omega) (by omega); exact ⟨q, by omega, e⟩
    rw [eam]
    refine R_iast (pc := 181) C dL_law_181 (wmw) (i9 k0 6) (by omega) (by decide) (pm_w (f := 6) (by omega)) ?_
    refine R_aload_n (pc := 182) C dL_law_182 rfl ?_
    refine R_iload (pc := 183) C dL_law_183 rfl ?_
    refine R_aload_n (pc := 185) C dL_law_185 rfl ?_
    refine R_bipush (pc := 186) C dL_law_186 (v := 9) (by decide) ?_
    refine R_iload (pc := 188) C dL_law_188 rfl ?_
    refine R_imul (pc := 190) C dL_law_190 ?_
    refine R_bipush (pc := 191) C dL_law_191 (v := 6) (by decide) ?_
    refine R_iadd (pc := 193) C dL_law_193 ?_
    refine R_iald (pc := 194) C dL_law_194 (wmw) (i9 k0 6) (by omega) (by decide) ((rdw (by omega)).trans su_s) ?_
    refine R_callVT (pc := 195) C dL_law_195 (vs := [_, _]) (fun h hh => mX1_plan hl (show n ≤ 8 by omega) h hh) (isOb_of (wc0) rfl) ⟨k_16_16, k_16_17, k_16_18, k_1_2, k_16_19⟩ (sgn (nv := 2) rfl ⟨by decide +kernel, by decide +kernel, by decide +kernel⟩) ⟨⟨by omega, by omega⟩, ⟨by omega, by omega⟩, Nat.le_of_ble_eq_true rfl⟩ rfl rfl (fun h9 hh9 E9 => X_pr (fun q9 => (exA_0 q9 (kPlan_0 (m := 2000) (show n ≤ 8 by omega) hk (by omega) (by omega))).elim)) (fun h9 hh9 v9 => ?_)
    refine WR.pr (fun e9 => ?_)
    obtain ⟨-, e9⟩ := e9
    subst e9
    show WR K G _ _ _ _ _ _ _ (.int _ :: _)
    rw [ix_nI (show k0 < 2 ^ 31 by omega)]
    refine R_iload (pc := 198) C dL_law_198 rfl ?_
    refine R_icmp_ne (pc := 200) C dL_law_200 (tgt := 207) (by decide) (fun c200 => absurd c200 (fun q => q rfl)) (fun c200 => ?_)
    refine R_iconst (pc := 203) C dL_law_203 (v := 1) (by decide) ?_
    refine R_goto (pc := 204) C dL_law_204 (tgt := 208) (by decide) ?_
    refine R_istore (pc := 208) C dL_law_208 (Nat.le_of_ble_eq_true rfl) (lv' := [some (.ref _), some (.ref _), some (.ref _), some (.ref _), some (.ref _), some (.ref _), some (.ref _), some (.ref _), some (.int _), some (.int _), some (.int _), some (.int _), some (.int _), some (.int _), none]) rfl ?_
    refine R_goto (pc := 210) C dL_law_210 (tgt := 662) (by decide) ?_
    refine WR.ls (lv' := [some (.ref _), some (.ref _), some (.ref _), some (.ref _), some (.ref _), some (.ref _), some (.ref _), some (.ref _), some (.int _), some (.int _), none, none, some (.int _), none, none]) (ls_s (ls_s (ls_s (ls_s (ls_s (ls_s (ls_s (ls_s (ls_s (ls_s (ls_n (ls_n (ls_s (ls_n (ls_n ls_e))))))))))))))) ?_
    refine WR.wid (show _ ≤ c9 + 13 by omega) (show _ ≤ s9 + 110 by omega) ?_
    exact kk adr (fun _ _ _ => rfl) _ _ _ _ (hI.plan hk (by omega))
  · refine R_sipush (pc := 170) C dL_law_170 (v := 2001) (by decide) ?_
    refine R_goto (pc := 173) C dL_law_173 (tgt := 178) (by decide) ?_
    refine R_callP (pc := 178) C dL_law_178 (vs := [_, _]) (mL_low hl (by decide)) ⟨k_2_16, k_2_17, k_2_12, k_2_18⟩ (sgn (nv := 2) rfl ⟨by decide +kernel, by decide +kernel, by decide +kernel⟩) ⟨⟨by omega, by omega⟩, ⟨by omega, by omega⟩, Nat.le_of_ble_eq_true rfl⟩ rfl rfl ?_
    obtain ⟨am, ham, eam⟩ : ∃ am, am < 2001 ∧ lowV (z >>> ((8 : Int32) &&& 31)) 2001 = nI am := by obtain ⟨q, hq, e⟩ := lowV_ex (z >>> ((8 : Int32) &&& 31)) (m := 2001) (by omega) (by omega); exact ⟨q, by omega, e⟩
    rw [eam]
    refine R_iast (pc := 181) C dL_law_181 (wmw) (i9 k0 6) (by omega) (by decide) (pm_w (f := 6) (by omega)) ?_
    refine R_aload_n (pc := 182) C dL_law_182 rfl ?_
    refine R_iload (pc := 183) C dL_law_183 rfl ?_
    refine R_aload_n (pc := 185) C dL_law_185 rfl ?_
    refine R_bipush (pc := 186) C dL_law_186 (v := 9) (by decide) ?_
    refine R_iload (pc := 188) C dL_law_188 rfl ?_
    refine R_imul (pc := 190) C dL_law_190 ?_
    refine R_bipush (pc := 191) C dL_law_191 (v := 6) (by decide) ?_
    refine R_iadd (pc := 193) C dL_law_193 ?_
    refine R_iald (pc := 194) C dL_law_194 (wmw) (i9 k0 6) (by omega) (by decide) ((rdw (by omega)).trans su_s) ?_
    refine R_callVT (pc := 195) C dL_law_195 (vs := [_, _]) (fun h hh => mX1_plan hl (show n ≤ 8 by omega) h hh) (isOb_of (wc0) rfl) ⟨k_16_16, k_16_17, k_16_18, k_1_2, k_16_19⟩ (sgn (nv := 2) rfl ⟨by decide +kernel, by decide +kernel, by decide +kernel⟩) ⟨⟨by omega, by omega⟩, ⟨by omega, by omega⟩, Nat.le_of_ble_eq_true rfl⟩ rfl rfl (fun h9 hh9 E9 => X_pr (fun q9 => (exA_0 q9 (kPlan_0 (m := 2000) (show n ≤ 8 by omega) hk (by omega) (by omega))).elim)) (fun h9 hh9 v9 => ?_)
    refine WR.pr (fun e9 => ?_)
    obtain ⟨-, e9⟩ := e9
    subst e9
    show WR K G _ _ _ _ _ _ _ (.int _ :: _)
    rw [ix_nI (show k0 < 2 ^ 31 by omega)]
    refine R_iload (pc := 198) C dL_law_198 rfl ?_
    refine R_icmp_ne (pc := 200) C dL_law_200 (tgt := 207) (by decide) (fun c200 => absurd c200 (fun q => q rfl)) (fun c200 => ?_)
    refine R_iconst (pc := 203) C dL_law_203 (v := 1) (by decide) ?_
    refine R_goto (pc := 204) C dL_law_204 (tgt := 208) (by decide) ?_
    refine R_istore (pc := 208) C dL_law_208 (Nat.le_of_ble_eq_true rfl) (lv' := [some (.ref _), some (.ref _), some (.ref _), some (.ref _), some (.ref _), some (.ref _), some (.ref _), some (.ref _), some (.int _), some (.int _), some (.int _), some (.int _), some (.int _), some (.int _), none]) rfl ?_
    refine R_goto (pc := 210) C dL_law_210 (tgt := 662) (by decide) ?_
    refine WR.ls (lv' := [some (.ref _), some (.ref _), some (.ref _), some (.ref _), some (.ref _), some (.ref _), some (.ref _), some (.ref _), some (.int _), some (.int _), none, none, some (.int _), none, none]) (ls_s (ls_s (ls_s (ls_s (ls_s (ls_s (ls_s (ls_s (ls_s (ls_s (ls_n (ls_n (ls_s (ls_n (ls_n ls_e))))))))))))))) ?_
    refine WR.wid (show _ ≤ c9 + 13 by omega) (show _ ≤ s9 + 110 by omega) ?_
    exact kk adr (fun _ _ _ => rfl) _ _ _ _ (hI.plan hk (by omega))
set_option maxHeartbeats 4000000 in
set_option maxRecDepth 100000 in
theorem sg_power (hl : K.l.stackTraces = false) (C : CX K G A RL cL_law 15 rt rm tb) (ht : t < 90) (hI : IV t n P F) (hk : k0 < n) (hrm : (16 ≤ rm.frames ∧ 654 ≤ rm.locals) ∧ c9 + 13 ≤ rm.cells ∧ s9 + 110 ≤ rm.slots)
    (kk : ∀ adr9 : Nat → Nat, (∀ x, x < 30 → x ≠ 2 → adr9 x = adr x) → ∀ (n9 P9 : Nat) (F9 m9 : Nat → Nat → Int32), IV (t + 1) n9 P9 F9 → WR K G A Q (Wd G (adr9, (n9, P9, F9), (n9, P9, F9), m9, g)) [some (.ref b), some (.ref (adr 0)), some (.ref (adr 10)), some (.ref (adr 5)), some (.ref (adr 6)), some (.ref (adr 7)), some (.ref (adr 8)), some (.ref (adr 9)), some (.int (nI t)), some (.int z), none, none, some (.int 1), none, none] (c9 + 13) (s9 + 110) 662 []) : WR K G A Q (Wd G (adr, (n, P, F), (n, P, F), mu, g)) [some (.ref b), some (.ref (adr 0)), some (.ref (adr 10)), some (.ref (adr 5)), some (.ref (adr 6)), some (.ref (adr 7)), some (.ref (adr 8)), some (.ref (adr 9)), some (.int (nI t)), some (.int z), some (.int y), some (.int (nI k0)), some (.int 1), none, none] c9 s9 371 [] := by
  obtain ⟨⟨hr1, hr2⟩, hr3, hr4⟩ := hrm
  have hn5 : n ≤ 5 := hI.2.1
  have hP5 : P ≤ 5 := hI.1.2.1
  refine R_aload_n (pc := 371) C dL_law_371 rfl ?_
  refine R_bipush (pc := 372) C dL_law_372 (v := 9) (by decide) ?_
  refine R_iload (pc := 374) C dL_law_374 rfl ?_
  refine R_imul (pc := 376) C dL_law_376 ?_
  refine R_bipush (pc := 377) C dL_law_377 (v := 8) (by decide) ?_
  refine R_iadd (pc := 379) C dL_law_379 ?_
  refine R_iald (pc := 380) C dL_law_380 (wmw) (i9 k0 8) (by omega) (by decide) (rdw (by omega)) ?_
  refine R_istore (pc := 381) C dL_law_381 (Nat.le_of_ble_eq_true rfl) (lv' := [some (.ref _), some (.ref _), some (.ref _), some (.ref _), some (.ref _), some (.ref _), some (.ref _), some (.ref _), some (.int _), some (.int _), some (.int _), some (.int _), some (.int _), some (.int _), none]) rfl ?_
  refine R_aload_n (pc := 383) C dL_law_383 rfl ?_
  refine R_bipush (pc := 384) C dL_law_384 (v := 9) (by decide) ?_
  refine R_iload (pc := 386) C dL_law_386 rfl ?_
  refine R_imul (pc := 388) C dL_law_388 ?_
  refine R_bipush (pc := 389) C dL_law_389 (v := 8) (by decide) ?_
  refine R_iadd (pc := 391) C dL_law_391 ?_
  refine R_iload (pc := 392) C dL_law_392 rfl ?_
  refine R_bipush (pc := 394) C dL_law_394 (v := 9) (by decide) ?_
  refine R_ishr (pc := 396) C dL_law_396 ?_
  refine R_iload (pc := 397) C dL_law_397 rfl ?_
  refine R_bipush (pc := 399) C dL_law_399 (v := 14) (by decide) ?_
  refine R_ishr (pc := 401) C dL_law_401 ?_
  refine R_iconst (pc := 402) C dL_law_402 (v := 3) (by decide) ?_
  refine R_callP (pc := 403) C dL_law_403 (vs := [_, _]) (mL_low hl (by decide)) ⟨k_2_16, k_2_17, k_2_12, k_2_18⟩ (sgn (nv := 2) rfl ⟨by decide +kernel, by decide +kernel, by decide +kernel⟩) ⟨⟨by omega, by omega⟩, ⟨by omega, by omega⟩, Nat.le_of_ble_eq_true rfl⟩ rfl rfl ?_
  refine R_if_ne (pc := 406) C dL_law_406 (tgt := 415) (by decide) (fun c406 => ?_) (fun c406 => ?_)
  · refine R_bipush (pc := 415) C dL_law_415 (v := 40) (by decide) ?_
    refine R_callP (pc := 417) C dL_law_417 (vs := [_, _]) (mL_low hl (by decide)) ⟨k_2_16, k_2_17, k_2_12, k_2_18⟩ (sgn (nv := 2) rfl ⟨by decide +kernel, by decide +kernel, by decide +kernel⟩) ⟨⟨by omega, by omega⟩, ⟨by omega, by omega⟩, Nat.le_of_ble_eq_true rfl⟩ rfl rfl ?_
    obtain ⟨am, ham, eam⟩ : ∃ am, am < 1001 ∧ lowV (z >>> ((9 : Int32) &&& 31)) 40 = nI am := by obtain ⟨q, hq, e⟩ := lowV_ex (z >>> ((9 : Int32) &&& 31)) (m := 40) (by omega) (by omega); exact ⟨q, by omega, e⟩
    rw [eam]
    refine R_iast (pc := 420) C dL_law_420 (wmw) (i9 k0 8) (by omega) (by decide) (pm_w (f := 8) (by omega)) ?_
    refine R_aload_n (pc := 421) C dL_law_421 rfl ?_
    refine R_iload (pc := 422) C dL_law_422 rfl ?_
    refine R_aload_n (pc := 424) C dL_law_424 rfl ?_
    refine R_bipush (pc := 425) C dL_law_425 (v := 9) (by decide) ?_
    refine R_iload (pc := 427) C dL_law_427 rfl ?_
    refine R_imul (pc := 429) C dL_law_429 ?_
    refine R_bipush (pc := 430) C dL_law_430 (v := 8) (by decide) ?_
    refine R_iadd (pc := 432) C dL_law_432 ?_
    refine R_iald (pc := 433) C dL_law_433 (wmw) (i9 k0 8) (by omega) (by decide) ((rdw (by omega)).trans su_s) ?_
    refine R_callVT (pc := 434) C dL_law_434 (vs := [_, _]) (fun h hh => mX1_power hl (show n ≤ 8 by omega) h hh) (isOb_of (wc0) rfl) ⟨k_18_0, k_18_1, k_18_2, k_1_2, k_18_3⟩ (sgn (nv := 2) rfl ⟨by decide +kernel, by decide +kernel, by decide +kernel⟩) ⟨⟨by omega, by omega⟩, ⟨by omega, by omega⟩, Nat.le_of_ble_eq_true rfl⟩ rfl rfl (fun h9 hh9 E9 => X_pr (fun q9 => (exA_0 q9 (kPlan_0 (m := 1000) (show n ≤ 8 by omega) hk (by omega) (by omega))).elim)) (fun h9 hh9 v9 => ?_)
    refine WR.pr (fun e9 => ?_)
    obtain ⟨-, e9⟩ := e9
    subst e9
    show WR K G _ _ _ _ _ _ _ (.int _ :: _)
    rw [ix_nI (show k0 < 2 ^ 31 by omega)]
    refine R_iload (pc := 437) C dL_law_437 rfl ?_
    refine R_icmp_ne (pc := 439) C dL_law_439 (tgt := 446) (by decide) (fun c439 => absurd c439 (fun q => q rfl)) (fun c439 => ?_)
    refine R_iconst (pc := 442) C dL_law_442 (v := 1) (by decide) ?_
    refine R_goto (pc := 443) C dL_law_443 (tgt := 447) (by decide) ?_
    refine R_istore (pc := 447) C dL_law_447 (Nat.le_of_ble_eq_true rfl) (lv' := [some (.ref _), some (.ref _), some (.ref _), some (.ref _), some (.ref _), some (.ref _), some (.ref _), some (.ref _), some (.int _), some (.int _), some (.int _), some (.int _), some (.int _), some (.int _), none]) rfl ?_
    refine R_goto (pc := 449) C dL_law_449 (tgt := 662) (by decide) ?_
    refine WR.ls (lv' := [some (.ref _), some (.ref _), some (.ref _), some (.ref _), some (.ref _), some (.ref _), some (.ref _), some (.ref _), some (.int _), some (.int _), none, none, some (.int _), none, none]) (ls_s (ls_s (ls_s (ls_s (ls_s (ls_s (ls_s (ls_s (ls_s (ls_s (ls_n (ls_n (ls_s (ls_n (ls_n ls_e))))))))))))))) ?_
    refine WR.wid (show _ ≤ c9 + 13 by omega) (show _ ≤ s9 + 110 by omega) ?_
    exact kk adr (fun _ _ _ => rfl) _ _ _ _ (hI.power hk (by omega))
  · refine R_sipush (pc := 409) C dL_law_409 (v := 1001) (by decide) ?_
    refine R_goto (pc := 412) C dL_law_412 (tgt := 417) (by decide) ?_
    refine R_callP (pc := 417) C dL_law_417 (vs := [_, _]) (mL_low hl (by decide)) ⟨k_2_16, k_2_17, k_2_12, k_2_18⟩ (sgn (nv := 2) rfl ⟨by decide +kernel, by decide +kernel, by decide +kernel⟩) ⟨⟨by omega, by omega⟩, ⟨by omega, by omega⟩, Nat.le_of_ble_eq_true rfl⟩ rfl rfl ?_
    obtain ⟨am, ham, eam⟩ : ∃ am, am < 1001 ∧ lowV (z >>> ((9 : Int32) &&& 31)) 1001 = nI am := by obtain ⟨q, hq, e⟩ := lowV_ex (z >>> ((9 : Int32) &&& 31)) (m := 1001) (by omega) (by omega); exact ⟨q, by omega, e⟩
    rw [eam]
    refine R_iast (pc := 420) C dL_law_420 (wmw) (i9 k0 8) (by omega) (by decide) (pm_w (f := 8) (by omega)) ?_
    refine R_aload_n (pc := 421) C dL_law_421 rfl ?_
    refine R_iload (pc := 422) C dL_law_422 rfl ?_
    refine R_aload_n (pc := 424) C dL_law_424 rfl ?_
    refine R_bipush (pc := 425) C dL_law_425 (v := 9) (by decide) ?_
    refine R_iload (pc := 427) C dL_law_427 rfl ?_
    refine R_imul (pc := 429) C dL_law_429 ?_
    refine R_bipush (pc := 430) C dL_law_430 (v := 8) (by decide) ?_
    refine R_iadd (pc := 432) C dL_law_432 ?_
    refine R_iald (pc := 433) C dL_law_433 (wmw) (i9 k0 8) (by omega) (by decide) ((rdw (by omega)).trans su_s) ?_
    refine R_callVT (pc := 434) C dL_law_434 (vs := [_, _]) (fun h hh => mX1_power hl (show n ≤ 8 by omega) h hh) (isOb_of (wc0) rfl) ⟨k_18_0, k_18_1, k_18_2, k_1_2, k_18_3⟩ (sgn (nv := 2) rfl ⟨by decide +kernel, by decide +kernel, by decide +kernel⟩) ⟨⟨by omega, by omega⟩, ⟨by omega, by omega⟩, Nat.le_of_ble_eq_true rfl⟩ rfl rfl (fun h9 hh9 E9 => X_pr (fun q9 => (exA_0 q9 (kPlan_0 (m := 1000) (show n ≤ 8 by omega) hk (by omega) (by omega))).elim)) (fun h9 hh9 v9 => ?_)
    refine WR.pr (fun e9 => ?_)
    obtain ⟨-, e9⟩ := e9
    subst e9
    show WR K G _ _ _ _ _ _ _ (.int _ :: _)
    rw [ix_nI (show k0 < 2 ^ 31 by omega)]
    refine R_iload (pc := 437) C dL_law_437 rfl ?_
    refine R_icmp_ne (pc := 439) C dL_law_439 (tgt := 446) (by decide) (fun c439 => absurd c439 (fun q => q rfl)) (fun c439 => ?_)
    refine R_iconst (pc := 442) C dL_law_442 (v := 1) (by decide) ?_
    refine R_goto (pc := 443) C dL_law_443 (tgt := 447) (by decide) ?_
    refine R_istore (pc := 447) C dL_law_447 (Nat.le_of_ble_eq_true rfl) (lv' := [some (.ref _), some (.ref _), some (.ref _), some (.ref _), some (.ref _), some (.ref _), some (.ref _), some (.ref _), some (.int _), some (.int _), some (.int _), some (.int _), some (.int _), some (.int _), none]) rfl ?_
    refine R_goto (pc := 449) C dL_law_449 (tgt := 662) (by decide) ?_
    refine WR.ls (lv' := [some (.ref _), some (.ref _), some (.ref _), some (.ref _), some (.ref _), some (.ref _), some (.ref _), some (.ref _), some (.int _), some (.int _), none, none, some (.int _), none, none]) (ls_s (ls_s (ls_s (ls_s (ls_s (ls_s (ls_s (ls_s (ls_s (ls_s (ls_n (ls_n (ls_s (ls_n (ls_n ls_e))))))))))))))) ?_
    refine WR.wid (show _ ≤ c9 + 13 by omega) (show _ ≤ s9 + 110 by omega) ?_
    exact kk adr (fun _ _ _ => rfl) _ _ _ _ (hI.power hk (by omega))
set_option maxHeartbeats 4000000 in
set_option maxRecDepth 100000 in
theorem sg_rech (hl : K.l.stackTraces = false) (C : CX K G A RL cL_law 15 rt rm tb) (ht : t < 90) (hI : IV t n P F)  (hrm : (16 ≤ rm.frames ∧ 654 ≤ rm.locals) ∧ c9 + 13 ≤ rm.cells ∧ s9 + 110 ≤ rm.slots)
    (kk : ∀ adr9 : Nat → Nat, (∀ x, x < 30 → x ≠ 2 → adr9 x = adr x) → ∀ (n9 P9 : Nat) (F9 m9 : Nat → Nat → Int32), IV (t + 1) n9 P9 F9 → WR K G A Q (Wd G (adr9, (n9, P9, F9), (n9, P9, F9), m9, g)) [some (.ref b), some (.ref (adr 0)), some (.ref (adr 10)), some (.ref (adr 5)), some (.ref (adr 6)), some (.ref (adr 7)), some (.ref (adr 8)), some (.ref (adr 9)), some (.int (nI t)), some (.int z), none, none, some (.int 1), none, none] (c9 + 13) (s9 + 110) 662 []) : WR K G A Q (Wd G (adr, (n, P, F), (n, P, F), mu, g)) [some (.ref b), some (.ref (adr 0)), some (.ref (adr 10)), some (.ref (adr 5)), some (.ref (adr 6)), some (.ref (adr 7)), some (.ref (adr 8)), some (.ref (adr 9)), some (.int (nI t)), some (.int z), some (.int y), some (.int kx), some (.int 1), none, none] c9 s9 219 [] := by
  obtain ⟨⟨hr1, hr2⟩, hr3, hr4⟩ := hrm
  have hn5 : n ≤ 5 := hI.2.1
  have hP5 : P ≤ 5 := hI.1.2.1
  refine R_iload (pc := 219) C dL_law_219 rfl ?_
  refine R_iconst (pc := 221) C dL_law_221 (v := 5) (by decide) ?_
  refine R_ishr (pc := 222) C dL_law_222 ?_
  refine R_iconst (pc := 223) C dL_law_223 (v := 3) (by decide) ?_
  refine R_callP (pc := 224) C dL_law_224 (vs := [_, _]) (mL_low hl (by decide)) ⟨k_2_16, k_2_17, k_2_12, k_2_18⟩ (sgn (nv := 2) rfl ⟨by decide +kernel, by decide +kernel, by decide +kernel⟩) ⟨⟨by omega, by omega⟩, ⟨by omega, by omega⟩, Nat.le_of_ble_eq_true rfl⟩ rfl rfl ?_
  obtain ⟨a, ha, ea⟩ : ∃ a, a < 3 ∧ lowV (z >>> ((5 : Int32) &&& 31)) 3 = nI a := lowV_ex _ (m := 3) (by omega) (by omega)
  rw [ea]
  refine R_istore (pc := 227) C dL_law_227 (Nat.le_of_ble_eq_true rfl) (lv' := [some (.ref _), some (.ref _), some (.ref _), some (.ref _), some (.ref _), some (.ref _), some (.ref _), some (.ref _), some (.int _), some (.int _), some (.int _), some (.int _), some (.int _), some (.int _), none]) rfl ?_
  refine R_aload_n (pc := 229) C dL_law_229 rfl ?_
  refine R_iconst (pc := 230) C dL_law_230 (v := 4) (by decide) ?_
  refine R_iload (pc := 231) C dL_law_231 rfl ?_
  refine R_iadd (pc := 233) C dL_law_233 ?_
  refine R_iald (pc := 234) C dL_law_234 (wmq) (nI_add 4 a) (by omega) (by decide) (rdq4 ha) ?_
  refine R_istore (pc := 235) C dL_law_235 (Nat.le_of_ble_eq_true rfl) (lv' := [some (.ref _), some (.ref _), some (.ref _), some (.ref _), some (.ref _), some (.ref _), some (.ref _), some (.ref _), some (.int _), some (.int _), some (.int _), some (.int _), some (.int _), some (.int _), some (.int _)]) rfl ?_
  refine R_aload_n (pc := 237) C dL_law_237 rfl ?_
  refine R_iconst (pc := 238) C dL_law_238 (v := 4) (by decide) ?_
  refine R_iload (pc := 239) C dL_law_239 rfl ?_
  refine R_iadd (pc := 241) C dL_law_241 ?_
  refine R_iload (pc := 242) C dL_law_242 rfl ?_
  refine R_bipush (pc := 244) C dL_law_244 (v := 8) (by decide) ?_
  refine R_ishr (pc := 246) C dL_law_246 ?_
  refine R_iload (pc := 247) C dL_law_247 rfl ?_
  refine R_bipush (pc := 249) C dL_law_249 (v := 14) (by decide) ?_
  refine R_ishr (pc := 251) C dL_law_251 ?_
  refine R_iconst (pc := 252) C dL_law_252 (v := 4) (by decide) ?_
  refine R_callP (pc := 253) C dL_law_253 (vs := [_, _]) (mL_low hl (by decide)) ⟨k_2_16, k_2_17, k_2_12, k_2_18⟩ (sgn (nv := 2) rfl ⟨by decide +kernel, by decide +kernel, by decide +kernel⟩) ⟨⟨by omega, by omega⟩, ⟨by omega, by omega⟩, Nat.le_of_ble_eq_true rfl⟩ rfl rfl ?_
  refine R_if_ne (pc := 256) C dL_law_256 (tgt := 265) (by decide) (fun c256 => ?_) (fun c256 => ?_)
  · refine R_bipush (pc := 265) C dL_law_265 (v := 90) (by decide) ?_
    refine R_callP (pc := 267) C dL_law_267 (vs := [_, _]) (mL_low hl (by decide)) ⟨k_2_16, k_2_17, k_2_12, k_2_18⟩ (sgn (nv := 2) rfl ⟨by decide +kernel, by decide +kernel, by decide +kernel⟩) ⟨⟨by omega, by omega⟩, ⟨by omega, by omega⟩, Nat.le_of_ble_eq_true rfl⟩ rfl rfl ?_
    obtain ⟨am, ham, eam⟩ : ∃ am, am < 1001 ∧ lowV (z >>> ((8 : Int32) &&& 31)) 90 = nI am := by obtain ⟨q, hq, e⟩ := lowV_ex (z >>> ((8 : Int32) &&& 31)) (m := 90) (by omega) (by omega); exact ⟨q, by omega, e⟩
    rw [eam]
    refine R_iast (pc := 270) C dL_law_270 (wmq) (nI_add 4 a) (by omega) (by decide) (pm_rech ha) ?_
    refine R_aload_n (pc := 271) C dL_law_271 rfl ?_
    refine R_iload (pc := 272) C dL_law_272 rfl ?_
    refine R_aload_n (pc := 274) C dL_law_274 rfl ?_
    refine R_iconst (pc := 275) C dL_law_275 (v := 4) (by decide) ?_
    refine R_iload (pc := 276) C dL_law_276 rfl ?_
    refine R_iadd (pc := 278) C dL_law_278 ?_
    refine R_iald (pc := 279) C dL_law_279 (wmq) (nI_add 4 a) (by omega) (by decide) ((rdq4 ha).trans su_s) ?_
    refine R_callVT (pc := 280) C dL_law_280 (vs := [_, _]) (fun h hh => mX1_setRecharge hl h hh) (isOb_of (wc0) rfl) ⟨k_17_15, k_17_16, k_17_17, k_1_2, k_17_18⟩ (sgn (nv := 2) rfl ⟨by decide +kernel, by decide +kernel, by decide +kernel⟩) ⟨⟨by omega, by omega⟩, ⟨by omega, by omega⟩, Nat.le_of_ble_eq_true rfl⟩ rfl rfl (fun h9 hh9 E9 => X_pr (fun q9 => (exA_0 q9 (kRech_0 ha (by omega))).elim)) (fun h9 hh9 v9 => ?_)
    refine WR.pr (fun e9 => ?_)
    obtain ⟨-, e9⟩ := e9
    subst e9
    show WR K G _ _ _ _ _ _ _ (.int _ :: _)
    rw [ix_nI (show a < 2 ^ 31 by omega)]
    refine R_iload (pc := 283) C dL_law_283 rfl ?_
    refine R_icmp_ne (pc := 285) C dL_law_285 (tgt := 292) (by decide) (fun c285 => absurd c285 (fun q => q rfl)) (fun c285 => ?_)
    refine R_iconst (pc := 288) C dL_law_288 (v := 1) (by decide) ?_
    refine R_goto (pc := 289) C dL_law_289 (tgt := 293) (by decide) ?_
    refine R_istore (pc := 293) C dL_law_293 (Nat.le_of_ble_eq_true rfl) (lv' := [some (.ref _), some (.ref _), some (.ref _), some (.ref _), some (.ref _), some (.ref _), some (.ref _), some (.ref _), some (.int _), some (.int _), some (.int _), some (.int _), some (.int _), some (.int _), some (.int _)]) rfl ?_
    refine R_goto (pc := 295) C dL_law_295 (tgt := 662) (by decide) ?_
    refine WR.ls (lv' := [some (.ref _), some (.ref _), some (.ref _), some (.ref _), some (.ref _), some (.ref _), some (.ref _), some (.ref _), some (.int _), some (.int _), none, none, some (.int _), none, none]) (ls_s (ls_s (ls_s (ls_s (ls_s (ls_s (ls_s (ls_s (ls_s (ls_s (ls_n (ls_n (ls_s (ls_n (ls_n ls_e))))))))))))))) ?_
    refine WR.wid (show _ ≤ c9 + 13 by omega) (show _ ≤ s9 + 110 by omega) ?_
    exact kk adr (fun _ _ _ => rfl) _ _ _ _ (hI.rech)
  · refine R_sipush (pc := 259) C dL_law_259 (v := 1001) (by decide) ?_
    refine R_goto (pc := 262) C dL_law_262 (tgt := 267) (by decide) ?_
    refine R_callP (pc := 267) C dL_law_267 (vs := [_, _]) (mL_low hl (by decide)) ⟨k_2_16, k_2_17, k_2_12, k_2_18⟩ (sgn (nv := 2) rfl ⟨by decide +kernel, by decide +kernel, by decide +kernel⟩) ⟨⟨by omega, by omega⟩, ⟨by omega, by omega⟩, Nat.le_of_ble_eq_true rfl⟩ rfl rfl ?_
    obtain ⟨am, ham, eam⟩ : ∃ am, am < 1001 ∧ lowV (z >>> ((8 : Int32) &&& 31)) 1001 = nI am := by obtain ⟨q, hq, e⟩ := lowV_ex (z >>> ((8 : Int32) &&& 31)) (m := 1001) (by omega) (by omega); exact ⟨q, by omega, e⟩
    rw [eam]
    refine R_iast (pc := 270) C dL_law_270 (wmq) (nI_add 4 a) (by omega) (by decide) (pm_rech ha) ?_
    refine R_aload_n (pc := 271) C dL_law_271 rfl ?_
    refine R_iload (pc := 272) C dL_law_272 rfl ?_
    refine R_aload_n (pc := 274) C dL_law_274 rfl ?_
    refine R_iconst (pc := 275) C dL_law_275 (v := 4) (by decide) ?_
    refine R_iload (pc := 276) C dL_law_276 rfl ?_
    refine R_iadd (pc := 278) C dL_law_278 ?_
    refine R_iald (pc := 279) C dL_law_279 (wmq) (nI_add 4 a) (by omega) (by decide) ((rdq4 ha).trans su_s) ?_
    refine R_callVT (pc := 280) C dL_law_280 (vs := [_, _]) (fun h hh => mX1_setRecharge hl h hh) (isOb_of (wc0) rfl) ⟨k_17_15, k_17_16, k_17_17, k_1_2, k_17_18⟩ (sgn (nv := 2) rfl ⟨by decide +kernel, by decide +kernel, by decide +kernel⟩) ⟨⟨by omega, by omega⟩, ⟨by omega, by omega⟩, Nat.le_of_ble_eq_true rfl⟩ rfl rfl (fun h9 hh9 E9 => X_pr (fun q9 => (exA_0 q9 (kRech_0 ha (by omega))).elim)) (fun h9 hh9 v9 => ?_)
    refine WR.pr (fun e9 => ?_)
    obtain ⟨-, e9⟩ := e9
    subst e9
    show WR K G _ _ _ _ _ _ _ (.int _ :: _)
    rw [ix_nI (show a < 2 ^ 31 by omega)]
    refine R_iload (pc := 283) C dL_law_283 rfl ?_
    refine R_icmp_ne (pc := 285) C dL_law_285 (tgt := 292) (by decide) (fun c285 => absurd c285 (fun q => q rfl)) (fun c285 => ?_)
    refine R_iconst (pc := 288) C dL_law_288 (v := 1) (by decide) ?_
    refine R_goto (pc := 289) C dL_law_289 (tgt := 293) (by decide) ?_
    refine R_istore (pc := 293) C dL_law_293 (Nat.le_of_ble_eq_true rfl) (lv' := [some (.ref _), some (.ref _), some (.ref _), some (.ref _), some (.ref _), some (.ref _), some (.ref _), some (.ref _), some (.int _), some (.int _), some (.int _), some (.int _), some (.int _), some (.int _), some (.int _)]) rfl ?_
    refine R_goto (pc := 295) C dL_law_295 (tgt := 662) (by decide) ?_
    refine WR.ls (lv' := [some (.ref _), some (.ref _), some (.ref _), some (.ref _), some (.ref _), some (.ref _), some (.ref _), some (.ref _), some (.int _), some (.int _), none, none, some (.int _), none, none]) (ls_s (ls_s (ls_s (ls_s (ls_s (ls_s (ls_s (ls_s (ls_s (ls_s (ls_n (ls_n (ls_s (ls_n (ls_n ls_e))))))))))))))) ?_
    refine WR.wid (show _ ≤ c9 + 13 by omega) (show _ ≤ s9 + 110 by omega) ?_
    exact kk adr (fun _ _ _ => rfl) _ _ _ _ (hI.rech)
set_option maxHeartbeats 4000000 in
set_option maxRecDepth 100000 in
theorem sg_tog (hl : K.l.stackTraces = false) (C : CX K G A RL cL_law 15 rt rm tb) (ht : t < 90) (hI : IV t n P F) (hk : k0 < n) (hrm : (16 ≤ rm.frames ∧ 654 ≤ rm.locals) ∧ c9 + 13 ≤ rm.cells ∧ s9 + 110 ≤ rm.slots)
    (kk : ∀ adr9 : Nat → Nat, (∀ x, x < 30 → x ≠ 2 → adr9 x = adr x) → ∀ (n9 P9 : Nat) (F9 m9 : Nat → Nat → Int32), IV (t + 1) n9 P9 F9 → WR K G A Q (Wd G (adr9, (n9, P9, F9), (n9, P9, F9), m9, g)) [some (.ref b), some (.ref (adr 0)), some (.ref (adr 10)), some (.ref (adr 5)), some (.ref (adr 6)), some (.ref (adr 7)), some (.ref (adr 8)), some (.ref (adr 9)), some (.int (nI t)), some (.int z), none, none, some (.int 1), none, none] (c9 + 13) (s9 + 110) 662 []) : WR K G A Q (Wd G (adr, (n, P, F), (n, P, F), mu, g)) [some (.ref b), some (.ref (adr 0)), some (.ref (adr 10)), some (.ref (adr 5)), some (.ref (adr 6)), some (.ref (adr 7)), some (.ref (adr 8)), some (.ref (adr 9)), some (.int (nI t)), some (.int z), some (.int y), some (.int (nI k0)), some (.int 1), none, none] c9 s9 305 [] := by
  obtain ⟨⟨hr1, hr2⟩, hr3, hr4⟩ := hrm
  have hn5 : n ≤ 5 := hI.2.1
  have hP5 : P ≤ 5 := hI.1.2.1
  have h7 : F 7 k0 = 0 ∨ F 7 k0 = 1 := (hI.1.2.2.2.2.1 k0 (by omega)).2.2.1
  refine R_aload_n (pc := 305) C dL_law_305 rfl ?_
  refine R_bipush (pc := 306) C dL_law_306 (v := 9) (by decide) ?_
  refine R_iload (pc := 308) C dL_law_308 rfl ?_
  refine R_imul (pc := 310) C dL_law_310 ?_
  refine R_bipush (pc := 311) C dL_law_311 (v := 7) (by decide) ?_
  refine R_iadd (pc := 313) C dL_law_313 ?_
  refine R_iconst (pc := 314) C dL_law_314 (v := 1) (by decide) ?_
  refine R_aload_n (pc := 315) C dL_law_315 rfl ?_
  refine R_bipush (pc := 316) C dL_law_316 (v := 9) (by decide) ?_
  refine R_iload (pc := 318) C dL_law_318 rfl ?_
  refine R_imul (pc := 320) C dL_law_320 ?_
  refine R_bipush (pc := 321) C dL_law_321 (v := 7) (by decide) ?_
  refine R_iadd (pc := 323) C dL_law_323 ?_
  refine R_iald (pc := 324) C dL_law_324 (wmw) (i9 k0 7) (by omega) (by decide) (rdw (by omega)) ?_
  refine R_isub (pc := 325) C dL_law_325 ?_
  refine R_iast (pc := 326) C dL_law_326 (wmw) (i9 k0 7) (by omega) (by decide) (pm_w (f := 7) (by omega)) ?_
  refine R_aload_n (pc := 327) C dL_law_327 rfl ?_
  refine R_iload (pc := 328) C dL_law_328 rfl ?_
  refine R_callVT (pc := 330) C dL_law_330 (vs := [_]) (fun h hh => mX1_toggleMeter hl (show n ≤ 8 by omega) (fun i hi => (hI.1.2.2.2.2.1 i (by omega)).2.2.1) h hh) (isOb_of (wc0) rfl) ⟨k_17_19, k_17_20, k_17_21, k_1_2, k_17_22⟩ (sgn (nv := 1) rfl ⟨by decide +kernel, by decide +kernel, by decide +kernel⟩) ⟨⟨by omega, by omega⟩, ⟨by omega, by omega⟩, Nat.le_of_ble_eq_true rfl⟩ rfl rfl (fun h9 hh9 E9 => X_pr (fun q9 => (exA_0 q9 (if_pos (qW_t (show n ≤ 8 by omega) hk))).elim)) (fun h9 hh9 v9 => ?_)
  refine WR.pr (fun e9 => ?_)
  obtain ⟨-, e9⟩ := e9
  subst e9
  show WR K G _ _ _ _ _ _ _ (.int _ :: _)
  rw [ix_nI (show k0 < 2 ^ 31 by omega)]
  refine R_aload_n (pc := 333) C dL_law_333 rfl ?_
  refine R_bipush (pc := 334) C dL_law_334 (v := 9) (by decide) ?_
  refine R_iload (pc := 336) C dL_law_336 rfl ?_
  refine R_imul (pc := 338) C dL_law_338 ?_
  refine R_bipush (pc := 339) C dL_law_339 (v := 7) (by decide) ?_
  refine R_iadd (pc := 341) C dL_law_341 ?_
  refine R_iald (pc := 342) C dL_law_342 (wmw) (i9 k0 7) (by omega) (by decide) ((rdw (by omega)).trans su_s) ?_
  refine R_if_ne (pc := 343) C dL_law_343 (tgt := 350) (by decide) (fun c343 => ?_) (fun c343 => ?_)
  · refine R_iconst (pc := 350) C dL_law_350 (v := 0) (by decide) ?_
    refine R_icmp_ne (pc := 351) C dL_law_351 (tgt := 358) (by decide) (fun c351 => absurd c351 (fun q => q (by rcases h7 with e | e; exact e; exact absurd (show (1 : Int32) - F 7 k0 = 0 by rw [e]; decide) c343))) (fun c351 => ?_)
    refine R_iconst (pc := 354) C dL_law_354 (v := 1) (by decide) ?_
    refine R_goto (pc := 355) C dL_law_355 (tgt := 359) (by decide) ?_
    refine R_istore (pc := 359) C dL_law_359 (Nat.le_of_ble_eq_true rfl) (lv' := [some (.ref _), some (.ref _), some (.ref _), some (.ref _), some (.ref _), some (.ref _), some (.ref _), some (.ref _), some (.int _), some (.int _), some (.int _), some (.int _), some (.int _), none, none]) rfl ?_
    refine R_goto (pc := 361) C dL_law_361 (tgt := 662) (by decide) ?_
    refine WR.ls (lv' := [some (.ref _), some (.ref _), some (.ref _), some (.ref _), some (.ref _), some (.ref _), some (.ref _), some (.ref _), some (.int _), some (.int _), none, none, some (.int _), none, none]) (ls_s (ls_s (ls_s (ls_s (ls_s (ls_s (ls_s (ls_s (ls_s (ls_s (ls_n (ls_n (ls_s (ls_n (ls_n ls_e))))))))))))))) ?_
    refine WR.wid (show _ ≤ c9 + 13 by omega) (show _ ≤ s9 + 110 by omega) ?_
    exact kk adr (fun _ _ _ => rfl) _ _ _ _ (hI.tog hk h7)
  · refine R_iconst (pc := 346) C dL_law_346 (v := 1) (by decide) ?_
    refine R_goto (pc := 347) C dL_law_347 (tgt := 351) (by decide) ?_
    refine R_icmp_ne (pc := 351) C dL_law_351 (tgt := 358) (by decide) (fun c351 => absurd c351 (fun q => q (by rcases h7 with e | e; exact absurd (c343 : (1 : Int32) - F 7 k0 = 0) (by rw [e]; decide); exact e))) (fun c351 => ?_)
    refine R_iconst (pc := 354) C dL_law_354 (v := 1) (by decide) ?_
    refine R_goto (pc := 355) C dL_law_355 (tgt := 359) (by decide) ?_
    refine R_istore (pc := 359) C dL_law_359 (Nat.le_of_ble_eq_true rfl) (lv' := [some (.ref _), some (.ref _), some (.ref _), some (.ref _), some (.ref _), some (.ref _), some (.ref _), some (.ref _), some (.int _), some (.int _), some (.int _), some (.int _), some (.int _), none, none]) rfl ?_
    refine R_goto (pc := 361) C dL_law_361 (tgt := 662) (by decide) ?_
    refine WR.ls (lv' := [some (.ref _), some (.ref _), some (.ref _), some (.ref _), some (.ref _), some (.ref _), some (.ref _), some (.ref _), some (.int _), some (.int _), none, none, some (.int _), none, none]) (ls_s (ls_s (ls_s (ls_s (ls_s (ls_s (ls_s (ls_s (ls_s (ls_s (ls_n (ls_n (ls_s (ls_n (ls_n ls_e))))))))))))))) ?_
    refine WR.wid (show _ ≤ c9 + 13 by omega) (show _ ≤ s9 + 110 by omega) ?_
    exact kk adr (fun _ _ _ => rfl) _ _ _ _ (hI.tog hk h7)
set_option maxHeartbeats 4000000 in
set_option maxRecDepth 100000 in
theorem sg_lends (hl : K.l.stackTraces = false) (C : CX K G A RL cL_law 15 rt rm tb) (ht : t < 90) (hI : IV t n P F) (hn2 : 2 ≤ n) (hrm : (16 ≤ rm.frames ∧ 654 ≤ rm.locals) ∧ c9 + 13 ≤ rm.cells ∧ s9 + 110 ≤ rm.slots)
    (kk : ∀ adr9 : Nat → Nat, (∀ x, x < 30 → x ≠ 2 → adr9 x = adr x) → ∀ (n9 P9 : Nat) (F9 m9 : Nat → Nat → Int32), IV (t + 1) n9 P9 F9 → WR K G A Q (Wd G (adr9, (n9, P9, F9), (n9, P9, F9), m9, g)) [some (.ref b), some (.ref (adr 0)), some (.ref (adr 10)), some (.ref (adr 5)), some (.ref (adr 6)), some (.ref (adr 7)), some (.ref (adr 8)), some (.ref (adr 9)), some (.int (nI t)), some (.int z), none, none, some (.int 1), none, none] (c9 + 13) (s9 + 110) 662 []) : WR K G A Q (Wd G (adr, (n, P, F), (n, P, F), mu, g)) [some (.ref b), some (.ref (adr 0)), some (.ref (adr 10)), some (.ref (adr 5)), some (.ref (adr 6)), some (.ref (adr 7)), some (.ref (adr 8)), some (.ref (adr 9)), some (.int (nI t)), some (.int z), some (.int y), some (.int kx), some (.int 1), none, none] c9 s9 459 [] := by
  obtain ⟨⟨hr1, hr2⟩, hr3, hr4⟩ := hrm
  have hn5 : n ≤ 5 := hI.2.1
  have hP5 : P ≤ 5 := hI.1.2.1
  refine R_aload_n (pc := 459) C dL_law_459 rfl ?_
  refine R_iload (pc := 460) C dL_law_460 rfl ?_
  refine R_iconst (pc := 462) C dL_law_462 (v := 4) (by decide) ?_
  refine R_ishr (pc := 463) C dL_law_463 ?_
  refine R_aload (pc := 464) C dL_law_464 rfl ?_
  refine R_aload (pc := 466) C dL_law_466 rfl ?_
  refine R_aload_n (pc := 468) C dL_law_468 rfl ?_
  refine R_callSN (pc := 469) C dL_law_469 (vs := [_, _, _, _, _]) (fun h hh => mL_lends hl hn5 hn2 h hh) ⟨k_18_5, k_18_6, k_2_12, k_18_7⟩ (sgn (nv := 5) rfl ⟨by decide +kernel, by decide +kernel, by decide +kernel⟩) ⟨⟨by omega, by omega⟩, ⟨by omega, by omega⟩, Nat.le_of_ble_eq_true rfl⟩ rfl rfl (fun h9 hh9 v9 => ?_)
  refine WR.pr (fun e9 => ?_)
  subst e9
  refine WR.ex (fun F9 => WR.pr (fun hL => ?_))
  show WR K G _ _ _ _ _ _ _ (.int _ :: _)
  refine R_istore (pc := 472) C dL_law_472 (Nat.le_of_ble_eq_true rfl) (lv' := [some (.ref _), some (.ref _), some (.ref _), some (.ref _), some (.ref _), some (.ref _), some (.ref _), some (.ref _), some (.int _), some (.int _), some (.int _), some (.int _), some (.int _), none, none]) rfl ?_
  refine R_goto (pc := 474) C dL_law_474 (tgt := 662) (by decide) ?_
  refine WR.ls (lv' := [some (.ref _), some (.ref _), some (.ref _), some (.ref _), some (.ref _), some (.ref _), some (.ref _), some (.ref _), some (.int _), some (.int _), none, none, some (.int _), none, none]) (ls_s (ls_s (ls_s (ls_s (ls_s (ls_s (ls_s (ls_s (ls_s (ls_s (ls_n (ls_n (ls_s (ls_n (ls_n ls_e))))))))))))))) ?_
  refine WR.wid (show _ ≤ c9 + 13 by omega) (show _ ≤ s9 + 110 by omega) ?_
  exact kk adr (fun _ _ _ => rfl) _ _ _ _ (hI.lends ht hL)
set_option maxHeartbeats 4000000 in
set_option maxRecDepth 100000 in
theorem sg_build (hl : K.l.stackTraces = false) (C : CX K G A RL cL_law 15 rt rm tb) (ht : t < 90) (hI : IV t n P F)  (hrm : (16 ≤ rm.frames ∧ 654 ≤ rm.locals) ∧ c9 + 13 ≤ rm.cells ∧ s9 + 110 ≤ rm.slots)
    (kk : ∀ adr9 : Nat → Nat, (∀ x, x < 30 → x ≠ 2 → adr9 x = adr x) → ∀ (n9 P9 : Nat) (F9 m9 : Nat → Nat → Int32), IV (t + 1) n9 P9 F9 → WR K G A Q (Wd G (adr9, (n9, P9, F9), (n9, P9, F9), m9, g)) [some (.ref b), some (.ref (adr 0)), some (.ref (adr 10)), some (.ref (adr 5)), some (.ref (adr 6)), some (.ref (adr 7)), some (.ref (adr 8)), some (.ref (adr 9)), some (.int (nI t)), some (.int z), none, none, some (.int 1), none, none] (c9 + 13) (s9 + 110) 662 []) : WR K G A Q (Wd G (adr, (n, P, F), (n, P, F), mu, g)) [some (.ref b), some (.ref (adr 0)), some (.ref (adr 10)), some (.ref (adr 5)), some (.ref (adr 6)), some (.ref (adr 7)), some (.ref (adr 8)), some (.ref (adr 9)), some (.int (nI t)), some (.int z), some (.int y), some (.int kx), some (.int 1), none, none] c9 s9 484 [] := by
  obtain ⟨⟨hr1, hr2⟩, hr3, hr4⟩ := hrm
  have hn5 : n ≤ 5 := hI.2.1
  have hP5 : P ≤ 5 := hI.1.2.1
  refine R_iload (pc := 484) C dL_law_484 rfl ?_
  refine R_iconst (pc := 486) C dL_law_486 (v := 5) (by decide) ?_
  refine R_ishr (pc := 487) C dL_law_487 ?_
  refine R_bipush (pc := 488) C dL_law_488 (v := 20) (by decide) ?_
  refine R_callP (pc := 490) C dL_law_490 (vs := [_, _]) (mL_low hl (by decide)) ⟨k_2_16, k_2_17, k_2_12, k_2_18⟩ (sgn (nv := 2) rfl ⟨by decide +kernel, by decide +kernel, by decide +kernel⟩) ⟨⟨by omega, by omega⟩, ⟨by omega, by omega⟩, Nat.le_of_ble_eq_true rfl⟩ rfl rfl ?_
  obtain ⟨p, hp, ep⟩ : ∃ p, p < 20 ∧ lowV (z >>> ((5 : Int32) &&& 31)) 20 = nI p := lowV_ex _ (m := 20) (by omega) (by omega)
  rw [ep]
  refine R_istore (pc := 493) C dL_law_493 (Nat.le_of_ble_eq_true rfl) (lv' := [some (.ref _), some (.ref _), some (.ref _), some (.ref _), some (.ref _), some (.ref _), some (.ref _), some (.ref _), some (.int _), some (.int _), some (.int _), some (.int _), some (.int _), some (.int _), none]) rfl ?_
  refine R_aload_n (pc := 495) C dL_law_495 rfl ?_
  refine R_iconst (pc := 496) C dL_law_496 (v := 2) (by decide) ?_
  refine R_iald (pc := 497) C dL_law_497 (wmq) (rfl) (by decide) (by decide) (rdq2) ?_
  refine R_bipush (pc := 498) C dL_law_498 (v := 100) (by decide) ?_
  refine R_icmp_lt (pc := 500) C dL_law_500 (tgt := 514) (by decide) (fun c500 => ?_) (fun c500 => ?_)
  · refine R_iconst (pc := 514) C dL_law_514 (v := 0) (by decide) ?_
    refine R_istore (pc := 515) C dL_law_515 (Nat.le_of_ble_eq_true rfl) (lv' := [some (.ref _), some (.ref _), some (.ref _), some (.ref _), some (.ref _), some (.ref _), some (.ref _), some (.ref _), some (.int _), some (.int _), some (.int _), some (.int _), some (.int _), some (.int _), some (.int _)]) rfl ?_
    refine R_aload_n (pc := 517) C dL_law_517 rfl ?_
    refine R_bipush (pc := 518) C dL_law_518 (v := 7) (by decide) ?_
    refine R_iload (pc := 520) C dL_law_520 rfl ?_
    refine R_if_eq (pc := 522) C dL_law_522 (tgt := 531) (by decide) (fun c522 => ?_) (fun c522 => absurd (rfl) c522)
    refine R_iconst (pc := 531) C dL_law_531 (v := 0) (by decide) ?_
    refine R_iadd (pc := 532) C dL_law_532 ?_
    refine R_iload (pc := 533) C dL_law_533 rfl ?_
    refine R_if_eq (pc := 535) C dL_law_535 (tgt := 543) (by decide) (fun c535 => ?_) (fun c535 => absurd (rfl) c535)
    refine R_aload_n (pc := 543) C dL_law_543 rfl ?_
    refine R_bipush (pc := 544) C dL_law_544 (v := 7) (by decide) ?_
    refine R_iald (pc := 546) C dL_law_546 (wmq) (rfl) (by decide) (by decide) (rdq7 (a := 0)) ?_
    refine R_iast (pc := 547) C dL_law_547 (wmq) (show (7 : Int32) + 0 = nI (7 + 0) from rfl) (by decide) (by decide) (pmi_pond rfl) ?_
    refine R_aload_n (pc := 548) C dL_law_548 rfl ?_
    refine R_iconst (pc := 549) C dL_law_549 (v := 3) (by decide) ?_
    refine R_dup2 (pc := 550) C dL_law_550 rfl rfl ?_
    refine R_iald (pc := 551) C dL_law_551 (wmq) (rfl) (by decide) (by decide) (rdq3) ?_
    refine R_iload (pc := 552) C dL_law_552 rfl ?_
    refine R_if_eq (pc := 554) C dL_law_554 (tgt := 561) (by decide) (fun c554 => ?_) (fun c554 => absurd (rfl) c554)
    refine R_iconst (pc := 561) C dL_law_561 (v := 0) (by decide) ?_
    refine R_iadd (pc := 562) C dL_law_562 ?_
    refine R_iast (pc := 563) C dL_law_563 (wmq) (rfl) (by decide) (by decide) (pm_ponds (P' := P) (Int32.add_zero _)) ?_
    refine R_aload_n (pc := 564) C dL_law_564 rfl ?_
    refine R_iconst (pc := 565) C dL_law_565 (v := 2) (by decide) ?_
    refine R_dup2 (pc := 566) C dL_law_566 rfl rfl ?_
    refine R_iald (pc := 567) C dL_law_567 (wmq) (rfl) (by decide) (by decide) (rdq2) ?_
    refine R_iload (pc := 568) C dL_law_568 rfl ?_
    refine R_if_eq (pc := 570) C dL_law_570 (tgt := 578) (by decide) (fun c570 => ?_) (fun c570 => absurd (rfl) c570)
    refine R_iconst (pc := 578) C dL_law_578 (v := 0) (by decide) ?_
    refine R_isub (pc := 579) C dL_law_579 ?_
    refine R_iast (pc := 580) C dL_law_580 (wmq) (rfl) (by decide) (by decide) (pmi_f (Int32.sub_zero _)) ?_
    refine R_aload_n (pc := 581) C dL_law_581 rfl ?_
    refine R_iconst (pc := 582) C dL_law_582 (v := 2) (by decide) ?_
    refine R_iload (pc := 583) C dL_law_583 rfl ?_
    refine R_iconst (pc := 585) C dL_law_585 (v := 0) (by decide) ?_
    refine R_iconst (pc := 586) C dL_law_586 (v := 0) (by decide) ?_
    have hkv : kBuild P F (nI p) = 2 := (kBuild_v hp).trans (if_pos (Or.inl c500))
    refine R_callSW (pc := 587) C dL_law_587 (vs := [_, _, _, _, _]) (fun h hh => mL_calls2 hl hP5 (by rw [hkv]; decide) h hh) ⟨k_18_18, k_18_19, k_2_12, k_18_20⟩ (sgn (nv := 5) rfl ⟨by decide +kernel, by decide +kernel, by decide +kernel⟩) ⟨⟨by omega, by omega⟩, ⟨by omega, by omega⟩, Nat.le_of_ble_eq_true rfl⟩ rfl rfl (fun h9 hh9 v9 => ?_)
    refine WR.all (fun h1 hh1 => ?_)
    obtain ⟨-, e9, hw9⟩ := hh1.resolve_left (fun q => absurd (hkv.symm.trans q.1) (by decide))
    subst e9
    refine WR.imp (P' := Wd G (adr, (n, P, F), (n, P, F), mu, g)) (fun h e => e ▸ hw9) ?_
    show WR K G _ _ _ _ _ _ _ (.int _ :: _)
    refine R_iload (pc := 590) C dL_law_590 rfl ?_
    refine R_if_eq (pc := 592) C dL_law_592 (tgt := 601) (by decide) (fun c592 => ?_) (fun c592 => absurd (rfl) c592)
    refine R_bipush (pc := 601) C dL_law_601 (v := -3) (by decide) ?_
    refine R_icmp_ne (pc := 603) C dL_law_603 (tgt := 610) (by decide) (fun c603 => absurd c603 (fun q => q rfl)) (fun c603 => ?_)
    refine R_iconst (pc := 606) C dL_law_606 (v := 1) (by decide) ?_
    refine R_goto (pc := 607) C dL_law_607 (tgt := 611) (by decide) ?_
    refine R_istore (pc := 611) C dL_law_611 (Nat.le_of_ble_eq_true rfl) (lv' := [some (.ref _), some (.ref _), some (.ref _), some (.ref _), some (.ref _), some (.ref _), some (.ref _), some (.ref _), some (.int _), some (.int _), some (.int _), some (.int _), some (.int _), some (.int _), some (.int _)]) rfl ?_
    refine R_goto (pc := 613) C dL_law_613 (tgt := 662) (by decide) ?_
    refine WR.ls (lv' := [some (.ref _), some (.ref _), some (.ref _), some (.ref _), some (.ref _), some (.ref _), some (.ref _), some (.ref _), some (.int _), some (.int _), none, none, some (.int _), none, none]) (ls_s (ls_s (ls_s (ls_s (ls_s (ls_s (ls_s (ls_s (ls_s (ls_s (ls_n (ls_n (ls_s (ls_n (ls_n ls_e))))))))))))))) ?_
    refine WR.wid (show _ ≤ c9 + 13 by omega) (show _ ≤ s9 + 110 by omega) ?_
    exact kk adr (fun _ _ _ => rfl) _ _ _ _ (hI.stay)
  · refine R_aload_n (pc := 503) C dL_law_503 rfl ?_
    refine R_iconst (pc := 504) C dL_law_504 (v := 3) (by decide) ?_
    refine R_iald (pc := 505) C dL_law_505 (wmq) (rfl) (by decide) (by decide) (rdq3) ?_
    refine R_iconst (pc := 506) C dL_law_506 (v := 5) (by decide) ?_
    refine R_icmp_ge (pc := 507) C dL_law_507 (tgt := 514) (by decide) (fun c507 => ?_) (fun c507 => ?_)
    · refine R_iconst (pc := 514) C dL_law_514 (v := 0) (by decide) ?_
      refine R_istore (pc := 515) C dL_law_515 (Nat.le_of_ble_eq_true rfl) (lv' := [some (.ref _), some (.ref _), some (.ref _), some (.ref _), some (.ref _), some (.ref _), some (.ref _), some (.ref _), some (.int _), some (.int _), some (.int _), some (.int _), some (.int _), some (.int _), some (.int _)]) rfl ?_
      refine R_aload_n (pc := 517) C dL_law_517 rfl ?_
      refine R_bipush (pc := 518) C dL_law_518 (v := 7) (by decide) ?_
      refine R_iload (pc := 520) C dL_law_520 rfl ?_
      refine R_if_eq (pc := 522) C dL_law_522 (tgt := 531) (by decide) (fun c522 => ?_) (fun c522 => absurd (rfl) c522)
      refine R_iconst (pc := 531) C dL_law_531 (v := 0) (by decide) ?_
      refine R_iadd (pc := 532) C dL_law_532 ?_
      refine R_iload (pc := 533) C dL_law_533 rfl ?_
      refine R_if_eq (pc := 535) C dL_law_535 (tgt := 543) (by decide) (fun c535 => ?_) (fun c535 => absurd (rfl) c535)
      refine R_aload_n (pc := 543) C dL_law_543 rfl ?_
      refine R_bipush (pc := 544) C dL_law_544 (v := 7) (by decide) ?_
      refine R_iald (pc := 546) C dL_law_546 (wmq) (rfl) (by decide) (by decide) (rdq7 (a := 0)) ?_
      refine R_iast (pc := 547) C dL_law_547 (wmq) (show (7 : Int32) + 0 = nI (7 + 0) from rfl) (by decide) (by decide) (pmi_pond rfl) ?_
      refine R_aload_n (pc := 548) C dL_law_548 rfl ?_
      refine R_iconst (pc := 549) C dL_law_549 (v := 3) (by decide) ?_
      refine R_dup2 (pc := 550) C dL_law_550 rfl rfl ?_
      refine R_iald (pc := 551) C dL_law_551 (wmq) (rfl) (by decide) (by decide) (rdq3) ?_
      refine R_iload (pc := 552) C dL_law_552 rfl ?_
      refine R_if_eq (pc := 554) C dL_law_554 (tgt := 561) (by decide) (fun c554 => ?_) (fun c554 => absurd (rfl) c554)
      refine R_iconst (pc := 561) C dL_law_561 (v := 0) (by decide) ?_
      refine R_iadd (pc := 562) C dL_law_562 ?_
      refine R_iast (pc := 563) C dL_law_563 (wmq) (rfl) (by decide) (by decide) (pm_ponds (P' := P) (Int32.add_zero _)) ?_
      refine R_aload_n (pc := 564) C dL_law_564 rfl ?_
      refine R_iconst (pc := 565) C dL_law_565 (v := 2) (by decide) ?_
      refine R_dup2 (pc := 566) C dL_law_566 rfl rfl ?_
      refine R_iald (pc := 567) C dL_law_567 (wmq) (rfl) (by decide) (by decide) (rdq2) ?_
      refine R_iload (pc := 568) C dL_law_568 rfl ?_
      refine R_if_eq (pc := 570) C dL_law_570 (tgt := 578) (by decide) (fun c570 => ?_) (fun c570 => absurd (rfl) c570)
      refine R_iconst (pc := 578) C dL_law_578 (v := 0) (by decide) ?_
      refine R_isub (pc := 579) C dL_law_579 ?_
      refine R_iast (pc := 580) C dL_law_580 (wmq) (rfl) (by decide) (by decide) (pmi_f (Int32.sub_zero _)) ?_
      refine R_aload_n (pc := 581) C dL_law_581 rfl ?_
      refine R_iconst (pc := 582) C dL_law_582 (v := 2) (by decide) ?_
      refine R_iload (pc := 583) C dL_law_583 rfl ?_
      refine R_iconst (pc := 585) C dL_law_585 (v := 0) (by decide) ?_
      refine R_iconst (pc := 586) C dL_law_586 (v := 0) (by decide) ?_
      have hkv : kBuild P F (nI p) = 2 := (kBuild_v hp).trans (if_pos (Or.inr (ge5 (by omega) c507)))
      refine R_callSW (pc := 587) C dL_law_587 (vs := [_, _, _, _, _]) (fun h hh => mL_calls2 hl hP5 (by rw [hkv]; decide) h hh) ⟨k_18_18, k_18_19, k_2_12, k_18_20⟩ (sgn (nv := 5) rfl ⟨by decide +kernel, by decide +kernel, by decide +kernel⟩) ⟨⟨by omega, by omega⟩, ⟨by omega, by omega⟩, Nat.le_of_ble_eq_true rfl⟩ rfl rfl (fun h9 hh9 v9 => ?_)
      refine WR.all (fun h1 hh1 => ?_)
      obtain ⟨-, e9, hw9⟩ := hh1.resolve_left (fun q => absurd (hkv.symm.trans q.1) (by decide))
      subst e9
      refine WR.imp (P' := Wd G (adr, (n, P, F), (n, P, F), mu, g)) (fun h e => e ▸ hw9) ?_
      show WR K G _ _ _ _ _ _ _ (.int _ :: _)
      refine R_iload (pc := 590) C dL_law_590 rfl ?_
      refine R_if_eq (pc := 592) C dL_law_592 (tgt := 601) (by decide) (fun c592 => ?_) (fun c592 => absurd (rfl) c592)
      refine R_bipush (pc := 601) C dL_law_601 (v := -3) (by decide) ?_
      refine R_icmp_ne (pc := 603) C dL_law_603 (tgt := 610) (by decide) (fun c603 => absurd c603 (fun q => q rfl)) (fun c603 => ?_)
      refine R_iconst (pc := 606) C dL_law_606 (v := 1) (by decide) ?_
      refine R_goto (pc := 607) C dL_law_607 (tgt := 611) (by decide) ?_
      refine R_istore (pc := 611) C dL_law_611 (Nat.le_of_ble_eq_true rfl) (lv' := [some (.ref _), some (.ref _), some (.ref _), some (.ref _), some (.ref _), some (.ref _), some (.ref _), some (.ref _), some (.int _), some (.int _), some (.int _), some (.int _), some (.int _), some (.int _), some (.int _)]) rfl ?_
      refine R_goto (pc := 613) C dL_law_613 (tgt := 662) (by decide) ?_
      refine WR.ls (lv' := [some (.ref _), some (.ref _), some (.ref _), some (.ref _), some (.ref _), some (.ref _), some (.ref _), some (.ref _), some (.int _), some (.int _), none, none, some (.int _), none, none]) (ls_s (ls_s (ls_s (ls_s (ls_s (ls_s (ls_s (ls_s (ls_s (ls_s (ls_n (ls_n (ls_s (ls_n (ls_n ls_e))))))))))))))) ?_
      refine WR.wid (show _ ≤ c9 + 13 by omega) (show _ ≤ s9 + 110 by omega) ?_
      exact kk adr (fun _ _ _ => rfl) _ _ _ _ (hI.stay)
    · have hP4 : P < 5 := lt5 (by omega) c507
      refine R_iconst (pc := 510) C dL_law_510 (v := 1) (by decide) ?_
      refine R_goto (pc := 511) C dL_law_511 (tgt := 515) (by decide) ?_
      refine R_istore (pc := 515) C dL_law_515 (Nat.le_of_ble_eq_true rfl) (lv' := [some (.ref _), some (.ref _), some (.ref _), some (.ref _), some (.ref _), some (.ref _), some (.ref _), some (.ref _), some (.int _), some (.int _), some (.int _), some (.int _), some (.int _), some (.int _), some (.int _)]) rfl ?_
      refine R_aload_n (pc := 517) C dL_law_517 rfl ?_
      refine R_bipush (pc := 518) C dL_law_518 (v := 7) (by decide) ?_
      refine R_iload (pc := 520) C dL_law_520 rfl ?_
      refine R_if_eq (pc := 522) C dL_law_522 (tgt := 531) (by decide) (fun c522 => absurd c522 (by decide)) (fun c522 => ?_)
      refine R_aload_n (pc := 525) C dL_law_525 rfl ?_
      refine R_iconst (pc := 526) C dL_law_526 (v := 3) (by decide) ?_
      refine R_iald (pc := 527) C dL_law_527 (wmq) (rfl) (by decide) (by decide) (rdq3) ?_
      refine R_goto (pc := 528) C dL_law_528 (tgt := 532) (by decide) ?_
      refine R_iadd (pc := 532) C dL_law_532 ?_
      refine R_iload (pc := 533) C dL_law_533 rfl ?_
      refine R_if_eq (pc := 535) C dL_law_535 (tgt := 543) (by decide) (fun c535 => absurd c535 (by decide)) (fun c535 => ?_)
      refine R_iload (pc := 538) C dL_law_538 rfl ?_
      refine R_goto (pc := 540) C dL_law_540 (tgt := 547) (by decide) ?_
      refine R_iast (pc := 547) C dL_law_547 (wmq) (nI_add 7 P) (by omega) (by decide) (pm_pond) ?_
      refine R_aload_n (pc := 548) C dL_law_548 rfl ?_
      refine R_iconst (pc := 549) C dL_law_549 (v := 3) (by decide) ?_
      refine R_dup2 (pc := 550) C dL_law_550 rfl rfl ?_
      refine R_iald (pc := 551) C dL_law_551 (wmq) (rfl) (by decide) (by decide) (rdq3) ?_
      refine R_iload (pc := 552) C dL_law_552 rfl ?_
      refine R_if_eq (pc := 554) C dL_law_554 (tgt := 561) (by decide) (fun c554 => absurd c554 (by decide)) (fun c554 => ?_)
      refine R_iconst (pc := 557) C dL_law_557 (v := 1) (by decide) ?_
      refine R_goto (pc := 558) C dL_law_558 (tgt := 562) (by decide) ?_
      refine R_iadd (pc := 562) C dL_law_562 ?_
      refine R_iast (pc := 563) C dL_law_563 (wmq) (rfl) (by decide) (by decide) (pm_ponds (P' := P + 1) (nI_1 P)) ?_
      refine R_aload_n (pc := 564) C dL_law_564 rfl ?_
      refine R_iconst (pc := 565) C dL_law_565 (v := 2) (by decide) ?_
      refine R_dup2 (pc := 566) C dL_law_566 rfl rfl ?_
      refine R_iald (pc := 567) C dL_law_567 (wmq) (rfl) (by decide) (by decide) (rdq2) ?_
      refine R_iload (pc := 568) C dL_law_568 rfl ?_
      refine R_if_eq (pc := 570) C dL_law_570 (tgt := 578) (by decide) (fun c570 => absurd c570 (by decide)) (fun c570 => ?_)
      refine R_bipush (pc := 573) C dL_law_573 (v := 100) (by decide) ?_
      refine R_goto (pc := 575) C dL_law_575 (tgt := 579) (by decide) ?_
      refine R_isub (pc := 579) C dL_law_579 ?_
      refine R_iast (pc := 580) C dL_law_580 (wmq) (rfl) (by decide) (by decide) (pme_f (v0 := F 16 0 - 100) (by rw [su_f (by omega)])) ?_
      refine WR.imp (P' := Wd G (adr, (n, P, F), (n, P + 1, (fBuild F P (nI p))), mu, g)) (fun h hh => by unfold fBuild; rw [su_comm (f := 16) (k := 15) (by omega)]; exact hh) ?_
      refine R_aload_n (pc := 581) C dL_law_581 rfl ?_
      refine R_iconst (pc := 582) C dL_law_582 (v := 2) (by decide) ?_
      refine R_iload (pc := 583) C dL_law_583 rfl ?_
      refine R_iconst (pc := 585) C dL_law_585 (v := 0) (by decide) ?_
      refine R_iconst (pc := 586) C dL_law_586 (v := 0) (by decide) ?_
      have hkv : kBuild P F (nI p) = 0 := (kBuild_v hp).trans (if_neg (fun q => q.elim c500 (fun q => absurd (lt5 (show P ≤ 8 by omega) c507) (by omega))))
      refine R_callSW (pc := 587) C dL_law_587 (vs := [_, _, _, _, _]) (fun h hh => mL_calls2 hl hP5 (by rw [hkv]; decide) h hh) ⟨k_18_18, k_18_19, k_2_12, k_18_20⟩ (sgn (nv := 5) rfl ⟨by decide +kernel, by decide +kernel, by decide +kernel⟩) ⟨⟨by omega, by omega⟩, ⟨by omega, by omega⟩, Nat.le_of_ble_eq_true rfl⟩ rfl rfl (fun h9 hh9 v9 => ?_)
      refine WR.all (fun h1 hh1 => ?_)
      obtain ⟨-, e9, hw9⟩ := hh1.resolve_right (fun q => q.1 hkv)
      subst e9
      refine WR.imp (P' := Wd G (adr, (n, P + 1, (fBuild F P (nI p))), (n, P + 1, (fBuild F P (nI p))), mu, g)) (fun h e => e ▸ hw9) ?_
      show WR K G _ _ _ _ _ _ _ (.int _ :: _)
      refine R_iload (pc := 590) C dL_law_590 rfl ?_
      refine R_if_eq (pc := 592) C dL_law_592 (tgt := 601) (by decide) (fun c592 => absurd c592 (by decide)) (fun c592 => ?_)
      refine R_aload_n (pc := 595) C dL_law_595 rfl ?_
      refine R_iconst (pc := 596) C dL_law_596 (v := 3) (by decide) ?_
      refine R_iald (pc := 597) C dL_law_597 (wmq) (rfl) (by decide) (by decide) (rdq3) ?_
      refine R_goto (pc := 598) C dL_law_598 (tgt := 603) (by decide) ?_
      refine R_icmp_ne (pc := 603) C dL_law_603 (tgt := 610) (by decide) (fun c603 => absurd c603 (fun q => q rfl)) (fun c603 => ?_)
      refine R_iconst (pc := 606) C dL_law_606 (v := 1) (by decide) ?_
      refine R_goto (pc := 607) C dL_law_607 (tgt := 611) (by decide) ?_
      refine R_istore (pc := 611) C dL_law_611 (Nat.le_of_ble_eq_true rfl) (lv' := [some (.ref _), some (.ref _), some (.ref _), some (.ref _), some (.ref _), some (.ref _), some (.ref _), some (.ref _), some (.int _), some (.int _), some (.int _), some (.int _), some (.int _), some (.int _), some (.int _)]) rfl ?_
      refine R_goto (pc := 613) C dL_law_613 (tgt := 662) (by decide) ?_
      refine WR.ls (lv' := [some (.ref _), some (.ref _), some (.ref _), some (.ref _), some (.ref _), some (.ref _), some (.ref _), some (.ref _), some (.int _), some (.int _), none, none, some (.int _), none, none]) (ls_s (ls_s (ls_s (ls_s (ls_s (ls_s (ls_s (ls_s (ls_s (ls_s (ls_n (ls_n (ls_s (ls_n (ls_n ls_e))))))))))))))) ?_
      refine WR.wid (show _ ≤ c9 + 13 by omega) (show _ ≤ s9 + 110 by omega) ?_
      exact kk adr (fun _ _ _ => rfl) _ _ _ _ (hI.build (lt5 (by omega) c507) hp)
set_option maxHeartbeats 4000000 in
set_option maxRecDepth 100000 in
theorem sg_year (hl : K.l.stackTraces = false) (C : CX K G A RL cL_law 15 rt rm tb) (ht : t < 90) (hI : IV t n P F)  (hrm : (16 ≤ rm.frames ∧ 654 ≤ rm.locals) ∧ c9 + 13 ≤ rm.cells ∧ s9 + 110 ≤ rm.slots)
    (kk : ∀ adr9 : Nat → Nat, (∀ x, x < 30 → x ≠ 2 → adr9 x = adr x) → ∀ (n9 P9 : Nat) (F9 m9 : Nat → Nat → Int32), IV (t + 1) n9 P9 F9 → WR K G A Q (Wd G (adr9, (n9, P9, F9), (n9, P9, F9), m9, g)) [some (.ref b), some (.ref (adr 0)), some (.ref (adr 10)), some (.ref (adr 5)), some (.ref (adr 6)), some (.ref (adr 7)), some (.ref (adr 8)), some (.ref (adr 9)), some (.int (nI t)), some (.int z), none, none, some (.int 1), none, none] (c9 + 13) (s9 + 110) 662 []) : WR K G A Q (Wd G (adr, (n, P, F), (n, P, F), mu, g)) [some (.ref b), some (.ref (adr 0)), some (.ref (adr 10)), some (.ref (adr 5)), some (.ref (adr 6)), some (.ref (adr 7)), some (.ref (adr 8)), some (.ref (adr 9)), some (.int (nI t)), some (.int z), some (.int y), some (.int kx), some (.int 1), none, none] c9 s9 616 [] := by
  obtain ⟨⟨hr1, hr2⟩, hr3, hr4⟩ := hrm
  have hn5 : n ≤ 5 := hI.2.1
  have hP5 : P ≤ 5 := hI.1.2.1
  refine R_aload_n (pc := 616) C dL_law_616 rfl ?_
  refine R_iconst (pc := 617) C dL_law_617 (v := 1) (by decide) ?_
  refine R_iald (pc := 618) C dL_law_618 (wmq) (rfl) (by decide) (by decide) (rdq1) ?_
  refine R_bipush (pc := 619) C dL_law_619 (v := 60) (by decide) ?_
  refine R_icmp_ne (pc := 621) C dL_law_621 (tgt := 629) (by decide) (fun c621 => ?_) (fun c621 => ?_)
  · refine R_aload_n (pc := 629) C dL_law_629 rfl ?_
    refine R_aload (pc := 630) C dL_law_630 rfl ?_
    refine R_aload (pc := 632) C dL_law_632 rfl ?_
    refine R_aload (pc := 634) C dL_law_634 rfl ?_
    refine R_aload_n (pc := 636) C dL_law_636 rfl ?_
    have hw := hI.1.2.2.2.2.1
    refine R_callSN (pc := 637) C dL_law_637 (vs := [_, _, _, _, _]) (fun h hh => mL_year hl hn5 hP5 hI.1.2.2.1 (fun i hi => (hw i (by omega)).2.2.1) (fun i hi => (hw i (by omega)).2.1) (fun i hi => (hw i (by omega)).2.2.2) (fun i hi => (hw i (by omega)).1) (fun i hi => (hI.2.2.1 i).mono (by omega)) h hh) ⟨k_23_2, k_23_3, k_2_12, k_23_4⟩ (sgn (nv := 5) rfl ⟨by decide +kernel, by decide +kernel, by decide +kernel⟩) ⟨⟨by omega, by omega⟩, ⟨by omega, by omega⟩, Nat.le_of_ble_eq_true rfl⟩ rfl rfl (fun h9 hh9 v9 => ?_)
    refine WR.pr (fun e9 => ?_)
    subst e9
    refine WR.ex (fun m9 => ?_)
    show WR K G _ _ _ _ _ _ _ (.int _ :: _)
    refine R_istore (pc := 640) C dL_law_640 (Nat.le_of_ble_eq_true rfl) (lv' := [some (.ref _), some (.ref _), some (.ref _), some (.ref _), some (.ref _), some (.ref _), some (.ref _), some (.ref _), some (.int _), some (.int _), some (.int _), some (.int _), some (.int _), some (.int _), none]) rfl ?_
    refine R_aload_n (pc := 642) C dL_law_642 rfl ?_
    refine R_iconst (pc := 643) C dL_law_643 (v := 0) (by decide) ?_
    refine R_iconst (pc := 644) C dL_law_644 (v := 0) (by decide) ?_
    refine R_iconst (pc := 645) C dL_law_645 (v := 0) (by decide) ?_
    refine R_iconst (pc := 646) C dL_law_646 (v := 0) (by decide) ?_
    have hkv : kYear F = 0 := if_pos (yr_lt hI.1.2.2.2.1 c621)
    refine R_callSW (pc := 647) C dL_law_647 (vs := [_, _, _, _, _]) (fun h hh => mL_calls0 hl (show n ≤ 8 by omega) hP5 (hlay_of hI.1.2.2.1) h hh) ⟨k_18_18, k_18_19, k_2_12, k_18_20⟩ (sgn (nv := 5) rfl ⟨by decide +kernel, by decide +kernel, by decide +kernel⟩) ⟨⟨by omega, by omega⟩, ⟨by omega, by omega⟩, Nat.le_of_ble_eq_true rfl⟩ rfl rfl (fun h9 hh9 v9 => ?_)
    refine WR.all (fun h1 hh1 => ?_)
    obtain ⟨-, e9, hw9⟩ := hh1.resolve_right (fun q => q.1 hkv)
    subst e9
    refine WR.imp (P' := Wd G (adr, (n, P, (su (yrF n P F) 16 1 (yrF n P F 16 1 + 1))), (n, P, (su (yrF n P F) 16 1 (yrF n P F 16 1 + 1))), m9, g)) (fun h e => e ▸ hw9) ?_
    show WR K G _ _ _ _ _ _ _ (.int _ :: _)
    rw [spSt_shr, cnt_8 (show n ≤ 8 by omega)]
    refine R_iload (pc := 650) C dL_law_650 rfl ?_
    refine R_icmp_ne (pc := 652) C dL_law_652 (tgt := 659) (by decide) (fun c652 => absurd c652 (fun q => q rfl)) (fun c652 => ?_)
    refine R_iconst (pc := 655) C dL_law_655 (v := 1) (by decide) ?_
    refine R_goto (pc := 656) C dL_law_656 (tgt := 660) (by decide) ?_
    refine R_istore (pc := 660) C dL_law_660 (Nat.le_of_ble_eq_true rfl) (lv' := [some (.ref _), some (.ref _), some (.ref _), some (.ref _), some (.ref _), some (.ref _), some (.ref _), some (.ref _), some (.int _), some (.int _), some (.int _), some (.int _), some (.int _), some (.int _), none]) rfl ?_
    refine WR.ls (lv' := [some (.ref _), some (.ref _), some (.ref _), some (.ref _), some (.ref _), some (.ref _), some (.ref _), some (.ref _), some (.int _), some (.int _), none, none, some (.int _), none, none]) (ls_s (ls_s (ls_s (ls_s (ls_s (ls_s (ls_s (ls_s (ls_s (ls_s (ls_n (ls_n (ls_s (ls_n (ls_n ls_e))))))))))))))) ?_
    refine WR.wid (show _ ≤ c9 + 13 by omega) (show _ ≤ s9 + 110 by omega) ?_
    exact kk adr (fun _ _ _ => rfl) _ _ _ _ (hI.year ht hkv)
  · refine R_bipush (pc := 624) C dL_law_624 (v := -3) (by decide) ?_
    refine R_goto (pc := 626) C dL_law_626 (tgt := 640) (by decide) ?_
    refine R_istore (pc := 640) C dL_law_640 (Nat.le_of_ble_eq_true rfl) (lv' := [some (.ref _), some (.ref _), some (.ref _), some (.ref _), some (.ref _), some (.ref _), some (.ref _), some (.ref _), some (.int _), some (.int _), some (.int _), some (.int _), some (.int _), some (.int _), none]) rfl ?_
    refine R_aload_n (pc := 642) C dL_law_642 rfl ?_
    refine R_iconst (pc := 643) C dL_law_643 (v := 0) (by decide) ?_
    refine R_iconst (pc := 644) C dL_law_644 (v := 0) (by decide) ?_
    refine R_iconst (pc := 645) C dL_law_645 (v := 0) (by decide) ?_
    refine R_iconst (pc := 646) C dL_law_646 (v := 0) (by decide) ?_
    have hkv : kYear F = 1 := if_neg (by rw [c621]; decide)
    refine R_callSW (pc := 647) C dL_law_647 (vs := [_, _, _, _, _]) (fun h hh => mL_calls0 hl (show n ≤ 8 by omega) hP5 (hlay_of hI.1.2.2.1) h hh) ⟨k_18_18, k_18_19, k_2_12, k_18_20⟩ (sgn (nv := 5) rfl ⟨by decide +kernel, by decide +kernel, by decide +kernel⟩) ⟨⟨by omega, by omega⟩, ⟨by omega, by omega⟩, Nat.le_of_ble_eq_true rfl⟩ rfl rfl (fun h9 hh9 v9 => ?_)
    refine WR.all (fun h1 hh1 => ?_)
    obtain ⟨-, e9, hw9⟩ := hh1.resolve_left (fun q => absurd (hkv.symm.trans q.1) (by decide))
    subst e9
    refine WR.imp (P' := Wd G (adr, (n, P, F), (n, P, F), mu, g)) (fun h e => e ▸ hw9) ?_
    show WR K G _ _ _ _ _ _ _ (.int _ :: _)
    refine R_iload (pc := 650) C dL_law_650 rfl ?_
    refine R_icmp_ne (pc := 652) C dL_law_652 (tgt := 659) (by decide) (fun c652 => absurd c652 (fun q => q rfl)) (fun c652 => ?_)
    refine R_iconst (pc := 655) C dL_law_655 (v := 1) (by decide) ?_
    refine R_goto (pc := 656) C dL_law_656 (tgt := 660) (by decide) ?_
    refine R_istore (pc := 660) C dL_law_660 (Nat.le_of_ble_eq_true rfl) (lv' := [some (.ref _), some (.ref _), some (.ref _), some (.ref _), some (.ref _), some (.ref _), some (.ref _), some (.ref _), some (.int _), some (.int _), some (.int _), some (.int _), some (.int _), some (.int _), none]) rfl ?_
    refine WR.ls (lv' := [some (.ref _), some (.ref _), some (.ref _), some (.ref _), some (.ref _), some (.ref _), some (.ref _), some (.ref _), some (.int _), some (.int _), none, none, some (.int _), none, none]) (ls_s (ls_s (ls_s (ls_s (ls_s (ls_s (ls_s (ls_s (ls_s (ls_s (ls_n (ls_n (ls_s (ls_n (ls_n ls_e))))))))))))))) ?_
    refine WR.wid (show _ ≤ c9 + 13 by omega) (show _ ≤ s9 + 110 by omega) ?_
    exact kk adr (fun _ _ _ => rfl) _ _ _ _ (hI.stay)
end
