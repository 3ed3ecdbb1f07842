/-! 74: the law: a year. Written by wip/p22/gen/m74.py -/
theorem if1 {c : Prop} [Decidable c] (h : (if c then (1 : Int32) else 0) = 1) : c := by
  by_cases q : c
  · exact q
  · rw [if_neg q] at h; exact absurd h (by decide)
theorem mq2_8 {n : Nat} {D : Nat → Bool} {F : Nat → Nat → Int32} {j : Nat} : ∀ i, i ≤ j → mq2 n D F i 8 j = F 8 j
  | 0, _ => rfl
  | i + 1, h => by rw [mq2, payM_ne (by omega), su_i (by omega), su_f (by omega), mq2_8 i (by omega)]
section
variable {l : Launch} {G : GT} {adr : Nat → Nat} {n P : Nat} {F mu : Nat → Nat → Int32} {g : Nat → Int64} {Sc : St}
theorem pme_9 {k : Nat} {v v0 : Int32} (e : v = v0) : ∀ h, Wd G (adr, Sc, (n, P, F), mu, g) h → Wd G (adr, Sc, (n, P, su F 9 k v0), mu, g) (hu h (adr 6) (aI G 20 (upd (bRow F) (4 * k + 0) v))) := by subst e; exact pm_b (f := 0) (by omega)
theorem pme_10 {k : Nat} {v v0 : Int32} (e : v = v0) : ∀ h, Wd G (adr, Sc, (n, P, F), mu, g) h → Wd G (adr, Sc, (n, P, su F 10 k v0), mu, g) (hu h (adr 6) (aI G 20 (upd (bRow F) (4 * k + 1) v))) := by subst e; exact pm_b (f := 1) (by omega)
theorem pme_11 {k : Nat} {v v0 : Int32} (e : v = v0) : ∀ h, Wd G (adr, Sc, (n, P, F), mu, g) h → Wd G (adr, Sc, (n, P, su F 11 k v0), mu, g) (hu h (adr 6) (aI G 20 (upd (bRow F) (4 * k + 2) v))) := by subst e; exact pm_b (f := 2) (by omega)
theorem pme_12 {k : Nat} {v v0 : Int32} (e : v = v0) : ∀ h, Wd G (adr, Sc, (n, P, F), mu, g) h → Wd G (adr, Sc, (n, P, su F 12 k v0), mu, g) (hu h (adr 6) (aI G 20 (upd (bRow F) (4 * k + 3) v))) := by subst e; exact pm_b (f := 3) (by omega)
theorem pme_f {v v0 : Int32} (e : v = v0) : ∀ h, Wd G (adr, Sc, (n, P, F), mu, g) h → Wd G (adr, Sc, (n, P, su F 16 0 v0), mu, g) (hu h (adr 10) (aI G 12 (upd (qRow n P F) 2 v))) := by subst e; exact pm_fund
set_option maxHeartbeats 4000000 in
set_option maxRecDepth 100000 in
theorem mL_year (hl : l.stackTraces = false)  (hn : n ≤ 5) (hP : P ≤ 5) (hrg : Rg n P F) (h7 : ∀ i, i < n → F 7 i = 0 ∨ F 7 i = 1) (h6 : ∀ i, i < n → Bt (F 6 i) 2000) (h8 : ∀ i, i < n → Bt (F 8 i) 1000) (h5 : ∀ i, i < n → Bt (F 5 i) 1000) (hbk : ∀ i, i < n → Bt (F 9 i) 100000000) : ∀ h, Wd G (adr, Sc, (n, P, F), mu, g) h → CN l yL_year cL_year 10 (some .int) 4 0 0 [.ref (adr 5), .ref (adr 6), .ref (adr 8), .ref (adr 9), .ref (adr 10)] G h (fun v h1 => v = some (.int (nI (cnt (spSt n P F) n))) ∧ ∃ m9 : Nat → Nat → Int32, Wd G (adr, Sc, (n, P, (su (yrF n P F) 16 1 (yrF n P F 16 1 + 1))), m9, g) h1) := by
  intro h0 hwd
  refine CN.of hl (by decide +kernel) rfl (Nat.le_of_ble_eq_true rfl) (fun K sz hKl hin C => ?_)
  have C : CX K G (AH h0 sz) RL cL_year 10 (some .int) (rmD 4 0 0) [] := C
  subst hKl
  refine WR.imp (P' := Wd G (adr, Sc, (n, P, F), mu, g)) (fun h e => e ▸ hwd) ?_
  show WR K G _ _ _ [some (.ref (adr 5)), some (.ref (adr 6)), some (.ref (adr 8)), some (.ref (adr 9)), some (.ref (adr 10)), none, none, none, none, none] 0 0 0 []
  refine R_aload_n (pc := 0) C dL_year_0 rfl ?_
  refine R_aload_n (pc := 1) C dL_year_1 rfl ?_
  refine R_aload_n (pc := 2) C dL_year_2 rfl ?_
  refine R_aload (pc := 3) C dL_year_3 rfl ?_
  refine R_callSN (pc := 5) C dL_year_5 (vs := [_, _, _, _]) (fun h hh => mL_stops hl hn hP hrg h hh) ⟨k_23_5, k_23_6, k_2_12, k_23_7⟩ (sgn (nv := 4) rfl ⟨by decide +kernel, by decide +kernel, by decide +kernel⟩) ⟨⟨Nat.le_of_ble_eq_true rfl, Nat.le_of_ble_eq_true rfl⟩, ⟨Nat.le_of_ble_eq_true rfl, Nat.le_of_ble_eq_true rfl⟩, Nat.le_of_ble_eq_true rfl⟩ rfl rfl (fun h9 hh9 v9 => ?_)
  refine WR.pr (fun e9 => ?_)
  subst e9
  refine WR.ex (fun m9 => WR.pr (fun g2 => ?_))
  show WR K G _ _ _ _ _ _ _ (.int _ :: _)
  refine R_istore (pc := 8) C dL_year_8 (Nat.le_of_ble_eq_true rfl) (lv' := [some (.ref _), some (.ref _), some (.ref _), some (.ref _), some (.ref _), some (.int _), none, none, none, none]) rfl ?_
  refine R_iconst (pc := 10) C dL_year_10 (v := 0) (by decide) ?_
  refine R_istore (pc := 11) C dL_year_11 (Nat.le_of_ble_eq_true rfl) (lv' := [some (.ref _), some (.ref _), some (.ref _), some (.ref _), some (.ref _), some (.int _), some (.int _), none, none, none]) rfl ?_
  refine R_iconst (pc := 13) C dL_year_13 (v := 0) (by decide) ?_
  refine R_istore (pc := 14) C dL_year_14 (Nat.le_of_ble_eq_true rfl) (lv' := [some (.ref _), some (.ref _), some (.ref _), some (.ref _), some (.ref _), some (.int _), some (.int _), some (.int _), none, none]) rfl ?_
  have LP16 : ∀ (m1 i : Nat), n < m1 + i → i ≤ n → WR K G (AH h0 sz) (QM K G h0 sz 0 0 (fun v h1 => v = some (.int (nI (cnt (spSt n P F) n))) ∧ ∃ m9 : Nat → Nat → Int32, Wd G (adr, Sc, (n, P, (su (yrF n P F) 16 1 (yrF n P F 16 1 + 1))), m9, g) h1)) (Wd G (adr, Sc, (n, P, (mq1 n P F (spSt n P F) i)), m9, g)) [some (.ref (adr 5)), some (.ref (adr 6)), some (.ref (adr 8)), some (.ref (adr 9)), some (.ref (adr 10)), some (.int (mk (spSt n P F))), some (.int (nI (cnt (spSt n P F) i))), some (.int (nI i)), none, none] 0 0 16 [] := by
    intro m1
    induction m1 with
    | zero => intro i  h1 h2; exact absurd h1 (by omega)
    | succ m1 ih1 =>
      intro i  h1 h2 
      refine R_iload (pc := 16) C dL_year_16 rfl ?_
      refine R_aload (pc := 18) C dL_year_18 rfl ?_
      refine R_iconst (pc := 20) C dL_year_20 (v := 0) (by decide) ?_
      refine R_iald (pc := 21) C dL_year_21 (wmq) (rfl) (by decide) (by decide) (rdq0) ?_
      refine R_icmp_ge (pc := 22) C dL_year_22 (tgt := 122) (by decide) (fun c22 => ?_) (fun c22 => ?_)
      · have ei : n = i := Nat.le_antisymm (le_nI (by omega) (by omega) c22) h2
        subst ei
        refine R_iconst (pc := 122) C dL_year_122 (v := 0) (by decide) ?_
        refine R_istore (pc := 123) C dL_year_123 (Nat.le_of_ble_eq_true rfl) (lv' := [some (.ref _), some (.ref _), some (.ref _), some (.ref _), some (.ref _), some (.int _), some (.int _), some (.int _), none, none]) rfl ?_
        have LP125 : ∀ (m2 i : Nat), n < m2 + i → i ≤ n → WR K G (AH h0 sz) (QM K G h0 sz 0 0 (fun v h1 => v = some (.int (nI (cnt (spSt n P F) n))) ∧ ∃ m9 : Nat → Nat → Int32, Wd G (adr, Sc, (n, P, (su (yrF n P F) 16 1 (yrF n P F 16 1 + 1))), m9, g) h1)) (Wd G (adr, Sc, (n, P, (mq2 n (spSt n P F) (mq1 n P F (spSt n P F) n) i)), m9, g)) [some (.ref (adr 5)), some (.ref (adr 6)), some (.ref (adr 8)), some (.ref (adr 9)), some (.ref (adr 10)), some (.int (mk (spSt n P F))), some (.int (nI (cnt (spSt n P F) n))), some (.int (nI i)), none, none] 0 0 125 [] := by
          intro m2
          induction m2 with
          | zero => intro i  h1 h2; exact absurd h1 (by omega)
          | succ m2 ih2 =>
            intro i  h1 h2 
            refine R_iload (pc := 125) C dL_year_125 rfl ?_
            refine R_aload (pc := 127) C dL_year_127 rfl ?_
            refine R_iconst (pc := 129) C dL_year_129 (v := 0) (by decide) ?_
            refine R_iald (pc := 130) C dL_year_130 (wmq) (rfl) (by decide) (by decide) (rdq0) ?_
            refine R_icmp_ge (pc := 131) C dL_year_131 (tgt := 365) (by decide) (fun c131 => ?_) (fun c131 => ?_)
            · have ei : n = i := Nat.le_antisymm (le_nI (by omega) (by omega) c131) h2
              subst ei
              refine R_aload (pc := 365) C dL_year_365 rfl ?_
              refine R_iconst (pc := 367) C dL_year_367 (v := 1) (by decide) ?_
              refine R_dup2 (pc := 368) C dL_year_368 rfl rfl ?_
              refine R_iald (pc := 369) C dL_year_369 (wmq) (rfl) (by decide) (by decide) (rdq1) ?_
              refine R_iconst (pc := 370) C dL_year_370 (v := 1) (by decide) ?_
              refine R_iadd (pc := 371) C dL_year_371 ?_
              refine R_iast (pc := 372) C dL_year_372 (wmq) (rfl) (by decide) (by decide) (pm_years) ?_
              refine R_iload (pc := 373) C dL_year_373 rfl ?_
              exact R_iret (pc := 375) C dL_year_375 rfl (Nat.le_of_ble_eq_true rfl) (Nat.le_of_ble_eq_true rfl) (fun h hh => ⟨rfl, m9, by rw [← (same (P := P) (show n ≤ 8 by omega) h7 h6 h8 h5).1]; exact hh⟩)
            · have hi : i < n := gt_nI (by omega) (by omega) c131
              have q7 : ∀ j, (mq2 n (spSt n P F) (mq1 n P F (spSt n P F) n) i) 7 j = F 7 j := fun j => by rw [mq2_ne (by omega), mq1_ne (by omega)]
              have q11 : ∀ j, j < n → Bt ((mq2 n (spSt n P F) (mq1 n P F (spSt n P F) n) i) 11 j) 2000 := fun j hj => by rw [mq2_ne (by omega), mq1_11, if_pos hj]; exact bt_drw (h6 j hj)
              have q8 : (mq2 n (spSt n P F) (mq1 n P F (spSt n P F) n) i) 8 i = F 8 i := by rw [mq2_8 i (Nat.le_refl _), mq1_ne (by omega)]
              have q5 : (mq2 n (spSt n P F) (mq1 n P F (spSt n P F) n) i) 5 i = F 5 i := by rw [mq2_ne (by omega), mq1_ne (by omega)]
              have q9 : (mq2 n (spSt n P F) (mq1 n P F (spSt n P F) n) i) 9 i = F 9 i - (F 9 i + 9) / 10 := by rw [mq2_9 i (Nat.le_refl _), mq1_9, if_pos hi]
              have hT : Bt (tellM n (mq2 n (spSt n P F) (mq1 n P F (spSt n P F) n) i) i) 3000 := by
                    have z := tell_eq (n := n) (F := (mq2 n (spSt n P F) (mq1 n P F (spSt n P F) n) i)) (i := i) (by omega) hi (fun j hj => ⟨by rw [q7]; exact h7 j hj, q11 j hj⟩) (by rw [q8]; exact h8 i hi)
                    rw [z.1]; exact z.2
              refine R_aload_n (pc := 134) C dL_year_134 rfl ?_
              refine R_iconst (pc := 135) C dL_year_135 (v := 4) (by decide) ?_
              refine R_iload (pc := 136) C dL_year_136 rfl ?_
              refine R_imul (pc := 138) C dL_year_138 ?_
              refine R_iconst (pc := 139) C dL_year_139 (v := 2) (by decide) ?_
              refine R_iadd (pc := 140) C dL_year_140 ?_
              refine R_iald (pc := 141) C dL_year_141 (wmb) (i4 i 2) (by omega) (by decide) (rdb2) ?_
              refine R_istore (pc := 142) C dL_year_142 (Nat.le_of_ble_eq_true rfl) (lv' := [some (.ref _), some (.ref _), some (.ref _), some (.ref _), some (.ref _), some (.int _), some (.int _), some (.int _), some (.int _), none]) rfl ?_
              refine R_aload_n (pc := 144) C dL_year_144 rfl ?_
              refine R_bipush (pc := 145) C dL_year_145 (v := 9) (by decide) ?_
              refine R_iload (pc := 147) C dL_year_147 rfl ?_
              refine R_imul (pc := 149) C dL_year_149 ?_
              refine R_bipush (pc := 150) C dL_year_150 (v := 7) (by decide) ?_
              refine R_iadd (pc := 152) C dL_year_152 ?_
              refine R_iald (pc := 153) C dL_year_153 (wmw) (i9 i 7) (by omega) (by decide) (rdw (by omega)) ?_
              refine R_iconst (pc := 154) C dL_year_154 (v := 1) (by decide) ?_
              refine R_icmp_ne (pc := 155) C dL_year_155 (tgt := 202) (by decide) (fun c155 => ?_) (fun c155 => ?_)
              · have ht : (mq2 n (spSt n P F) (mq1 n P F (spSt n P F) n) i) 11 i = (tellM n (mq2 n (spSt n P F) (mq1 n P F (spSt n P F) n) i) i) := by unfold tellM; rw [if_pos (((q7 i).symm ▸ h7 i hi : (mq2 n (spSt n P F) (mq1 n P F (spSt n P F) n) i) 7 i = 0 ∨ (mq2 n (spSt n P F) (mq1 n P F (spSt n P F) n) i) 7 i = 1).resolve_right c155)]
                rw [ht]
                refine R_aload_n (pc := 202) C dL_year_202 rfl ?_
                refine R_iconst (pc := 203) C dL_year_203 (v := 4) (by decide) ?_
                refine R_iload (pc := 204) C dL_year_204 rfl ?_
                refine R_imul (pc := 206) C dL_year_206 ?_
                refine R_iconst (pc := 207) C dL_year_207 (v := 3) (by decide) ?_
                refine R_iadd (pc := 208) C dL_year_208 ?_
                refine R_iload (pc := 209) C dL_year_209 rfl ?_
                refine R_iast (pc := 211) C dL_year_211 (wmb) (i4 i 3) (by omega) (by decide) (pme_12 rfl) ?_
                refine R_aload_n (pc := 212) C dL_year_212 rfl ?_
                refine R_bipush (pc := 213) C dL_year_213 (v := 9) (by decide) ?_
                refine R_iload (pc := 215) C dL_year_215 rfl ?_
                refine R_imul (pc := 217) C dL_year_217 ?_
                refine R_bipush (pc := 218) C dL_year_218 (v := 8) (by decide) ?_
                refine R_iadd (pc := 220) C dL_year_220 ?_
                refine R_iconst (pc := 221) C dL_year_221 (v := 0) (by decide) ?_
                refine R_iast (pc := 222) C dL_year_222 (wmw) (i9 i 8) (by omega) (by decide) (pm_w (f := 8) (by omega)) ?_
                refine R_iload (pc := 223) C dL_year_223 rfl ?_
                refine R_aload_n (pc := 225) C dL_year_225 rfl ?_
                refine R_bipush (pc := 226) C dL_year_226 (v := 9) (by decide) ?_
                refine R_iload (pc := 228) C dL_year_228 rfl ?_
                refine R_imul (pc := 230) C dL_year_230 ?_
                refine R_iconst (pc := 231) C dL_year_231 (v := 5) (by decide) ?_
                refine R_iadd (pc := 232) C dL_year_232 ?_
                refine R_iald (pc := 233) C dL_year_233 (wmw) (i9 i 5) (by omega) (by decide) (rdw (by omega)) ?_
                refine R_isub (pc := 234) C dL_year_234 ?_
                refine R_aload_n (pc := 235) C dL_year_235 rfl ?_
                refine R_iconst (pc := 236) C dL_year_236 (v := 4) (by decide) ?_
                refine R_iload (pc := 237) C dL_year_237 rfl ?_
                refine R_imul (pc := 239) C dL_year_239 ?_
                refine R_iald (pc := 240) C dL_year_240 (wmb) (i4z i) (by omega) (by decide) (rdb0) ?_
                refine R_isub (pc := 241) C dL_year_241 ?_
                refine R_istore (pc := 242) C dL_year_242 (Nat.le_of_ble_eq_true rfl) (lv' := [some (.ref _), some (.ref _), some (.ref _), some (.ref _), some (.ref _), some (.int _), some (.int _), some (.int _), some (.int _), some (.int _)]) rfl ?_
                have hx12 : (su (su (mq2 n (spSt n P F) (mq1 n P F (spSt n P F) n) i) 12 i (tellM n (mq2 n (spSt n P F) (mq1 n P F (spSt n P F) n) i) i)) 8 i 0) 12 i = (tellM n (mq2 n (spSt n P F) (mq1 n P F (spSt n P F) n) i) i) := by rw [su_f (by omega), su_s]
                have hx5 : (su (su (mq2 n (spSt n P F) (mq1 n P F (spSt n P F) n) i) 12 i (tellM n (mq2 n (spSt n P F) (mq1 n P F (spSt n P F) n) i) i)) 8 i 0) 5 i = F 5 i := by rw [su_f (by omega), su_f (by omega), q5]
                have hx9 : (su (su (mq2 n (spSt n P F) (mq1 n P F (spSt n P F) n) i) 12 i (tellM n (mq2 n (spSt n P F) (mq1 n P F (spSt n P F) n) i) i)) 8 i 0) 9 i = F 9 i - (F 9 i + 9) / 10 := by rw [su_f (by omega), su_f (by omega), q9]
                have hpay : payL (spSt n P F) (su (su (mq2 n (spSt n P F) (mq1 n P F (spSt n P F) n) i) 12 i (tellM n (mq2 n (spSt n P F) (mq1 n P F (spSt n P F) n) i) i)) 8 i 0) i = mq2 n (spSt n P F) (mq1 n P F (spSt n P F) n) (i + 1) := payL_eq (by rw [hx12]; exact hT) (by rw [hx5]; exact h5 i hi) (by rw [hx9]; exact (tenth (hbk i hi)).2)
                rw [show (tellM n (mq2 n (spSt n P F) (mq1 n P F (spSt n P F) n) i) i) - (su (su (mq2 n (spSt n P F) (mq1 n P F (spSt n P F) n) i) 12 i (tellM n (mq2 n (spSt n P F) (mq1 n P F (spSt n P F) n) i) i)) 8 i 0) 5 i - (su (su (mq2 n (spSt n P F) (mq1 n P F (spSt n P F) n) i) 12 i (tellM n (mq2 n (spSt n P F) (mq1 n P F (spSt n P F) n) i) i)) 8 i 0) 9 i = (restL (su (su (mq2 n (spSt n P F) (mq1 n P F (spSt n P F) n) i) 12 i (tellM n (mq2 n (spSt n P F) (mq1 n P F (spSt n P F) n) i) i)) 8 i 0) i) from by unfold restL; rw [hx12]]
                refine R_iload (pc := 244) C dL_year_244 rfl ?_
                refine R_aload_n (pc := 246) C dL_year_246 rfl ?_
                refine R_bipush (pc := 247) C dL_year_247 (v := 9) (by decide) ?_
                refine R_iload (pc := 249) C dL_year_249 rfl ?_
                refine R_imul (pc := 251) C dL_year_251 ?_
                refine R_iconst (pc := 252) C dL_year_252 (v := 5) (by decide) ?_
                refine R_iadd (pc := 253) C dL_year_253 ?_
                refine R_iald (pc := 254) C dL_year_254 (wmw) (i9 i 5) (by omega) (by decide) (rdw (by omega)) ?_
                refine R_icmp_ge (pc := 255) C dL_year_255 (tgt := 297) (by decide) (fun c255 => ?_) (fun c255 => ?_)
                · have hge : ¬ (su (su (mq2 n (spSt n P F) (mq1 n P F (spSt n P F) n) i) 12 i (tellM n (mq2 n (spSt n P F) (mq1 n P F (spSt n P F) n) i) i)) 8 i 0) 12 i < (su (su (mq2 n (spSt n P F) (mq1 n P F (spSt n P F) n) i) 12 i (tellM n (mq2 n (spSt n P F) (mq1 n P F (spSt n P F) n) i) i)) 8 i 0) 5 i := by rw [hx12]; exact Int32.not_lt.mpr c255
                  refine R_aload_n (pc := 297) C dL_year_297 rfl ?_
                  refine R_iconst (pc := 298) C dL_year_298 (v := 4) (by decide) ?_
                  refine R_iload (pc := 299) C dL_year_299 rfl ?_
                  refine R_imul (pc := 301) C dL_year_301 ?_
                  refine R_iload (pc := 302) C dL_year_302 rfl ?_
                  refine R_if_ge (pc := 304) C dL_year_304 (tgt := 313) (by decide) (fun c304 => ?_) (fun c304 => ?_)
                  · refine R_iconst (pc := 313) C dL_year_313 (v := 0) (by decide) ?_
                    refine R_iast (pc := 314) C dL_year_314 (wmb) (i4z i) (by omega) (by decide) (pme_9 (v0 := if (restL (su (su (mq2 n (spSt n P F) (mq1 n P F (spSt n P F) n) i) 12 i (tellM n (mq2 n (spSt n P F) (mq1 n P F (spSt n P F) n) i) i)) 8 i 0) i) < 0 then -(restL (su (su (mq2 n (spSt n P F) (mq1 n P F (spSt n P F) n) i) 12 i (tellM n (mq2 n (spSt n P F) (mq1 n P F (spSt n P F) n) i) i)) 8 i 0) i) else 0) (by rw [if_neg (Int32.not_lt.mpr c304)])) ?_
                    refine R_aload_n (pc := 315) C dL_year_315 rfl ?_
                    refine R_iconst (pc := 316) C dL_year_316 (v := 4) (by decide) ?_
                    refine R_iload (pc := 317) C dL_year_317 rfl ?_
                    refine R_imul (pc := 319) C dL_year_319 ?_
                    refine R_iconst (pc := 320) C dL_year_320 (v := 1) (by decide) ?_
                    refine R_iadd (pc := 321) C dL_year_321 ?_
                    refine R_dup2 (pc := 322) C dL_year_322 rfl rfl ?_
                    refine R_iald (pc := 323) C dL_year_323 (wmb) (i4 i 1) (by omega) (by decide) (rdb1) ?_
                    refine R_iload (pc := 324) C dL_year_324 rfl ?_
                    refine R_if_le (pc := 326) C dL_year_326 (tgt := 336) (by decide) (fun c326 => ?_) (fun c326 => ?_)
                    · refine R_iconst (pc := 336) C dL_year_336 (v := 0) (by decide) ?_
                      refine R_iadd (pc := 337) C dL_year_337 ?_
                      refine R_iast (pc := 338) C dL_year_338 (wmb) (i4 i 1) (by omega) (by decide) (pme_10 (v0 := (su (su (mq2 n (spSt n P F) (mq1 n P F (spSt n P F) n) i) 12 i (tellM n (mq2 n (spSt n P F) (mq1 n P F (spSt n P F) n) i) i)) 8 i 0) 10 i + (if 0 < (restL (su (su (mq2 n (spSt n P F) (mq1 n P F (spSt n P F) n) i) 12 i (tellM n (mq2 n (spSt n P F) (mq1 n P F (spSt n P F) n) i) i)) 8 i 0) i) then 2 * (restL (su (su (mq2 n (spSt n P F) (mq1 n P F (spSt n P F) n) i) 12 i (tellM n (mq2 n (spSt n P F) (mq1 n P F (spSt n P F) n) i) i)) 8 i 0) i) else 0)) (by rw [su_f (by omega), if_neg (Int32.not_lt.mpr c326)])) ?_
                      refine R_aload (pc := 339) C dL_year_339 rfl ?_
                      refine R_iconst (pc := 341) C dL_year_341 (v := 2) (by decide) ?_
                      refine R_dup2 (pc := 342) C dL_year_342 rfl rfl ?_
                      refine R_iald (pc := 343) C dL_year_343 (wmq) (rfl) (by decide) (by decide) (rdq2) ?_
                      refine R_iload (pc := 344) C dL_year_344 rfl ?_
                      refine R_if_le (pc := 346) C dL_year_346 (tgt := 356) (by decide) (fun c346 => ?_) (fun c346 => ?_)
                      · refine R_iconst (pc := 356) C dL_year_356 (v := 0) (by decide) ?_
                        refine R_iadd (pc := 357) C dL_year_357 ?_
                        refine R_iast (pc := 358) C dL_year_358 (wmq) (rfl) (by decide) (by decide) (pme_f (v0 := (su (su (mq2 n (spSt n P F) (mq1 n P F (spSt n P F) n) i) 12 i (tellM n (mq2 n (spSt n P F) (mq1 n P F (spSt n P F) n) i) i)) 8 i 0) 16 0 + (if 0 < (restL (su (su (mq2 n (spSt n P F) (mq1 n P F (spSt n P F) n) i) 12 i (tellM n (mq2 n (spSt n P F) (mq1 n P F (spSt n P F) n) i) i)) 8 i 0) i) then 2 * (restL (su (su (mq2 n (spSt n P F) (mq1 n P F (spSt n P F) n) i) 12 i (tellM n (mq2 n (spSt n P F) (mq1 n P F (spSt n P F) n) i) i)) 8 i 0) i) else 0)) (by rw [su_f (by omega), su_f (by omega), if_neg (Int32.not_lt.mpr c346)])) ?_
                        refine R_iinc (pc := 359) C dL_year_359 rfl (inc1) (lv' := [some (.ref _), some (.ref _), some (.ref _), some (.ref _), some (.ref _), some (.int _), some (.int _), some (.int _), some (.int _), some (.int _)]) rfl ?_
                        refine R_goto (pc := 362) C dL_year_362 (tgt := 125) (by decide) ?_
                        refine WR.ls (lv' := [some (.ref _), some (.ref _), some (.ref _), some (.ref _), some (.ref _), some (.int _), some (.int _), some (.int _), none, none]) (ls_s (ls_s (ls_s (ls_s (ls_s (ls_s (ls_s (ls_s (ls_n (ls_n ls_e)))))))))) ?_
                        refine WR.imp (P' := Wd G (adr, Sc, (n, P, (mq2 n (spSt n P F) (mq1 n P F (spSt n P F) n) (i + 1))), m9, g)) (fun h hh => by rw [← hpay, payL, if_neg hge]; exact hh) ?_
                        exact ih2 (i + 1) (by omega) (by omega)
                      · refine R_iconst (pc := 349) C dL_year_349 (v := 2) (by decide) ?_
                        refine R_iload (pc := 350) C dL_year_350 rfl ?_
                        refine R_imul (pc := 352) C dL_year_352 ?_
                        refine R_goto (pc := 353) C dL_year_353 (tgt := 357) (by decide) ?_
                        refine R_iadd (pc := 357) C dL_year_357 ?_
                        refine R_iast (pc := 358) C dL_year_358 (wmq) (rfl) (by decide) (by decide) (pme_f (v0 := (su (su (mq2 n (spSt n P F) (mq1 n P F (spSt n P F) n) i) 12 i (tellM n (mq2 n (spSt n P F) (mq1 n P F (spSt n P F) n) i) i)) 8 i 0) 16 0 + (if 0 < (restL (su (su (mq2 n (spSt n P F) (mq1 n P F (spSt n P F) n) i) 12 i (tellM n (mq2 n (spSt n P F) (mq1 n P F (spSt n P F) n) i) i)) 8 i 0) i) then 2 * (restL (su (su (mq2 n (spSt n P F) (mq1 n P F (spSt n P F) n) i) 12 i (tellM n (mq2 n (spSt n P F) (mq1 n P F (spSt n P F) n) i) i)) 8 i 0) i) else 0)) (by rw [su_f (by omega), su_f (by omega), if_pos (Int32.not_le.mp c346)])) ?_
                        refine R_iinc (pc := 359) C dL_year_359 rfl (inc1) (lv' := [some (.ref _), some (.ref _), some (.ref _), some (.ref _), some (.ref _), some (.int _), some (.int _), some (.int _), some (.int _), some (.int _)]) rfl ?_
                        refine R_goto (pc := 362) C dL_year_362 (tgt := 125) (by decide) ?_
                        refine WR.ls (lv' := [some (.ref _), some (.ref _), some (.ref _), some (.ref _), some (.ref _), some (.int _), some (.int _), some (.int _), none, none]) (ls_s (ls_s (ls_s (ls_s (ls_s (ls_s (ls_s (ls_s (ls_n (ls_n ls_e)))))))))) ?_
                        refine WR.imp (P' := Wd G (adr, Sc, (n, P, (mq2 n (spSt n P F) (mq1 n P F (spSt n P F) n) (i + 1))), m9, g)) (fun h hh => by rw [← hpay, payL, if_neg hge]; exact hh) ?_
                        exact ih2 (i + 1) (by omega) (by omega)
                    · refine R_iconst (pc := 329) C dL_year_329 (v := 2) (by decide) ?_
                      refine R_iload (pc := 330) C dL_year_330 rfl ?_
                      refine R_imul (pc := 332) C dL_year_332 ?_
                      refine R_goto (pc := 333) C dL_year_333 (tgt := 337) (by decide) ?_
                      refine R_iadd (pc := 337) C dL_year_337 ?_
                      refine R_iast (pc := 338) C dL_year_338 (wmb) (i4 i 1) (by omega) (by decide) (pme_10 (v0 := (su (su (mq2 n (spSt n P F) (mq1 n P F (spSt n P F) n) i) 12 i (tellM n (mq2 n (spSt n P F) (mq1 n P F (spSt n P F) n) i) i)) 8 i 0) 10 i + (if 0 < (restL (su (su (mq2 n (spSt n P F) (mq1 n P F (spSt n P F) n) i) 12 i (tellM n (mq2 n (spSt n P F) (mq1 n P F (spSt n P F) n) i) i)) 8 i 0) i) then 2 * (restL (su (su (mq2 n (spSt n P F) (mq1 n P F (spSt n P F) n) i) 12 i (tellM n (mq2 n (spSt n P F) (mq1 n P F (spSt n P F) n) i) i)) 8 i 0) i) else 0)) (by rw [su_f (by omega), if_pos (Int32.not_le.mp c326)])) ?_
                      refine R_aload (pc := 339) C dL_year_339 rfl ?_
                      refine R_iconst (pc := 341) C dL_year_341 (v := 2) (by decide) ?_
                      refine R_dup2 (pc := 342) C dL_year_342 rfl rfl ?_
                      refine R_iald (pc := 343) C dL_year_343 (wmq) (rfl) (by decide) (by decide) (rdq2) ?_
                      refine R_iload (pc := 344) C dL_year_344 rfl ?_
                      refine R_if_le (pc := 346) C dL_year_346 (tgt := 356) (by decide) (fun c346 => ?_) (fun c346 => ?_)
                      · refine R_iconst (pc := 356) C dL_year_356 (v := 0) (by decide) ?_
                        refine R_iadd (pc := 357) C dL_year_357 ?_
                        refine R_iast (pc := 358) C dL_year_358 (wmq) (rfl) (by decide) (by decide) (pme_f (v0 := (su (su (mq2 n (spSt n P F) (mq1 n P F (spSt n P F) n) i) 12 i (tellM n (mq2 n (spSt n P F) (mq1 n P F (spSt n P F) n) i) i)) 8 i 0) 16 0 + (if 0 < (restL (su (su (mq2 n (spSt n P F) (mq1 n P F (spSt n P F) n) i) 12 i (tellM n (mq2 n (spSt n P F) (mq1 n P F (spSt n P F) n) i) i)) 8 i 0) i) then 2 * (restL (su (su (mq2 n (spSt n P F) (mq1 n P F (spSt n P F) n) i) 12 i (tellM n (mq2 n (spSt n P F) (mq1 n P F (spSt n P F) n) i) i)) 8 i 0) i) else 0)) (by rw [su_f (by omega), su_f (by omega), if_neg (Int32.not_lt.mpr c346)])) ?_
                        refine R_iinc (pc := 359) C dL_year_359 rfl (inc1) (lv' := [some (.ref _), some (.ref _), some (.ref _), some (.ref _), some (.ref _), some (.int _), some (.int _), some (.int _), some (.int _), some (.int _)]) rfl ?_
                        refine R_goto (pc := 362) C dL_year_362 (tgt := 125) (by decide) ?_
                        refine WR.ls (lv' := [some (.ref _), some (.ref _), some (.ref _), some (.ref _), some (.ref _), some (.int _), some (.int _), some (.int _), none, none]) (ls_s (ls_s (ls_s (ls_s (ls_s (ls_s (ls_s (ls_s (ls_n (ls_n ls_e)))))))))) ?_
                        refine WR.imp (P' := Wd G (adr, Sc, (n, P, (mq2 n (spSt n P F) (mq1 n P F (spSt n P F) n) (i + 1))), m9, g)) (fun h hh => by rw [← hpay, payL, if_neg hge]; exact hh) ?_
                        exact ih2 (i + 1) (by omega) (by omega)
                      · refine R_iconst (pc := 349) C dL_year_349 (v := 2) (by decide) ?_
                        refine R_iload (pc := 350) C dL_year_350 rfl ?_
                        refine R_imul (pc := 352) C dL_year_352 ?_
                        refine R_goto (pc := 353) C dL_year_353 (tgt := 357) (by decide) ?_
                        refine R_iadd (pc := 357) C dL_year_357 ?_
                        refine R_iast (pc := 358) C dL_year_358 (wmq) (rfl) (by decide) (by decide) (pme_f (v0 := (su (su (mq2 n (spSt n P F) (mq1 n P F (spSt n P F) n) i) 12 i (tellM n (mq2 n (spSt n P F) (mq1 n P F (spSt n P F) n) i) i)) 8 i 0) 16 0 + (if 0 < (restL (su (su (mq2 n (spSt n P F) (mq1 n P F (spSt n P F) n) i) 12 i (tellM n (mq2 n (spSt n P F) (mq1 n P F (spSt n P F) n) i) i)) 8 i 0) i) then 2 * (restL (su (su (mq2 n (spSt n P F) (mq1 n P F (spSt n P F) n) i) 12 i (tellM n (mq2 n (spSt n P F) (mq1 n P F (spSt n P F) n) i) i)) 8 i 0) i) else 0)) (by rw [su_f (by omega), su_f (by omega), if_pos (Int32.not_le.mp c346)])) ?_
                        refine R_iinc (pc := 359) C dL_year_359 rfl (inc1) (lv' := [some (.ref _), some (.ref _), some (.ref _), some (.ref _), some (.ref _), some (.int _), some (.int _), some (.int _), some (.int _), some (.int _)]) rfl ?_
                        refine R_goto (pc := 362) C dL_year_362 (tgt := 125) (by decide) ?_
                        refine WR.ls (lv' := [some (.ref _), some (.ref _), some (.ref _), some (.ref _), some (.ref _), some (.int _), some (.int _), some (.int _), none, none]) (ls_s (ls_s (ls_s (ls_s (ls_s (ls_s (ls_s (ls_s (ls_n (ls_n ls_e)))))))))) ?_
                        refine WR.imp (P' := Wd G (adr, Sc, (n, P, (mq2 n (spSt n P F) (mq1 n P F (spSt n P F) n) (i + 1))), m9, g)) (fun h hh => by rw [← hpay, payL, if_neg hge]; exact hh) ?_
                        exact ih2 (i + 1) (by omega) (by omega)
                  · refine R_iload (pc := 307) C dL_year_307 rfl ?_
                    refine R_ineg (pc := 309) C dL_year_309 ?_
                    refine R_goto (pc := 310) C dL_year_310 (tgt := 314) (by decide) ?_
                    refine R_iast (pc := 314) C dL_year_314 (wmb) (i4z i) (by omega) (by decide) (pme_9 (v0 := if (restL (su (su (mq2 n (spSt n P F) (mq1 n P F (spSt n P F) n) i) 12 i (tellM n (mq2 n (spSt n P F) (mq1 n P F (spSt n P F) n) i) i)) 8 i 0) i) < 0 then -(restL (su (su (mq2 n (spSt n P F) (mq1 n P F (spSt n P F) n) i) 12 i (tellM n (mq2 n (spSt n P F) (mq1 n P F (spSt n P F) n) i) i)) 8 i 0) i) else 0) (by rw [if_pos (Int32.not_le.mp c304)])) ?_
                    refine R_aload_n (pc := 315) C dL_year_315 rfl ?_
                    refine R_iconst (pc := 316) C dL_year_316 (v := 4) (by decide) ?_
                    refine R_iload (pc := 317) C dL_year_317 rfl ?_
                    refine R_imul (pc := 319) C dL_year_319 ?_
                    refine R_iconst (pc := 320) C dL_year_320 (v := 1) (by decide) ?_
                    refine R_iadd (pc := 321) C dL_year_321 ?_
                    refine R_dup2 (pc := 322) C dL_year_322 rfl rfl ?_
                    refine R_iald (pc := 323) C dL_year_323 (wmb) (i4 i 1) (by omega) (by decide) (rdb1) ?_
                    refine R_iload (pc := 324) C dL_year_324 rfl ?_
                    refine R_if_le (pc := 326) C dL_year_326 (tgt := 336) (by decide) (fun c326 => ?_) (fun c326 => ?_)
                    · refine R_iconst (pc := 336) C dL_year_336 (v := 0) (by decide) ?_
                      refine R_iadd (pc := 337) C dL_year_337 ?_
                      refine R_iast (pc := 338) C dL_year_338 (wmb) (i4 i 1) (by omega) (by decide) (pme_10 (v0 := (su (su (mq2 n (spSt n P F) (mq1 n P F (spSt n P F) n) i) 12 i (tellM n (mq2 n (spSt n P F) (mq1 n P F (spSt n P F) n) i) i)) 8 i 0) 10 i + (if 0 < (restL (su (su (mq2 n (spSt n P F) (mq1 n P F (spSt n P F) n) i) 12 i (tellM n (mq2 n (spSt n P F) (mq1 n P F (spSt n P F) n) i) i)) 8 i 0) i) then 2 * (restL (su (su (mq2 n (spSt n P F) (mq1 n P F (spSt n P F) n) i) 12 i (tellM n (mq2 n (spSt n P F) (mq1 n P F (spSt n P F) n) i) i)) 8 i 0) i) else 0)) (by rw [su_f (by omega), if_neg (Int32.not_lt.mpr c326)])) ?_
                      refine R_aload (pc := 339) C dL_year_339 rfl ?_
                      refine R_iconst (pc := 341) C dL_year_341 (v := 2) (by decide) ?_
                      refine R_dup2 (pc := 342) C dL_year_342 rfl rfl ?_
                      refine R_iald (pc := 343) C dL_year_343 (wmq) (rfl) (by decide) (by decide) (rdq2) ?_
                      refine R_iload (pc := 344) C dL_year_344 rfl ?_
                      refine R_if_le (pc := 346) C dL_year_346 (tgt := 356) (by decide) (fun c346 => ?_) (fun c346 => ?_)
                      · refine R_iconst (pc := 356) C dL_year_356 (v := 0) (by decide) ?_
                        refine R_iadd (pc := 357) C dL_year_357 ?_
                        refine R_iast (pc := 358) C dL_year_358 (wmq) (rfl) (by decide) (by decide) (pme_f (v0 := (su (su (mq2 n (spSt n P F) (mq1 n P F (spSt n P F) n) i) 12 i (tellM n (mq2 n (spSt n P F) (mq1 n P F (spSt n P F) n) i) i)) 8 i 0) 16 0 + (if 0 < (restL (su (su (mq2 n (spSt n P F) (mq1 n P F (spSt n P F) n) i) 12 i (tellM n (mq2 n (spSt n P F) (mq1 n P F (spSt n P F) n) i) i)) 8 i 0) i) then 2 * (restL (su (su (mq2 n (spSt n P F) (mq1 n P F (spSt n P F) n) i) 12 i (tellM n (mq2 n (spSt n P F) (mq1 n P F (spSt n P F) n) i) i)) 8 i 0) i) else 0)) (by rw [su_f (by omega), su_f (by omega), if_neg (Int32.not_lt.mpr c346)])) ?_
                        refine R_iinc (pc := 359) C dL_year_359 rfl (inc1) (lv' := [some (.ref _), some (.ref _), some (.ref _), some (.ref _), some (.ref _), some (.int _), some (.int _), some (.int _), some (.int _), some (.int _)]) rfl ?_
                        refine R_goto (pc := 362) C dL_year_362 (tgt := 125) (by decide) ?_
                        refine WR.ls (lv' := [some (.ref _), some (.ref _), some (.ref _), some (.ref _), some (.ref _), some (.int _), some (.int _), some (.int _), none, none]) (ls_s (ls_s (ls_s (ls_s (ls_s (ls_s (ls_s (ls_s (ls_n (ls_n ls_e)))))))))) ?_
                        refine WR.imp (P' := Wd G (adr, Sc, (n, P, (mq2 n (spSt n P F) (mq1 n P F (spSt n P F) n) (i + 1))), m9, g)) (fun h hh => by rw [← hpay, payL, if_neg hge]; exact hh) ?_
                        exact ih2 (i + 1) (by omega) (by omega)
                      · refine R_iconst (pc := 349) C dL_year_349 (v := 2) (by decide) ?_
                        refine R_iload (pc := 350) C dL_year_350 rfl ?_
                        refine R_imul (pc := 352) C dL_year_352 ?_
                        refine R_goto (pc := 353) C dL_year_353 (tgt := 357) (by decide) ?_
                        refine R_iadd (pc := 357) C dL_year_357 ?_
                        refine R_iast (pc := 358) C dL_year_358 (wmq) (rfl) (by decide) (by decide) (pme_f (v0 := (su (su (mq2 n (spSt n P F) (mq1 n P F (spSt n P F) n) i) 12 i (tellM n (mq2 n (spSt n P F) (mq1 n P F (spSt n P F) n) i) i)) 8 i 0) 16 0 + (if 0 < (restL (su (su (mq2 n (spSt n P F) (mq1 n P F (spSt n P F) n) i) 12 i (tellM n (mq2 n (spSt n P F) (mq1 n P F (spSt n P F) n) i) i)) 8 i 0) i) then 2 * (restL (su (su (mq2 n (spSt n P F) (mq1 n P F (spSt n P F) n) i) 12 i (tellM n (mq2 n (spSt n P F) (mq1 n P F (spSt n P F) n) i) i)) 8 i 0) i) else 0)) (by rw [su_f (by omega), su_f (by omega), if_pos (Int32.not_le.mp c346)])) ?_
                        refine R_iinc (pc := 359) C dL_year_359 rfl (inc1) (lv' := [some (.ref _), some (.ref _), some (.ref _), some (.ref _), some (.ref _), some (.int _), some (.int _), some (.int _), some (.int _), some (.int _)]) rfl ?_
                        refine R_goto (pc := 362) C dL_year_362 (tgt := 125) (by decide) ?_
                        refine WR.ls (lv' := [some (.ref _), some (.ref _), some (.ref _), some (.ref _), some (.ref _), some (.int _), some (.int _), some (.int _), none, none]) (ls_s (ls_s (ls_s (ls_s (ls_s (ls_s (ls_s (ls_s (ls_n (ls_n ls_e)))))))))) ?_
                        refine WR.imp (P' := Wd G (adr, Sc, (n, P, (mq2 n (spSt n P F) (mq1 n P F (spSt n P F) n) (i + 1))), m9, g)) (fun h hh => by rw [← hpay, payL, if_neg hge]; exact hh) ?_
                        exact ih2 (i + 1) (by omega) (by omega)
                    · refine R_iconst (pc := 329) C dL_year_329 (v := 2) (by decide) ?_
                      refine R_iload (pc := 330) C dL_year_330 rfl ?_
                      refine R_imul (pc := 332) C dL_year_332 ?_
                      refine R_goto (pc := 333) C dL_year_333 (tgt := 337) (by decide) ?_
                      refine R_iadd (pc := 337) C dL_year_337 ?_
                      refine R_iast (pc := 338) C dL_year_338 (wmb) (i4 i 1) (by omega) (by decide) (pme_10 (v0 := (su (su (mq2 n (spSt n P F) (mq1 n P F (spSt n P F) n) i) 12 i (tellM n (mq2 n (spSt n P F) (mq1 n P F (spSt n P F) n) i) i)) 8 i 0) 10 i + (if 0 < (restL (su (su (mq2 n (spSt n P F) (mq1 n P F (spSt n P F) n) i) 12 i (tellM n (mq2 n (spSt n P F) (mq1 n P F (spSt n P F) n) i) i)) 8 i 0) i) then 2 * (restL (su (su (mq2 n (spSt n P F) (mq1 n P F (spSt n P F) n) i) 12 i (tellM n (mq2 n (spSt n P F) (mq1 n P F (spSt n P F) n) i) i)) 8 i 0) i) else 0)) (by rw [su_f (by omega), if_pos (Int32.not_le.mp c326)])) ?_
                      refine R_aload (pc := 339) C dL_year_339 rfl ?_
                      refine R_iconst (pc := 341) C dL_year_341 (v := 2) (by decide) ?_
                      refine R_dup2 (pc := 342) C dL_year_342 rfl rfl ?_
                      refine R_iald (pc := 343) C dL_year_343 (wmq) (rfl) (by decide) (by decide) (rdq2) ?_
                      refine R_iload (pc := 344) C dL_year_344 rfl ?_
                      refine R_if_le (pc := 346) C dL_year_346 (tgt := 356) (by decide) (fun c346 => ?_) (fun c346 => ?_)
                      · refine R_iconst (pc := 356) C dL_year_356 (v := 0) (by decide) ?_
                        refine R_iadd (pc := 357) C dL_year_357 ?_
                        refine R_iast (pc := 358) C dL_year_358 (wmq) (rfl) (by decide) (by decide) (pme_f (v0 := (su (su (mq2 n (spSt n P F) (mq1 n P F (spSt n P F) n) i) 12 i (tellM n (mq2 n (spSt n P F) (mq1 n P F (spSt n P F) n) i) i)) 8 i 0) 16 0 + (if 0 < (restL (su (su (mq2 n (spSt n P F) (mq1 n P F (spSt n P F) n) i) 12 i (tellM n (mq2 n (spSt n P F) (mq1 n P F (spSt n P F) n) i) i)) 8 i 0) i) then 2 * (restL (su (su (mq2 n (spSt n P F) (mq1 n P F (spSt n P F) n) i) 12 i (tellM n (mq2 n (spSt n P F) (mq1 n P F (spSt n P F) n) i) i)) 8 i 0) i) else 0)) (by rw [su_f (by omega), su_f (by omega), if_neg (Int32.not_lt.mpr c346)])) ?_
                        refine R_iinc (pc := 359) C dL_year_359 rfl (inc1) (lv' := [some (.ref _), some (.ref _), some (.ref _), some (.ref _), some (.ref _), some (.int _), some (.int _), some (.int _), some (.int _), some (.int _)]) rfl ?_
                        refine R_goto (pc := 362) C dL_year_362 (tgt := 125) (by decide) ?_
                        refine WR.ls (lv' := [some (.ref _), some (.ref _), some (.ref _), some (.ref _), some (.ref _), some (.int _), some (.int _), some (.int _), none, none]) (ls_s (ls_s (ls_s (ls_s (ls_s (ls_s (ls_s (ls_s (ls_n (ls_n ls_e)))))))))) ?_
                        refine WR.imp (P' := Wd G (adr, Sc, (n, P, (mq2 n (spSt n P F) (mq1 n P F (spSt n P F) n) (i + 1))), m9, g)) (fun h hh => by rw [← hpay, payL, if_neg hge]; exact hh) ?_
                        exact ih2 (i + 1) (by omega) (by omega)
                      · refine R_iconst (pc := 349) C dL_year_349 (v := 2) (by decide) ?_
                        refine R_iload (pc := 350) C dL_year_350 rfl ?_
                        refine R_imul (pc := 352) C dL_year_352 ?_
                        refine R_goto (pc := 353) C dL_year_353 (tgt := 357) (by decide) ?_
                        refine R_iadd (pc := 357) C dL_year_357 ?_
                        refine R_iast (pc := 358) C dL_year_358 (wmq) (rfl) (by decide) (by decide) (pme_f (v0 := (su (su (mq2 n (spSt n P F) (mq1 n P F (spSt n P F) n) i) 12 i (tellM n (mq2 n (spSt n P F) (mq1 n P F (spSt n P F) n) i) i)) 8 i 0) 16 0 + (if 0 < (restL (su (su (mq2 n (spSt n P F) (mq1 n P F (spSt n P F) n) i) 12 i (tellM n (mq2 n (spSt n P F) (mq1 n P F (spSt n P F) n) i) i)) 8 i 0) i) then 2 * (restL (su (su (mq2 n (spSt n P F) (mq1 n P F (spSt n P F) n) i) 12 i (tellM n (mq2 n (spSt n P F) (mq1 n P F (spSt n P F) n) i) i)) 8 i 0) i) else 0)) (by rw [su_f (by omega), su_f (by omega), if_pos (Int32.not_le.mp c346)])) ?_
                        refine R_iinc (pc := 359) C dL_year_359 rfl (inc1) (lv' := [some (.ref _), some (.ref _), some (.ref _), some (.ref _), some (.ref _), some (.int _), some (.int _), some (.int _), some (.int _), some (.int _)]) rfl ?_
                        refine R_goto (pc := 362) C dL_year_362 (tgt := 125) (by decide) ?_
                        refine WR.ls (lv' := [some (.ref _), some (.ref _), some (.ref _), some (.ref _), some (.ref _), some (.int _), some (.int _), some (.int _), none, none]) (ls_s (ls_s (ls_s (ls_s (ls_s (ls_s (ls_s (ls_s (ls_n (ls_n ls_e)))))))))) ?_
                        refine WR.imp (P' := Wd G (adr, Sc, (n, P, (mq2 n (spSt n P F) (mq1 n P F (spSt n P F) n) (i + 1))), m9, g)) (fun h hh => by rw [← hpay, payL, if_neg hge]; exact hh) ?_
                        exact ih2 (i + 1) (by omega) (by omega)
                · have hlt : (su (su (mq2 n (spSt n P F) (mq1 n P F (spSt n P F) n) i) 12 i (tellM n (mq2 n (spSt n P F) (mq1 n P F (spSt n P F) n) i) i)) 8 i 0) 12 i < (su (su (mq2 n (spSt n P F) (mq1 n P F (spSt n P F) n) i) 12 i (tellM n (mq2 n (spSt n P F) (mq1 n P F (spSt n P F) n) i) i)) 8 i 0) 5 i := by rw [hx12]; exact Int32.not_le.mp c255
                  refine R_aload_n (pc := 258) C dL_year_258 rfl ?_
                  refine R_iconst (pc := 259) C dL_year_259 (v := 4) (by decide) ?_
                  refine R_iload (pc := 260) C dL_year_260 rfl ?_
                  refine R_imul (pc := 262) C dL_year_262 ?_
                  refine R_dup2 (pc := 263) C dL_year_263 rfl rfl ?_
                  refine R_iald (pc := 264) C dL_year_264 (wmb) (i4z i) (by omega) (by decide) (rdb0) ?_
                  refine R_iload (pc := 265) C dL_year_265 rfl ?_
                  refine R_iload (pc := 267) C dL_year_267 rfl ?_
                  refine R_ishr (pc := 269) C dL_year_269 ?_
                  refine R_iconst (pc := 270) C dL_year_270 (v := 1) (by decide) ?_
                  refine R_iand (pc := 271) C dL_year_271 ?_
                  rw [bit_in (D := (spSt n P F)) (show i < 5 by omega)]
                  refine R_iconst (pc := 272) C dL_year_272 (v := 1) (by decide) ?_
                  refine R_icmp_ne (pc := 273) C dL_year_273 (tgt := 280) (by decide) (fun c273 => ?_) (fun c273 => ?_)
                  · have hE : ¬ (spSt n P F) i = true := fun q => c273 (if_pos q)
                    refine R_aload_n (pc := 280) C dL_year_280 rfl ?_
                    refine R_bipush (pc := 281) C dL_year_281 (v := 9) (by decide) ?_
                    refine R_iload (pc := 283) C dL_year_283 rfl ?_
                    refine R_imul (pc := 285) C dL_year_285 ?_
                    refine R_iconst (pc := 286) C dL_year_286 (v := 5) (by decide) ?_
                    refine R_iadd (pc := 287) C dL_year_287 ?_
                    refine R_iald (pc := 288) C dL_year_288 (wmw) (i9 i 5) (by omega) (by decide) (rdw (by omega)) ?_
                    refine R_iload (pc := 289) C dL_year_289 rfl ?_
                    refine R_isub (pc := 291) C dL_year_291 ?_
                    refine R_iadd (pc := 292) C dL_year_292 ?_
                    refine R_iast (pc := 293) C dL_year_293 (wmb) (i4z i) (by omega) (by decide) (pme_9 (v0 := (su (su (mq2 n (spSt n P F) (mq1 n P F (spSt n P F) n) i) 12 i (tellM n (mq2 n (spSt n P F) (mq1 n P F (spSt n P F) n) i) i)) 8 i 0) 9 i + (if (spSt n P F) i = true then 0 else (su (su (mq2 n (spSt n P F) (mq1 n P F (spSt n P F) n) i) 12 i (tellM n (mq2 n (spSt n P F) (mq1 n P F (spSt n P F) n) i) i)) 8 i 0) 5 i - (su (su (mq2 n (spSt n P F) (mq1 n P F (spSt n P F) n) i) 12 i (tellM n (mq2 n (spSt n P F) (mq1 n P F (spSt n P F) n) i) i)) 8 i 0) 12 i)) (by rw [if_neg hE, hx12])) ?_
                    refine R_goto (pc := 294) C dL_year_294 (tgt := 359) (by decide) ?_
                    refine R_iinc (pc := 359) C dL_year_359 rfl (inc1) (lv' := [some (.ref _), some (.ref _), some (.ref _), some (.ref _), some (.ref _), some (.int _), some (.int _), some (.int _), some (.int _), some (.int _)]) rfl ?_
                    refine R_goto (pc := 362) C dL_year_362 (tgt := 125) (by decide) ?_
                    refine WR.ls (lv' := [some (.ref _), some (.ref _), some (.ref _), some (.ref _), some (.ref _), some (.int _), some (.int _), some (.int _), none, none]) (ls_s (ls_s (ls_s (ls_s (ls_s (ls_s (ls_s (ls_s (ls_n (ls_n ls_e)))))))))) ?_
                    refine WR.imp (P' := Wd G (adr, Sc, (n, P, (mq2 n (spSt n P F) (mq1 n P F (spSt n P F) n) (i + 1))), m9, g)) (fun h hh => by rw [← hpay, payL, if_pos hlt]; exact hh) ?_
                    exact ih2 (i + 1) (by omega) (by omega)
                  · have hE : (spSt n P F) i = true := if1 c273
                    refine R_iconst (pc := 276) C dL_year_276 (v := 0) (by decide) ?_
                    refine R_goto (pc := 277) C dL_year_277 (tgt := 292) (by decide) ?_
                    refine R_iadd (pc := 292) C dL_year_292 ?_
                    refine R_iast (pc := 293) C dL_year_293 (wmb) (i4z i) (by omega) (by decide) (pme_9 (v0 := (su (su (mq2 n (spSt n P F) (mq1 n P F (spSt n P F) n) i) 12 i (tellM n (mq2 n (spSt n P F) (mq1 n P F (spSt n P F) n) i) i)) 8 i 0) 9 i + (if (spSt n P F) i = true then 0 else (su (su (mq2 n (spSt n P F) (mq1 n P F (spSt n P F) n) i) 12 i (tellM n (mq2 n (spSt n P F) (mq1 n P F (spSt n P F) n) i) i)) 8 i 0) 5 i - (su (su (mq2 n (spSt n P F) (mq1 n P F (spSt n P F) n) i) 12 i (tellM n (mq2 n (spSt n P F) (mq1 n P F (spSt n P F) n) i) i)) 8 i 0) 12 i)) (by rw [if_pos hE])) ?_
                    refine R_goto (pc := 294) C dL_year_294 (tgt := 359) (by decide) ?_
                    refine R_iinc (pc := 359) C dL_year_359 rfl (inc1) (lv' := [some (.ref _), some (.ref _), some (.ref _), some (.ref _), some (.ref _), some (.int _), some (.int _), some (.int _), some (.int _), some (.int _)]) rfl ?_
                    refine R_goto (pc := 362) C dL_year_362 (tgt := 125) (by decide) ?_
                    refine WR.ls (lv' := [some (.ref _), some (.ref _), some (.ref _), some (.ref _), some (.ref _), some (.int _), some (.int _), some (.int _), none, none]) (ls_s (ls_s (ls_s (ls_s (ls_s (ls_s (ls_s (ls_s (ls_n (ls_n ls_e)))))))))) ?_
                    refine WR.imp (P' := Wd G (adr, Sc, (n, P, (mq2 n (spSt n P F) (mq1 n P F (spSt n P F) n) (i + 1))), m9, g)) (fun h hh => by rw [← hpay, payL, if_pos hlt]; exact hh) ?_
                    exact ih2 (i + 1) (by omega) (by omega)
              · refine R_aload_n (pc := 158) C dL_year_158 rfl ?_
                refine R_bipush (pc := 159) C dL_year_159 (v := 9) (by decide) ?_
                refine R_iload (pc := 161) C dL_year_161 rfl ?_
                refine R_imul (pc := 163) C dL_year_163 ?_
                refine R_bipush (pc := 164) C dL_year_164 (v := 8) (by decide) ?_
                refine R_iadd (pc := 166) C dL_year_166 ?_
                refine R_iald (pc := 167) C dL_year_167 (wmw) (i9 i 8) (by omega) (by decide) (rdw (by omega)) ?_
                refine R_if_le (pc := 168) C dL_year_168 (tgt := 186) (by decide) (fun c168 => ?_) (fun c168 => ?_)
                · have ht : meanM n (mq2 n (spSt n P F) (mq1 n P F (spSt n P F) n) i) ((mq2 n (spSt n P F) (mq1 n P F (spSt n P F) n) i) 0 i) = (tellM n (mq2 n (spSt n P F) (mq1 n P F (spSt n P F) n) i) i) := by unfold tellM; rw [if_neg (by rw [c155]; decide), if_neg (Int32.not_lt.mpr c168)]
                  refine R_aload_n (pc := 186) C dL_year_186 rfl ?_
                  refine R_bipush (pc := 187) C dL_year_187 (v := 9) (by decide) ?_
                  refine R_iload (pc := 189) C dL_year_189 rfl ?_
                  refine R_imul (pc := 191) C dL_year_191 ?_
                  refine R_iald (pc := 192) C dL_year_192 (wmw) (i9z i) (by omega) (by decide) (rdw (by omega)) ?_
                  refine R_aload_n (pc := 193) C dL_year_193 rfl ?_
                  refine R_aload_n (pc := 194) C dL_year_194 rfl ?_
                  refine R_aload (pc := 195) C dL_year_195 rfl ?_
                  refine R_callSN (pc := 197) C dL_year_197 (vs := [_, _, _, _]) (fun h hh => mL_mean hl hn h hh) ⟨k_23_20, k_23_21, k_2_12, k_23_22⟩ (sgn (nv := 4) rfl ⟨by decide +kernel, by decide +kernel, by decide +kernel⟩) ⟨⟨Nat.le_of_ble_eq_true rfl, Nat.le_of_ble_eq_true rfl⟩, ⟨Nat.le_of_ble_eq_true rfl, Nat.le_of_ble_eq_true rfl⟩, Nat.le_of_ble_eq_true rfl⟩ rfl rfl (fun h9 hh9 v9 => ?_)
                  refine WR.pr (fun e9 => ?_)
                  subst e9
                  show WR K G _ _ _ _ _ _ _ (.int _ :: _)
                  refine R_istore (pc := 200) C dL_year_200 (Nat.le_of_ble_eq_true rfl) (lv' := [some (.ref _), some (.ref _), some (.ref _), some (.ref _), some (.ref _), some (.int _), some (.int _), some (.int _), some (.int _), none]) rfl ?_
                  rw [ht]
                  refine R_aload_n (pc := 202) C dL_year_202 rfl ?_
                  refine R_iconst (pc := 203) C dL_year_203 (v := 4) (by decide) ?_
                  refine R_iload (pc := 204) C dL_year_204 rfl ?_
                  refine R_imul (pc := 206) C dL_year_206 ?_
                  refine R_iconst (pc := 207) C dL_year_207 (v := 3) (by decide) ?_
                  refine R_iadd (pc := 208) C dL_year_208 ?_
                  refine R_iload (pc := 209) C dL_year_209 rfl ?_
                  refine R_iast (pc := 211) C dL_year_211 (wmb) (i4 i 3) (by omega) (by decide) (pme_12 rfl) ?_
                  refine R_aload_n (pc := 212) C dL_year_212 rfl ?_
                  refine R_bipush (pc := 213) C dL_year_213 (v := 9) (by decide) ?_
                  refine R_iload (pc := 215) C dL_year_215 rfl ?_
                  refine R_imul (pc := 217) C dL_year_217 ?_
                  refine R_bipush (pc := 218) C dL_year_218 (v := 8) (by decide) ?_
                  refine R_iadd (pc := 220) C dL_year_220 ?_
                  refine R_iconst (pc := 221) C dL_year_221 (v := 0) (by decide) ?_
                  refine R_iast (pc := 222) C dL_year_222 (wmw) (i9 i 8) (by omega) (by decide) (pm_w (f := 8) (by omega)) ?_
                  refine R_iload (pc := 223) C dL_year_223 rfl ?_
                  refine R_aload_n (pc := 225) C dL_year_225 rfl ?_
                  refine R_bipush (pc := 226) C dL_year_226 (v := 9) (by decide) ?_
                  refine R_iload (pc := 228) C dL_year_228 rfl ?_
                  refine R_imul (pc := 230) C dL_year_230 ?_
                  refine R_iconst (pc := 231) C dL_year_231 (v := 5) (by decide) ?_
                  refine R_iadd (pc := 232) C dL_year_232 ?_
                  refine R_iald (pc := 233) C dL_year_233 (wmw) (i9 i 5) (by omega) (by decide) (rdw (by omega)) ?_
                  refine R_isub (pc := 234) C dL_year_234 ?_
                  refine R_aload_n (pc := 235) C dL_year_235 rfl ?_
                  refine R_iconst (pc := 236) C dL_year_236 (v := 4) (by decide) ?_
                  refine R_iload (pc := 237) C dL_year_237 rfl ?_
                  refine R_imul (pc := 239) C dL_year_239 ?_
                  refine R_iald (pc := 240) C dL_year_240 (wmb) (i4z i) (by omega) (by decide) (rdb0) ?_
                  refine R_isub (pc := 241) C dL_year_241 ?_
                  refine R_istore (pc := 242) C dL_year_242 (Nat.le_of_ble_eq_true rfl) (lv' := [some (.ref _), some (.ref _), some (.ref _), some (.ref _), some (.ref _), some (.int _), some (.int _), some (.int _), some (.int _), some (.int _)]) rfl ?_
                  have hx12 : (su (su (mq2 n (spSt n P F) (mq1 n P F (spSt n P F) n) i) 12 i (tellM n (mq2 n (spSt n P F) (mq1 n P F (spSt n P F) n) i) i)) 8 i 0) 12 i = (tellM n (mq2 n (spSt n P F) (mq1 n P F (spSt n P F) n) i) i) := by rw [su_f (by omega), su_s]
                  have hx5 : (su (su (mq2 n (spSt n P F) (mq1 n P F (spSt n P F) n) i) 12 i (tellM n (mq2 n (spSt n P F) (mq1 n P F (spSt n P F) n) i) i)) 8 i 0) 5 i = F 5 i := by rw [su_f (by omega), su_f (by omega), q5]
                  have hx9 : (su (su (mq2 n (spSt n P F) (mq1 n P F (spSt n P F) n) i) 12 i (tellM n (mq2 n (spSt n P F) (mq1 n P F (spSt n P F) n) i) i)) 8 i 0) 9 i = F 9 i - (F 9 i + 9) / 10 := by rw [su_f (by omega), su_f (by omega), q9]
                  have hpay : payL (spSt n P F) (su (su (mq2 n (spSt n P F) (mq1 n P F (spSt n P F) n) i) 12 i (tellM n (mq2 n (spSt n P F) (mq1 n P F (spSt n P F) n) i) i)) 8 i 0) i = mq2 n (spSt n P F) (mq1 n P F (spSt n P F) n) (i + 1) := payL_eq (by rw [hx12]; exact hT) (by rw [hx5]; exact h5 i hi) (by rw [hx9]; exact (tenth (hbk i hi)).2)
                  rw [show (tellM n (mq2 n (spSt n P F) (mq1 n P F (spSt n P F) n) i) i) - (su (su (mq2 n (spSt n P F) (mq1 n P F (spSt n P F) n) i) 12 i (tellM n (mq2 n (spSt n P F) (mq1 n P F (spSt n P F) n) i) i)) 8 i 0) 5 i - (su (su (mq2 n (spSt n P F) (mq1 n P F (spSt n P F) n) i) 12 i (tellM n (mq2 n (spSt n P F) (mq1 n P F (spSt n P F) n) i) i)) 8 i 0) 9 i = (restL (su (su (mq2 n (spSt n P F) (mq1 n P F (spSt n P F) n) i) 12 i (tellM n (mq2 n (spSt n P F) (mq1 n P F (spSt n P F) n) i) i)) 8 i 0) i) from by unfold restL; rw [hx12]]
                  refine R_iload (pc := 244) C dL_year_244 rfl ?_
                  refine R_aload_n (pc := 246) C dL_year_246 rfl ?_
                  refine R_bipush (pc := 247) C dL_year_247 (v := 9) (by decide) ?_
                  refine R_iload (pc := 249) C dL_year_249 rfl ?_
                  refine R_imul (pc := 251) C dL_year_251 ?_
                  refine R_iconst (pc := 252) C dL_year_252 (v := 5) (by decide) ?_
                  refine R_iadd (pc := 253) C dL_year_253 ?_
                  refine R_iald (pc := 254) C dL_year_254 (wmw) (i9 i 5) (by omega) (by decide) (rdw (by omega)) ?_
                  refine R_icmp_ge (pc := 255) C dL_year_255 (tgt := 297) (by decide) (fun c255 => ?_) (fun c255 => ?_)
                  · have hge : ¬ (su (su (mq2 n (spSt n P F) (mq1 n P F (spSt n P F) n) i) 12 i (tellM n (mq2 n (spSt n P F) (mq1 n P F (spSt n P F) n) i) i)) 8 i 0) 12 i < (su (su (mq2 n (spSt n P F) (mq1 n P F (spSt n P F) n) i) 12 i (tellM n (mq2 n (spSt n P F) (mq1 n P F (spSt n P F) n) i) i)) 8 i 0) 5 i := by rw [hx12]; exact Int32.not_lt.mpr c255
                    refine R_aload_n (pc := 297) C dL_year_297 rfl ?_
                    refine R_iconst (pc := 298) C dL_year_298 (v := 4) (by decide) ?_
                    refine R_iload (pc := 299) C dL_year_299 rfl ?_
                    refine R_imul (pc := 301) C dL_year_301 ?_
                    refine R_iload (pc := 302) C dL_year_302 rfl ?_
                    refine R_if_ge (pc := 304) C dL_year_304 (tgt := 313) (by decide) (fun c304 => ?_) (fun c304 => ?_)
                    · refine R_iconst (pc := 313) C dL_year_313 (v := 0) (by decide) ?_
                      refine R_iast (pc := 314) C dL_year_314 (wmb) (i4z i) (by omega) (by decide) (pme_9 (v0 := if (restL (su (su (mq2 n (spSt n P F) (mq1 n P F (spSt n P F) n) i) 12 i (tellM n (mq2 n (spSt n P F) (mq1 n P F (spSt n P F) n) i) i)) 8 i 0) i) < 0 then -(restL (su (su (mq2 n (spSt n P F) (mq1 n P F (spSt n P F) n) i) 12 i (tellM n (mq2 n (spSt n P F) (mq1 n P F (spSt n P F) n) i) i)) 8 i 0) i) else 0) (by rw [if_neg (Int32.not_lt.mpr c304)])) ?_
                      refine R_aload_n (pc := 315) C dL_year_315 rfl ?_
                      refine R_iconst (pc := 316) C dL_year_316 (v := 4) (by decide) ?_
                      refine R_iload (pc := 317) C dL_year_317 rfl ?_
                      refine R_imul (pc := 319) C dL_year_319 ?_
                      refine R_iconst (pc := 320) C dL_year_320 (v := 1) (by decide) ?_
                      refine R_iadd (pc := 321) C dL_year_321 ?_
                      refine R_dup2 (pc := 322) C dL_year_322 rfl rfl ?_
                      refine R_iald (pc := 323) C dL_year_323 (wmb) (i4 i 1) (by omega) (by decide) (rdb1) ?_
                      refine R_iload (pc := 324) C dL_year_324 rfl ?_
                      refine R_if_le (pc := 326) C dL_year_326 (tgt := 336) (by decide) (fun c326 => ?_) (fun c326 => ?_)
                      · refine R_iconst (pc := 336) C dL_year_336 (v := 0) (by decide) ?_
                        refine R_iadd (pc := 337) C dL_year_337 ?_
                        refine R_iast (pc := 338) C dL_year_338 (wmb) (i4 i 1) (by omega) (by decide) (pme_10 (v0 := (su (su (mq2 n (spSt n P F) (mq1 n P F (spSt n P F) n) i) 12 i (tellM n (mq2 n (spSt n P F) (mq1 n P F (spSt n P F) n) i) i)) 8 i 0) 10 i + (if 0 < (restL (su (su (mq2 n (spSt n P F) (mq1 n P F (spSt n P F) n) i) 12 i (tellM n (mq2 n (spSt n P F) (mq1 n P F (spSt n P F) n) i) i)) 8 i 0) i) then 2 * (restL (su (su (mq2 n (spSt n P F) (mq1 n P F (spSt n P F) n) i) 12 i (tellM n (mq2 n (spSt n P F) (mq1 n P F (spSt n P F) n) i) i)) 8 i 0) i) else 0)) (by rw [su_f (by omega), if_neg (Int32.not_lt.mpr c326)])) ?_
                        refine R_aload (pc := 339) C dL_year_339 rfl ?_
                        refine R_iconst (pc := 341) C dL_year_341 (v := 2) (by decide) ?_
                        refine R_dup2 (pc := 342) C dL_year_342 rfl rfl ?_
                        refine R_iald (pc := 343) C dL_year_343 (wmq) (rfl) (by decide) (by decide) (rdq2) ?_
                        refine R_iload (pc := 344) C dL_year_344 rfl ?_
                        refine R_if_le (pc := 346) C dL_year_346 (tgt := 356) (by decide) (fun c346 => ?_) (fun c346 => ?_)
                        · refine R_iconst (pc := 356) C dL_year_356 (v := 0) (by decide) ?_
                          refine R_iadd (pc := 357) C dL_year_357 ?_
                          refine R_iast (pc := 358) C dL_year_358 (wmq) (rfl) (by decide) (by decide) (pme_f (v0 := (su (su (mq2 n (spSt n P F) (mq1 n P F (spSt n P F) n) i) 12 i (tellM n (mq2 n (spSt n P F) (mq1 n P F (spSt n P F) n) i) i)) 8 i 0) 16 0 + (if 0 < (restL (su (su (mq2 n (spSt n P F) (mq1 n P F (spSt n P F) n) i) 12 i (tellM n (mq2 n (spSt n P F) (mq1 n P F (spSt n P F) n) i) i)) 8 i 0) i) then 2 * (restL (su (su (mq2 n (spSt n P F) (mq1 n P F (spSt n P F) n) i) 12 i (tellM n (mq2 n (spSt n P F) (mq1 n P F (spSt n P F) n) i) i)) 8 i 0) i) else 0)) (by rw [su_f (by omega), su_f (by omega), if_neg (Int32.not_lt.mpr c346)])) ?_
                          refine R_iinc (pc := 359) C dL_year_359 rfl (inc1) (lv' := [some (.ref _), some (.ref _), some (.ref _), some (.ref _), some (.ref _), some (.int _), some (.int _), some (.int _), some (.int _), some (.int _)]) rfl ?_
                          refine R_goto (pc := 362) C dL_year_362 (tgt := 125) (by decide) ?_
                          refine WR.ls (lv' := [some (.ref _), some (.ref _), some (.ref _), some (.ref _), some (.ref _), some (.int _), some (.int _), some (.int _), none, none]) (ls_s (ls_s (ls_s (ls_s (ls_s (ls_s (ls_s (ls_s (ls_n (ls_n ls_e)))))))))) ?_
                          refine WR.imp (P' := Wd G (adr, Sc, (n, P, (mq2 n (spSt n P F) (mq1 n P F (spSt n P F) n) (i + 1))), m9, g)) (fun h hh => by rw [← hpay, payL, if_neg hge]; exact hh) ?_
                          exact ih2 (i + 1) (by omega) (by omega)
                        · refine R_iconst (pc := 349) C dL_year_349 (v := 2) (by decide) ?_
                          refine R_iload (pc := 350) C dL_year_350 rfl ?_
                          refine R_imul (pc := 352) C dL_year_352 ?_
                          refine R_goto (pc := 353) C dL_year_353 (tgt := 357) (by decide) ?_
                          refine R_iadd (pc := 357) C dL_year_357 ?_
                          refine R_iast (pc := 358) C dL_year_358 (wmq) (rfl) (by decide) (by decide) (pme_f (v0 := (su (su (mq2 n (spSt n P F) (mq1 n P F (spSt n P F) n) i) 12 i (tellM n (mq2 n (spSt n P F) (mq1 n P F (spSt n P F) n) i) i)) 8 i 0) 16 0 + (if 0 < (restL (su (su (mq2 n (spSt n P F) (mq1 n P F (spSt n P F) n) i) 12 i (tellM n (mq2 n (spSt n P F) (mq1 n P F (spSt n P F) n) i) i)) 8 i 0) i) then 2 * (restL (su (su (mq2 n (spSt n P F) (mq1 n P F (spSt n P F) n) i) 12 i (tellM n (mq2 n (spSt n P F) (mq1 n P F (spSt n P F) n) i) i)) 8 i 0) i) else 0)) (by rw [su_f (by omega), su_f (by omega), if_pos (Int32.not_le.mp c346)])) ?_
                          refine R_iinc (pc := 359) C dL_year_359 rfl (inc1) (lv' := [some (.ref _), some (.ref _), some (.ref _), some (.ref _), some (.ref _), some (.int _), some (.int _), some (.int _), some (.int _), some (.int _)]) rfl ?_
                          refine R_goto (pc := 362) C dL_year_362 (tgt := 125) (by decide) ?_
                          refine WR.ls (lv' := [some (.ref _), some (.ref _), some (.ref _), some (.ref _), some (.ref _), some (.int _), some (.int _), some (.int _), none, none]) (ls_s (ls_s (ls_s (ls_s (ls_s (ls_s (ls_s (ls_s (ls_n (ls_n ls_e)))))))))) ?_
                          refine WR.imp (P' := Wd G (adr, Sc, (n, P, (mq2 n (spSt n P F) (mq1 n P F (spSt n P F) n) (i + 1))), m9, g)) (fun h hh => by rw [← hpay, payL, if_neg hge]; exact hh) ?_
                          exact ih2 (i + 1) (by omega) (by omega)
                      · refine R_iconst (pc := 329) C dL_year_329 (v := 2) (by decide) ?_
                        refine R_iload (pc := 330) C dL_year_330 rfl ?_
                        refine R_imul (pc := 332) C dL_year_332 ?_
                        refine R_goto (pc := 333) C dL_year_333 (tgt := 337) (by decide) ?_
                        refine R_iadd (pc := 337) C dL_year_337 ?_
                        refine R_iast (pc := 338) C dL_year_338 (wmb) (i4 i 1) (by omega) (by decide) (pme_10 (v0 := (su (su (mq2 n (spSt n P F) (mq1 n P F (spSt n P F) n) i) 12 i (tellM n (mq2 n (spSt n P F) (mq1 n P F (spSt n P F) n) i) i)) 8 i 0) 10 i + (if 0 < (restL (su (su (mq2 n (spSt n P F) (mq1 n P F (spSt n P F) n) i) 12 i (tellM n (mq2 n (spSt n P F) (mq1 n P F (spSt n P F) n) i) i)) 8 i 0) i) then 2 * (restL (su (su (mq2 n (spSt n P F) (mq1 n P F (spSt n P F) n) i) 12 i (tellM n (mq2 n (spSt n P F) (mq1 n P F (spSt n P F) n) i) i)) 8 i 0) i) else 0)) (by rw [su_f (by omega), if_pos (Int32.not_le.mp c326)])) ?_
                        refine R_aload (pc := 339) C dL_year_339 rfl ?_
                        refine R_iconst (pc := 341) C dL_year_341 (v := 2) (by decide) ?_
                        refine R_dup2 (pc := 342) C dL_year_342 rfl rfl ?_
                        refine R_iald (pc := 343) C dL_year_343 (wmq) (rfl) (by decide) (by decide) (rdq2) ?_
                        refine R_iload (pc := 344) C dL_year_344 rfl ?_
                        refine R_if_le (pc := 346) C dL_year_346 (tgt := 356) (by decide) (fun c346 => ?_) (fun c346 => ?_)
                        · refine R_iconst (pc := 356) C dL_year_356 (v := 0) (by decide) ?_
                          refine R_iadd (pc := 357) C dL_year_357 ?_
                          refine R_iast (pc := 358) C dL_year_358 (wmq) (rfl) (by decide) (by decide) (pme_f (v0 := (su (su (mq2 n (spSt n P F) (mq1 n P F (spSt n P F) n) i) 12 i (tellM n (mq2 n (spSt n P F) (mq1 n P F (spSt n P F) n) i) i)) 8 i 0) 16 0 + (if 0 < (restL (su (su (mq2 n (spSt n P F) (mq1 n P F (spSt n P F) n) i) 12 i (tellM n (mq2 n (spSt n P F) (mq1 n P F (spSt n P F) n) i) i)) 8 i 0) i) then 2 * (restL (su (su (mq2 n (spSt n P F) (mq1 n P F (spSt n P F) n) i) 12 i (tellM n (mq2 n (spSt n P F) (mq1 n P F (spSt n P F) n) i) i)) 8 i 0) i) else 0)) (by rw [su_f (by omega), su_f (by omega), if_neg (Int32.not_lt.mpr c346)])) ?_
                          refine R_iinc (pc := 359) C dL_year_359 rfl (inc1) (lv' := [some (.ref _), some (.ref _), some (.ref _), some (.ref _), some (.ref _), some (.int _), some (.int _), some (.int _), some (.int _), some (.int _)]) rfl ?_
                          refine R_goto (pc := 362) C dL_year_362 (tgt := 125) (by decide) ?_
                          refine WR.ls (lv' := [some (.ref _), some (.ref _), some (.ref _), some (.ref _), some (.ref _), some (.int _), some (.int _), some (.int _), none, none]) (ls_s (ls_s (ls_s (ls_s (ls_s (ls_s (ls_s (ls_s (ls_n (ls_n ls_e)))))))))) ?_
                          refine WR.imp (P' := Wd G (adr, Sc, (n, P, (mq2 n (spSt n P F) (mq1 n P F (spSt n P F) n) (i + 1))), m9, g)) (fun h hh => by rw [← hpay, payL, if_neg hge]; exact hh) ?_
                          exact ih2 (i + 1) (by omega) (by omega)
                        · refine R_iconst (pc := 349) C dL_year_349 (v := 2) (by decide) ?_
                          refine R_iload (pc := 350) C dL_year_350 rfl ?_
                          refine R_imul (pc := 352) C dL_year_352 ?_
                          refine R_goto (pc := 353) C dL_year_353 (tgt := 357) (by decide) ?_
                          refine R_iadd (pc := 357) C dL_year_357 ?_
                          refine R_iast (pc := 358) C dL_year_358 (wmq) (rfl) (by decide) (by decide) (pme_f (v0 := (su (su (mq2 n (spSt n P F) (mq1 n P F (spSt n P F) n) i) 12 i (tellM n (mq2 n (spSt n P F) (mq1 n P F (spSt n P F) n) i) i)) 8 i 0) 16 0 + (if 0 < (restL (su (su (mq2 n (spSt n P F) (mq1 n P F (spSt n P F) n) i) 12 i (tellM n (mq2 n (spSt n P F) (mq1 n P F (spSt n P F) n) i) i)) 8 i 0) i) then 2 * (restL (su (su (mq2 n (spSt n P F) (mq1 n P F (spSt n P F) n) i) 12 i (tellM n (mq2 n (spSt n P F) (mq1 n P F (spSt n P F) n) i) i)) 8 i 0) i) else 0)) (by rw [su_f (by omega), su_f (by omega), if_pos (Int32.not_le.mp c346)])) ?_
                          refine R_iinc (pc := 359) C dL_year_359 rfl (inc1) (lv' := [some (.ref _), some (.ref _), some (.ref _), some (.ref _), some (.ref _), some (.int _), some (.int _), some (.int _), some (.int _), some (.int _)]) rfl ?_
                          refine R_goto (pc := 362) C dL_year_362 (tgt := 125) (by decide) ?_
                          refine WR.ls (lv' := [some (.ref _), some (.ref _), some (.ref _), some (.ref _), some (.ref _), some (.int _), some (.int _), some (.int _), none, none]) (ls_s (ls_s (ls_s (ls_s (ls_s (ls_s (ls_s (ls_s (ls_n (ls_n ls_e)))))))))) ?_
                          refine WR.imp (P' := Wd G (adr, Sc, (n, P, (mq2 n (spSt n P F) (mq1 n P F (spSt n P F) n) (i + 1))), m9, g)) (fun h hh => by rw [← hpay, payL, if_neg hge]; exact hh) ?_
                          exact ih2 (i + 1) (by omega) (by omega)
                    · refine R_iload (pc := 307) C dL_year_307 rfl ?_
                      refine R_ineg (pc := 309) C dL_year_309 ?_
                      refine R_goto (pc := 310) C dL_year_310 (tgt := 314) (by decide) ?_
                      refine R_iast (pc := 314) C dL_year_314 (wmb) (i4z i) (by omega) (by decide) (pme_9 (v0 := if (restL (su (su (mq2 n (spSt n P F) (mq1 n P F (spSt n P F) n) i) 12 i (tellM n (mq2 n (spSt n P F) (mq1 n P F (spSt n P F) n) i) i)) 8 i 0) i) < 0 then -(restL (su (su (mq2 n (spSt n P F) (mq1 n P F (spSt n P F) n) i) 12 i (tellM n (mq2 n (spSt n P F) (mq1 n P F (spSt n P F) n) i) i)) 8 i 0) i) else 0) (by rw [if_pos (Int32.not_le.mp c304)])) ?_
                      refine R_aload_n (pc := 315) C dL_year_315 rfl ?_
                      refine R_iconst (pc := 316) C dL_year_316 (v := 4) (by decide) ?_
                      refine R_iload (pc := 317) C dL_year_317 rfl ?_
                      refine R_imul (pc := 319) C dL_year_319 ?_
                      refine R_iconst (pc := 320) C dL_year_320 (v := 1) (by decide) ?_
                      refine R_iadd (pc := 321) C dL_year_321 ?_
                      refine R_dup2 (pc := 322) C dL_year_322 rfl rfl ?_
                      refine R_iald (pc := 323) C dL_year_323 (wmb) (i4 i 1) (by omega) (by decide) (rdb1) ?_
                      refine R_iload (pc := 324) C dL_year_324 rfl ?_
                      refine R_if_le (pc := 326) C dL_year_326 (tgt := 336) (by decide) (fun c326 => ?_) (fun c326 => ?_)
                      · refine R_iconst (pc := 336) C dL_year_336 (v := 0) (by decide) ?_
                        refine R_iadd (pc := 337) C dL_year_337 ?_
                        refine R_iast (pc := 338) C dL_year_338 (wmb) (i4 i 1) (by omega) (by decide) (pme_10 (v0 := (su (su (mq2 n (spSt n P F) (mq1 n P F (spSt n P F) n) i) 12 i (tellM n (mq2 n (spSt n P F) (mq1 n P F (spSt n P F) n) i) i)) 8 i 0) 10 i + (if 0 < (restL (su (su (mq2 n (spSt n P F) (mq1 n P F (spSt n P F) n) i) 12 i (tellM n (mq2 n (spSt n P F) (mq1 n P F (spSt n P F) n) i) i)) 8 i 0) i) then 2 * (restL (su (su (mq2 n (spSt n P F) (mq1 n P F (spSt n P F) n) i) 12 i (tellM n (mq2 n (spSt n P F) (mq1 n P F (spSt n P F) n) i) i)) 8 i 0) i) else 0)) (by rw [su_f (by omega), if_neg (Int32.not_lt.mpr c326)])) ?_
                        refine R_aload (pc := 339) C dL_year_339 rfl ?_
                        refine R_iconst (pc := 341) C dL_year_341 (v := 2) (by decide) ?_
                        refine R_dup2 (pc := 342) C dL_year_342 rfl rfl ?_
                        refine R_iald (pc := 343) C dL_year_343 (wmq) (rfl) (by decide) (by decide) (rdq2) ?_
                        refine R_iload (pc := 344) C dL_year_344 rfl ?_
                        refine R_if_le (pc := 346) C dL_year_346 (tgt := 356) (by decide) (fun c346 => ?_) (fun c346 => ?_)
                        · refine R_iconst (pc := 356) C dL_year_356 (v := 0) (by decide) ?_
                          refine R_iadd (pc := 357) C dL_year_357 ?_
                          refine R_iast (pc := 358) C dL_year_358 (wmq) (rfl) (by decide) (by decide) (pme_f (v0 := (su (su (mq2 n (spSt n P F) (mq1 n P F (spSt n P F) n) i) 12 i (tellM n (mq2 n (spSt n P F) (mq1 n P F (spSt n P F) n) i) i)) 8 i 0) 16 0 + (if 0 < (restL (su (su (mq2 n (spSt n P F) (mq1 n P F (spSt n P F) n) i) 12 i (tellM n (mq2 n (spSt n P F) (mq1 n P F (spSt n P F) n) i) i)) 8 i 0) i) then 2 * (restL (su (su (mq2 n (spSt n P F) (mq1 n P F (spSt n P F) n) i) 12 i (tellM n (mq2 n (spSt n P F) (mq1 n P F (spSt n P F) n) i) i)) 8 i 0) i) else 0)) (by rw [su_f (by omega), su_f (by omega), if_neg (Int32.not_lt.mpr c346)])) ?_
                          refine R_iinc (pc := 359) C dL_year_359 rfl (inc1) (lv' := [some (.ref _), some (.ref _), some (.ref _), some (.ref _), some (.ref _), some (.int _), some (.int _), some (.int _), some (.int _), some (.int _)]) rfl ?_
                          refine R_goto (pc := 362) C dL_year_362 (tgt := 125) (by decide) ?_
                          refine WR.ls (lv' := [some (.ref _), some (.ref _), some (.ref _), some (.ref _), some (.ref _), some (.int _), some (.int _), some (.int _), none, none]) (ls_s (ls_s (ls_s (ls_s (ls_s (ls_s (ls_s (ls_s (ls_n (ls_n ls_e)))))))))) ?_
                          refine WR.imp (P' := Wd G (adr, Sc, (n, P, (mq2 n (spSt n P F) (mq1 n P F (spSt n P F) n) (i + 1))), m9, g)) (fun h hh => by rw [← hpay, payL, if_neg hge]; exact hh) ?_
                          exact ih2 (i + 1) (by omega) (by omega)
                        · refine R_iconst (pc := 349) C dL_year_349 (v := 2) (by decide) ?_
                          refine R_iload (pc := 350) C dL_year_350 rfl ?_
                          refine R_imul (pc := 352) C dL_year_352 ?_
                          refine R_goto (pc := 353) C dL_year_353 (tgt := 357) (by decide) ?_
                          refine R_iadd (pc := 357) C dL_year_357 ?_
                          refine R_iast (pc := 358) C dL_year_358 (wmq) (rfl) (by decide) (by decide) (pme_f (v0 := (su (su (mq2 n (spSt n P F) (mq1 n P F (spSt n P F) n) i) 12 i (tellM n (mq2 n (spSt n P F) (mq1 n P F (spSt n P F) n) i) i)) 8 i 0) 16 0 + (if 0 < (restL (su (su (mq2 n (spSt n P F) (mq1 n P F (spSt n P F) n) i) 12 i (tellM n (mq2 n (spSt n P F) (mq1 n P F (spSt n P F) n) i) i)) 8 i 0) i) then 2 * (restL (su (su (mq2 n (spSt n P F) (mq1 n P F (spSt n P F) n) i) 12 i (tellM n (mq2 n (spSt n P F) (mq1 n P F (spSt n P F) n) i) i)) 8 i 0) i) else 0)) (by rw [su_f (by omega), su_f (by omega), if_pos (Int32.not_le.mp c346)])) ?_
                          refine R_iinc (pc := 359) C dL_year_359 rfl (inc1) (lv' := [some (.ref _), some (.ref _), some (.ref _), some (.ref _), some (.ref _), some (.int _), some (.int _), some (.int _), some (.int _), some (.int _)]) rfl ?_
                          refine R_goto (pc := 362) C dL_year_362 (tgt := 125) (by decide) ?_
                          refine WR.ls (lv' := [some (.ref _), some (.ref _), some (.ref _), some (.ref _), some (.ref _), some (.int _), some (.int _), some (.int _), none, none]) (ls_s (ls_s (ls_s (ls_s (ls_s (ls_s (ls_s (ls_s (ls_n (ls_n ls_e)))))))))) ?_
                          refine WR.imp (P' := Wd G (adr, Sc, (n, P, (mq2 n (spSt n P F) (mq1 n P F (spSt n P F) n) (i + 1))), m9, g)) (fun h hh => by rw [← hpay, payL, if_neg hge]; exact hh) ?_
                          exact ih2 (i + 1) (by omega) (by omega)
                      · refine R_iconst (pc := 329) C dL_year_329 (v := 2) (by decide) ?_
                        refine R_iload (pc := 330) C dL_year_330 rfl ?_
                        refine R_imul (pc := 332) C dL_year_332 ?_
                        refine R_goto (pc := 333) C dL_year_333 (tgt := 337) (by decide) ?_
                        refine R_iadd (pc := 337) C dL_year_337 ?_
                        refine R_iast (pc := 338) C dL_year_338 (wmb) (i4 i 1) (by omega) (by decide) (pme_10 (v0 := (su (su (mq2 n (spSt n P F) (mq1 n P F (spSt n P F) n) i) 12 i (tellM n (mq2 n (spSt n P F) (mq1 n P F (spSt n P F) n) i) i)) 8 i 0) 10 i + (if 0 < (restL (su (su (mq2 n (spSt n P F) (mq1 n P F (spSt n P F) n) i) 12 i (tellM n (mq2 n (spSt n P F) (mq1 n P F (spSt n P F) n) i) i)) 8 i 0) i) then 2 * (restL (su (su (mq2 n (spSt n P F) (mq1 n P F (spSt n P F) n) i) 12 i (tellM n (mq2 n (spSt n P F) (mq1 n P F (spSt n P F) n) i) i)) 8 i 0) i) else 0)) (by rw [su_f (by omega), if_pos (Int32.not_le.mp c326)])) ?_
                        refine R_aload (pc := 339) C dL_year_339 rfl ?_
                        refine R_iconst (pc := 341) C dL_year_341 (v := 2) (by decide) ?_
                        refine R_dup2 (pc := 342) C dL_year_342 rfl rfl ?_
                        refine R_iald (pc := 343) C dL_year_343 (wmq) (rfl) (by decide) (by decide) (rdq2) ?_
                        refine R_iload (pc := 344) C dL_year_344 rfl ?_
                        refine R_if_le (pc := 346) C dL_year_346 (tgt := 356) (by decide) (fun c346 => ?_) (fun c346 => ?_)
                        · refine R_iconst (pc := 356) C dL_year_356 (v := 0) (by decide) ?_
                          refine R_iadd (pc := 357) C dL_year_357 ?_
                          refine R_iast (pc := 358) C dL_year_358 (wmq) (rfl) (by decide) (by decide) (pme_f (v0 := (su (su (mq2 n (spSt n P F) (mq1 n P F (spSt n P F) n) i) 12 i (tellM n (mq2 n (spSt n P F) (mq1 n P F (spSt n P F) n) i) i)) 8 i 0) 16 0 + (if 0 < (restL (su (su (mq2 n (spSt n P F) (mq1 n P F (spSt n P F) n) i) 12 i (tellM n (mq2 n (spSt n P F) (mq1 n P F (spSt n P F) n) i) i)) 8 i 0) i) then 2 * (restL (su (su (mq2 n (spSt n P F) (mq1 n P F (spSt n P F) n) i) 12 i (tellM n (mq2 n (spSt n P F) (mq1 n P F (spSt n P F) n) i) i)) 8 i 0) i) else 0)) (by rw [su_f (by omega), su_f (by omega), if_neg (Int32.not_lt.mpr c346)])) ?_
                          refine R_iinc (pc := 359) C dL_year_359 rfl (inc1) (lv' := [some (.ref _), some (.ref _), some (.ref _), some (.ref _), some (.ref _), some (.int _), some (.int _), some (.int _), some (.int _), some (.int _)]) rfl ?_
                          refine R_goto (pc := 362) C dL_year_362 (tgt := 125) (by decide) ?_
                          refine WR.ls (lv' := [some (.ref _), some (.ref _), some (.ref _), some (.ref _), some (.ref _), some (.int _), some (.int _), some (.int _), none, none]) (ls_s (ls_s (ls_s (ls_s (ls_s (ls_s (ls_s (ls_s (ls_n (ls_n ls_e)))))))))) ?_
                          refine WR.imp (P' := Wd G (adr, Sc, (n, P, (mq2 n (spSt n P F) (mq1 n P F (spSt n P F) n) (i + 1))), m9, g)) (fun h hh => by rw [← hpay, payL, if_neg hge]; exact hh) ?_
                          exact ih2 (i + 1) (by omega) (by omega)
                        · refine R_iconst (pc := 349) C dL_year_349 (v := 2) (by decide) ?_
                          refine R_iload (pc := 350) C dL_year_350 rfl ?_
                          refine R_imul (pc := 352) C dL_year_352 ?_
                          refine R_goto (pc := 353) C dL_year_353 (tgt := 357) (by decide) ?_
                          refine R_iadd (pc := 357) C dL_year_357 ?_
                          refine R_iast (pc := 358) C dL_year_358 (wmq) (rfl) (by decide) (by decide) (pme_f (v0 := (su (su (mq2 n (spSt n P F) (mq1 n P F (spSt n P F) n) i) 12 i (tellM n (mq2 n (spSt n P F) (mq1 n P F (spSt n P F) n) i) i)) 8 i 0) 16 0 + (if 0 < (restL (su (su (mq2 n (spSt n P F) (mq1 n P F (spSt n P F) n) i) 12 i (tellM n (mq2 n (spSt n P F) (mq1 n P F (spSt n P F) n) i) i)) 8 i 0) i) then 2 * (restL (su (su (mq2 n (spSt n P F) (mq1 n P F (spSt n P F) n) i) 12 i (tellM n (mq2 n (spSt n P F) (mq1 n P F (spSt n P F) n) i) i)) 8 i 0) i) else 0)) (by rw [su_f (by omega), su_f (by omega), if_pos (Int32.not_le.mp c346)])) ?_
                          refine R_iinc (pc := 359) C dL_year_359 rfl (inc1) (lv' := [some (.ref _), some (.ref _), some (.ref _), some (.ref _), some (.ref _), some (.int _), some (.int _), some (.int _), some (.int _), some (.int _)]) rfl ?_
                          refine R_goto (pc := 362) C dL_year_362 (tgt := 125) (by decide) ?_
                          refine WR.ls (lv' := [some (.ref _), some (.ref _), some (.ref _), some (.ref _), some (.ref _), some (.int _), some (.int _), some (.int _), none, none]) (ls_s (ls_s (ls_s (ls_s (ls_s (ls_s (ls_s (ls_s (ls_n (ls_n ls_e)))))))))) ?_
                          refine WR.imp (P' := Wd G (adr, Sc, (n, P, (mq2 n (spSt n P F) (mq1 n P F (spSt n P F) n) (i + 1))), m9, g)) (fun h hh => by rw [← hpay, payL, if_neg hge]; exact hh) ?_
                          exact ih2 (i + 1) (by omega) (by omega)
                  · have hlt : (su (su (mq2 n (spSt n P F) (mq1 n P F (spSt n P F) n) i) 12 i (tellM n (mq2 n (spSt n P F) (mq1 n P F (spSt n P F) n) i) i)) 8 i 0) 12 i < (su (su (mq2 n (spSt n P F) (mq1 n P F (spSt n P F) n) i) 12 i (tellM n (mq2 n (spSt n P F) (mq1 n P F (spSt n P F) n) i) i)) 8 i 0) 5 i := by rw [hx12]; exact Int32.not_le.mp c255
                    refine R_aload_n (pc := 258) C dL_year_258 rfl ?_
                    refine R_iconst (pc := 259) C dL_year_259 (v := 4) (by decide) ?_
                    refine R_iload (pc := 260) C dL_year_260 rfl ?_
                    refine R_imul (pc := 262) C dL_year_262 ?_
                    refine R_dup2 (pc := 263) C dL_year_263 rfl rfl ?_
                    refine R_iald (pc := 264) C dL_year_264 (wmb) (i4z i) (by omega) (by decide) (rdb0) ?_
                    refine R_iload (pc := 265) C dL_year_265 rfl ?_
                    refine R_iload (pc := 267) C dL_year_267 rfl ?_
                    refine R_ishr (pc := 269) C dL_year_269 ?_
                    refine R_iconst (pc := 270) C dL_year_270 (v := 1) (by decide) ?_
                    refine R_iand (pc := 271) C dL_year_271 ?_
                    rw [bit_in (D := (spSt n P F)) (show i < 5 by omega)]
                    refine R_iconst (pc := 272) C dL_year_272 (v := 1) (by decide) ?_
                    refine R_icmp_ne (pc := 273) C dL_year_273 (tgt := 280) (by decide) (fun c273 => ?_) (fun c273 => ?_)
                    · have hE : ¬ (spSt n P F) i = true := fun q => c273 (if_pos q)
                      refine R_aload_n (pc := 280) C dL_year_280 rfl ?_
                      refine R_bipush (pc := 281) C dL_year_281 (v := 9) (by decide) ?_
                      refine R_iload (pc := 283) C dL_year_283 rfl ?_
                      refine R_imul (pc := 285) C dL_year_285 ?_
                      refine R_iconst (pc := 286) C dL_year_286 (v := 5) (by decide) ?_
                      refine R_iadd (pc := 287) C dL_year_287 ?_
                      refine R_iald (pc := 288) C dL_year_288 (wmw) (i9 i 5) (by omega) (by decide) (rdw (by omega)) ?_
                      refine R_iload (pc := 289) C dL_year_289 rfl ?_
                      refine R_isub (pc := 291) C dL_year_291 ?_
                      refine R_iadd (pc := 292) C dL_year_292 ?_
                      refine R_iast (pc := 293) C dL_year_293 (wmb) (i4z i) (by omega) (by decide) (pme_9 (v0 := (su (su (mq2 n (spSt n P F) (mq1 n P F (spSt n P F) n) i) 12 i (tellM n (mq2 n (spSt n P F) (mq1 n P F (spSt n P F) n) i) i)) 8 i 0) 9 i + (if (spSt n P F) i = true then 0 else (su (su (mq2 n (spSt n P F) (mq1 n P F (spSt n P F) n) i) 12 i (tellM n (mq2 n (spSt n P F) (mq1 n P F (spSt n P F) n) i) i)) 8 i 0) 5 i - (su (su (mq2 n (spSt n P F) (mq1 n P F (spSt n P F) n) i) 12 i (tellM n (mq2 n (spSt n P F) (mq1 n P F (spSt n P F) n) i) i)) 8 i 0) 12 i)) (by rw [if_neg hE, hx12])) ?_
                      refine R_goto (pc := 294) C dL_year_294 (tgt := 359) (by decide) ?_
                      refine R_iinc (pc := 359) C dL_year_359 rfl (inc1) (lv' := [some (.ref _), some (.ref _), some (.ref _), some (.ref _), some (.ref _), some (.int _), some (.int _), some (.int _), some (.int _), some (.int _)]) rfl ?_
                      refine R_goto (pc := 362) C dL_year_362 (tgt := 125) (by decide) ?_
                      refine WR.ls (lv' := [some (.ref _), some (.ref _), some (.ref _), some (.ref _), some (.ref _), some (.int _), some (.int _), some (.int _), none, none]) (ls_s (ls_s (ls_s (ls_s (ls_s (ls_s (ls_s (ls_s (ls_n (ls_n ls_e)))))))))) ?_
                      refine WR.imp (P' := Wd G (adr, Sc, (n, P, (mq2 n (spSt n P F) (mq1 n P F (spSt n P F) n) (i + 1))), m9, g)) (fun h hh => by rw [← hpay, payL, if_pos hlt]; exact hh) ?_
                      exact ih2 (i + 1) (by omega) (by omega)
                    · have hE : (spSt n P F) i = true := if1 c273
                      refine R_iconst (pc := 276) C dL_year_276 (v := 0) (by decide) ?_
                      refine R_goto (pc := 277) C dL_year_277 (tgt := 292) (by decide) ?_
                      refine R_iadd (pc := 292) C dL_year_292 ?_
                      refine R_iast (pc := 293) C dL_year_293 (wmb) (i4z i) (by omega) (by decide) (pme_9 (v0 := (su (su (mq2 n (spSt n P F) (mq1 n P F (spSt n P F) n) i) 12 i (tellM n (mq2 n (spSt n P F) (mq1 n P F (spSt n P F) n) i) i)) 8 i 0) 9 i + (if (spSt n P F) i = true then 0 else (su (su (mq2 n (spSt n P F) (mq1 n P F (spSt n P F) n) i) 12 i (tellM n (mq2 n (spSt n P F) (mq1 n P F (spSt n P F) n) i) i)) 8 i 0) 5 i - (su (su (mq2 n (spSt n P F) (mq1 n P F (spSt n P F) n) i) 12 i (tellM n (mq2 n (spSt n P F) (mq1 n P F (spSt n P F) n) i) i)) 8 i 0) 12 i)) (by rw [if_pos hE])) ?_
                      refine R_goto (pc := 294) C dL_year_294 (tgt := 359) (by decide) ?_
                      refine R_iinc (pc := 359) C dL_year_359 rfl (inc1) (lv' := [some (.ref _), some (.ref _), some (.ref _), some (.ref _), some (.ref _), some (.int _), some (.int _), some (.int _), some (.int _), some (.int _)]) rfl ?_
                      refine R_goto (pc := 362) C dL_year_362 (tgt := 125) (by decide) ?_
                      refine WR.ls (lv' := [some (.ref _), some (.ref _), some (.ref _), some (.ref _), some (.ref _), some (.int _), some (.int _), some (.int _), none, none]) (ls_s (ls_s (ls_s (ls_s (ls_s (ls_s (ls_s (ls_s (ls_n (ls_n ls_e)))))))))) ?_
                      refine WR.imp (P' := Wd G (adr, Sc, (n, P, (mq2 n (spSt n P F) (mq1 n P F (spSt n P F) n) (i + 1))), m9, g)) (fun h hh => by rw [← hpay, payL, if_pos hlt]; exact hh) ?_
                      exact ih2 (i + 1) (by omega) (by omega)
                · have ht : (mq2 n (spSt n P F) (mq1 n P F (spSt n P F) n) i) 8 i * 3 = (tellM n (mq2 n (spSt n P F) (mq1 n P F (spSt n P F) n) i) i) := by unfold tellM; rw [if_neg (by rw [c155]; decide), if_pos (Int32.not_le.mp c168), Int32.mul_comm]
                  refine R_aload_n (pc := 171) C dL_year_171 rfl ?_
                  refine R_bipush (pc := 172) C dL_year_172 (v := 9) (by decide) ?_
                  refine R_iload (pc := 174) C dL_year_174 rfl ?_
                  refine R_imul (pc := 176) C dL_year_176 ?_
                  refine R_bipush (pc := 177) C dL_year_177 (v := 8) (by decide) ?_
                  refine R_iadd (pc := 179) C dL_year_179 ?_
                  refine R_iald (pc := 180) C dL_year_180 (wmw) (i9 i 8) (by omega) (by decide) (rdw (by omega)) ?_
                  refine R_iconst (pc := 181) C dL_year_181 (v := 3) (by decide) ?_
                  refine R_imul (pc := 182) C dL_year_182 ?_
                  refine R_goto (pc := 183) C dL_year_183 (tgt := 200) (by decide) ?_
                  refine R_istore (pc := 200) C dL_year_200 (Nat.le_of_ble_eq_true rfl) (lv' := [some (.ref _), some (.ref _), some (.ref _), some (.ref _), some (.ref _), some (.int _), some (.int _), some (.int _), some (.int _), none]) rfl ?_
                  rw [ht]
                  refine R_aload_n (pc := 202) C dL_year_202 rfl ?_
                  refine R_iconst (pc := 203) C dL_year_203 (v := 4) (by decide) ?_
                  refine R_iload (pc := 204) C dL_year_204 rfl ?_
                  refine R_imul (pc := 206) C dL_year_206 ?_
                  refine R_iconst (pc := 207) C dL_year_207 (v := 3) (by decide) ?_
                  refine R_iadd (pc := 208) C dL_year_208 ?_
                  refine R_iload (pc := 209) C dL_year_209 rfl ?_
                  refine R_iast (pc := 211) C dL_year_211 (wmb) (i4 i 3) (by omega) (by decide) (pme_12 rfl) ?_
                  refine R_aload_n (pc := 212) C dL_year_212 rfl ?_
                  refine R_bipush (pc := 213) C dL_year_213 (v := 9) (by decide) ?_
                  refine R_iload (pc := 215) C dL_year_215 rfl ?_
                  refine R_imul (pc := 217) C dL_year_217 ?_
                  refine R_bipush (pc := 218) C dL_year_218 (v := 8) (by decide) ?_
                  refine R_iadd (pc := 220) C dL_year_220 ?_
                  refine R_iconst (pc := 221) C dL_year_221 (v := 0) (by decide) ?_
                  refine R_iast (pc := 222) C dL_year_222 (wmw) (i9 i 8) (by omega) (by decide) (pm_w (f := 8) (by omega)) ?_
                  refine R_iload (pc := 223) C dL_year_223 rfl ?_
                  refine R_aload_n (pc := 225) C dL_year_225 rfl ?_
                  refine R_bipush (pc := 226) C dL_year_226 (v := 9) (by decide) ?_
                  refine R_iload (pc := 228) C dL_year_228 rfl ?_
                  refine R_imul (pc := 230) C dL_year_230 ?_
                  refine R_iconst (pc := 231) C dL_year_231 (v := 5) (by decide) ?_
                  refine R_iadd (pc := 232) C dL_year_232 ?_
                  refine R_iald (pc := 233) C dL_year_233 (wmw) (i9 i 5) (by omega) (by decide) (rdw (by omega)) ?_
                  refine R_isub (pc := 234) C dL_year_234 ?_
                  refine R_aload_n (pc := 235) C dL_year_235 rfl ?_
                  refine R_iconst (pc := 236) C dL_year_236 (v := 4) (by decide) ?_
                  refine R_iload (pc := 237) C dL_year_237 rfl ?_
                  refine R_imul (pc := 239) C dL_year_239 ?_
                  refine R_iald (pc := 240) C dL_year_240 (wmb) (i4z i) (by omega) (by decide) (rdb0) ?_
                  refine R_isub (pc := 241) C dL_year_241 ?_
                  refine R_istore (pc := 242) C dL_year_242 (Nat.le_of_ble_eq_true rfl) (lv' := [some (.ref _), some (.ref _), some (.ref _), some (.ref _), some (.ref _), some (.int _), some (.int _), some (.int _), some (.int _), some (.int _)]) rfl ?_
                  have hx12 : (su (su (mq2 n (spSt n P F) (mq1 n P F (spSt n P F) n) i) 12 i (tellM n (mq2 n (spSt n P F) (mq1 n P F (spSt n P F) n) i) i)) 8 i 0) 12 i = (tellM n (mq2 n (spSt n P F) (mq1 n P F (spSt n P F) n) i) i) := by rw [su_f (by omega), su_s]
                  have hx5 : (su (su (mq2 n (spSt n P F) (mq1 n P F (spSt n P F) n) i) 12 i (tellM n (mq2 n (spSt n P F) (mq1 n P F (spSt n P F) n) i) i)) 8 i 0) 5 i = F 5 i := by rw [su_f (by omega), su_f (by omega), q5]
                  have hx9 : (su (su (mq2 n (spSt n P F) (mq1 n P F (spSt n P F) n) i) 12 i (tellM n (mq2 n (spSt n P F) (mq1 n P F (spSt n P F) n) i) i)) 8 i 0) 9 i = F 9 i - (F 9 i + 9) / 10 := by rw [su_f (by omega), su_f (by omega), q9]
                  have hpay : payL (spSt n P F) (su (su (mq2 n (spSt n P F) (mq1 n P F (spSt n P F) n) i) 12 i (tellM n (mq2 n (spSt n P F) (mq1 n P F (spSt n P F) n) i) i)) 8 i 0) i = mq2 n (spSt n P F) (mq1 n P F (spSt n P F) n) (i + 1) := payL_eq (by rw [hx12]; exact hT) (by rw [hx5]; exact h5 i hi) (by rw [hx9]; exact (tenth (hbk i hi)).2)
                  rw [show (tellM n (mq2 n (spSt n P F) (mq1 n P F (spSt n P F) n) i) i) - (su (su (mq2 n (spSt n P F) (mq1 n P F (spSt n P F) n) i) 12 i (tellM n (mq2 n (spSt n P F) (mq1 n P F (spSt n P F) n) i) i)) 8 i 0) 5 i - (su (su (mq2 n (spSt n P F) (mq1 n P F (spSt n P F) n) i) 12 i (tellM n (mq2 n (spSt n P F) (mq1 n P F (spSt n P F) n) i) i)) 8 i 0) 9 i = (restL (su (su (mq2 n (spSt n P F) (mq1 n P F (spSt n P F) n) i) 12 i (tellM n (mq2 n (spSt n P F) (mq1 n P F (spSt n P F) n) i) i)) 8 i 0) i) from by unfold restL; rw [hx12]]
                  refine R_iload (pc := 244) C dL_year_244 rfl ?_
                  refine R_aload_n (pc := 246) C dL_year_246 rfl ?_
                  refine R_bipush (pc := 247) C dL_year_247 (v := 9) (by decide) ?_
                  refine R_iload (pc := 249) C dL_year_249 rfl ?_
                  refine R_imul (pc := 251) C dL_year_251 ?_
                  refine R_iconst (pc := 252) C dL_year_252 (v := 5) (by decide) ?_
                  refine R_iadd (pc := 253) C dL_year_253 ?_
                  refine R_iald (pc := 254) C dL_year_254 (wmw) (i9 i 5) (by omega) (by decide) (rdw (by omega)) ?_
                  refine R_icmp_ge (pc := 255) C dL_year_255 (tgt := 297) (by decide) (fun c255 => ?_) (fun c255 => ?_)
                  · have hge : ¬ (su (su (mq2 n (spSt n P F) (mq1 n P F (spSt n P F) n) i) 12 i (tellM n (mq2 n (spSt n P F) (mq1 n P F (spSt n P F) n) i) i)) 8 i 0) 12 i < (su (su (mq2 n (spSt n P F) (mq1 n P F (spSt n P F) n) i) 12 i (tellM n (mq2 n (spSt n P F) (mq1 n P F (spSt n P F) n) i) i)) 8 i 0) 5 i := by rw [hx12]; exact Int32.not_lt.mpr c255
                    refine R_aload_n (pc := 297) C dL_year_297 rfl ?_
                    refine R_iconst (pc := 298) C dL_year_298 (v := 4) (by decide) ?_
                    refine R_iload (pc := 299) C dL_year_299 rfl ?_
                    refine R_imul (pc := 301) C dL_year_301 ?_
                    refine R_iload (pc := 302) C dL_year_302 rfl ?_
                    refine R_if_ge (pc := 304) C dL_year_304 (tgt := 313) (by decide) (fun c304 => ?_) (fun c304 => ?_)
                    · refine R_iconst (pc := 313) C dL_year_313 (v := 0) (by decide) ?_
                      refine R_iast (pc := 314) C dL_year_314 (wmb) (i4z i) (by omega) (by decide) (pme_9 (v0 := if (restL (su (su (mq2 n (spSt n P F) (mq1 n P F (spSt n P F) n) i) 12 i (tellM n (mq2 n (spSt n P F) (mq1 n P F (spSt n P F) n) i) i)) 8 i 0) i) < 0 then -(restL (su (su (mq2 n (spSt n P F) (mq1 n P F (spSt n P F) n) i) 12 i (tellM n (mq2 n (spSt n P F) (mq1 n P F (spSt n P F) n) i) i)) 8 i 0) i) else 0) (by rw [if_neg (Int32.not_lt.mpr c304)])) ?_
                      refine R_aload_n (pc := 315) C dL_year_315 rfl ?_
                      refine R_iconst (pc := 316) C dL_year_316 (v := 4) (by decide) ?_
                      refine R_iload (pc := 317) C dL_year_317 rfl ?_
                      refine R_imul (pc := 319) C dL_year_319 ?_
                      refine R_iconst (pc := 320) C dL_year_320 (v := 1) (by decide) ?_
                      refine R_iadd (pc := 321) C dL_year_321 ?_
                      refine R_dup2 (pc := 322) C dL_year_322 rfl rfl ?_
                      refine R_iald (pc := 323) C dL_year_323 (wmb) (i4 i 1) (by omega) (by decide) (rdb1) ?_
                      refine R_iload (pc := 324) C dL_year_324 rfl ?_
                      refine R_if_le (pc := 326) C dL_year_326 (tgt := 336) (by decide) (fun c326 => ?_) (fun c326 => ?_)
                      · refine R_iconst (pc := 336) C dL_year_336 (v := 0) (by decide) ?_
                        refine R_iadd (pc := 337) C dL_year_337 ?_
                        refine R_iast (pc := 338) C dL_year_338 (wmb) (i4 i 1) (by omega) (by decide) (pme_10 (v0 := (su (su (mq2 n (spSt n P F) (mq1 n P F (spSt n P F) n) i) 12 i (tellM n (mq2 n (spSt n P F) (mq1 n P F (spSt n P F) n) i) i)) 8 i 0) 10 i + (if 0 < (restL (su (su (mq2 n (spSt n P F) (mq1 n P F (spSt n P F) n) i) 12 i (tellM n (mq2 n (spSt n P F) (mq1 n P F (spSt n P F) n) i) i)) 8 i 0) i) then 2 * (restL (su (su (mq2 n (spSt n P F) (mq1 n P F (spSt n P F) n) i) 12 i (tellM n (mq2 n (spSt n P F) (mq1 n P F (spSt n P F) n) i) i)) 8 i 0) i) else 0)) (by rw [su_f (by omega), if_neg (Int32.not_lt.mpr c326)])) ?_
                        refine R_aload (pc := 339) C dL_year_339 rfl ?_
                        refine R_iconst (pc := 341) C dL_year_341 (v := 2) (by decide) ?_
                        refine R_dup2 (pc := 342) C dL_year_342 rfl rfl ?_
                        refine R_iald (pc := 343) C dL_year_343 (wmq) (rfl) (by decide) (by decide) (rdq2) ?_
                        refine R_iload (pc := 344) C dL_year_344 rfl ?_
                        refine R_if_le (pc := 346) C dL_year_346 (tgt := 356) (by decide) (fun c346 => ?_) (fun c346 => ?_)
                        · refine R_iconst (pc := 356) C dL_year_356 (v := 0) (by decide) ?_
                          refine R_iadd (pc := 357) C dL_year_357 ?_
                          refine R_iast (pc := 358) C dL_year_358 (wmq) (rfl) (by decide) (by decide) (pme_f (v0 := (su (su (mq2 n (spSt n P F) (mq1 n P F (spSt n P F) n) i) 12 i (tellM n (mq2 n (spSt n P F) (mq1 n P F (spSt n P F) n) i) i)) 8 i 0) 16 0 + (if 0 < (restL (su (su (mq2 n (spSt n P F) (mq1 n P F (spSt n P F) n) i) 12 i (tellM n (mq2 n (spSt n P F) (mq1 n P F (spSt n P F) n) i) i)) 8 i 0) i) then 2 * (restL (su (su (mq2 n (spSt n P F) (mq1 n P F (spSt n P F) n) i) 12 i (tellM n (mq2 n (spSt n P F) (mq1 n P F (spSt n P F) n) i) i)) 8 i 0) i) else 0)) (by rw [su_f (by omega), su_f (by omega), if_neg (Int32.not_lt.mpr c346)])) ?_
                          refine R_iinc (pc := 359) C dL_year_359 rfl (inc1) (lv' := [some (.ref _), some (.ref _), some (.ref _), some (.ref _), some (.ref _), some (.int _), some (.int _), some (.int _), some (.int _), some (.int _)]) rfl ?_
                          refine R_goto (pc := 362) C dL_year_362 (tgt := 125) (by decide) ?_
                          refine WR.ls (lv' := [some (.ref _), some (.ref _), some (.ref _), some (.ref _), some (.ref _), some (.int _), some (.int _), some (.int _), none, none]) (ls_s (ls_s (ls_s (ls_s (ls_s (ls_s (ls_s (ls_s (ls_n (ls_n ls_e)))))))))) ?_
                          refine WR.imp (P' := Wd G (adr, Sc, (n, P, (mq2 n (spSt n P F) (mq1 n P F (spSt n P F) n) (i + 1))), m9, g)) (fun h hh => by rw [← hpay, payL, if_neg hge]; exact hh) ?_
                          exact ih2 (i + 1) (by omega) (by omega)
                        · refine R_iconst (pc := 349) C dL_year_349 (v := 2) (by decide) ?_
                          refine R_iload (pc := 350) C dL_year_350 rfl ?_
                          refine R_imul (pc := 352) C dL_year_352 ?_
                          refine R_goto (pc := 353) C dL_year_353 (tgt := 357) (by decide) ?_
                          refine R_iadd (pc := 357) C dL_year_357 ?_
                          refine R_iast (pc := 358) C dL_year_358 (wmq) (rfl) (by decide) (by decide) (pme_f (v0 := (su (su (mq2 n (spSt n P F) (mq1 n P F (spSt n P F) n) i) 12 i (tellM n (mq2 n (spSt n P F) (mq1 n P F (spSt n P F) n) i) i)) 8 i 0) 16 0 + (if 0 < (restL (su (su (mq2 n (spSt n P F) (mq1 n P F (spSt n P F) n) i) 12 i (tellM n (mq2 n (spSt n P F) (mq1 n P F (spSt n P F) n) i) i)) 8 i 0) i) then 2 * (restL (su (su (mq2 n (spSt n P F) (mq1 n P F (spSt n P F) n) i) 12 i (tellM n (mq2 n (spSt n P F) (mq1 n P F (spSt n P F) n) i) i)) 8 i 0) i) else 0)) (by rw [su_f (by omega), su_f (by omega), if_pos (Int32.not_le.mp c346)])) ?_
                          refine R_iinc (pc := 359) C dL_year_359 rfl (inc1) (lv' := [some (.ref _), some (.ref _), some (.ref _), some (.ref _), some (.ref _), some (.int _), some (.int _), some (.int _), some (.int _), some (.int _)]) rfl ?_
                          refine R_goto (pc := 362) C dL_year_362 (tgt := 125) (by decide) ?_
                          refine WR.ls (lv' := [some (.ref _), some (.ref _), some (.ref _), some (.ref _), some (.ref _), some (.int _), some (.int _), some (.int _), none, none]) (ls_s (ls_s (ls_s (ls_s (ls_s (ls_s (ls_s (ls_s (ls_n (ls_n ls_e)))))))))) ?_
                          refine WR.imp (P' := Wd G (adr, Sc, (n, P, (mq2 n (spSt n P F) (mq1 n P F (spSt n P F) n) (i + 1))), m9, g)) (fun h hh => by rw [← hpay, payL, if_neg hge]; exact hh) ?_
                          exact ih2 (i + 1) (by omega) (by omega)
                      · refine R_iconst (pc := 329) C dL_year_329 (v := 2) (by decide) ?_
                        refine R_iload (pc := 330) C dL_year_330 rfl ?_
                        refine R_imul (pc := 332) C dL_year_332 ?_
                        refine R_goto (pc := 333) C dL_year_333 (tgt := 337) (by decide) ?_
                        refine R_iadd (pc := 337) C dL_year_337 ?_
                        refine R_iast (pc := 338) C dL_year_338 (wmb) (i4 i 1) (by omega) (by decide) (pme_10 (v0 := (su (su (mq2 n (spSt n P F) (mq1 n P F (spSt n P F) n) i) 12 i (tellM n (mq2 n (spSt n P F) (mq1 n P F (spSt n P F) n) i) i)) 8 i 0) 10 i + (if 0 < (restL (su (su (mq2 n (spSt n P F) (mq1 n P F (spSt n P F) n) i) 12 i (tellM n (mq2 n (spSt n P F) (mq1 n P F (spSt n P F) n) i) i)) 8 i 0) i) then 2 * (restL (su (su (mq2 n (spSt n P F) (mq1 n P F (spSt n P F) n) i) 12 i (tellM n (mq2 n (spSt n P F) (mq1 n P F (spSt n P F) n) i) i)) 8 i 0) i) else 0)) (by rw [su_f (by omega), if_pos (Int32.not_le.mp c326)])) ?_
                        refine R_aload (pc := 339) C dL_year_339 rfl ?_
                        refine R_iconst (pc := 341) C dL_year_341 (v := 2) (by decide) ?_
                        refine R_dup2 (pc := 342) C dL_year_342 rfl rfl ?_
                        refine R_iald (pc := 343) C dL_year_343 (wmq) (rfl) (by decide) (by decide) (rdq2) ?_
                        refine R_iload (pc := 344) C dL_year_344 rfl ?_
                        refine R_if_le (pc := 346) C dL_year_346 (tgt := 356) (by decide) (fun c346 => ?_) (fun c346 => ?_)
                        · refine R_iconst (pc := 356) C dL_year_356 (v := 0) (by decide) ?_
                          refine R_iadd (pc := 357) C dL_year_357 ?_
                          refine R_iast (pc := 358) C dL_year_358 (wmq) (rfl) (by decide) (by decide) (pme_f (v0 := (su (su (mq2 n (spSt n P F) (mq1 n P F (spSt n P F) n) i) 12 i (tellM n (mq2 n (spSt n P F) (mq1 n P F (spSt n P F) n) i) i)) 8 i 0) 16 0 + (if 0 < (restL (su (su (mq2 n (spSt n P F) (mq1 n P F (spSt n P F) n) i) 12 i (tellM n (mq2 n (spSt n P F) (mq1 n P F (spSt n P F) n) i) i)) 8 i 0) i) then 2 * (restL (su (su (mq2 n (spSt n P F) (mq1 n P F (spSt n P F) n) i) 12 i (tellM n (mq2 n (spSt n P F) (mq1 n P F (spSt n P F) n) i) i)) 8 i 0) i) else 0)) (by rw [su_f (by omega), su_f (by omega), if_neg (Int32.not_lt.mpr c346)])) ?_
                          refine R_iinc (pc := 359) C dL_year_359 rfl (inc1) (lv' := [some (.ref _), some (.ref _), some (.ref _), some (.ref _), some (.ref _), some (.int _), some (.int _), some (.int _), some (.int _), some (.int _)]) rfl ?_
                          refine R_goto (pc := 362) C dL_year_362 (tgt := 125) (by decide) ?_
                          refine WR.ls (lv' := [some (.ref _), some (.ref _), some (.ref _), some (.ref _), some (.ref _), some (.int _), some (.int _), some (.int _), none, none]) (ls_s (ls_s (ls_s (ls_s (ls_s (ls_s (ls_s (ls_s (ls_n (ls_n ls_e)))))))))) ?_
                          refine WR.imp (P' := Wd G (adr, Sc, (n, P, (mq2 n (spSt n P F) (mq1 n P F (spSt n P F) n) (i + 1))), m9, g)) (fun h hh => by rw [← hpay, payL, if_neg hge]; exact hh) ?_
                          exact ih2 (i + 1) (by omega) (by omega)
                        · refine R_iconst (pc := 349) C dL_year_349 (v := 2) (by decide) ?_
                          refine R_iload (pc := 350) C dL_year_350 rfl ?_
                          refine R_imul (pc := 352) C dL_year_352 ?_
                          refine R_goto (pc := 353) C dL_year_353 (tgt := 357) (by decide) ?_
                          refine R_iadd (pc := 357) C dL_year_357 ?_
                          refine R_iast (pc := 358) C dL_year_358 (wmq) (rfl) (by decide) (by decide) (pme_f (v0 := (su (su (mq2 n (spSt n P F) (mq1 n P F (spSt n P F) n) i) 12 i (tellM n (mq2 n (spSt n P F) (mq1 n P F (spSt n P F) n) i) i)) 8 i 0) 16 0 + (if 0 < (restL (su (su (mq2 n (spSt n P F) (mq1 n P F (spSt n P F) n) i) 12 i (tellM n (mq2 n (spSt n P F) (mq1 n P F (spSt n P F) n) i) i)) 8 i 0) i) then 2 * (restL (su (su (mq2 n (spSt n P F) (mq1 n P F (spSt n P F) n) i) 12 i (tellM n (mq2 n (spSt n P F) (mq1 n P F (spSt n P F) n) i) i)) 8 i 0) i) else 0)) (by rw [su_f (by omega), su_f (by omega), if_pos (Int32.not_le.mp c346)])) ?_
                          refine R_iinc (pc := 359) C dL_year_359 rfl (inc1) (lv' := [some (.ref _), some (.ref _), some (.ref _), some (.ref _), some (.ref _), some (.int _), some (.int _), some (.int _), some (.int _), some (.int _)]) rfl ?_
                          refine R_goto (pc := 362) C dL_year_362 (tgt := 125) (by decide) ?_
                          refine WR.ls (lv' := [some (.ref _), some (.ref _), some (.ref _), some (.ref _), some (.ref _), some (.int _), some (.int _), some (.int _), none, none]) (ls_s (ls_s (ls_s (ls_s (ls_s (ls_s (ls_s (ls_s (ls_n (ls_n ls_e)))))))))) ?_
                          refine WR.imp (P' := Wd G (adr, Sc, (n, P, (mq2 n (spSt n P F) (mq1 n P F (spSt n P F) n) (i + 1))), m9, g)) (fun h hh => by rw [← hpay, payL, if_neg hge]; exact hh) ?_
                          exact ih2 (i + 1) (by omega) (by omega)
                    · refine R_iload (pc := 307) C dL_year_307 rfl ?_
                      refine R_ineg (pc := 309) C dL_year_309 ?_
                      refine R_goto (pc := 310) C dL_year_310 (tgt := 314) (by decide) ?_
                      refine R_iast (pc := 314) C dL_year_314 (wmb) (i4z i) (by omega) (by decide) (pme_9 (v0 := if (restL (su (su (mq2 n (spSt n P F) (mq1 n P F (spSt n P F) n) i) 12 i (tellM n (mq2 n (spSt n P F) (mq1 n P F (spSt n P F) n) i) i)) 8 i 0) i) < 0 then -(restL (su (su (mq2 n (spSt n P F) (mq1 n P F (spSt n P F) n) i) 12 i (tellM n (mq2 n (spSt n P F) (mq1 n P F (spSt n P F) n) i) i)) 8 i 0) i) else 0) (by rw [if_pos (Int32.not_le.mp c304)])) ?_
                      refine R_aload_n (pc := 315) C dL_year_315 rfl ?_
                      refine R_iconst (pc := 316) C dL_year_316 (v := 4) (by decide) ?_
                      refine R_iload (pc := 317) C dL_year_317 rfl ?_
                      refine R_imul (pc := 319) C dL_year_319 ?_
                      refine R_iconst (pc := 320) C dL_year_320 (v := 1) (by decide) ?_
                      refine R_iadd (pc := 321) C dL_year_321 ?_
                      refine R_dup2 (pc := 322) C dL_year_322 rfl rfl ?_
                      refine R_iald (pc := 323) C dL_year_323 (wmb) (i4 i 1) (by omega) (by decide) (rdb1) ?_
                      refine R_iload (pc := 324) C dL_year_324 rfl ?_
                      refine R_if_le (pc := 326) C dL_year_326 (tgt := 336) (by decide) (fun c326 => ?_) (fun c326 => ?_)
                      · refine R_iconst (pc := 336) C dL_year_336 (v := 0) (by decide) ?_
                        refine R_iadd (pc := 337) C dL_year_337 ?_
                        refine R_iast (pc := 338) C dL_year_338 (wmb) (i4 i 1) (by omega) (by decide) (pme_10 (v0 := (su (su (mq2 n (spSt n P F) (mq1 n P F (spSt n P F) n) i) 12 i (tellM n (mq2 n (spSt n P F) (mq1 n P F (spSt n P F) n) i) i)) 8 i 0) 10 i + (if 0 < (restL (su (su (mq2 n (spSt n P F) (mq1 n P F (spSt n P F) n) i) 12 i (tellM n (mq2 n (spSt n P F) (mq1 n P F (spSt n P F) n) i) i)) 8 i 0) i) then 2 * (restL (su (su (mq2 n (spSt n P F) (mq1 n P F (spSt n P F) n) i) 12 i (tellM n (mq2 n (spSt n P F) (mq1 n P F (spSt n P F) n) i) i)) 8 i 0) i) else 0)) (by rw [su_f (by omega), if_neg (Int32.not_lt.mpr c326)])) ?_
                        refine R_aload (pc := 339) C dL_year_339 rfl ?_
                        refine R_iconst (pc := 341) C dL_year_341 (v := 2) (by decide) ?_
                        refine R_dup2 (pc := 342) C dL_year_342 rfl rfl ?_
                        refine R_iald (pc := 343) C dL_year_343 (wmq) (rfl) (by decide) (by decide) (rdq2) ?_
                        refine R_iload (pc := 344) C dL_year_344 rfl ?_
                        refine R_if_le (pc := 346) C dL_year_346 (tgt := 356) (by decide) (fun c346 => ?_) (fun c346 => ?_)
                        · refine R_iconst (pc := 356) C dL_year_356 (v := 0) (by decide) ?_
                          refine R_iadd (pc := 357) C dL_year_357 ?_
                          refine R_iast (pc := 358) C dL_year_358 (wmq) (rfl) (by decide) (by decide) (pme_f (v0 := (su (su (mq2 n (spSt n P F) (mq1 n P F (spSt n P F) n) i) 12 i (tellM n (mq2 n (spSt n P F) (mq1 n P F (spSt n P F) n) i) i)) 8 i 0) 16 0 + (if 0 < (restL (su (su (mq2 n (spSt n P F) (mq1 n P F (spSt n P F) n) i) 12 i (tellM n (mq2 n (spSt n P F) (mq1 n P F (spSt n P F) n) i) i)) 8 i 0) i) then 2 * (restL (su (su (mq2 n (spSt n P F) (mq1 n P F (spSt n P F) n) i) 12 i (tellM n (mq2 n (spSt n P F) (mq1 n P F (spSt n P F) n) i) i)) 8 i 0) i) else 0)) (by rw [su_f (by omega), su_f (by omega), if_neg (Int32.not_lt.mpr c346)])) ?_
                          refine R_iinc (pc := 359) C dL_year_359 rfl (inc1) (lv' := [some (.ref _), some (.ref _), some (.ref _), some (.ref _), some (.ref _), some (.int _), some (.int _), some (.int _), some (.int _), some (.int _)]) rfl ?_
                          refine R_goto (pc := 362) C dL_year_362 (tgt := 125) (by decide) ?_
                          refine WR.ls (lv' := [some (.ref _), some (.ref _), some (.ref _), some (.ref _), some (.ref _), some (.int _), some (.int _), some (.int _), none, none]) (ls_s (ls_s (ls_s (ls_s (ls_s (ls_s (ls_s (ls_s (ls_n (ls_n ls_e)))))))))) ?_
                          refine WR.imp (P' := Wd G (adr, Sc, (n, P, (mq2 n (spSt n P F) (mq1 n P F (spSt n P F) n) (i + 1))), m9, g)) (fun h hh => by rw [← hpay, payL, if_neg hge]; exact hh) ?_
                          exact ih2 (i + 1) (by omega) (by omega)
                        · refine R_iconst (pc := 349) C dL_year_349 (v := 2) (by decide) ?_
                          refine R_iload (pc := 350) C dL_year_350 rfl ?_
                          refine R_imul (pc := 352) C dL_year_352 ?_
                          refine R_goto (pc := 353) C dL_year_353 (tgt := 357) (by decide) ?_
                          refine R_iadd (pc := 357) C dL_year_357 ?_
                          refine R_iast (pc := 358) C dL_year_358 (wmq) (rfl) (by decide) (by decide) (pme_f (v0 := (su (su (mq2 n (spSt n P F) (mq1 n P F (spSt n P F) n) i) 12 i (tellM n (mq2 n (spSt n P F) (mq1 n P F (spSt n P F) n) i) i)) 8 i 0) 16 0 + (if 0 < (restL (su (su (mq2 n (spSt n P F) (mq1 n P F (spSt n P F) n) i) 12 i (tellM n (mq2 n (spSt n P F) (mq1 n P F (spSt n P F) n) i) i)) 8 i 0) i) then 2 * (restL (su (su (mq2 n (spSt n P F) (mq1 n P F (spSt n P F) n) i) 12 i (tellM n (mq2 n (spSt n P F) (mq1 n P F (spSt n P F) n) i) i)) 8 i 0) i) else 0)) (by rw [su_f (by omega), su_f (by omega), if_pos (Int32.not_le.mp c346)])) ?_
                          refine R_iinc (pc := 359) C dL_year_359 rfl (inc1) (lv' := [some (.ref _), some (.ref _), some (.ref _), some (.ref _), some (.ref _), some (.int _), some (.int _), some (.int _), some (.int _), some (.int _)]) rfl ?_
                          refine R_goto (pc := 362) C dL_year_362 (tgt := 125) (by decide) ?_
                          refine WR.ls (lv' := [some (.ref _), some (.ref _), some (.ref _), some (.ref _), some (.ref _), some (.int _), some (.int _), some (.int _), none, none]) (ls_s (ls_s (ls_s (ls_s (ls_s (ls_s (ls_s (ls_s (ls_n (ls_n ls_e)))))))))) ?_
                          refine WR.imp (P' := Wd G (adr, Sc, (n, P, (mq2 n (spSt n P F) (mq1 n P F (spSt n P F) n) (i + 1))), m9, g)) (fun h hh => by rw [← hpay, payL, if_neg hge]; exact hh) ?_
                          exact ih2 (i + 1) (by omega) (by omega)
                      · refine R_iconst (pc := 329) C dL_year_329 (v := 2) (by decide) ?_
                        refine R_iload (pc := 330) C dL_year_330 rfl ?_
                        refine R_imul (pc := 332) C dL_year_332 ?_
                        refine R_goto (pc := 333) C dL_year_333 (tgt := 337) (by decide) ?_
                        refine R_iadd (pc := 337) C dL_year_337 ?_
                        refine R_iast (pc := 338) C dL_year_338 (wmb) (i4 i 1) (by omega) (by decide) (pme_10 (v0 := (su (su (mq2 n (spSt n P F) (mq1 n P F (spSt n P F) n) i) 12 i (tellM n (mq2 n (spSt n P F) (mq1 n P F (spSt n P F) n) i) i)) 8 i 0) 10 i + (if 0 < (restL (su (su (mq2 n (spSt n P F) (mq1 n P F (spSt n P F) n) i) 12 i (tellM n (mq2 n (spSt n P F) (mq1 n P F (spSt n P F) n) i) i)) 8 i 0) i) then 2 * (restL (su (su (mq2 n (spSt n P F) (mq1 n P F (spSt n P F) n) i) 12 i (tellM n (mq2 n (spSt n P F) (mq1 n P F (spSt n P F) n) i) i)) 8 i 0) i) else 0)) (by rw [su_f (by omega), if_pos (Int32.not_le.mp c326)])) ?_
                        refine R_aload (pc := 339) C dL_year_339 rfl ?_
                        refine R_iconst (pc := 341) C dL_year_341 (v := 2) (by decide) ?_
                        refine R_dup2 (pc := 342) C dL_year_342 rfl rfl ?_
                        refine R_iald (pc := 343) C dL_year_343 (wmq) (rfl) (by decide) (by decide) (rdq2) ?_
                        refine R_iload (pc := 344) C dL_year_344 rfl ?_
                        refine R_if_le (pc := 346) C dL_year_346 (tgt := 356) (by decide) (fun c346 => ?_) (fun c346 => ?_)
                        · refine R_iconst (pc := 356) C dL_year_356 (v := 0) (by decide) ?_
                          refine R_iadd (pc := 357) C dL_year_357 ?_
                          refine R_iast (pc := 358) C dL_year_358 (wmq) (rfl) (by decide) (by decide) (pme_f (v0 := (su (su (mq2 n (spSt n P F) (mq1 n P F (spSt n P F) n) i) 12 i (tellM n (mq2 n (spSt n P F) (mq1 n P F (spSt n P F) n) i) i)) 8 i 0) 16 0 + (if 0 < (restL (su (su (mq2 n (spSt n P F) (mq1 n P F (spSt n P F) n) i) 12 i (tellM n (mq2 n (spSt n P F) (mq1 n P F (spSt n P F) n) i) i)) 8 i 0) i) then 2 * (restL (su (su (mq2 n (spSt n P F) (mq1 n P F (spSt n P F) n) i) 12 i (tellM n (mq2 n (spSt n P F) (mq1 n P F (spSt n P F) n) i) i)) 8 i 0) i) else 0)) (by rw [su_f (by omega), su_f (by omega), if_neg (Int32.not_lt.mpr c346)])) ?_
                          refine R_iinc (pc := 359) C dL_year_359 rfl (inc1) (lv' := [some (.ref _), some (.ref _), some (.ref _), some (.ref _), some (.ref _), some (.int _), some (.int _), some (.int _), some (.int _), some (.int _)]) rfl ?_
                          refine R_goto (pc := 362) C dL_year_362 (tgt := 125) (by decide) ?_
                          refine WR.ls (lv' := [some (.ref _), some (.ref _), some (.ref _), some (.ref _), some (.ref _), some (.int _), some (.int _), some (.int _), none, none]) (ls_s (ls_s (ls_s (ls_s (ls_s (ls_s (ls_s (ls_s (ls_n (ls_n ls_e)))))))))) ?_
                          refine WR.imp (P' := Wd G (adr, Sc, (n, P, (mq2 n (spSt n P F) (mq1 n P F (spSt n P F) n) (i + 1))), m9, g)) (fun h hh => by rw [← hpay, payL, if_neg hge]; exact hh) ?_
                          exact ih2 (i + 1) (by omega) (by omega)
                        · refine R_iconst (pc := 349) C dL_year_349 (v := 2) (by decide) ?_
                          refine R_iload (pc := 350) C dL_year_350 rfl ?_
                          refine R_imul (pc := 352) C dL_year_352 ?_
                          refine R_goto (pc := 353) C dL_year_353 (tgt := 357) (by decide) ?_
                          refine R_iadd (pc := 357) C dL_year_357 ?_
                          refine R_iast (pc := 358) C dL_year_358 (wmq) (rfl) (by decide) (by decide) (pme_f (v0 := (su (su (mq2 n (spSt n P F) (mq1 n P F (spSt n P F) n) i) 12 i (tellM n (mq2 n (spSt n P F) (mq1 n P F (spSt n P F) n) i) i)) 8 i 0) 16 0 + (if 0 < (restL (su (su (mq2 n (spSt n P F) (mq1 n P F (spSt n P F) n) i) 12 i (tellM n (mq2 n (spSt n P F) (mq1 n P F (spSt n P F) n) i) i)) 8 i 0) i) then 2 * (restL (su (su (mq2 n (spSt n P F) (mq1 n P F (spSt n P F) n) i) 12 i (tellM n (mq2 n (spSt n P F) (mq1 n P F (spSt n P F) n) i) i)) 8 i 0) i) else 0)) (by rw [su_f (by omega), su_f (by omega), if_pos (Int32.not_le.mp c346)])) ?_
                          refine R_iinc (pc := 359) C dL_year_359 rfl (inc1) (lv' := [some (.ref _), some (.ref _), some (.ref _), some (.ref _), some (.ref _), some (.int _), some (.int _), some (.int _), some (.int _), some (.int _)]) rfl ?_
                          refine R_goto (pc := 362) C dL_year_362 (tgt := 125) (by decide) ?_
                          refine WR.ls (lv' := [some (.ref _), some (.ref _), some (.ref _), some (.ref _), some (.ref _), some (.int _), some (.int _), some (.int _), none, none]) (ls_s (ls_s (ls_s (ls_s (ls_s (ls_s (ls_s (ls_s (ls_n (ls_n ls_e)))))))))) ?_
                          refine WR.imp (P' := Wd G (adr, Sc, (n, P, (mq2 n (spSt n P F) (mq1 n P F (spSt n P F) n) (i + 1))), m9, g)) (fun h hh => by rw [← hpay, payL, if_neg hge]; exact hh) ?_
                          exact ih2 (i + 1) (by omega) (by omega)
                  · have hlt : (su (su (mq2 n (spSt n P F) (mq1 n P F (spSt n P F) n) i) 12 i (tellM n (mq2 n (spSt n P F) (mq1 n P F (spSt n P F) n) i) i)) 8 i 0) 12 i < (su (su (mq2 n (spSt n P F) (mq1 n P F (spSt n P F) n) i) 12 i (tellM n (mq2 n (spSt n P F) (mq1 n P F (spSt n P F) n) i) i)) 8 i 0) 5 i := by rw [hx12]; exact Int32.not_le.mp c255
                    refine R_aload_n (pc := 258) C dL_year_258 rfl ?_
                    refine R_iconst (pc := 259) C dL_year_259 (v := 4) (by decide) ?_
                    refine R_iload (pc := 260) C dL_year_260 rfl ?_
                    refine R_imul (pc := 262) C dL_year_262 ?_
                    refine R_dup2 (pc := 263) C dL_year_263 rfl rfl ?_
                    refine R_iald (pc := 264) C dL_year_264 (wmb) (i4z i) (by omega) (by decide) (rdb0) ?_
                    refine R_iload (pc := 265) C dL_year_265 rfl ?_
                    refine R_iload (pc := 267) C dL_year_267 rfl ?_
                    refine R_ishr (pc := 269) C dL_year_269 ?_
                    refine R_iconst (pc := 270) C dL_year_270 (v := 1) (by decide) ?_
                    refine R_iand (pc := 271) C dL_year_271 ?_
                    rw [bit_in (D := (spSt n P F)) (show i < 5 by omega)]
                    refine R_iconst (pc := 272) C dL_year_272 (v := 1) (by decide) ?_
                    refine R_icmp_ne (pc := 273) C dL_year_273 (tgt := 280) (by decide) (fun c273 => ?_) (fun c273 => ?_)
                    · have hE : ¬ (spSt n P F) i = true := fun q => c273 (if_pos q)
                      refine R_aload_n (pc := 280) C dL_year_280 rfl ?_
                      refine R_bipush (pc := 281) C dL_year_281 (v := 9) (by decide) ?_
                      refine R_iload (pc := 283) C dL_year_283 rfl ?_
                      refine R_imul (pc := 285) C dL_year_285 ?_
                      refine R_iconst (pc := 286) C dL_year_286 (v := 5) (by decide) ?_
                      refine R_iadd (pc := 287) C dL_year_287 ?_
                      refine R_iald (pc := 288) C dL_year_288 (wmw) (i9 i 5) (by omega) (by decide) (rdw (by omega)) ?_
                      refine R_iload (pc := 289) C dL_year_289 rfl ?_
                      refine R_isub (pc := 291) C dL_year_291 ?_
                      refine R_iadd (pc := 292) C dL_year_292 ?_
                      refine R_iast (pc := 293) C dL_year_293 (wmb) (i4z i) (by omega) (by decide) (pme_9 (v0 := (su (su (mq2 n (spSt n P F) (mq1 n P F (spSt n P F) n) i) 12 i (tellM n (mq2 n (spSt n P F) (mq1 n P F (spSt n P F) n) i) i)) 8 i 0) 9 i + (if (spSt n P F) i = true then 0 else (su (su (mq2 n (spSt n P F) (mq1 n P F (spSt n P F) n) i) 12 i (tellM n (mq2 n (spSt n P F) (mq1 n P F (spSt n P F) n) i) i)) 8 i 0) 5 i - (su (su (mq2 n (spSt n P F) (mq1 n P F (spSt n P F) n) i) 12 i (tellM n (mq2 n (spSt n P F) (mq1 n P F (spSt n P F) n) i) i)) 8 i 0) 12 i)) (by rw [if_neg hE, hx12])) ?_
                      refine R_goto (pc := 294) C dL_year_294 (tgt := 359) (by decide) ?_
                      refine R_iinc (pc := 359) C dL_year_359 rfl (inc1) (lv' := [some (.ref _), some (.ref _), some (.ref _), some (.ref _), some (.ref _), some (.int _), some (.int _), some (.int _), some (.int _), some (.int _)]) rfl ?_
                      refine R_goto (pc := 362) C dL_year_362 (tgt := 125) (by decide) ?_
                      refine WR.ls (lv' := [some (.ref _), some (.ref _), some (.ref _), some (.ref _), some (.ref _), some (.int _), some (.int _), some (.int _), none, none]) (ls_s (ls_s (ls_s (ls_s (ls_s (ls_s (ls_s (ls_s (ls_n (ls_n ls_e)))))))))) ?_
                      refine WR.imp (P' := Wd G (adr, Sc, (n, P, (mq2 n (spSt n P F) (mq1 n P F (spSt n P F) n) (i + 1))), m9, g)) (fun h hh => by rw [← hpay, payL, if_pos hlt]; exact hh) ?_
                      exact ih2 (i + 1) (by omega) (by omega)
                    · have hE : (spSt n P F) i = true := if1 c273
                      refine R_iconst (pc := 276) C dL_year_276 (v := 0) (by decide) ?_
                      refine R_goto (pc := 277) C dL_year_277 (tgt := 292) (by decide) ?_
                      refine R_iadd (pc := 292) C dL_year_292 ?_
                      refine R_iast (pc := 293) C dL_year_293 (wmb) (i4z i) (by omega) (by decide) (pme_9 (v0 := (su (su (mq2 n (spSt n P F) (mq1 n P F (spSt n P F) n) i) 12 i (tellM n (mq2 n (spSt n P F) (mq1 n P F (spSt n P F) n) i) i)) 8 i 0) 9 i + (if (spSt n P F) i = true then 0 else (su (su (mq2 n (spSt n P F) (mq1 n P F (spSt n P F) n) i) 12 i (tellM n (mq2 n (spSt n P F) (mq1 n P F (spSt n P F) n) i) i)) 8 i 0) 5 i - (su (su (mq2 n (spSt n P F) (mq1 n P F (spSt n P F) n) i) 12 i (tellM n (mq2 n (spSt n P F) (mq1 n P F (spSt n P F) n) i) i)) 8 i 0) 12 i)) (by rw [if_pos hE])) ?_
                      refine R_goto (pc := 294) C dL_year_294 (tgt := 359) (by decide) ?_
                      refine R_iinc (pc := 359) C dL_year_359 rfl (inc1) (lv' := [some (.ref _), some (.ref _), some (.ref _), some (.ref _), some (.ref _), some (.int _), some (.int _), some (.int _), some (.int _), some (.int _)]) rfl ?_
                      refine R_goto (pc := 362) C dL_year_362 (tgt := 125) (by decide) ?_
                      refine WR.ls (lv' := [some (.ref _), some (.ref _), some (.ref _), some (.ref _), some (.ref _), some (.int _), some (.int _), some (.int _), none, none]) (ls_s (ls_s (ls_s (ls_s (ls_s (ls_s (ls_s (ls_s (ls_n (ls_n ls_e)))))))))) ?_
                      refine WR.imp (P' := Wd G (adr, Sc, (n, P, (mq2 n (spSt n P F) (mq1 n P F (spSt n P F) n) (i + 1))), m9, g)) (fun h hh => by rw [← hpay, payL, if_pos hlt]; exact hh) ?_
                      exact ih2 (i + 1) (by omega) (by omega)
        refine WR.ls (lv' := [some (.ref _), some (.ref _), some (.ref _), some (.ref _), some (.ref _), some (.int _), some (.int _), some (.int _), none, none]) (ls_s (ls_s (ls_s (ls_s (ls_s (ls_s (ls_s (ls_s (ls_n (ls_n ls_e)))))))))) ?_
        exact LP125 (n + 1) 0 (by omega) (by omega)
      · have hi : i < n := gt_nI (by omega) (by omega) c22
        refine R_iload (pc := 25) C dL_year_25 rfl ?_
        refine R_iload (pc := 27) C dL_year_27 rfl ?_
        refine R_ishr (pc := 29) C dL_year_29 ?_
        refine R_iconst (pc := 30) C dL_year_30 (v := 1) (by decide) ?_
        refine R_iand (pc := 31) C dL_year_31 ?_
        rw [bit_in (D := (spSt n P F)) (show i < 5 by omega)]
        refine R_iconst (pc := 32) C dL_year_32 (v := 1) (by decide) ?_
        refine R_icmp_ne (pc := 33) C dL_year_33 (tgt := 40) (by decide) (fun c33 => ?_) (fun c33 => ?_)
        · have hD : ¬ (spSt n P F) i = true := fun q => c33 (if_pos q)
          refine R_iconst (pc := 40) C dL_year_40 (v := 0) (by decide) ?_
          refine R_istore (pc := 41) C dL_year_41 (Nat.le_of_ble_eq_true rfl) (lv' := [some (.ref _), some (.ref _), some (.ref _), some (.ref _), some (.ref _), some (.int _), some (.int _), some (.int _), some (.int _), none]) rfl ?_
          refine R_iload (pc := 43) C dL_year_43 rfl ?_
          refine R_iload (pc := 45) C dL_year_45 rfl ?_
          refine R_if_eq (pc := 47) C dL_year_47 (tgt := 54) (by decide) (fun c47 => ?_) (fun c47 => absurd (rfl) c47)
          refine R_iconst (pc := 54) C dL_year_54 (v := 0) (by decide) ?_
          refine R_iadd (pc := 55) C dL_year_55 ?_
          rw [show nI (cnt (spSt n P F) i) + 0 = nI (cnt (spSt n P F) (i + 1)) from by rw [cnt, if_neg hD]; exact Int32.add_zero _]
          refine R_istore (pc := 56) C dL_year_56 (Nat.le_of_ble_eq_true rfl) (lv' := [some (.ref _), some (.ref _), some (.ref _), some (.ref _), some (.ref _), some (.int _), some (.int _), some (.int _), some (.int _), none]) rfl ?_
          refine R_aload_n (pc := 58) C dL_year_58 rfl ?_
          refine R_iconst (pc := 59) C dL_year_59 (v := 4) (by decide) ?_
          refine R_iload (pc := 60) C dL_year_60 rfl ?_
          refine R_imul (pc := 62) C dL_year_62 ?_
          have hb9 : Bt ((mq1 n P F (spSt n P F) i) 9 i) 100000000 := by rw [mq1_9, if_neg (Nat.lt_irrefl _)]; exact hbk i hi
          refine R_aload_n (pc := 63) C dL_year_63 rfl ?_
          refine R_iconst (pc := 64) C dL_year_64 (v := 4) (by decide) ?_
          refine R_iload (pc := 65) C dL_year_65 rfl ?_
          refine R_imul (pc := 67) C dL_year_67 ?_
          refine R_iald (pc := 68) C dL_year_68 (wmb) (i4z i) (by omega) (by decide) (rdb0) ?_
          refine R_bipush (pc := 69) C dL_year_69 (v := 9) (by decide) ?_
          refine R_imul (pc := 71) C dL_year_71 ?_
          refine R_bipush (pc := 72) C dL_year_72 (v := 10) (by decide) ?_
          refine R_idiv (pc := 74) C dL_year_74 (by decide) ?_
          refine R_iast (pc := 75) C dL_year_75 (wmb) (i4z i) (by omega) (by decide) (pme_9 (v0 := (mq1 n P F (spSt n P F) i) 9 i - ((mq1 n P F (spSt n P F) i) 9 i + 9) / 10) (tenth hb9).1) ?_
          refine R_aload_n (pc := 76) C dL_year_76 rfl ?_
          refine R_iconst (pc := 77) C dL_year_77 (v := 4) (by decide) ?_
          refine R_iload (pc := 78) C dL_year_78 rfl ?_
          refine R_imul (pc := 80) C dL_year_80 ?_
          refine R_iconst (pc := 81) C dL_year_81 (v := 2) (by decide) ?_
          refine R_iadd (pc := 82) C dL_year_82 ?_
          refine R_iload (pc := 83) C dL_year_83 rfl ?_
          refine R_if_eq (pc := 85) C dL_year_85 (tgt := 92) (by decide) (fun c85 => ?_) (fun c85 => absurd (rfl) c85)
          have hd : (su (mq1 n P F (spSt n P F) i) 9 i ((mq1 n P F (spSt n P F) i) 9 i - ((mq1 n P F (spSt n P F) i) 9 i + 9) / 10)) 6 i = drw F (spSt n P F) i := by rw [su_f (by omega), mq1_ne (by omega)]; exact (if_neg hD).symm
          refine R_aload_n (pc := 92) C dL_year_92 rfl ?_
          refine R_bipush (pc := 93) C dL_year_93 (v := 9) (by decide) ?_
          refine R_iload (pc := 95) C dL_year_95 rfl ?_
          refine R_imul (pc := 97) C dL_year_97 ?_
          refine R_bipush (pc := 98) C dL_year_98 (v := 6) (by decide) ?_
          refine R_iadd (pc := 100) C dL_year_100 ?_
          refine R_iald (pc := 101) C dL_year_101 (wmw) (i9 i 6) (by omega) (by decide) (rdw (by omega)) ?_
          refine R_iast (pc := 102) C dL_year_102 (wmb) (i4 i 2) (by omega) (by decide) (pme_11 (v0 := drw F (spSt n P F) i) hd) ?_
          refine R_aload_n (pc := 103) C dL_year_103 rfl ?_
          refine R_bipush (pc := 104) C dL_year_104 (v := 9) (by decide) ?_
          refine R_iload (pc := 106) C dL_year_106 rfl ?_
          refine R_imul (pc := 108) C dL_year_108 ?_
          refine R_iconst (pc := 109) C dL_year_109 (v := 2) (by decide) ?_
          refine R_iadd (pc := 110) C dL_year_110 ?_
          refine R_aload_n (pc := 111) C dL_year_111 rfl ?_
          refine R_iload (pc := 112) C dL_year_112 rfl ?_
          refine R_iald (pc := 114) C dL_year_114 (wmh) (rfl) (by omega) (by decide) (g2 i hi) ?_
          refine R_iast (pc := 115) C dL_year_115 (wmw) (i9 i 2) (by omega) (by decide) (pm_w (f := 2) (by omega)) ?_
          refine R_iinc (pc := 116) C dL_year_116 rfl (inc1) (lv' := [some (.ref _), some (.ref _), some (.ref _), some (.ref _), some (.ref _), some (.int _), some (.int _), some (.int _), some (.int _), none]) rfl ?_
          refine R_goto (pc := 119) C dL_year_119 (tgt := 16) (by decide) ?_
          refine WR.ls (lv' := [some (.ref _), some (.ref _), some (.ref _), some (.ref _), some (.ref _), some (.int _), some (.int _), some (.int _), none, none]) (ls_s (ls_s (ls_s (ls_s (ls_s (ls_s (ls_s (ls_s (ls_n (ls_n ls_e)))))))))) ?_
          refine WR.imp (P' := Wd G (adr, Sc, (n, P, (mq1 n P F (spSt n P F) (i + 1))), m9, g)) (fun h hh => by rw [mq1, su_comm (f := 2) (k := 11) (by omega)]; exact hh) ?_
          exact ih1 (i + 1) (by omega) (by omega)
        · have hD : (spSt n P F) i = true := if1 c33
          refine R_iconst (pc := 36) C dL_year_36 (v := 1) (by decide) ?_
          refine R_goto (pc := 37) C dL_year_37 (tgt := 41) (by decide) ?_
          refine R_istore (pc := 41) C dL_year_41 (Nat.le_of_ble_eq_true rfl) (lv' := [some (.ref _), some (.ref _), some (.ref _), some (.ref _), some (.ref _), some (.int _), some (.int _), some (.int _), some (.int _), none]) rfl ?_
          refine R_iload (pc := 43) C dL_year_43 rfl ?_
          refine R_iload (pc := 45) C dL_year_45 rfl ?_
          refine R_if_eq (pc := 47) C dL_year_47 (tgt := 54) (by decide) (fun c47 => absurd c47 (by decide)) (fun c47 => ?_)
          refine R_iconst (pc := 50) C dL_year_50 (v := 1) (by decide) ?_
          refine R_goto (pc := 51) C dL_year_51 (tgt := 55) (by decide) ?_
          refine R_iadd (pc := 55) C dL_year_55 ?_
          rw [show nI (cnt (spSt n P F) i) + 1 = nI (cnt (spSt n P F) (i + 1)) from by rw [cnt, if_pos hD]; exact nI_1 _]
          refine R_istore (pc := 56) C dL_year_56 (Nat.le_of_ble_eq_true rfl) (lv' := [some (.ref _), some (.ref _), some (.ref _), some (.ref _), some (.ref _), some (.int _), some (.int _), some (.int _), some (.int _), none]) rfl ?_
          refine R_aload_n (pc := 58) C dL_year_58 rfl ?_
          refine R_iconst (pc := 59) C dL_year_59 (v := 4) (by decide) ?_
          refine R_iload (pc := 60) C dL_year_60 rfl ?_
          refine R_imul (pc := 62) C dL_year_62 ?_
          have hb9 : Bt ((mq1 n P F (spSt n P F) i) 9 i) 100000000 := by rw [mq1_9, if_neg (Nat.lt_irrefl _)]; exact hbk i hi
          refine R_aload_n (pc := 63) C dL_year_63 rfl ?_
          refine R_iconst (pc := 64) C dL_year_64 (v := 4) (by decide) ?_
          refine R_iload (pc := 65) C dL_year_65 rfl ?_
          refine R_imul (pc := 67) C dL_year_67 ?_
          refine R_iald (pc := 68) C dL_year_68 (wmb) (i4z i) (by omega) (by decide) (rdb0) ?_
          refine R_bipush (pc := 69) C dL_year_69 (v := 9) (by decide) ?_
          refine R_imul (pc := 71) C dL_year_71 ?_
          refine R_bipush (pc := 72) C dL_year_72 (v := 10) (by decide) ?_
          refine R_idiv (pc := 74) C dL_year_74 (by decide) ?_
          refine R_iast (pc := 75) C dL_year_75 (wmb) (i4z i) (by omega) (by decide) (pme_9 (v0 := (mq1 n P F (spSt n P F) i) 9 i - ((mq1 n P F (spSt n P F) i) 9 i + 9) / 10) (tenth hb9).1) ?_
          refine R_aload_n (pc := 76) C dL_year_76 rfl ?_
          refine R_iconst (pc := 77) C dL_year_77 (v := 4) (by decide) ?_
          refine R_iload (pc := 78) C dL_year_78 rfl ?_
          refine R_imul (pc := 80) C dL_year_80 ?_
          refine R_iconst (pc := 81) C dL_year_81 (v := 2) (by decide) ?_
          refine R_iadd (pc := 82) C dL_year_82 ?_
          refine R_iload (pc := 83) C dL_year_83 rfl ?_
          refine R_if_eq (pc := 85) C dL_year_85 (tgt := 92) (by decide) (fun c85 => absurd c85 (by decide)) (fun c85 => ?_)
          have hd : (0 : Int32) = drw F (spSt n P F) i := (if_pos hD).symm
          refine R_iconst (pc := 88) C dL_year_88 (v := 0) (by decide) ?_
          refine R_goto (pc := 89) C dL_year_89 (tgt := 102) (by decide) ?_
          refine R_iast (pc := 102) C dL_year_102 (wmb) (i4 i 2) (by omega) (by decide) (pme_11 (v0 := drw F (spSt n P F) i) hd) ?_
          refine R_aload_n (pc := 103) C dL_year_103 rfl ?_
          refine R_bipush (pc := 104) C dL_year_104 (v := 9) (by decide) ?_
          refine R_iload (pc := 106) C dL_year_106 rfl ?_
          refine R_imul (pc := 108) C dL_year_108 ?_
          refine R_iconst (pc := 109) C dL_year_109 (v := 2) (by decide) ?_
          refine R_iadd (pc := 110) C dL_year_110 ?_
          refine R_aload_n (pc := 111) C dL_year_111 rfl ?_
          refine R_iload (pc := 112) C dL_year_112 rfl ?_
          refine R_iald (pc := 114) C dL_year_114 (wmh) (rfl) (by omega) (by decide) (g2 i hi) ?_
          refine R_iast (pc := 115) C dL_year_115 (wmw) (i9 i 2) (by omega) (by decide) (pm_w (f := 2) (by omega)) ?_
          refine R_iinc (pc := 116) C dL_year_116 rfl (inc1) (lv' := [some (.ref _), some (.ref _), some (.ref _), some (.ref _), some (.ref _), some (.int _), some (.int _), some (.int _), some (.int _), none]) rfl ?_
          refine R_goto (pc := 119) C dL_year_119 (tgt := 16) (by decide) ?_
          refine WR.ls (lv' := [some (.ref _), some (.ref _), some (.ref _), some (.ref _), some (.ref _), some (.int _), some (.int _), some (.int _), none, none]) (ls_s (ls_s (ls_s (ls_s (ls_s (ls_s (ls_s (ls_s (ls_n (ls_n ls_e)))))))))) ?_
          refine WR.imp (P' := Wd G (adr, Sc, (n, P, (mq1 n P F (spSt n P F) (i + 1))), m9, g)) (fun h hh => by rw [mq1, su_comm (f := 2) (k := 11) (by omega)]; exact hh) ?_
          exact ih1 (i + 1) (by omega) (by omega)
  exact LP16 (n + 1) 0 (by omega) (by omega)
end
