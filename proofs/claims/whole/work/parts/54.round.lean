/-! 54: a round of the law, whichever call. Written by wip/whole/gen/m54.py -/
section
variable {K : KT} {G : GT} {A : Nat → Prop} {rt : Option FieldType} {rm : Room} {tb : List ExceptionTableEntry} {Q : State → Prop} {adr : Nat → Nat} {n P b N i k s9 : Nat} {F mu : Nat → Nat → Int32} {g : Nat → Int64} {xs : Nat → Int32}
set_option maxHeartbeats 4000000 in
theorem sg_any (hl : K.l.stackTraces = false) (C : CX K G A RL cL_law 7 rt rm tb) (hT : va_T .int b N (fun j => .int (xs j)) A K.s K.s.heap) (hi : i + 6 < N) (hN : N < 2 ^ 31) (hI : Inv n P F) (hrm : (30 ≤ rm.frames ∧ 2000 ≤ rm.locals) ∧ k + 14 ≤ rm.cells ∧ s9 + 116 ≤ rm.slots)
    (kk : ∀ adr9 : Nat → Nat, (∀ x, x < 30 → x ≠ 2 → adr9 x = adr x) → ∀ (n9 P9 : Nat) (F9 m9 : Nat → Nat → Int32) (g9 : Nat → Int64), Inv n9 P9 F9 → WR K G A Q (Wd G (adr9, (n9, P9, F9), (n9, P9, F9), m9, g9)) [some (.ref b), some (.ref (adr 0)), some (.ref (adr 5)), some (.ref (adr 24)), some (.int (nI i)), none, none] (k + 14) (s9 + 116) 1220 []) : WR K G A Q (Wd G (adr, (n, P, F), (n, P, F), mu, g)) [some (.ref b), some (.ref (adr 0)), some (.ref (adr 5)), some (.ref (adr 24)), some (.int (nI i)), none, none] k s9 33 [] := by
  refine R_aload_n (pc := 33) C dL_law_33 rfl ?_
  refine R_iload (pc := 34) C dL_law_34 rfl ?_
  refine R_tial (pc := 36) C dL_law_36 hT rfl (show i < N by omega) hN rfl ?_
  refine R_bipush (pc := 37) C dL_law_37 (v := 31) (by decide) ?_
  refine R_iand (pc := 39) C dL_law_39 ?_
  generalize xs i &&& 31 = y
  by_cases hy : y.toInt < 0 ∨ 18 < y.toInt
  · refine R_tsOut (pc := 40) C dL_law_40 hy (tgt := 1220) (by decide) ?_
    exact WR.wid (show k ≤ k + 14 by omega) (show s9 ≤ s9 + 116 by omega) (kk adr (fun _ _ _ => rfl) _ _ _ _ _ hI)
  · have e : y.toInt = 0 ∨ y.toInt = 1 ∨ y.toInt = 2 ∨ y.toInt = 3 ∨ y.toInt = 4 ∨ y.toInt = 5 ∨ y.toInt = 6 ∨ y.toInt = 7 ∨ y.toInt = 8 ∨ y.toInt = 9 ∨ y.toInt = 10 ∨ y.toInt = 11 ∨ y.toInt = 12 ∨ y.toInt = 13 ∨ y.toInt = 14 ∨ y.toInt = 15 ∨ y.toInt = 16 ∨ y.toInt = 17 ∨ y.toInt = 18 := by omega
    rcases e with e | e | e | e | e | e | e | e | e | e | e | e | e | e | e | e | e | e | e
    · exact R_tsIn (pc := 40) C dL_law_40 (off := 92) (tgt := 132) (by omega) (by omega) (by rw [e]; rfl) (by decide) (sg_addWell hl C hT hi hN hI hrm kk)
    · exact R_tsIn (pc := 40) C dL_law_40 (off := 210) (tgt := 250) (by omega) (by omega) (by rw [e]; rfl) (by decide) (sg_plan hl C hT hi hN hI hrm kk)
    · exact R_tsIn (pc := 40) C dL_law_40 (off := 278) (tgt := 318) (by omega) (by omega) (by rw [e]; rfl) (by decide) (sg_setRecharge hl C hT hi hN hI hrm kk)
    · exact R_tsIn (pc := 40) C dL_law_40 (off := 346) (tgt := 386) (by omega) (by omega) (by rw [e]; rfl) (by decide) (sg_reach hl C hT hi hN hI hrm kk)
    · exact R_tsIn (pc := 40) C dL_law_40 (off := 414) (tgt := 454) (by omega) (by omega) (by rw [e]; rfl) (by decide) (sg_level hl C hT hi hN hI hrm kk)
    · exact R_tsIn (pc := 40) C dL_law_40 (off := 470) (tgt := 510) (by omega) (by omega) (by rw [e]; rfl) (by decide) (sg_sign hl C hT hi hN hI hrm kk)
    · exact R_tsIn (pc := 40) C dL_law_40 (off := 538) (tgt := 578) (by omega) (by omega) (by rw [e]; rfl) (by decide) (sg_year hl C hT hi hN hI hrm kk)
    · exact R_tsIn (pc := 40) C dL_law_40 (off := 582) (tgt := 622) (by omega) (by omega) (by rw [e]; rfl) (by decide) (sg_years hl C hI hrm kk)
    · exact R_tsIn (pc := 40) C dL_law_40 (off := 595) (tgt := 635) (by omega) (by omega) (by rw [e]; rfl) (by decide) (sg_wouldStop hl C hI hrm kk)
    · exact R_tsIn (pc := 40) C dL_law_40 (off := 608) (tgt := 648) (by omega) (by omega) (by rw [e]; rfl) (by decide) (sg_drew hl C hT hi hN hI hrm kk)
    · exact R_tsIn (pc := 40) C dL_law_40 (off := 664) (tgt := 704) (by omega) (by omega) (by rw [e]; rfl) (by decide) (sg_told hl C hT hi hN hI hrm kk)
    · exact R_tsIn (pc := 40) C dL_law_40 (off := 720) (tgt := 760) (by omega) (by omega) (by rw [e]; rfl) (by decide) (sg_toggleMeter hl C hT hi hN hI hrm kk)
    · exact R_tsIn (pc := 40) C dL_law_40 (off := 783) (tgt := 823) (by omega) (by omega) (by rw [e]; rfl) (by decide) (sg_power hl C hT hi hN hI hrm kk)
    · exact R_tsIn (pc := 40) C dL_law_40 (off := 851) (tgt := 891) (by omega) (by omega) (by rw [e]; rfl) (by decide) (sg_bank hl C hT hi hN hI hrm kk)
    · exact R_tsIn (pc := 40) C dL_law_40 (off := 907) (tgt := 947) (by omega) (by omega) (by rw [e]; rfl) (by decide) (sg_lend hl C hT hi hN hI hrm kk)
    · exact R_tsIn (pc := 40) C dL_law_40 (off := 987) (tgt := 1027) (by omega) (by omega) (by rw [e]; rfl) (by decide) (sg_callBack hl C hT hi hN hI hrm kk)
    · exact R_tsIn (pc := 40) C dL_law_40 (off := 1055) (tgt := 1095) (by omega) (by omega) (by rw [e]; rfl) (by decide) (sg_fines hl C hT hi hN hI hrm kk)
    · exact R_tsIn (pc := 40) C dL_law_40 (off := 1111) (tgt := 1151) (by omega) (by omega) (by rw [e]; rfl) (by decide) (sg_fund hl C hI hrm kk)
    · exact R_tsIn (pc := 40) C dL_law_40 (off := 1124) (tgt := 1164) (by omega) (by omega) (by rw [e]; rfl) (by decide) (sg_build hl C hT hi hN hI hrm kk)
end
