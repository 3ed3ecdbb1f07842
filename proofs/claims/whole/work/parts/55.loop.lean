/-! 55: the law's loop. Written by wip/whole/gen/m55.py -/
theorem hd7 {N i : Nat} (hN : N ≤ 3584) (hi : i ≤ 3600) : nI N - 7 < nI i ↔ N < i + 7 := by
  have e1 : (nI N - nI 7).toInt = (N : Int) - 7 := pk_sub_toInt (by omega) (by omega)
  have e2 : (nI i - nI 0).toInt = (i : Int) - 0 := pk_sub_toInt (by omega) (by omega)
  rw [show nI 0 = 0 from rfl, Int32.sub_zero] at e2
  rw [show (7 : Int32) = nI 7 from rfl, Int32.lt_iff_toInt_lt, e1, e2]
  omega
section
variable {K : KT} {G : GT} {A : Nat → Prop} {rt : Option FieldType} {rm : Room} {tb : List ExceptionTableEntry} {Q : State → Prop} {b N : Nat} {xs : Nat → Int32}
set_option maxHeartbeats 4000000 in
theorem lp_all (hl : K.l.stackTraces = false) (C : CX K G A RL cL_law 7 rt rm tb) (hT : va_T .int b N (fun j => .int (xs j)) A K.s K.s.heap) (hN : N ≤ 3584) (hrm : 30 ≤ rm.frames ∧ 2000 ≤ rm.locals) (CE SE : Nat) (hc : CE ≤ rm.cells ∧ SE ≤ rm.slots)
    (kend : ∀ (lv : List (Option Value)), lv.length = 7 → WR K G A Q (fun _ => True) lv CE SE 1226 []) : ∀ (m i k s9 : Nat) (adr : Nat → Nat) (n P : Nat) (F mu : Nat → Nat → Int32) (g : Nat → Int64), N < 7 * m + i + 7 → i ≤ N + 7 → k + 14 * m ≤ CE → s9 + 116 * m ≤ SE → Inv n P F → WR K G A Q (Wd G (adr, (n, P, F), (n, P, F), mu, g)) [some (.ref b), some (.ref (adr 0)), some (.ref (adr 5)), some (.ref (adr 24)), some (.int (nI i)), none, none] k s9 23 [] := by
  intro m
  induction m with
  | zero =>
    intro i k s9 adr n P F mu g h1 h2 h3 h4 hI
    refine R_iload (pc := 23) C dL_law_23 rfl ?_
    refine R_aload_n (pc := 25) C dL_law_25 rfl ?_
    refine R_tlen (pc := 26) C dL_law_26 hT (v := nI N) rfl ?_
    refine R_bipush (pc := 27) C dL_law_27 (v := 7) (by decide) ?_
    refine R_isub (pc := 29) C dL_law_29 ?_
    refine R_icmp_gt (pc := 30) C dL_law_30 (tgt := 1226) (by decide) (fun _ => ?_) (fun c => absurd ((hd7 hN (by omega)).mpr (by omega)) c)
    exact WR.imp (fun _ _ => trivial) (WR.wid (show k ≤ CE by omega) (show s9 ≤ SE by omega) (kend _ rfl))
  | succ m ih =>
    intro i k s9 adr n P F mu g h1 h2 h3 h4 hI
    refine R_iload (pc := 23) C dL_law_23 rfl ?_
    refine R_aload_n (pc := 25) C dL_law_25 rfl ?_
    refine R_tlen (pc := 26) C dL_law_26 hT (v := nI N) rfl ?_
    refine R_bipush (pc := 27) C dL_law_27 (v := 7) (by decide) ?_
    refine R_isub (pc := 29) C dL_law_29 ?_
    refine R_icmp_gt (pc := 30) C dL_law_30 (tgt := 1226) (by decide) (fun _ => ?_) (fun c => ?_)
    · exact WR.imp (fun _ _ => trivial) (WR.wid (show k ≤ CE by omega) (show s9 ≤ SE by omega) (kend _ rfl))
    · have hi : i + 7 ≤ N := Nat.not_lt.mp (fun z => c ((hd7 hN (by omega)).mpr z))
      refine sg_any hl C hT (by omega) (by omega) hI ⟨hrm, by omega, by omega⟩ (fun adr9 hadr n9 P9 F9 m9 g9 hI9 => ?_)
      refine R_iinc (pc := 1220) C dL_law_1220 rfl (show nI i + Int32.ofInt 7 = nI (i + 7) from nI_add (a := i) (b := 7)) (lv' := [some (.ref b), some (.ref (adr 0)), some (.ref (adr 5)), some (.ref (adr 24)), some (.int (nI (i + 7))), none, none]) rfl ?_
      refine R_goto (pc := 1223) C dL_law_1223 (tgt := 23) (by decide) ?_
      rw [← hadr 0 (by decide) (by decide), ← hadr 5 (by decide) (by decide), ← hadr 24 (by decide) (by decide)]
      exact ih (i + 7) (k + 14) (s9 + 116) adr9 n9 P9 F9 m9 g9 (by omega) (by omega) (by omega) (by omega) hI9
end
