/-! 56: the start of the law and its end. Written by wip/whole/gen/m56.py -/
theorem NLc.join {hb hA h : Hp} {c1 c2 : List (Nat × va_E)} (H1 : NLc hb c1 hA) (H2 : NLc hA c2 h) : NLc hb (c1 ++ c2) h := by
  have sp : ∀ (i : Nat) (p : Nat × va_E), (c1 ++ c2)[i]? = some p → (i < c1.length ∧ c1[i]? = some p) ∨ (c1.length ≤ i ∧ c2[i - c1.length]? = some p) := fun i p hp => by
    by_cases c : i < c1.length
    · rw [List.getElem?_append_left c] at hp; exact Or.inl ⟨c, hp⟩
    · rw [List.getElem?_append_right (by omega)] at hp; exact Or.inr ⟨by omega, hp⟩
  have a1 : ∀ (i : Nat) (p : Nat × va_E), c1[i]? = some p → hA p.1 = some p.2 := fun i p hp => (H1.1 i p hp).1
  have nn : ∀ x, hb x ≠ none → hA x ≠ none := fun x hx => by rw [H1.2.2 x hx]; exact hx
  have cl : ∀ (i j : Nat) (p q : Nat × va_E), c1[i]? = some p → c2[j]? = some q → p.1 = q.1 → False := fun i j p q hp hq e => by
    have e1 := a1 _ _ hp
    have e2 := (H2.1 _ q hq).2
    rw [← e, e1] at e2
    cases e2
  refine ⟨fun i p hp => ?_, fun i j p q hp hq e => ?_, fun x hx => (H2.2.2 x (nn x hx)).trans (H1.2.2 x hx)⟩
  · rcases sp i p hp with ⟨-, h1⟩ | ⟨-, h1⟩
    · have e := a1 _ _ h1
      exact ⟨(H2.2.2 p.1 (by rw [e]; exact fun z => by cases z)).trans e, (H1.1 i p h1).2⟩
    · refine ⟨(H2.1 _ p h1).1, ?_⟩
      cases hx : hb p.1 with
      | none => rfl
      | some y => exact absurd (H2.1 _ p h1).2 (nn p.1 (by rw [hx]; exact fun z => by cases z))
  · rcases sp i p hp with ⟨c, h1⟩ | ⟨c, h1⟩ <;> rcases sp j q hq with ⟨c', h1'⟩ | ⟨c', h1'⟩
    · exact H1.2.1 i j p q h1 h1' e
    · exact (cl _ _ _ _ h1 h1' e).elim
    · exact (cl _ _ _ _ h1' h1 e.symm).elim
    · have := H2.2.1 _ _ p q h1 h1' e
      omega
theorem NLc.nil {h : Hp} : NLc h [] h := ⟨fun i p hp => by simp at hp, fun i j p q hp => by simp at hp, fun _ _ => rfl⟩
abbrev Z2 : Nat → Nat → Int32 := fun _ _ => 0
theorem inv_0 : Inv 0 0 Z2 := ⟨Nat.zero_le _, Nat.zero_le _, ⟨fun i hi => absurd hi (Nat.not_lt_zero _), fun i hi => absurd hi (Nat.not_lt_zero _)⟩, ⟨0, Nat.zero_le _, rfl⟩, fun _ _ => ⟨⟨0, Nat.zero_le _, rfl⟩, ⟨0, Nat.zero_le _, rfl⟩, Or.inl rfl, ⟨0, Nat.zero_le _, rfl⟩⟩, fun _ _ _ _ _ => rfl, fun _ _ => rfl⟩
/-- where a role's cell stands in the list of cells made -/
def st_p (r : Nat) : Nat := if r < 2 then r else r - 1
abbrev st_a (x la rc pp y q0 q1 q2 q3 q4 q5 q6 q7 q8 q9 q10 q11 q12 q13 q14 q15 q16 q17 o : Nat) : Nat → Nat := fun r => [x, la, 0, rc, pp, y, q0, q1, q2, q3, q4, q5, q6, q7, q8, q9, q10, q11, q12, q13, q14, q15, q16, q17, o].getD r 0
section
variable {G : GT} {x la rc pp y q0 q1 q2 q3 q4 q5 q6 q7 q8 q9 q10 q11 q12 q13 q14 q15 q16 q17 o : Nat}
set_option maxRecDepth 100000 in
theorem st_c {r : Nat} {e : va_E} (he : cellOf G (st_a x la rc pp y q0 q1 q2 q3 q4 q5 q6 q7 q8 q9 q10 q11 q12 q13 q14 q15 q16 q17 o, (0, 0, Z2), (0, 0, Z2), Z2, fun _ => 0) r = some e) : r ≠ 2 ∧ ([(x, ob 4 [.ref la, .ref rc, .ref pp, .int 0, .int 0, .int 0]), (la, ob 2 [.int 0, .ref (G.2.2 0), .int 0]), (rc, aI G 3 (fun _ => 0)), (pp, aI G 5 (fun _ => 0))] ++ [(y, ob 5 [.int 0, .int 0, .ref q0, .ref q1, .ref q2, .ref q3, .ref q4, .ref q5, .ref q6, .ref q7, .ref q8, .ref q9, .ref q10, .ref q11, .ref q12, .ref q13, .ref q14, .int 0, .ref q15, .int 0, .int 0, .ref q16, .ref q17]), (q0, aI G 8 (fun _ => 0)), (q1, aI G 8 (fun _ => 0)), (q2, aI G 8 (fun _ => 0)), (q3, aI G 8 (fun _ => 0)), (q4, aI G 8 (fun _ => 0)), (q5, aI G 8 (fun _ => 0)), (q6, aI G 8 (fun _ => 0)), (q7, aZ G 8 (fun _ => 0)), (q8, aI G 8 (fun _ => 0)), (q9, aI G 8 (fun _ => 0)), (q10, aI G 8 (fun _ => 0)), (q11, aI G 8 (fun _ => 0)), (q12, aI G 8 (fun _ => 0)), (q13, aI G 64 (fun _ => 0)), (q14, aI G 3 (fun _ => 0)), (q15, aI G 5 (fun _ => 0)), (q16, aZ G 8 (fun _ => 0)), (q17, aI G 8 (fun _ => 0)), (o, aJ G 1 (fun _ => 0))])[st_p r]? = some (st_a x la rc pp y q0 q1 q2 q3 q4 q5 q6 q7 q8 q9 q10 q11 q12 q13 q14 q15 q16 q17 o r, e) := by
  have h25 : r = 0 ∨ r = 1 ∨ r = 2 ∨ r = 3 ∨ r = 4 ∨ r = 5 ∨ r = 6 ∨ r = 7 ∨ r = 8 ∨ r = 9 ∨ r = 10 ∨ r = 11 ∨ r = 12 ∨ r = 13 ∨ r = 14 ∨ r = 15 ∨ r = 16 ∨ r = 17 ∨ r = 18 ∨ r = 19 ∨ r = 20 ∨ r = 21 ∨ r = 22 ∨ r = 23 ∨ r = 24 ∨ 25 ≤ r := by omega
  rcases h25 with rfl | rfl | rfl | rfl | rfl | rfl | rfl | rfl | rfl | rfl | rfl | rfl | rfl | rfl | rfl | rfl | rfl | rfl | rfl | rfl | rfl | rfl | rfl | rfl | rfl | h25
  · exact ⟨by decide, congrArg (fun z => Option.map (fun w => (st_a x la rc pp y q0 q1 q2 q3 q4 q5 q6 q7 q8 q9 q10 q11 q12 q13 q14 q15 q16 q17 o 0, w)) z) he⟩
  · exact ⟨by decide, congrArg (fun z => Option.map (fun w => (st_a x la rc pp y q0 q1 q2 q3 q4 q5 q6 q7 q8 q9 q10 q11 q12 q13 q14 q15 q16 q17 o 1, w)) z) he⟩
  · exact absurd (show (none : Option va_E) = some e from he) (fun z => by cases z)
  · exact ⟨by decide, congrArg (fun z => Option.map (fun w => (st_a x la rc pp y q0 q1 q2 q3 q4 q5 q6 q7 q8 q9 q10 q11 q12 q13 q14 q15 q16 q17 o 3, w)) z) he⟩
  · exact ⟨by decide, congrArg (fun z => Option.map (fun w => (st_a x la rc pp y q0 q1 q2 q3 q4 q5 q6 q7 q8 q9 q10 q11 q12 q13 q14 q15 q16 q17 o 4, w)) z) he⟩
  · exact ⟨by decide, congrArg (fun z => Option.map (fun w => (st_a x la rc pp y q0 q1 q2 q3 q4 q5 q6 q7 q8 q9 q10 q11 q12 q13 q14 q15 q16 q17 o 5, w)) z) he⟩
  · exact ⟨by decide, congrArg (fun z => Option.map (fun w => (st_a x la rc pp y q0 q1 q2 q3 q4 q5 q6 q7 q8 q9 q10 q11 q12 q13 q14 q15 q16 q17 o 6, w)) z) he⟩
  · exact ⟨by decide, congrArg (fun z => Option.map (fun w => (st_a x la rc pp y q0 q1 q2 q3 q4 q5 q6 q7 q8 q9 q10 q11 q12 q13 q14 q15 q16 q17 o 7, w)) z) he⟩
  · exact ⟨by decide, congrArg (fun z => Option.map (fun w => (st_a x la rc pp y q0 q1 q2 q3 q4 q5 q6 q7 q8 q9 q10 q11 q12 q13 q14 q15 q16 q17 o 8, w)) z) he⟩
  · exact ⟨by decide, congrArg (fun z => Option.map (fun w => (st_a x la rc pp y q0 q1 q2 q3 q4 q5 q6 q7 q8 q9 q10 q11 q12 q13 q14 q15 q16 q17 o 9, w)) z) he⟩
  · exact ⟨by decide, congrArg (fun z => Option.map (fun w => (st_a x la rc pp y q0 q1 q2 q3 q4 q5 q6 q7 q8 q9 q10 q11 q12 q13 q14 q15 q16 q17 o 10, w)) z) he⟩
  · exact ⟨by decide, congrArg (fun z => Option.map (fun w => (st_a x la rc pp y q0 q1 q2 q3 q4 q5 q6 q7 q8 q9 q10 q11 q12 q13 q14 q15 q16 q17 o 11, w)) z) he⟩
  · exact ⟨by decide, congrArg (fun z => Option.map (fun w => (st_a x la rc pp y q0 q1 q2 q3 q4 q5 q6 q7 q8 q9 q10 q11 q12 q13 q14 q15 q16 q17 o 12, w)) z) he⟩
  · exact ⟨by decide, congrArg (fun z => Option.map (fun w => (st_a x la rc pp y q0 q1 q2 q3 q4 q5 q6 q7 q8 q9 q10 q11 q12 q13 q14 q15 q16 q17 o 13, w)) z) he⟩
  · exact ⟨by decide, congrArg (fun z => Option.map (fun w => (st_a x la rc pp y q0 q1 q2 q3 q4 q5 q6 q7 q8 q9 q10 q11 q12 q13 q14 q15 q16 q17 o 14, w)) z) he⟩
  · exact ⟨by decide, congrArg (fun z => Option.map (fun w => (st_a x la rc pp y q0 q1 q2 q3 q4 q5 q6 q7 q8 q9 q10 q11 q12 q13 q14 q15 q16 q17 o 15, w)) z) he⟩
  · exact ⟨by decide, congrArg (fun z => Option.map (fun w => (st_a x la rc pp y q0 q1 q2 q3 q4 q5 q6 q7 q8 q9 q10 q11 q12 q13 q14 q15 q16 q17 o 16, w)) z) he⟩
  · exact ⟨by decide, congrArg (fun z => Option.map (fun w => (st_a x la rc pp y q0 q1 q2 q3 q4 q5 q6 q7 q8 q9 q10 q11 q12 q13 q14 q15 q16 q17 o 17, w)) z) he⟩
  · exact ⟨by decide, congrArg (fun z => Option.map (fun w => (st_a x la rc pp y q0 q1 q2 q3 q4 q5 q6 q7 q8 q9 q10 q11 q12 q13 q14 q15 q16 q17 o 18, w)) z) he⟩
  · exact ⟨by decide, congrArg (fun z => Option.map (fun w => (st_a x la rc pp y q0 q1 q2 q3 q4 q5 q6 q7 q8 q9 q10 q11 q12 q13 q14 q15 q16 q17 o 19, w)) z) he⟩
  · exact ⟨by decide, congrArg (fun z => Option.map (fun w => (st_a x la rc pp y q0 q1 q2 q3 q4 q5 q6 q7 q8 q9 q10 q11 q12 q13 q14 q15 q16 q17 o 20, w)) z) he⟩
  · exact ⟨by decide, congrArg (fun z => Option.map (fun w => (st_a x la rc pp y q0 q1 q2 q3 q4 q5 q6 q7 q8 q9 q10 q11 q12 q13 q14 q15 q16 q17 o 21, w)) z) he⟩
  · exact ⟨by decide, congrArg (fun z => Option.map (fun w => (st_a x la rc pp y q0 q1 q2 q3 q4 q5 q6 q7 q8 q9 q10 q11 q12 q13 q14 q15 q16 q17 o 22, w)) z) he⟩
  · exact ⟨by decide, congrArg (fun z => Option.map (fun w => (st_a x la rc pp y q0 q1 q2 q3 q4 q5 q6 q7 q8 q9 q10 q11 q12 q13 q14 q15 q16 q17 o 23, w)) z) he⟩
  · exact ⟨by decide, congrArg (fun z => Option.map (fun w => (st_a x la rc pp y q0 q1 q2 q3 q4 q5 q6 q7 q8 q9 q10 q11 q12 q13 q14 q15 q16 q17 o 24, w)) z) he⟩
  · exfalso
    by_cases c : r < 30
    · have h9 : r = 25 ∨ r = 26 ∨ r = 27 ∨ r = 28 ∨ r = 29 := by omega
      rcases h9 with rfl | rfl | rfl | rfl | rfl <;> exact absurd (show (none : Option va_E) = some e from he) (fun z => by cases z)
    · rw [cellOf, if_neg (by omega), if_neg c, cellW, if_neg (Nat.not_lt_zero _)] at he
      cases he
theorem st_wd {h : Hp} (H : NLc (fun _ => none) ([(x, ob 4 [.ref la, .ref rc, .ref pp, .int 0, .int 0, .int 0]), (la, ob 2 [.int 0, .ref (G.2.2 0), .int 0]), (rc, aI G 3 (fun _ => 0)), (pp, aI G 5 (fun _ => 0))] ++ [(y, ob 5 [.int 0, .int 0, .ref q0, .ref q1, .ref q2, .ref q3, .ref q4, .ref q5, .ref q6, .ref q7, .ref q8, .ref q9, .ref q10, .ref q11, .ref q12, .ref q13, .ref q14, .int 0, .ref q15, .int 0, .int 0, .ref q16, .ref q17]), (q0, aI G 8 (fun _ => 0)), (q1, aI G 8 (fun _ => 0)), (q2, aI G 8 (fun _ => 0)), (q3, aI G 8 (fun _ => 0)), (q4, aI G 8 (fun _ => 0)), (q5, aI G 8 (fun _ => 0)), (q6, aI G 8 (fun _ => 0)), (q7, aZ G 8 (fun _ => 0)), (q8, aI G 8 (fun _ => 0)), (q9, aI G 8 (fun _ => 0)), (q10, aI G 8 (fun _ => 0)), (q11, aI G 8 (fun _ => 0)), (q12, aI G 8 (fun _ => 0)), (q13, aI G 64 (fun _ => 0)), (q14, aI G 3 (fun _ => 0)), (q15, aI G 5 (fun _ => 0)), (q16, aZ G 8 (fun _ => 0)), (q17, aI G 8 (fun _ => 0)), (o, aJ G 1 (fun _ => 0))]) h) : Wd G (st_a x la rc pp y q0 q1 q2 q3 q4 q5 q6 q7 q8 q9 q10 q11 q12 q13 q14 q15 q16 q17 o, (0, 0, Z2), (0, 0, Z2), Z2, fun _ => 0) h := by
  refine ⟨fun r e he => (H.1 _ _ (st_c he).2).1, fun r r' hr hr' e => ?_⟩
  obtain ⟨e1, h1⟩ := Option.ne_none_iff_exists'.mp hr
  obtain ⟨e2, h2⟩ := Option.ne_none_iff_exists'.mp hr'
  obtain ⟨a1, b1⟩ := st_c h1
  obtain ⟨a2, b2⟩ := st_c h2
  have := H.2.1 _ _ _ _ b1 b2 e
  unfold st_p at this
  split at this <;> split at this <;> omega
end
section
variable {K : KT} {G : GT} {A : Nat → Prop} {rt : Option FieldType} {rm : Room} {tb : List ExceptionTableEntry} {Q : State → Prop} {b N : Nat} {xs : Nat → Int32}
set_option maxHeartbeats 4000000 in
set_option maxRecDepth 100000 in
theorem st_go (hl : K.l.stackTraces = false) (C : CX K G A RL cL_law 7 rt rm tb) (hT : va_T .int b N (fun j => .int (xs j)) A K.s K.s.heap) (hN : N ≤ 3584) (hrm : 30 ≤ rm.frames ∧ 2000 ≤ rm.locals) (CE SE : Nat) (hc : CE ≤ rm.cells ∧ SE ≤ rm.slots) (hC : 8000 ≤ CE) (hS : 60000 ≤ SE)
    (kend : ∀ (lv : List (Option Value)), lv.length = 7 → WR K G A Q (fun _ => True) lv CE SE 1226 []) : WR K G A Q (Eq (fun _ => none)) [some (.ref b), none, none, none, none, none, none] 0 0 0 [] := by
  refine WR.imp (P' := NLc (fun _ => none) []) (fun h hh => hh ▸ NLc.nil) ?_
  refine R_new (pc := 0) C dL_law_0 (P' := fun x => NLc (fun _ => none) [(x, ob 4 [.null, .null, .null, .int 0, .int 0, .int 0])]) (fs := [.null, .null, .null, .int 0, .int 0, .int 0]) (N := 6) rfl inlX1 tyX1_ok k_1_0 k_1_1 k_1_2 dfX1 (by omega) (by omega) (fun h q hh hq => hh.new9 hq rfl) (fun x => ?_)
  refine R_dup (pc := 3) C dL_law_3 rfl ?_
  refine R_callI (pc := 4) C dL_law_4 (vs := []) (fun h hh => mX1_init hl h hh) rfl ⟨k_1_7, k_1_8, k_1_2, k_1_9⟩ (sgn (nv := 0) rfl ⟨by decide +kernel, by decide +kernel, by decide +kernel⟩) ⟨⟨by omega, by omega⟩, ⟨by omega, by omega⟩, Nat.le_of_ble_eq_true rfl⟩ rfl rfl (fun h9 hh9 v9 => ?_)
  refine WR.pr (fun e9 => ?_)
  subst e9
  refine WR.ex (fun la => WR.ex (fun rc => WR.ex (fun pp => ?_)))
  show WR K G A Q (NLc (fun _ => none) [(x, ob 4 [.ref la, .ref rc, .ref pp, .int 0, .int 0, .int 0]), (la, ob 2 [.int 0, .ref (G.2.2 0), .int 0]), (rc, aI G 3 (fun _ => 0)), (pp, aI G 5 (fun _ => 0))]) _ _ _ _ [.ref x]
  refine R_astore_n (pc := 7) C dL_law_7 (Nat.le_of_ble_eq_true rfl) (lv' := [some (.ref b), some (.ref x), none, none, none, none, none]) rfl ?_
  refine WR.all (fun hA hhA => ?_)
  refine R_new (pc := 8) C dL_law_8 (P' := fun y => NLc hA [(y, ob 5 [.int 0, .int 0, .null, .null, .null, .null, .null, .null, .null, .null, .null, .null, .null, .null, .null, .null, .null, .int 0, .null, .int 0, .int 0, .null, .null])]) (fs := [.int 0, .int 0, .null, .null, .null, .null, .null, .null, .null, .null, .null, .null, .null, .null, .null, .null, .null, .int 0, .null, .int 0, .int 0, .null, .null]) (N := 23) rfl inlX2 tyX2_ok k_1_3 k_1_4 k_1_5 dfX2 (by omega) (by omega) (fun h q hh hq => (hh ▸ NLc.nil : NLc hA [] h).new9 hq rfl) (fun y => ?_)
  refine R_dup (pc := 11) C dL_law_11 rfl ?_
  refine R_callI (pc := 12) C dL_law_12 (vs := []) (fun h hh => mX2_init hl h hh) rfl ⟨k_2_14, k_2_15, k_1_5, k_2_16⟩ (sgn (nv := 0) rfl ⟨by decide +kernel, by decide +kernel, by decide +kernel⟩) ⟨⟨by omega, by omega⟩, ⟨by omega, by omega⟩, Nat.le_of_ble_eq_true rfl⟩ rfl rfl (fun h9 hh9 v9 => ?_)
  refine WR.pr (fun e9 => ?_)
  subst e9
  refine WR.ex (fun q0 => ?_)
  refine WR.ex (fun q1 => ?_)
  refine WR.ex (fun q2 => ?_)
  refine WR.ex (fun q3 => ?_)
  refine WR.ex (fun q4 => ?_)
  refine WR.ex (fun q5 => ?_)
  refine WR.ex (fun q6 => ?_)
  refine WR.ex (fun q7 => ?_)
  refine WR.ex (fun q8 => ?_)
  refine WR.ex (fun q9 => ?_)
  refine WR.ex (fun q10 => ?_)
  refine WR.ex (fun q11 => ?_)
  refine WR.ex (fun q12 => ?_)
  refine WR.ex (fun q13 => ?_)
  refine WR.ex (fun q14 => ?_)
  refine WR.ex (fun q15 => ?_)
  refine WR.ex (fun q16 => ?_)
  refine WR.ex (fun q17 => ?_)
  show WR K G A Q (NLc hA [(y, ob 5 [.int 0, .int 0, .ref q0, .ref q1, .ref q2, .ref q3, .ref q4, .ref q5, .ref q6, .ref q7, .ref q8, .ref q9, .ref q10, .ref q11, .ref q12, .ref q13, .ref q14, .int 0, .ref q15, .int 0, .int 0, .ref q16, .ref q17]), (q0, aI G 8 (fun _ => 0)), (q1, aI G 8 (fun _ => 0)), (q2, aI G 8 (fun _ => 0)), (q3, aI G 8 (fun _ => 0)), (q4, aI G 8 (fun _ => 0)), (q5, aI G 8 (fun _ => 0)), (q6, aI G 8 (fun _ => 0)), (q7, aZ G 8 (fun _ => 0)), (q8, aI G 8 (fun _ => 0)), (q9, aI G 8 (fun _ => 0)), (q10, aI G 8 (fun _ => 0)), (q11, aI G 8 (fun _ => 0)), (q12, aI G 8 (fun _ => 0)), (q13, aI G 64 (fun _ => 0)), (q14, aI G 3 (fun _ => 0)), (q15, aI G 5 (fun _ => 0)), (q16, aZ G 8 (fun _ => 0)), (q17, aI G 8 (fun _ => 0))]) _ _ _ _ [.ref y]
  refine R_astore_n (pc := 15) C dL_law_15 (Nat.le_of_ble_eq_true rfl) (lv' := [some (.ref b), some (.ref x), some (.ref y), none, none, none, none]) rfl ?_
  refine R_iconst (pc := 16) C dL_law_16 (v := 1) (by decide) ?_
  refine R_newarr (pc := 17) C dL_law_17 (P' := fun o => NLc hA [(y, ob 5 [.int 0, .int 0, .ref q0, .ref q1, .ref q2, .ref q3, .ref q4, .ref q5, .ref q6, .ref q7, .ref q8, .ref q9, .ref q10, .ref q11, .ref q12, .ref q13, .ref q14, .int 0, .ref q15, .int 0, .int 0, .ref q16, .ref q17]), (q0, aI G 8 (fun _ => 0)), (q1, aI G 8 (fun _ => 0)), (q2, aI G 8 (fun _ => 0)), (q3, aI G 8 (fun _ => 0)), (q4, aI G 8 (fun _ => 0)), (q5, aI G 8 (fun _ => 0)), (q6, aI G 8 (fun _ => 0)), (q7, aZ G 8 (fun _ => 0)), (q8, aI G 8 (fun _ => 0)), (q9, aI G 8 (fun _ => 0)), (q10, aI G 8 (fun _ => 0)), (q11, aI G 8 (fun _ => 0)), (q12, aI G 8 (fun _ => 0)), (q13, aI G 64 (fun _ => 0)), (q14, aI G 3 (fun _ => 0)), (q15, aI G 5 (fun _ => 0)), (q16, aZ G 8 (fun _ => 0)), (q17, aI G 8 (fun _ => 0)), (o, aJ G 1 (fun _ => 0))]) (t := 3) (N := 1) (a0 := (1, .inr (.inl (fun _ => 0)))) rfl k_1_6 (fun _ => rfl) (fun _ h => by cases h) (fun _ => rfl) rfl (by omega) (by decide) (by omega) (by omega) (fun h q hh hq => hh.new9 hq rfl) (fun o => ?_)
  refine R_astore_n (pc := 19) C dL_law_19 (Nat.le_of_ble_eq_true rfl) (lv' := [some (.ref b), some (.ref x), some (.ref y), some (.ref o), none, none, none]) rfl ?_
  refine R_iconst (pc := 20) C dL_law_20 (v := 0) (by decide) ?_
  refine R_istore (pc := 21) C dL_law_21 (Nat.le_of_ble_eq_true rfl) (lv' := [some (.ref b), some (.ref x), some (.ref y), some (.ref o), some (.int (nI 0)), none, none]) rfl ?_
  refine WR.imp (P' := Wd G (st_a x la rc pp y q0 q1 q2 q3 q4 q5 q6 q7 q8 q9 q10 q11 q12 q13 q14 q15 q16 q17 o, (0, 0, Z2), (0, 0, Z2), Z2, fun _ => 0)) (fun h hh => st_wd (hhA.join hh)) ?_
  exact lp_all hl C hT hN hrm CE SE hc kend 512 0 _ _ (st_a x la rc pp y q0 q1 q2 q3 q4 q5 q6 q7 q8 q9 q10 q11 q12 q13 q14 q15 q16 q17 o) 0 0 Z2 Z2 (fun _ => 0) (by omega) (by omega) (by omega) (by omega) inv_0
end
