/-! 81: the start of the law and its loop. Written by wip/p22/gen/m81.py -/
theorem NLc.join {hb hA h : Hp} {c1 c2 : List (Nat × va_E)} (H1 : NLc hb c1 hA) (H2 : NLc hA c2 h) : NLc hb (c1 ++ c2) h := by
  have sp : ∀ (i : Nat) (p : Nat × va_E), (c1 ++ c2)[i]? = some p → (i < c1.length ∧ c1[i]? = some p) ∨ (c1.length ≤ i ∧ c2[i - c1.length]? = some p) := fun i p hp => by
    by_cases c : i < c1.length
    · rw [List.getElem?_append_left c] at hp; exact Or.inl ⟨c, hp⟩
    · rw [List.getElem?_append_right (by omega)] at hp; exact Or.inr ⟨by omega, hp⟩
  have a1 : ∀ (i : Nat) (p : Nat × va_E), c1[i]? = some p → hA p.1 = some p.2 := fun i p hp => (H1.1 i p hp).1
  have nn : ∀ x, hb x ≠ none → hA x ≠ none := fun x hx => by rw [H1.2.2 x hx]; exact hx
  have cl : ∀ (i j : Nat) (p q : Nat × va_E), c1[i]? = some p → c2[j]? = some q → p.1 = q.1 → False := fun i j p q hp hq e => by
    have e1 := a1 _ _ hp
    have e2 := (H2.1 _ q hq).2
    rw [← e, e1] at e2
    cases e2
  refine ⟨fun i p hp => ?_, fun i j p q hp hq e => ?_, fun x hx => (H2.2.2 x (nn x hx)).trans (H1.2.2 x hx)⟩
  · rcases sp i p hp with ⟨-, h1⟩ | ⟨-, h1⟩
    · have e := a1 _ _ h1
      exact ⟨(H2.2.2 p.1 (by rw [e]; exact fun z => by cases z)).trans e, (H1.1 i p h1).2⟩
    · refine ⟨(H2.1 _ p h1).1, ?_⟩
      cases hx : hb p.1 with
      | none => rfl
      | some y => exact absurd (H2.1 _ p h1).2 (nn p.1 (by rw [hx]; exact fun z => by cases z))
  · rcases sp i p hp with ⟨c, h1⟩ | ⟨c, h1⟩ <;> rcases sp j q hq with ⟨c', h1'⟩ | ⟨c', h1'⟩
    · exact H1.2.1 i j p q h1 h1' e
    · exact (cl _ _ _ _ h1 h1' e).elim
    · exact (cl _ _ _ _ h1' h1 e.symm).elim
    · have := H2.2.1 _ _ p q h1 h1' e
      omega
theorem NLc.nil {h : Hp} : NLc h [] h := ⟨fun i p hp => by simp at hp, fun i j p q hp => by simp at hp, fun _ _ => rfl⟩
theorem qRow_0 : qRow 0 0 Z2 = fun _ => 0 := by
  funext a
  unfold qRow
  repeat' split
  all_goals rfl
/-- where a role's cell stands in the list of cells made -/
def st_p (r : Nat) : Nat := if r < 2 then r else if r = 10 then 4 else if r < 5 then r - 1 else r
abbrev st_a (x la rc pp q w b l r h : Nat) : Nat → Nat := fun k => [x, la, 0, rc, pp, w, b, l, r, h, q].getD k 0
section
variable {G : GT} {x la rc pp q w b l r h : Nat}
set_option maxRecDepth 100000 in
theorem st_c {k : Nat} {e : va_E} (he : cellOf G (st_a x la rc pp q w b l r h, (0, 0, Z2), (0, 0, Z2), Z2, fun _ => 0) k = some e) : (k ≠ 2 ∧ k < 11) ∧ ([(x, ob 4 [.ref la, .ref rc, .ref pp, .int 0, .int 0, .int 0]), (la, ob 2 [.int 0, .ref (G.2.2 0), .int 0]), (rc, aI G 3 (fun _ => 0)), (pp, aI G 5 (fun _ => 0))] ++ [(q, aI G 12 (fun _ => 0)), (w, aI G 45 (fun _ => 0)), (b, aI G 20 (fun _ => 0)), (l, aI G 25 (fun _ => 0)), (r, aI G 5 (fun _ => 0)), (h, aI G 5 (fun _ => 0))])[st_p k]? = some (st_a x la rc pp q w b l r h k, e) := by
  have h25 : k = 0 ∨ k = 1 ∨ k = 2 ∨ k = 3 ∨ k = 4 ∨ k = 5 ∨ k = 6 ∨ k = 7 ∨ k = 8 ∨ k = 9 ∨ k = 10 ∨ 11 ≤ k := by omega
  rcases h25 with rfl | rfl | rfl | rfl | rfl | rfl | rfl | rfl | rfl | rfl | rfl | h25
  · exact ⟨by decide, congrArg (fun z => Option.map (fun w9 => (st_a x la rc pp q w b l r h 0, w9)) z) he⟩
  · exact ⟨by decide, congrArg (fun z => Option.map (fun w9 => (st_a x la rc pp q w b l r h 1, w9)) z) he⟩
  · exact absurd (show (none : Option va_E) = some e from he) (fun z => by cases z)
  · exact ⟨by decide, congrArg (fun z => Option.map (fun w9 => (st_a x la rc pp q w b l r h 3, w9)) z) he⟩
  · exact ⟨by decide, congrArg (fun z => Option.map (fun w9 => (st_a x la rc pp q w b l r h 4, w9)) z) he⟩
  · exact ⟨by decide, congrArg (fun z => Option.map (fun w9 => (st_a x la rc pp q w b l r h 5, w9)) z) he⟩
  · exact ⟨by decide, congrArg (fun z => Option.map (fun w9 => (st_a x la rc pp q w b l r h 6, w9)) z) he⟩
  · exact ⟨by decide, congrArg (fun z => Option.map (fun w9 => (st_a x la rc pp q w b l r h 7, w9)) z) he⟩
  · exact ⟨by decide, congrArg (fun z => Option.map (fun w9 => (st_a x la rc pp q w b l r h 8, w9)) z) he⟩
  · exact ⟨by decide, congrArg (fun z => Option.map (fun w9 => (st_a x la rc pp q w b l r h 9, w9)) z) he⟩
  · have he9 : some (aI G 12 (qRow 0 0 Z2)) = some e := he
    rw [qRow_0] at he9
    exact ⟨by decide, congrArg (fun z => Option.map (fun w9 => (st_a x la rc pp q w b l r h 10, w9)) z) he9⟩
  · exfalso
    by_cases c : k < 30
    · have h9 : k = 11 ∨ k = 12 ∨ k = 13 ∨ k = 14 ∨ k = 15 ∨ k = 16 ∨ k = 17 ∨ k = 18 ∨ k = 19 ∨ k = 20 ∨ k = 21 ∨ k = 22 ∨ k = 23 ∨ k = 24 ∨ k = 25 ∨ k = 26 ∨ k = 27 ∨ k = 28 ∨ k = 29 := by omega
      rcases h9 with rfl | rfl | rfl | rfl | rfl | rfl | rfl | rfl | rfl | rfl | rfl | rfl | rfl | rfl | rfl | rfl | rfl | rfl | rfl <;> exact absurd (show (none : Option va_E) = some e from he) (fun z => by cases z)
    · rw [cellOf, if_neg (by omega), if_neg c, cellW, if_neg (Nat.not_lt_zero _)] at he
      cases he
theorem st_wd {hp : Hp} (H : NLc (fun _ => none) ([(x, ob 4 [.ref la, .ref rc, .ref pp, .int 0, .int 0, .int 0]), (la, ob 2 [.int 0, .ref (G.2.2 0), .int 0]), (rc, aI G 3 (fun _ => 0)), (pp, aI G 5 (fun _ => 0))] ++ [(q, aI G 12 (fun _ => 0)), (w, aI G 45 (fun _ => 0)), (b, aI G 20 (fun _ => 0)), (l, aI G 25 (fun _ => 0)), (r, aI G 5 (fun _ => 0)), (h, aI G 5 (fun _ => 0))]) hp) : Wd G (st_a x la rc pp q w b l r h, (0, 0, Z2), (0, 0, Z2), Z2, fun _ => 0) hp := by
  refine ⟨fun k e he => (H.1 _ _ (st_c he).2).1, fun k k' hr hr' e => ?_⟩
  obtain ⟨e1, h1⟩ := Option.ne_none_iff_exists'.mp hr
  obtain ⟨e2, h2⟩ := Option.ne_none_iff_exists'.mp hr'
  obtain ⟨a1, b1⟩ := st_c h1
  obtain ⟨a2, b2⟩ := st_c h2
  have := H.2.1 _ _ _ _ b1 b2 e
  unfold st_p at this
  (repeat' split at this) <;> omega
end
section
variable {K : KT} {G : GT} {A : Nat → Prop} {rt : Option FieldType} {rm : Room} {tb : List ExceptionTableEntry} {Q : State → Prop}
set_option maxHeartbeats 4000000 in
set_option maxRecDepth 100000 in
theorem st_go (hl : K.l.stackTraces = false) (C : CX K G A RL cL_law 15 rt rm tb) (hLs : G.2.2 201 < 2 ^ 31) (hrm : 16 ≤ rm.frames ∧ 654 ≤ rm.locals) (CE SE : Nat) (hc : CE ≤ rm.cells ∧ SE ≤ rm.slots) (hC : 20000 ≤ CE) (hS : 100000 ≤ SE)
    (kend : ∀ (lv : List (Option Value)), lv.length = 15 → WR K G A Q (fun _ => True) lv CE SE 694 []) : WR K G A Q (Eq (fun _ => none)) [some (.ref (G.2.2 200)), none, none, none, none, none, none, none, none, none, none, none, none, none, none] 0 0 0 [] := by
  refine WR.imp (P' := NLc (fun _ => none) []) (fun h hh => hh ▸ NLc.nil) ?_
  refine R_new (pc := 0) C dL_law_0 (P' := fun x => NLc (fun _ => none) [(x, ob 4 [.null, .null, .null, .int 0, .int 0, .int 0])]) (fs := [.null, .null, .null, .int 0, .int 0, .int 0]) (N := 6) rfl inlX1 tyX1_ok k_1_0 k_1_1 k_1_2 dfX1 (by omega) (by omega) (fun h q hh hq => hh.new9 hq rfl) (fun x => ?_)
  refine R_dup (pc := 3) C dL_law_3 rfl ?_
  refine R_callI (pc := 4) C dL_law_4 (vs := []) (fun h hh => mX1_init hl h hh) rfl ⟨k_1_4, k_1_5, k_1_2, k_1_6⟩ (sgn (nv := 0) rfl ⟨by decide +kernel, by decide +kernel, by decide +kernel⟩) ⟨⟨by omega, by omega⟩, ⟨by omega, by omega⟩, Nat.le_of_ble_eq_true rfl⟩ rfl rfl (fun h9 hh9 v9 => ?_)
  refine WR.pr (fun e9 => ?_)
  subst e9
  refine WR.ex (fun la => WR.ex (fun rc => WR.ex (fun pp => ?_)))
  show WR K G A Q (NLc (fun _ => none) [(x, ob 4 [.ref la, .ref rc, .ref pp, .int 0, .int 0, .int 0]), (la, ob 2 [.int 0, .ref (G.2.2 0), .int 0]), (rc, aI G 3 (fun _ => 0)), (pp, aI G 5 (fun _ => 0))]) _ _ _ _ [.ref x]
  refine R_astore_n (pc := 7) C dL_law_7 (Nat.le_of_ble_eq_true rfl) (lv' := [some (.ref (G.2.2 200)), some (.ref x), none, none, none, none, none, none, none, none, none, none, none, none, none]) rfl ?_
  refine WR.all (fun hA hhA => ?_)
  refine R_bipush (pc := 8) C dL_law_8 (v := 12) (by decide) ?_
  refine R_newarr (pc := 10) C dL_law_10 (P' := fun q => NLc hA [(q, aI G 12 (fun _ => 0))]) (t := 0) (N := 12) (a0 := (12, .inl (fun _ => 0))) rfl k_1_3 (fun _ => rfl) (fun _ h => by cases h) (fun _ => rfl) rfl (by omega) (by decide) (by omega) (by omega) (fun h q hh hq => (hh ▸ NLc.nil : NLc hA [] h).new9 hq rfl) (fun q => ?_)
  refine R_astore_n (pc := 12) C dL_law_12 (Nat.le_of_ble_eq_true rfl) (lv' := [some (.ref (G.2.2 200)), some (.ref x), some (.ref q), none, none, none, none, none, none, none, none, none, none, none, none]) rfl ?_
  refine R_bipush (pc := 13) C dL_law_13 (v := 45) (by decide) ?_
  refine R_newarr (pc := 15) C dL_law_15 (P' := fun w => NLc hA [(q, aI G 12 (fun _ => 0)), (w, aI G 45 (fun _ => 0))]) (t := 0) (N := 45) (a0 := (45, .inl (fun _ => 0))) rfl k_1_3 (fun _ => rfl) (fun _ h => by cases h) (fun _ => rfl) rfl (by omega) (by decide) (by omega) (by omega) (fun h q hh hq => hh.new9 hq rfl) (fun w => ?_)
  refine R_astore_n (pc := 17) C dL_law_17 (Nat.le_of_ble_eq_true rfl) (lv' := [some (.ref (G.2.2 200)), some (.ref x), some (.ref q), some (.ref w), none, none, none, none, none, none, none, none, none, none, none]) rfl ?_
  refine R_bipush (pc := 18) C dL_law_18 (v := 20) (by decide) ?_
  refine R_newarr (pc := 20) C dL_law_20 (P' := fun b => NLc hA [(q, aI G 12 (fun _ => 0)), (w, aI G 45 (fun _ => 0)), (b, aI G 20 (fun _ => 0))]) (t := 0) (N := 20) (a0 := (20, .inl (fun _ => 0))) rfl k_1_3 (fun _ => rfl) (fun _ h => by cases h) (fun _ => rfl) rfl (by omega) (by decide) (by omega) (by omega) (fun h q hh hq => hh.new9 hq rfl) (fun b => ?_)
  refine R_astore (pc := 22) C dL_law_22 (Nat.le_of_ble_eq_true rfl) (lv' := [some (.ref (G.2.2 200)), some (.ref x), some (.ref q), some (.ref w), some (.ref b), none, none, none, none, none, none, none, none, none, none]) rfl ?_
  refine R_bipush (pc := 24) C dL_law_24 (v := 25) (by decide) ?_
  refine R_newarr (pc := 26) C dL_law_26 (P' := fun l => NLc hA [(q, aI G 12 (fun _ => 0)), (w, aI G 45 (fun _ => 0)), (b, aI G 20 (fun _ => 0)), (l, aI G 25 (fun _ => 0))]) (t := 0) (N := 25) (a0 := (25, .inl (fun _ => 0))) rfl k_1_3 (fun _ => rfl) (fun _ h => by cases h) (fun _ => rfl) rfl (by omega) (by decide) (by omega) (by omega) (fun h q hh hq => hh.new9 hq rfl) (fun l => ?_)
  refine R_astore (pc := 28) C dL_law_28 (Nat.le_of_ble_eq_true rfl) (lv' := [some (.ref (G.2.2 200)), some (.ref x), some (.ref q), some (.ref w), some (.ref b), some (.ref l), none, none, none, none, none, none, none, none, none]) rfl ?_
  refine R_iconst (pc := 30) C dL_law_30 (v := 5) (by decide) ?_
  refine R_newarr (pc := 31) C dL_law_31 (P' := fun r => NLc hA [(q, aI G 12 (fun _ => 0)), (w, aI G 45 (fun _ => 0)), (b, aI G 20 (fun _ => 0)), (l, aI G 25 (fun _ => 0)), (r, aI G 5 (fun _ => 0))]) (t := 0) (N := 5) (a0 := (5, .inl (fun _ => 0))) rfl k_1_3 (fun _ => rfl) (fun _ h => by cases h) (fun _ => rfl) rfl (by omega) (by decide) (by omega) (by omega) (fun h q hh hq => hh.new9 hq rfl) (fun r => ?_)
  refine R_astore (pc := 33) C dL_law_33 (Nat.le_of_ble_eq_true rfl) (lv' := [some (.ref (G.2.2 200)), some (.ref x), some (.ref q), some (.ref w), some (.ref b), some (.ref l), some (.ref r), none, none, none, none, none, none, none, none]) rfl ?_
  refine R_iconst (pc := 35) C dL_law_35 (v := 5) (by decide) ?_
  refine R_newarr (pc := 36) C dL_law_36 (P' := fun h => NLc hA [(q, aI G 12 (fun _ => 0)), (w, aI G 45 (fun _ => 0)), (b, aI G 20 (fun _ => 0)), (l, aI G 25 (fun _ => 0)), (r, aI G 5 (fun _ => 0)), (h, aI G 5 (fun _ => 0))]) (t := 0) (N := 5) (a0 := (5, .inl (fun _ => 0))) rfl k_1_3 (fun _ => rfl) (fun _ h => by cases h) (fun _ => rfl) rfl (by omega) (by decide) (by omega) (by omega) (fun h q hh hq => hh.new9 hq rfl) (fun h => ?_)
  refine R_astore (pc := 38) C dL_law_38 (Nat.le_of_ble_eq_true rfl) (lv' := [some (.ref (G.2.2 200)), some (.ref x), some (.ref q), some (.ref w), some (.ref b), some (.ref l), some (.ref r), some (.ref h), none, none, none, none, none, none, none]) rfl ?_
  refine R_iconst (pc := 40) C dL_law_40 (v := 0) (by decide) ?_
  refine R_istore (pc := 41) C dL_law_41 (Nat.le_of_ble_eq_true rfl) (lv' := [some (.ref (G.2.2 200)), some (.ref x), some (.ref q), some (.ref w), some (.ref b), some (.ref l), some (.ref r), some (.ref h), some (.int (nI 0)), none, none, none, none, none, none]) rfl ?_
  refine WR.imp (P' := Wd G (st_a x la rc pp q w b l r h, (0, 0, Z2), (0, 0, Z2), Z2, fun _ => 0)) (fun hp hh => st_wd (hhA.join hh)) ?_
  exact lp_all hl C hLs hrm CE SE hc kend 90 0 _ _ (st_a x la rc pp q w b l r h) 0 0 Z2 Z2 rfl (by omega) (by omega) iv_0
end
