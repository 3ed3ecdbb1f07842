/-! 41: the constructors of the class and of the model. Written by wip/p22/gen/m41.py -/
/-- cells made since hb -/
def NLc (hb : Hp) (cs : List (Nat × va_E)) (h : Hp) : Prop := (∀ (i : Nat) (p : Nat × va_E), cs[i]? = some p → h p.1 = some p.2 ∧ hb p.1 = none) ∧ (∀ (i j : Nat) (p q : Nat × va_E), cs[i]? = some p → cs[j]? = some q → p.1 = q.1 → i = j) ∧ ∀ x, hb x ≠ none → h x = hb x
theorem NLc.at {hb h : Hp} {cs : List (Nat × va_E)} (k : Nat) {a : Nat} {e : va_E} (hk : cs[k]? = some (a, e)) : ∀ h, NLc hb cs h → h a = some e := fun _ H => (H.1 k _ hk).1
theorem NLc.new {hb h : Hp} {cs : List (Nat × va_E)} {q : Nat} {e : va_E} (H : NLc hb cs h) (hq : h q = none) : NLc hb (cs ++ [(q, e)]) (hu h q e) := by
  have hn : hb q = none := by
    cases hx : hb q with
    | none => rfl
    | some y =>
      have := H.2.2 q (by rw [hx]; exact fun z => by cases z)
      rw [hq, hx] at this; cases this
  have hne : ∀ (i : Nat) (p : Nat × va_E), cs[i]? = some p → p.1 ≠ q := fun i p hp z => by
    have := (H.1 i p hp).1
    rw [z, hq] at this; cases this
  have sp : ∀ (i : Nat) (p : Nat × va_E), (cs ++ [(q, e)])[i]? = some p → cs[i]? = some p ∨ (i = cs.length ∧ p = (q, e)) := fun i p hp => by
    by_cases c : i < cs.length
    · rw [List.getElem?_append_left c] at hp; exact Or.inl hp
    · rw [List.getElem?_append_right (by omega)] at hp
      by_cases c2 : i - cs.length = 0
      · rw [c2] at hp
        exact Or.inr ⟨by omega, (Option.some.inj hp).symm⟩
      · obtain ⟨k, hk⟩ : ∃ k, i - cs.length = k + 1 := ⟨i - cs.length - 1, by omega⟩
        rw [hk] at hp; simp at hp
  refine ⟨fun i p hp => ?_, fun i j p p' hp hp' hh => ?_, fun x hx => (hu_n (fun z => hx (by rw [z]; exact hn))).trans (H.2.2 x hx)⟩
  · rcases sp i p hp with h1 | ⟨-, rfl⟩
    · rw [hu_n (hne i p h1)]; exact H.1 i p h1
    · exact ⟨hu_s, hn⟩
  · rcases sp i p hp with h1 | ⟨e1, rfl⟩ <;> rcases sp j p' hp' with h2 | ⟨e2, rfl⟩
    · exact H.2.1 i j p p' h1 h2 hh
    · exact absurd hh (hne i p h1)
    · exact absurd hh.symm (hne j p' h2)
    · rw [e1, e2]
theorem NLc.chg {hb h h1 : Hp} {cs : List (Nat × va_E)} (k : Nat) {a : Nat} {e e' : va_E} (H : NLc hb cs h) (hk : cs[k]? = some (a, e)) (ha : h1 a = some e') (ho : ∀ y, y ≠ a → h y ≠ none → h1 y = h y) : NLc hb (cs.set k (a, e')) h1 := by
  have hk2 : k < cs.length := (List.getElem?_eq_some_iff.mp hk).1
  have sp : ∀ (i : Nat) (p : Nat × va_E), (cs.set k (a, e'))[i]? = some p → (i = k ∧ p = (a, e')) ∨ (i ≠ k ∧ cs[i]? = some p) := fun i p hp => by
    by_cases c : i = k
    · subst c
      rw [List.getElem?_set_self hk2] at hp
      exact Or.inl ⟨rfl, (Option.some.inj hp).symm⟩
    · rw [List.getElem?_set_ne (Ne.symm c)] at hp
      exact Or.inr ⟨c, hp⟩
  refine ⟨fun i p hp => ?_, fun i j p p' hp hp' hh => ?_, fun x hx => ?_⟩
  · rcases sp i p hp with ⟨-, rfl⟩ | ⟨c, h2⟩
    · exact ⟨ha, (H.1 k _ hk).2⟩
    · have h3 := H.1 i p h2
      exact ⟨(ho p.1 (fun z => c (H.2.1 i k p (a, e) h2 hk z)) (by rw [h3.1]; exact fun z => by cases z)).trans h3.1, h3.2⟩
  · rcases sp i p hp with ⟨c, rfl⟩ | ⟨c, h2⟩ <;> rcases sp j p' hp' with ⟨c', rfl⟩ | ⟨c', h2'⟩
    · rw [c, c']
    · exact absurd (H.2.1 k j (a, e) p' hk h2' hh).symm c'
    · exact absurd (H.2.1 i k p (a, e) h2 hk hh) c
    · exact H.2.1 i j p p' h2 h2' hh
  · have e1 := H.2.2 x hx
    have e2 : x ≠ a := fun z => hx (by rw [z]; exact (H.1 k _ hk).2)
    rw [ho x e2 (by rw [e1]; exact hx), e1]
theorem NLc.put {hb h : Hp} {cs : List (Nat × va_E)} (k : Nat) {a : Nat} {e e' : va_E} (H : NLc hb cs h) (hk : cs[k]? = some (a, e)) : NLc hb (cs.set k (a, e')) (hu h a e') := H.chg k hk hu_s (fun _ hy _ => hu_n hy)
theorem NLc.put9 {hb h : Hp} {cs cs' : List (Nat × va_E)} (k : Nat) {a : Nat} {e e' : va_E} (H : NLc hb cs h) (hk : cs[k]? = some (a, e)) (hs : cs.set k (a, e') = cs') : NLc hb cs' (hu h a e') := hs ▸ H.put k hk
theorem NLc.new9 {hb h : Hp} {cs cs' : List (Nat × va_E)} {q : Nat} {e : va_E} (H : NLc hb cs h) (hq : h q = none) (hs : cs ++ [(q, e)] = cs') : NLc hb cs' (hu h q e) := hs ▸ H.new hq
/-- all but one cell of a heap -/
def hw1 (h : Hp) (a : Nat) : Hp := fun x => if x = a then none else h x
theorem BN.w1 {h : Hp} {a ci : Nat} {fs : List Value} (ha : h a = some (ob ci fs)) : BN (hw1 h a) a ci fs h := ⟨ha, if_pos rfl, fun x hx => by
  by_cases c : x = a
  · exact absurd (if_pos c) hx
  · exact (if_neg c).symm⟩
theorem BN.w2 {h h1 : Hp} {a ci : Nat} {fs : List Value} (B : BN (hw1 h a) a ci fs h1) : ∀ y, y ≠ a → h y ≠ none → h1 y = h y := fun y hy h0 => by
  have e : hw1 h a y = h y := if_neg hy
  rw [B.2.2 y (by rw [e]; exact h0), e]
section
variable {l : Launch} {G : GT} {hb : Hp} {x : Nat}
set_option maxHeartbeats 4000000 in
set_option maxRecDepth 100000 in
theorem mX1_init (hl : l.stackTraces = false)   : ∀ h, NLc hb [(x, ob 4 [.null, .null, .null, .int 0, .int 0, .int 0])] h → CN l yX1_init cX1_init 1 (none) 3 3 11 [.ref x] G h (fun v h1 => v = none ∧ ∃ la rc pp, NLc hb [(x, ob 4 [.ref la, .ref rc, .ref pp, .int 0, .int 0, .int 0]), (la, ob 2 [.int 0, .ref (G.2.2 0), .int 0]), (rc, aI G 3 (fun _ => 0)), (pp, aI G 5 (fun _ => 0))] h1) := by
  intro h0 hwd
  refine CN.of hl (by decide +kernel) rfl (Nat.le_of_ble_eq_true rfl) (fun K sz hKl hin C => ?_)
  have C : CX K G (AH h0 sz) RX1 cX1_init 1 (none) (rmD 3 3 11) [] := C
  subst hKl
  refine WR.imp (P' := NLc hb [(x, ob 4 [.null, .null, .null, .int 0, .int 0, .int 0])]) (fun h e => e ▸ hwd) ?_
  show WR K G _ _ _ [some (.ref x)] 0 0 0 []
  refine R_aload_n (pc := 0) C dX1_init_0 rfl ?_
  refine R_objInit (pc := 1) C dX1_init_1 k_1_7 rfl ⟨Nat.le_of_ble_eq_true rfl, Nat.le_of_ble_eq_true rfl⟩ ?_
  refine R_aload_n (pc := 4) C dX1_init_4 rfl ?_
  refine R_new (pc := 5) C dX1_init_5 (P' := fun la h => NLc hb ([(x, ob 4 [.null, .null, .null, .int 0, .int 0, .int 0])] ++ [(la, ob 2 [.int 0, .null, .int 0])]) h) (fs := [.int 0, .null, .int 0]) (N := 3) rfl inlJx4a65c tyJx4a65c_ok k_1_10 k_1_11 k_1_12 dfJx4a65c (Nat.le_of_ble_eq_true rfl) (Nat.le_of_ble_eq_true rfl) (fun h q hh hq => hh.new hq) (fun la => ?_)
  refine R_dup (pc := 8) C dX1_init_8 rfl ?_
  refine R_callI (pc := 9) C dX1_init_9 (vs := []) (fun h hh => mJx4a65c_init_da8c8 hl h (BN.w1 (NLc.at (h := h) 1 rfl h hh))) rfl ⟨k_1_19, k_1_20, k_1_12, k_1_21⟩ (sgn (nv := 0) rfl ⟨by decide +kernel, by decide +kernel, by decide +kernel⟩) ⟨⟨Nat.le_of_ble_eq_true rfl, Nat.le_of_ble_eq_true rfl⟩, ⟨Nat.le_of_ble_eq_true rfl, Nat.le_of_ble_eq_true rfl⟩, Nat.le_of_ble_eq_true rfl⟩ rfl rfl (fun h9 hh9 v9 => ?_)
  refine WR.pr (fun e9 => ?_)
  subst e9
  refine WR.imp (P' := NLc hb [(x, ob 4 [.null, .null, .null, .int 0, .int 0, .int 0]), (la, ob 2 [.int 0, .ref (G.2.2 0), .int 0])]) (fun h hh => (hh9.chg 1 rfl hh.1 hh.w2)) ?_
  show WR K G _ _ _ _ _ _ _ (.ref _ :: _)
  refine R_putF (pc := 12) C dX1_init_12 (i := 0) (NLc.at (h := fun _ => none) 0 rfl) rfl inlX1 tyX1_ok nmX1 (by decide) k_1_13 rfl hin rfl rfl rfl (Nat.le_of_ble_eq_true rfl) (fun h hh => hh.put 0 rfl) ?_
  refine R_aload_n (pc := 15) C dX1_init_15 rfl ?_
  refine R_iconst (pc := 16) C dX1_init_16 (v := 3) (by decide) ?_
  refine R_newarr (pc := 17) C dX1_init_17 (t := 0) (N := 3) (a0 := (3, .inl (fun _ => 0))) rfl k_1_3 (fun _ => rfl) (fun _ h => by cases h) (fun _ => rfl) (rfl) (by omega) (by decide) (Nat.le_of_ble_eq_true rfl) (Nat.le_of_ble_eq_true rfl) (fun h q hh hq => hh.new hq) (fun rc => ?_)
  refine R_putF (pc := 19) C dX1_init_19 (i := 1) (NLc.at (h := fun _ => none) 0 rfl) rfl inlX1 tyX1_ok nmX1 (by decide) k_1_14 rfl hin rfl rfl rfl (Nat.le_of_ble_eq_true rfl) (fun h hh => hh.put 0 rfl) ?_
  refine R_aload_n (pc := 22) C dX1_init_22 rfl ?_
  refine R_iconst (pc := 23) C dX1_init_23 (v := 5) (by decide) ?_
  refine R_newarr (pc := 24) C dX1_init_24 (t := 0) (N := 5) (a0 := (5, .inl (fun _ => 0))) rfl k_1_3 (fun _ => rfl) (fun _ h => by cases h) (fun _ => rfl) (rfl) (by omega) (by decide) (Nat.le_of_ble_eq_true rfl) (Nat.le_of_ble_eq_true rfl) (fun h q hh hq => hh.new hq) (fun pp => ?_)
  refine R_putF (pc := 26) C dX1_init_26 (i := 2) (NLc.at (h := fun _ => none) 0 rfl) rfl inlX1 tyX1_ok nmX1 (by decide) k_1_15 rfl hin rfl rfl rfl (Nat.le_of_ble_eq_true rfl) (fun h hh => hh.put 0 rfl) ?_
  refine R_aload_n (pc := 29) C dX1_init_29 rfl ?_
  refine R_iconst (pc := 30) C dX1_init_30 (v := 0) (by decide) ?_
  refine R_putf (pc := 31) C dX1_init_31 (i := 3) (NLc.at (h := fun _ => none) 0 rfl) rfl inlX1 tyX1_ok nmX1 (by decide) k_1_16 rfl rfl rfl (Nat.le_of_ble_eq_true rfl) (fun h hh => hh.put 0 rfl) ?_
  refine R_aload_n (pc := 34) C dX1_init_34 rfl ?_
  refine R_iconst (pc := 35) C dX1_init_35 (v := 0) (by decide) ?_
  refine R_putf (pc := 36) C dX1_init_36 (i := 4) (NLc.at (h := fun _ => none) 0 rfl) rfl inlX1 tyX1_ok nmX1 (by decide) k_1_17 rfl rfl rfl (Nat.le_of_ble_eq_true rfl) (fun h hh => hh.put 0 rfl) ?_
  refine R_aload_n (pc := 39) C dX1_init_39 rfl ?_
  refine R_iconst (pc := 40) C dX1_init_40 (v := 0) (by decide) ?_
  refine R_putf (pc := 41) C dX1_init_41 (i := 5) (NLc.at (h := fun _ => none) 0 rfl) rfl inlX1 tyX1_ok nmX1 (by decide) k_1_18 rfl rfl rfl (Nat.le_of_ble_eq_true rfl) (fun h hh => hh.put 0 rfl) ?_
  exact R_vret (pc := 44) C dX1_init_44 rfl (Nat.le_of_ble_eq_true rfl) (Nat.le_of_ble_eq_true rfl) (fun h hh => ⟨rfl, la, rc, pp, hh⟩)
end
