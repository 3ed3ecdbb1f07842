/-! 78: what every turn of the law keeps, by numbers alone. My own. -/
theorem Bt.mono {x : Int32} {m m' : Nat} (h : Bt x m) (hm : m ≤ m') : Bt x m' := by
  obtain ⟨j, hj, e⟩ := h
  exact ⟨j, by omega, e⟩
def IV (t n P : Nat) (F : Nat → Nat → Int32) : Prop := Inv n P F ∧ n ≤ 5 ∧ (∀ i, Bt (F 9 i) (900000 * t)) ∧ ∀ j, Bt (F 13 j) (10000 * t)
section
variable {t n P n' P' : Nat} {F F' : Nat → Nat → Int32}
theorem IV.keep (H : IV t n P F) (h : Inv n' P' F') (hn : n' ≤ 5) (h9 : F' 9 = F 9) (h13 : F' 13 = F 13) : IV (t + 1) n' P' F' :=
  ⟨h, hn, fun i => by rw [h9]; exact (H.2.2.1 i).mono (by omega), fun j => by rw [h13]; exact (H.2.2.2 j).mono (by omega)⟩
theorem IV.plan (H : IV t n P F) {k am : Nat} (hk : k < n) (ha : am ≤ 2000) : IV (t + 1) n P (su F 6 k (nI am)) :=
  H.keep (H.1.w hk (by omega) (fun _ => ⟨am, ha, rfl⟩) (fun z => by omega) (fun z => by omega)) H.2.1 (su_f (by omega)) (su_f (by omega))
theorem IV.power (H : IV t n P F) {k am : Nat} (hk : k < n) (ha : am ≤ 1000) : IV (t + 1) n P (su F 8 k (nI am)) :=
  H.keep (H.1.w hk (by omega) (fun z => by omega) (fun z => by omega) (fun _ => ⟨am, ha, rfl⟩)) H.2.1 (su_f (by omega)) (su_f (by omega))
theorem IV.tog (H : IV t n P F) {k : Nat} (hk : k < n) (h7 : F 7 k = 0 ∨ F 7 k = 1) : IV (t + 1) n P (su F 7 k (1 - F 7 k)) :=
  H.keep (H.1.w hk (by omega) (fun z => by omega) (fun _ => by rcases h7 with e | e <;> rw [e] <;> decide) (fun z => by omega)) H.2.1 (su_f (by omega)) (su_f (by omega))
theorem IV.rech (H : IV t n P F) {a : Nat} {v : Int32} : IV (t + 1) n P (su F 14 a v) := H.keep (H.1.o (Or.inl rfl)) H.2.1 (su_f (by omega)) (su_f (by omega))
theorem IV.build (H : IV t n P F) {p : Nat} (hP : P < 5) (hp : p < 20) : IV (t + 1) n (P + 1) (fBuild F P (nI p)) :=
  H.keep (H.1.build hP ⟨p, by omega, rfl⟩) H.2.1 (by unfold fBuild; rw [su_f (by omega), su_f (by omega)]) (by unfold fBuild; rw [su_f (by omega), su_f (by omega)])
theorem IV.stay (H : IV t n P F) : IV (t + 1) n P F := H.keep H.1 H.2.1 rfl rfl
theorem IV.add (H : IV t n P F) {a d : Nat} {c4 c5 c6 x6 : Int32} (hn : n ≤ 4) (ha : a < 3) (hd : d < 100) (h6 : Bt x6 1000) : IV (t + 1) (n + 1) P (fAdd F n (nI a) (nI d) c4 c5 c6 x6) :=
  H.keep (H.1.add (by omega) ⟨a, by omega, rfl⟩ ⟨d, by omega, rfl⟩ h6) (by omega) (fAdd_h 9 (by omega)) (fAdd_h 13 (by omega))
theorem IV.lends (H : IV t n P F) (ht : t < 90) (L : LStep n F F') : IV (t + 1) n P F' := by
  rcases L with rfl | ⟨i, j, hi, hj, hij, rfl⟩ | ⟨i, j, am, hi, hj, hij, ha, hb, rfl⟩
  · exact H.stay
  · obtain ⟨c, hc, e13⟩ := H.2.2.2 (8 * i + j)
    obtain ⟨d, hd, e9j⟩ := H.2.2.1 j
    obtain ⟨e, he, e9i⟩ := H.2.2.1 i
    have hm : minI (F 13 (8 * i + j)) (F 9 j) = nI (if d < c then d else c) := by
      rw [e13, e9j, minI]
      by_cases q : d < c
      · rw [if_pos (nI_lt q (by omega)), if_pos q]
      · rw [if_neg (nI_nlt (by omega) (by omega)), if_neg q]
    rw [hm]
    have hx : (if d < c then d else c) ≤ d ∧ (if d < c then d else c) ≤ c := by split <;> omega
    generalize (if d < c then d else c) = x at hx
    refine ⟨H.1.back hi hj, H.2.1, fun k => ?_, fun k => ?_⟩
    · unfold fBack
      by_cases q : k = i
      · subst q
        rw [su_s, e9i, nI_add]
        exact ⟨_, by omega, rfl⟩
      · rw [su_i q]
        by_cases r : k = j
        · subst r
          rw [su_s, e9j, pk_sub (by omega)]
          exact ⟨_, by omega, rfl⟩
        · rw [su_i r, su_f (by omega)]
          exact (H.2.2.1 k).mono (by omega)
    · unfold fBack
      rw [su_f (by omega), su_f (by omega)]
      by_cases q : k = 8 * i + j
      · rw [q, su_s, e13, pk_sub (by omega)]
        exact ⟨_, by omega, rfl⟩
      · rw [su_i q]
        exact (H.2.2.2 k).mono (by omega)
  · obtain ⟨c, hc, e13⟩ := H.2.2.2 (8 * i + j)
    obtain ⟨d, hd, e9j⟩ := H.2.2.1 j
    obtain ⟨e, he, e9i⟩ := H.2.2.1 i
    have hae : am ≤ e := by
      by_cases q : am ≤ e
      · exact q
      · exact absurd (by rw [e9i]; exact nI_lt (by omega) (by omega)) hb
    refine ⟨H.1.lend hi hj, H.2.1, fun k => ?_, fun k => ?_⟩
    · unfold fLend
      rw [su_f (by omega)]
      by_cases r : k = j
      · subst r
        rw [su_s, e9j, nI_add]
        exact ⟨_, by omega, rfl⟩
      · rw [su_i r]
        by_cases q : k = i
        · subst q
          rw [su_s, e9i, pk_sub hae]
          exact ⟨_, by omega, rfl⟩
        · rw [su_i q]
          exact (H.2.2.1 k).mono (by omega)
    · unfold fLend
      by_cases q : k = 8 * i + j
      · rw [q, su_s, e13, nI_add]
        exact ⟨_, by omega, rfl⟩
      · rw [su_i q, su_f (by omega), su_f (by omega)]
        exact (H.2.2.2 k).mono (by omega)
theorem mq2_bt {D : Nat → Bool} {B : Nat → Nat → Int32} {M : Nat} (hn : n ≤ 8) (hM : M ≤ 100000000) (h : ∀ i, i < n → (B 7 i = 0 ∨ B 7 i = 1) ∧ Bt (B 11 i) 2000) (h8 : ∀ i, i < n → Bt (B 8 i) 1000) (h5 : ∀ i, i < n → Bt (B 5 i) 1000) (h9 : ∀ i, i < n → Bt (B 9 i) M) : ∀ m, m ≤ n → ∀ j, j < m → Bt (mq2 n D B m 9 j) (M + 1000)
  | 0, _, j, hj => absurd hj (Nat.not_lt_zero _)
  | m + 1, hm, j, hj => by
    rw [mq2]
    by_cases q : j = m
    · subst q
      have hT := tell_eq (n := n) (F := B) (i := j) hn (by omega) h (h8 j (by omega))
      have e8 : mq2 n D B j 8 j = B 8 j := mq2_8 j (Nat.le_refl _)
      have et : tellM n (mq2 n D B j) j = tellM n B j := tellM_cg (mq2_ne (by omega) j) (mq2_ne (by omega) j) (mq2_ne (by omega) j) e8
      refine payM_bt ?_ ?_ hM ?_
      · rw [su_f (by omega), su_s, et, hT.1]; exact hT.2
      · rw [su_f (by omega), su_f (by omega), mq2_ne (by omega) j]; exact h5 j (by omega)
      · rw [su_f (by omega), su_f (by omega), mq2_9 j (Nat.le_refl _)]; exact h9 j (by omega)
    · rw [payM_9 q, su_f (by omega), su_f (by omega)]
      exact mq2_bt hn hM h h8 h5 h9 m (by omega) j (by omega)
theorem IV.year (H : IV t n P F) (ht : t < 90) (hk : kYear F = 0) : IV (t + 1) n P (su (yrF n P F) 16 1 (yrF n P F 16 1 + 1)) := by
  have hn := H.2.1
  have e := H.1.2.2.2.2.1
  refine ⟨H.1.year hk, H.2.1, fun i => ?_, fun j => ?_⟩
  · rw [su_f (by omega), ← H.1.same.1]
    by_cases c : i < n
    · refine (mq2_bt (M := 900000 * t) (by omega) (by omega) (fun i hi => ⟨?_, ?_⟩) (fun i hi => ?_) (fun i hi => ?_) (fun i hi => ?_) n (Nat.le_refl _) i c).mono (by omega)
      · rw [mq1_ne (by omega)]; exact (e i (by omega)).2.2.1
      · rw [mq1_11, if_pos hi]; exact bt_drw (e i (by omega)).2.1
      · rw [mq1_ne (by omega)]; exact (e i (by omega)).2.2.2
      · rw [mq1_ne (by omega)]; exact (e i (by omega)).1
      · rw [mq1_9, if_pos hi]; exact tenth_le (by omega) (H.2.2.1 i)
    · rw [mq2_9 n (by omega), mq1_9, if_neg c]
      exact (H.2.2.1 i).mono (by omega)
  · rw [su_f (by omega), yrF_ne (by omega)]
    exact (H.2.2.2 j).mono (by omega)
end
abbrev Z2 : Nat → Nat → Int32 := fun _ _ => 0
theorem iv_0 : IV 0 0 0 Z2 := ⟨⟨Nat.zero_le _, Nat.zero_le _, ⟨fun i hi => absurd hi (Nat.not_lt_zero _), fun i hi => absurd hi (Nat.not_lt_zero _)⟩, ⟨0, Nat.zero_le _, rfl⟩, fun _ _ => ⟨⟨0, Nat.zero_le _, rfl⟩, ⟨0, Nat.zero_le _, rfl⟩, Or.inl rfl, ⟨0, Nat.zero_le _, rfl⟩⟩, fun _ _ _ _ _ => rfl, fun _ _ => rfl⟩, Nat.zero_le _, fun _ => ⟨0, Nat.zero_le _, rfl⟩, fun _ => ⟨0, Nat.zero_le _, rfl⟩⟩
