/-! 84: what the start gives: numbers of classes, array classes, constants. Written by wip/p22/gen/m84.py -/
section
variable {s : State} {args : Array Value}
theorem u_all (hts : ∀ w ∈ BIG, w.before args s = true) : ∃ D : va_G, ∀ (c : Nat) (q : vw_C), vwCl[c]? = some q → u_Kn s q.1 q.2.1 q.2.2 (D.1 c) (D.2 c) := by
  obtain ⟨c0, i0, h0⟩ := u_known (C := RJ0) (T := TJ0) (N := 4) hts inlJ0 (hts _ k_13_9)
  obtain ⟨c1, i1, h1⟩ := u_known (C := RJ4) (T := TJ4) (N := 4) hts inlJ4 (hts _ k_4_17)
  obtain ⟨c2, i2, h2⟩ := u_known (C := RJx4a65c) (T := TJx4a65c) (N := 3) hts inlJx4a65c (hts _ k_1_11)
  obtain ⟨c3, i3, h3⟩ := u_known (C := RX0) (T := TX0) (N := 16) hts inlX0 (hts _ k_3_6)
  obtain ⟨c4, i4, h4⟩ := u_known (C := RX1) (T := TX1) (N := 6) hts inlX1 (hts _ k_1_1)
  refine ⟨(fun k => if k = 0 then c0 else if k = 1 then c1 else if k = 2 then c2 else if k = 3 then c3 else c4, fun k => if k = 0 then i0 else if k = 1 then i1 else if k = 2 then i2 else if k = 3 then i3 else i4), fun k q hq => ?_⟩
  match k, hq with
  | 0, hq => cases hq; exact h0
  | 1, hq => cases hq; exact h1
  | 2, hq => cases hq; exact h2
  | 3, hq => cases hq; exact h3
  | 4, hq => cases hq; exact h4
  | k + 5, hq => simp at hq
theorem arr_of {ty : FieldType} (h : (Cond.arrayClass ty).before args s = true) (hp : ∀ x, ty ≠ .object x) : ∃ cA, ArrOfT s cA ty ∧ va_RA s cA ty := by
  obtain ⟨cA, kA, comp, h1, h2, h3⟩ := Cond.arrayClass_spec h
  refine ⟨cA, fun n z => ⟨fun k h => (by cases h), kA, h2, comp, h3⟩, ?_⟩
  cases ty with
  | object C => exact absurd rfl (hp C)
  | _ => exact h1
theorem arr_obj {C : String} (h : va_AO C s) : ∃ cA, ArrOfT s cA (.object C) ∧ va_RA s cA (.object C) := by
  obtain ⟨comp, c, k, h1, h2, h3, h4, h5⟩ := Cond.arrayOver_spec h
  exact ⟨c, fun n z => ⟨fun k h => (by cases h), k, h3, comp, h4⟩, k, comp, h3, h4, h1, h5⟩
theorem y_all (hts : ∀ w ∈ BIG, w.before args s = true) (ho : va_AO "java/lang/Object" s) : ∃ cy : Nat → ClassId, ∀ (k : Nat) (q : ClassId × FieldType), (tyl cy)[k]? = some q → ArrOfT s q.1 q.2 ∧ va_RA s q.1 q.2 := by
  obtain ⟨c0, h0⟩ := arr_of (hts _ k_1_3) (fun _ h => by cases h)
  obtain ⟨c1, h1⟩ := arr_of (hts _ k_5_4) (fun _ h => by cases h)
  obtain ⟨c4, h4⟩ := arr_obj ho
  refine ⟨fun k => if k = 0 then c0 else if k = 1 then c1 else if k = 2 then c0 else if k = 3 then c0 else c4, fun k q hq => ?_⟩
  match k, hq with
  | 0, hq => cases hq; exact h0
  | 1, hq => cases hq; exact h1
  | 2, hq => cases hq; exact h0
  | 3, hq => cases hq; exact h0
  | 4, hq => cases hq; exact h4
  | k + 5, hq => simp [tyl] at hq
theorem st_R {own tx : String} {k : Nat} (h1 : (Cond.stringRef own k tx).before args s = true) (h2 : (Cond.exactly (.string own k) "java/lang/String").before args s = true) : ∃ a, vk_R own k tx a s := by
  obtain ⟨a, c, cA, kA, q1, -⟩ := Cond.exactly_spec (args := args) (first := s) (o := none) (s := s) (idx := []) (t := .string own k) (cls := "java/lang/String") h2
  exact ⟨a, vk_R.of h1 q1⟩
theorem fl {w : Cond} {i : Nat} (hg : (Jvm.Cond.and given_1 narrow_1).before args s = true) (h : (flatC (Jvm.Cond.and given_1 narrow_1))[i]? = some w) : w.before args s = true := flat_of_before _ hg _ (List.mem_of_getElem? h)
theorem ones_at : ∀ j, j < 100 → (flatC (Jvm.Cond.and given_1 narrow_1))[18 + j]? = some (Jvm.Cond.eq (Jvm.Term.elem (Jvm.Term.static "java/lang/Integer" "DigitOnes" "[B") (Jvm.Term.int (Int32.ofNat j))) (Jvm.Term.int (nI (48 + j % 10)))) := by decide +kernel
theorem tens_at : ∀ j, j < 100 → (flatC (Jvm.Cond.and given_1 narrow_1))[121 + j]? = some (Jvm.Cond.eq (Jvm.Term.elem (Jvm.Term.static "java/lang/Integer" "DigitTens" "[B") (Jvm.Term.int (Int32.ofNat j))) (Jvm.Term.int (nI (48 + j / 10)))) := by decide +kernel
set_option maxRecDepth 100000 in
theorem st_all (ht : ∀ w ∈ lw_tbl, w.before args s = true) (hg : (Jvm.Cond.and given_1 narrow_1).before args s = true) {A : Nat → Prop} (hA : ∀ a : Nat, a < s.heap.size → ¬ A a) {b L : Nat} {xs : Nat → Int32} (hT : va_T .int b L (fun j => .int (xs j)) A s s.heap) : ∃ G : GT, (G.2.2 200 = b ∧ G.2.2 201 = L) ∧ va_K G.1 vwCl (tyl G.2.1) s ∧ ST G A s s.heap := by
  have ho : va_AO "java/lang/Object" s := va_AO.of (ht _ (tb_t (i := 784) (by decide +kernel)))
  have hts : ∀ w ∈ BIG, w.before args s = true := fun w hw => ht w (kb_all w hw)
  obtain ⟨D, hD⟩ := u_all hts
  obtain ⟨cy, hy⟩ := y_all hts ho
  obtain ⟨z0, e0, T0⟩ := va_Tof (tm := (Jvm.Term.static "java/util/ArrayList" "DEFAULTCAPACITY_EMPTY_ELEMENTDATA" "[Ljava/lang/Object;")) (ty := .object "java/lang/Object") (N := 0) (f := fun _ => .null) (A := A) (by decide) (fl hg (i := 5) (by decide +kernel)) (va_eqt (fl hg (i := 7) (by decide +kernel))) (fun j hj => absurd hj (Nat.not_lt_zero _)) hA
  have Z0 := va_Zof (A := A) (ht _ (tb_t (i := 46) (by decide +kernel))) (ht _ (tb_t (i := 4) (by decide +kernel))) e0 hA
  have Z9 := va_Zof (A := A) (C := "java/lang/String") (n := "COMPACT_STRINGS") (d := "Z") (v := .int 1) (ht _ (tb_t (i := 413) (by decide +kernel))) (ht _ (tb_t (i := 14) (by decide +kernel))) (va_eqi (fl hg (i := 10) (by decide +kernel))) hA
  obtain ⟨z1, e1, T1⟩ := va_Tof (tm := (Jvm.Term.static "java/lang/Integer" "DigitOnes" "[B")) (ty := .byte) (N := 100) (f := fun j => .int (nI (48 + j % 10))) (A := A) (by decide) (fl hg (i := 16) (by decide +kernel)) (va_eqt (fl hg (i := 17) (by decide +kernel))) (fun j hj => va_eqt (fl hg (ones_at j hj))) hA
  have Z1 := va_Zof (A := A) (ht _ (tb_t (i := 609) (by decide +kernel))) (ht _ (tb_t (i := 23) (by decide +kernel))) e1 hA
  obtain ⟨z2, e2, T2⟩ := va_Tof (tm := (Jvm.Term.static "java/lang/Integer" "DigitTens" "[B")) (ty := .byte) (N := 100) (f := fun j => .int (nI (48 + j / 10))) (A := A) (by decide) (fl hg (i := 119) (by decide +kernel)) (va_eqt (fl hg (i := 120) (by decide +kernel))) (fun j hj => va_eqt (fl hg (tens_at j hj))) hA
  have Z2 := va_Zof (A := A) (ht _ (tb_t (i := 611) (by decide +kernel))) (ht _ (tb_t (i := 23) (by decide +kernel))) e2 hA
  have Zp := va_Zqof (A := A) (C := "jdk/internal/util/Preconditions") (n := "SIOOBE_FORMATTER") (d := "Ljava/util/function/BiFunction;") (ht _ (tb_t (i := 430) (by decide +kernel))) (ht _ (tb_t (i := 20) (by decide +kernel))) (fl hg (i := 11) (by decide +kernel)) hA
  have Zu := vx_Zqof (A := A) (C := Bundle.tN) (n := "UNASSIGNED_STACK") (d := Bundle.steD) (ht _ (tb_t (i := 118) (by decide +kernel))) (ht _ (tb_t (i := 5) (by decide +kernel))) (fl hg (i := 8) (by decide +kernel)) hA
  have Zs := vx_Zqof (A := A) (C := Bundle.tN) (n := "SUPPRESSED_SENTINEL") (d := Bundle.listD) (ht _ (tb_t (i := 120) (by decide +kernel))) (ht _ (tb_t (i := 5) (by decide +kernel))) (fl hg (i := 9) (by decide +kernel)) hA
  obtain ⟨kK, kV, hS, eS⟩ := vk_Sof (args := args) (s := s) (N := 1) (tm := fun _ => (Jvm.Term.string "WellRights$Well" 52)) (len := [5]) (byt := [[108, 97, 121, 101, 114]]) (A := A) (fun i hi => by rw [show i = 0 by omega]; decide) (fun i hi => (fl hg (i := 466) (by decide +kernel))) (fun i hi => (fl hg (i := 467) (by decide +kernel))) (fun i hi => (fl hg (i := 468) (by decide +kernel)))
    (fun i hi => by rw [show i = 0 by omega]; exact (fl hg (i := 469) (by decide +kernel)))
    (fun i hi j hj => by
      obtain rfl : i = 0 := by omega
      have hj : j < 5 := hj
      have h9 : j = 0 ∨ j = 1 ∨ j = 2 ∨ j = 3 ∨ j = 4 := by omega
      rcases h9 with rfl | rfl | rfl | rfl | rfl
      · exact (fl hg (i := 470) (by decide +kernel))
      · exact (fl hg (i := 471) (by decide +kernel))
      · exact (fl hg (i := 472) (by decide +kernel))
      · exact (fl hg (i := 473) (by decide +kernel))
      · exact (fl hg (i := 474) (by decide +kernel)))
    (fun i j hi hj hn => absurd (show i = j by omega) hn) hA
  have hS1 : vk_S 1 [5] [[108, 97, 121, 101, 114]] (fun _ => kK 0) (fun _ => kV 0) A s s.heap := by
    refine ⟨fun i hi => ?_, fun i j hi hj _ => by omega⟩
    obtain rfl : i = 0 := by omega
    exact hS.1 0 hi
  have r52 : vk_R RX0 52 "layer" (kK 0) s := vk_R.of (ht _ (tb_t (i := 497) (by decide +kernel))) (eS 0 (by decide))
  obtain ⟨z145, r145⟩ := st_R (own := RX1) (k := 145) (tx := "the bank has less") (ht _ (tb_t (i := 334) (by decide +kernel))) (fl hg (i := 339) (by decide +kernel))
  obtain ⟨z158, r158⟩ := st_R (own := RX1) (k := 158) (tx := "too little in the fund, or 5 ponds") (ht _ (tb_t (i := 339) (by decide +kernel))) (fl hg (i := 365) (by decide +kernel))
  obtain ⟨z160, r160⟩ := st_R (own := RX1) (k := 160) (tx := "no such well") (ht _ (tb_t (i := 132) (by decide +kernel))) (fl hg (i := 229) (by decide +kernel))
  obtain ⟨z166, r166⟩ := st_R (own := RX1) (k := 166) (tx := "no such layer") (ht _ (tb_t (i := 200) (by decide +kernel))) (fl hg (i := 262) (by decide +kernel))
  obtain ⟨z170, r170⟩ := st_R (own := RX1) (k := 170) (tx := "out of range") (ht _ (tb_t (i := 186) (by decide +kernel))) (fl hg (i := 245) (by decide +kernel))
  obtain ⟨z173, r173⟩ := st_R (own := RX1) (k := 173) (tx := "both wells are the same") (ht _ (tb_t (i := 333) (by decide +kernel))) (fl hg (i := 308) (by decide +kernel))
  obtain ⟨z47, r47⟩ := st_R (own := RX1) (k := 47) (tx := "there are 8 wells") (ht _ (tb_t (i := 458) (by decide +kernel))) (fl hg (i := 437) (by decide +kernel))
  obtain ⟨z92, r92⟩ := st_R (own := RX1) (k := 92) (tx := "no such character") (ht _ (tb_t (i := 414) (by decide +kernel))) (fl hg (i := 409) (by decide +kernel))
  obtain ⟨z99, r99⟩ := st_R (own := RX1) (k := 99) (tx := "60 years have passed") (ht _ (tb_t (i := 235) (by decide +kernel))) (fl hg (i := 281) (by decide +kernel))
  have w1 : va_Nw (.castable eISE eISE) s := va_Nw.of rfl (ht _ (tb_t (i := 228) (by decide +kernel)))
  have w2 : va_Nw (.castable eIOB eIOB) s := va_Nw.of rfl (ht _ (tb_t (i := 93) (by decide +kernel)))
  have w3 : va_Nw (.castable eIAE eIAE) s := va_Nw.of rfl (ht _ (tb_t (i := 179) (by decide +kernel)))
  have w4 : va_Nw (.declares (Bundle.initS "java/lang/RuntimeException")) s := va_Nw.of rfl (ht _ (tb_t (i := 95) (by decide +kernel)))
  have w5 : va_Nw (.declares (Bundle.initS "java/lang/Exception")) s := va_Nw.of rfl (ht _ (tb_t (i := 97) (by decide +kernel)))
  have w6 : va_Nw (.declares (Bundle.initS Bundle.tN)) s := va_Nw.of rfl (ht _ (tb_t (i := 99) (by decide +kernel)))
  have w7 : va_Nw (.castable RX0 "java/lang/Object") s := va_Nw.of rfl (ht _ (tb_t (i := 810) (by decide +kernel)))
  refine ⟨(D, cy, fun k => if k = 0 then z0 else if k = 1 then z1 else if k = 2 then z2 else if k = 3 then kK 0 else if k = 4 then kV 0 else if k = 145 then z145 else if k = 158 then z158 else if k = 160 then z160 else if k = 166 then z166 else if k = 170 then z170 else if k = 173 then z173 else if k = 47 then z47 else if k = 92 then z92 else if k = 99 then z99 else if k = 200 then b else if k = 201 then L else ezI (xs (k - 300))), ⟨rfl, rfl⟩, ⟨hD, hy⟩, ?_⟩
  refine ⟨⟨Z0, T0⟩, Z9, ⟨fun j => nI (48 + j % 10), Z1, T1, fun _ _ => rfl⟩, ⟨fun j => nI (48 + j / 10), Z2, T2, fun _ _ => rfl⟩, ⟨Zp, Zu, Zs⟩, hS1, ⟨r52, r145, r158, r160, r166, r170, r173, r47, r92, r99⟩, ⟨w1, w2, w3, w4, w5, w6, w7, ho⟩, ?_⟩
  show va_T .int b L (fun j => .int (dzI ((fun k : Nat => if k = 0 then z0 else if k = 1 then z1 else if k = 2 then z2 else if k = 3 then kK 0 else if k = 4 then kV 0 else if k = 145 then z145 else if k = 158 then z158 else if k = 160 then z160 else if k = 166 then z166 else if k = 170 then z170 else if k = 173 then z173 else if k = 47 then z47 else if k = 92 then z92 else if k = 99 then z99 else if k = 200 then b else if k = 201 then L else ezI (xs (k - 300))) (300 + j)))) A s s.heap
  have e : (fun j => Value.int (dzI ((fun k : Nat => if k = 0 then z0 else if k = 1 then z1 else if k = 2 then z2 else if k = 3 then kK 0 else if k = 4 then kV 0 else if k = 145 then z145 else if k = 158 then z158 else if k = 160 then z160 else if k = 166 then z166 else if k = 170 then z170 else if k = 173 then z173 else if k = 47 then z47 else if k = 92 then z92 else if k = 99 then z99 else if k = 200 then b else if k = 201 then L else ezI (xs (k - 300))) (300 + j)))) = fun j => Value.int (xs j) := by
    funext j
    show Value.int (dzI (if 300 + j = 0 then z0 else if 300 + j = 1 then z1 else if 300 + j = 2 then z2 else if 300 + j = 3 then kK 0 else if 300 + j = 4 then kV 0 else if 300 + j = 145 then z145 else if 300 + j = 158 then z158 else if 300 + j = 160 then z160 else if 300 + j = 166 then z166 else if 300 + j = 170 then z170 else if 300 + j = 173 then z173 else if 300 + j = 47 then z47 else if 300 + j = 92 then z92 else if 300 + j = 99 then z99 else if 300 + j = 200 then b else if 300 + j = 201 then L else ezI (xs (300 + j - 300)))) = _
    rw [if_neg (by omega), if_neg (by omega), if_neg (by omega), if_neg (by omega), if_neg (by omega), if_neg (by omega), if_neg (by omega), if_neg (by omega), if_neg (by omega), if_neg (by omega), if_neg (by omega), if_neg (by omega), if_neg (by omega), if_neg (by omega), if_neg (by omega), if_neg (by omega), show 300 + j - 300 = j by omega, dz_ez]
  rw [e]; exact hT
end
