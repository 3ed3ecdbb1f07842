/-! 46: the law's calls of the class: toggleMeter, addWell. Written by wip/whole/gen/m46.py -/
theorem t1_7 {n : Nat} {F : Nat → Nat → Int32} {x : Int32} (hn : n ≤ 8) (hf7 : ∀ i, i < n → F 7 i = 0 ∨ F 7 i = 1) (hk : kAsk n x = 0) (h : ¬ F 7 (ix x) = 0) : F 7 (ix x) = 1 := by
  unfold kAsk at hk
  cases hq : qW n x with
  | false => rw [hq] at hk; exact absurd hk (by decide)
  | true =>
    obtain ⟨i, hi, rfl⟩ := qW_e hn hq
    rw [ix_nI (by omega)] at h ⊢
    exact (hf7 i hi).resolve_left h
section
variable {l : Launch} {G : GT} {adr : Nat → Nat} {n P nm Pm : Nat} {F Fm mu : Nat → Nat → Int32} {g : Nat → Int64}
set_option maxHeartbeats 4000000 in
set_option maxRecDepth 100000 in
theorem mL_toggleMeter (hl : l.stackTraces = false) {x : Int32} (hn : n ≤ 8) (hf7 : ∀ i, i < n → F 7 i = 0 ∨ F 7 i = 1) : ∀ h, Wd G (adr, (n, P, F), (nm, Pm, Fm), mu, g) h → CW l yL_toggleMeter cL_toggleMeter 4 (some .int) [(0, 16, 19, 13)] 5 1 6 [.ref (adr 0), .int x, .ref (adr 24)] G h (fun v h1 => lPo (kAsk n x) (F 7 (ix x)) g (fun g9 => Wd G (adr, (n, P, F), (nm, Pm, Fm), mu, g9)) (fun g9 => Wd G (adr, (n, P, su F 7 (ix x) (1 - F 7 (ix x))), (nm, Pm, Fm), mu, g9)) v h1) := by
  intro h0 hwd
  refine CW.of hl (by decide +kernel) rfl (Nat.le_of_ble_eq_true rfl) (fun K sz hKl C => ?_)
  have C : CX K G (AH h0 sz) RL cL_toggleMeter 4 (some .int) (rmD 5 1 6) [⟨0, 16, 19, 13⟩] := C
  subst hKl
  refine WR.imp (P' := Wd G (adr, (n, P, F), (nm, Pm, Fm), mu, g)) (fun h e => e ▸ hwd) ?_
  show WR K G _ _ _ [some (.ref (adr 0)), some (.int x), some (.ref (adr 24)), none] 0 0 0 []
  refine R_aload_n (pc := 0) C dL_toggleMeter_0 rfl ?_
  refine R_iconst (pc := 1) C dL_toggleMeter_1 (v := 0) (by decide) ?_
  refine R_aload_n (pc := 2) C dL_toggleMeter_2 rfl ?_
  refine R_iload_n (pc := 3) C dL_toggleMeter_3 rfl ?_
  refine R_callVT (pc := 4) C dL_toggleMeter_4 (vs := [_]) (fun h hh => mX1_toggleMeter hl hn hf7 h hh) (isOb_of (wc0) rfl) ⟨k_29_17, k_29_18, k_29_19, k_1_2, k_29_20⟩ (sgn (nv := 1) rfl ⟨by decide +kernel, by decide +kernel, by decide +kernel⟩) ⟨⟨Nat.le_of_ble_eq_true rfl, Nat.le_of_ble_eq_true rfl⟩, ⟨Nat.le_of_ble_eq_true rfl, Nat.le_of_ble_eq_true rfl⟩, Nat.le_of_ble_eq_true rfl⟩ rfl rfl (fun h9 hh9 E9 => ?_) (fun h9 hh9 v9 => ?_)
  · refine X_pr (fun q9 => ?_)
    rcases q9 with ⟨q8, rfl⟩ | ⟨q8, rfl⟩ | ⟨q8, rfl⟩
    · refine X_catch C [] ⟨0, 16, 19, 13⟩ [] rfl (fun z hz => by cases hz) (by decide) (by decide) k_3_17 (C.st.2.2.2.2.2.2.2.1.2.1) (fun q => ?_)
      refine R_astore_n (pc := 19) C dL_toggleMeter_19 (Nat.le_of_ble_eq_true rfl) (lv' := [some (.ref _), some (.int _), some (.ref _), some (.ref _)]) rfl ?_
      refine R_iconst (pc := 20) C dL_toggleMeter_20 (v := 1) (by decide) ?_
      refine R_ok ?_
      exact R_iret (pc := 21) C dL_toggleMeter_21 rfl (Nat.le_of_ble_eq_true rfl) (Nat.le_of_ble_eq_true rfl) (fun h hh => Or.inr ⟨by rw [q8]; decide, by rw [q8], hh⟩)
    · exact absurd q8 (by unfold kAsk; (repeat' split) <;> decide)
    · exact absurd q8 (by unfold kAsk; (repeat' split) <;> decide)
  refine WR.pr (fun e9 => ?_)
  obtain ⟨hk, e9⟩ := e9
  subst e9
  show WR K G _ _ _ _ _ _ _ (.int _ :: _)
  refine R_if_eq (pc := 7) C dL_toggleMeter_7 (tgt := 14) (by decide) (fun c7 => ?_) (fun c7 => ?_)
  · refine R_lconst (pc := 14) C dL_toggleMeter_14 rfl ?_
    refine R_last (pc := 15) C dL_toggleMeter_15 (wm_g) ((rfl : _ = nI 0)) (by decide) (by decide) (pm_out) ?_
    refine R_goto (pc := 16) C dL_toggleMeter_16 (tgt := 22) (by decide) ?_
    refine R_iconst (pc := 22) C dL_toggleMeter_22 (v := 0) (by decide) ?_
    refine R_ok ?_
    exact R_iret (pc := 23) C dL_toggleMeter_23 rfl (Nat.le_of_ble_eq_true rfl) (Nat.le_of_ble_eq_true rfl) (fun h hh => Or.inl ⟨hk, rfl, by rw [show (F 7 (ix x)).toInt64 = 0 by rw [c7]; rfl]; exact hh⟩)
  · refine R_lconst (pc := 10) C dL_toggleMeter_10 rfl ?_
    refine R_goto (pc := 11) C dL_toggleMeter_11 (tgt := 15) (by decide) ?_
    refine R_last (pc := 15) C dL_toggleMeter_15 (wm_g) ((rfl : _ = nI 0)) (by decide) (by decide) (pm_out) ?_
    refine R_goto (pc := 16) C dL_toggleMeter_16 (tgt := 22) (by decide) ?_
    refine R_iconst (pc := 22) C dL_toggleMeter_22 (v := 0) (by decide) ?_
    refine R_ok ?_
    exact R_iret (pc := 23) C dL_toggleMeter_23 rfl (Nat.le_of_ble_eq_true rfl) (Nat.le_of_ble_eq_true rfl) (fun h hh => Or.inl ⟨hk, rfl, by rw [show (F 7 (ix x)).toInt64 = 1 by rw [t1_7 hn hf7 hk c7]; rfl]; exact hh⟩)
set_option maxHeartbeats 4000000 in
set_option maxRecDepth 100000 in
theorem mL_addWell (hl : l.stackTraces = false) {xa xb xc xd xe xf : Int32} (hn : n ≤ 8) (hz1 : ∀ f, 6 ≤ f → f ≤ 12 → F f n = 0) (hz2 : ∀ j, j < 8 → F 13 (8 * n + j) = 0) : ∀ h, Wd G (adr, (n, P, F), (nm, Pm, Fm), mu, g) h → CW l yL_addWell cL_addWell 9 (some .int) [(0, 18, 21, 13), (0, 18, 25, 15), (0, 18, 29, 17)] 9 13 110 [.ref (adr 0), .int xa, .int xb, .int xc, .int xd, .int xe, .int xf, .ref (adr 24)] G h (fun v h1 => lPo (kAdd n xa xb xc xd xe xf) (nI n) g (fun g9 => Wd G (adr, (n, P, F), (nm, Pm, Fm), mu, g9)) (fun g9 h9 => ∃ adr9, (∀ x, x < 30 → x ≠ 2 → adr9 x = adr x) ∧ Wd G (adr9, (n + 1, P, fAdd F n xa xb xc xd xe xf), (nm, Pm, Fm), mu, g9) h9) v h1) := by
  intro h0 hwd
  refine CW.of hl (by decide +kernel) rfl (Nat.le_of_ble_eq_true rfl) (fun K sz hKl C => ?_)
  have C : CX K G (AH h0 sz) RL cL_addWell 9 (some .int) (rmD 9 13 110) [⟨0, 18, 21, 13⟩, ⟨0, 18, 25, 15⟩, ⟨0, 18, 29, 17⟩] := C
  subst hKl
  refine WR.imp (P' := Wd G (adr, (n, P, F), (nm, Pm, Fm), mu, g)) (fun h e => e ▸ hwd) ?_
  show WR K G _ _ _ [some (.ref (adr 0)), some (.int xa), some (.int xb), some (.int xc), some (.int xd), some (.int xe), some (.int xf), some (.ref (adr 24)), none] 0 0 0 []
  refine R_aload (pc := 0) C dL_addWell_0 rfl ?_
  refine R_iconst (pc := 2) C dL_addWell_2 (v := 0) (by decide) ?_
  refine R_aload_n (pc := 3) C dL_addWell_3 rfl ?_
  refine R_iload_n (pc := 4) C dL_addWell_4 rfl ?_
  refine R_iload_n (pc := 5) C dL_addWell_5 rfl ?_
  refine R_iload_n (pc := 6) C dL_addWell_6 rfl ?_
  refine R_iload (pc := 7) C dL_addWell_7 rfl ?_
  refine R_iload (pc := 9) C dL_addWell_9 rfl ?_
  refine R_iload (pc := 11) C dL_addWell_11 rfl ?_
  refine R_callVT (pc := 13) C dL_addWell_13 (vs := [_, _, _, _, _, _]) (fun h hh => mX1_addWell hl hn hz1 hz2 h hh) (isOb_of (wc0) rfl) ⟨k_3_20, k_3_21, k_3_22, k_1_2, k_3_23⟩ (sgn (nv := 6) rfl ⟨by decide +kernel, by decide +kernel, by decide +kernel⟩) ⟨⟨Nat.le_of_ble_eq_true rfl, Nat.le_of_ble_eq_true rfl⟩, ⟨Nat.le_of_ble_eq_true rfl, Nat.le_of_ble_eq_true rfl⟩, Nat.le_of_ble_eq_true rfl⟩ rfl rfl (fun h9 hh9 E9 => ?_) (fun h9 hh9 v9 => ?_)
  · refine X_pr (fun q9 => ?_)
    rcases q9 with ⟨q8, rfl⟩ | ⟨q8, rfl⟩ | ⟨q8, rfl⟩
    · refine X_catch C [] ⟨0, 18, 21, 13⟩ [⟨0, 18, 25, 15⟩, ⟨0, 18, 29, 17⟩] rfl (fun z hz => by cases hz) (by decide) (by decide) k_3_17 (C.st.2.2.2.2.2.2.2.1.2.1) (fun q => ?_)
      refine R_astore (pc := 21) C dL_addWell_21 (Nat.le_of_ble_eq_true rfl) (lv' := [some (.ref _), some (.int _), some (.int _), some (.int _), some (.int _), some (.int _), some (.int _), some (.ref _), some (.ref _)]) rfl ?_
      refine R_iconst (pc := 23) C dL_addWell_23 (v := 1) (by decide) ?_
      refine R_ok ?_
      exact R_iret (pc := 24) C dL_addWell_24 rfl (Nat.le_of_ble_eq_true rfl) (Nat.le_of_ble_eq_true rfl) (fun h hh => Or.inr ⟨by rw [q8]; decide, by rw [q8], hh⟩)
    · refine X_catch C [⟨0, 18, 21, 13⟩] ⟨0, 18, 25, 15⟩ [⟨0, 18, 29, 17⟩] rfl (fun z hz => by cases List.mem_singleton.mp hz; exact Or.inr ⟨by decide, _, k_3_17, C.st.2.2.2.2.2.2.2.2.2.2⟩) (by decide) (by decide) k_3_18 (C.st.2.2.2.2.2.2.2.1.2.2.1) (fun q => ?_)
      refine R_astore (pc := 25) C dL_addWell_25 (Nat.le_of_ble_eq_true rfl) (lv' := [some (.ref _), some (.int _), some (.int _), some (.int _), some (.int _), some (.int _), some (.int _), some (.ref _), some (.ref _)]) rfl ?_
      refine R_iconst (pc := 27) C dL_addWell_27 (v := 2) (by decide) ?_
      refine R_ok ?_
      exact R_iret (pc := 28) C dL_addWell_28 rfl (Nat.le_of_ble_eq_true rfl) (Nat.le_of_ble_eq_true rfl) (fun h hh => Or.inr ⟨by rw [q8]; decide, by rw [q8], hh⟩)
    · refine X_catch C [⟨0, 18, 21, 13⟩, ⟨0, 18, 25, 15⟩] ⟨0, 18, 29, 17⟩ [] rfl (fun z hz => (List.mem_cons.mp hz).elim (fun e => by subst e; exact Or.inr ⟨by decide, _, k_3_17, C.st.2.2.2.2.2.2.2.2.1⟩) (fun e => by cases List.mem_singleton.mp e; exact Or.inr ⟨by decide, _, k_3_18, C.st.2.2.2.2.2.2.2.2.2.1⟩)) (by decide) (by decide) k_3_19 (C.st.2.2.2.2.2.2.2.1.1) (fun q => ?_)
      refine R_astore (pc := 29) C dL_addWell_29 (Nat.le_of_ble_eq_true rfl) (lv' := [some (.ref _), some (.int _), some (.int _), some (.int _), some (.int _), some (.int _), some (.int _), some (.ref _), some (.ref _)]) rfl ?_
      refine R_iconst (pc := 31) C dL_addWell_31 (v := 3) (by decide) ?_
      refine R_ok ?_
      exact R_iret (pc := 32) C dL_addWell_32 rfl (Nat.le_of_ble_eq_true rfl) (Nat.le_of_ble_eq_true rfl) (fun h hh => Or.inr ⟨by rw [q8]; decide, by rw [q8], hh⟩)
  refine WR.pr (fun e9 => ?_)
  obtain ⟨hk, e9⟩ := e9
  subst e9
  refine WR.ex (fun adr9 => WR.pr (fun hadr => ?_))
  rw [← hadr 24 (by decide) (by decide)]
  show WR K G _ _ _ _ _ _ _ (.int _ :: _)
  refine R_i2l (pc := 16) C dL_addWell_16 ?_
  refine R_last (pc := 17) C dL_addWell_17 (wm_g) ((rfl : _ = nI 0)) (by decide) (by decide) (pm_out) ?_
  refine R_goto (pc := 18) C dL_addWell_18 (tgt := 33) (by decide) ?_
  refine R_iconst (pc := 33) C dL_addWell_33 (v := 0) (by decide) ?_
  refine R_ok ?_
  exact R_iret (pc := 34) C dL_addWell_34 rfl (Nat.le_of_ble_eq_true rfl) (Nat.le_of_ble_eq_true rfl) (fun h hh => Or.inl ⟨hk, rfl, adr9, hadr, hh⟩)
end
