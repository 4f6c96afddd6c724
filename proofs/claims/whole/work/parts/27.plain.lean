/-! the reference: thing, button, write, wipe, unsee, seed -/
theorem iB_wr {x : Int32} : iB x 0 255 = true ↔ ¬ (x < 0 ∨ 255 < x) := by
  unfold iB
  rw [decide_eq_true_iff, Int32.lt_iff_toInt_lt, Int32.lt_iff_toInt_lt, show (0 : Int32).toInt = 0 from rfl, show (255 : Int32).toInt = 255 from rfl]
  omega

set_option maxRecDepth 100000 in
theorem qX10_thing {tx : List Nat} {ρ : Rm} {c d p : Nat} {ac : List (Nat × Nat × Nat)} {sl : Nat → Option (Nat × Nat × Nat)} {se : List (Nat × Nat × Nat)} {sd : Int64} {N : Nat} {σ : Mem} (h : RM tx ρ c d p ac sl se sd σ) (hv : okV N ρ c d p ac sl se) (x what : Int32) : Ct shM 2 mX10_thing [.ref 0, .int x, .int what] σ (PM (spThing ρ c d x what) tx ρ c d p ac sl se sd) := by
  obtain ⟨hr, hc, hd, hp, hN30, ⟨hal, hav⟩, hsv, hse⟩ := hv
  obtain ⟨hTx, hP, hTa, hNw, hAc, hSl, hSe, hSd⟩ := h
  have hM := mN_le hr
  have hcM := cm_lt hr hc
  have hdM := cm_lt hr hd
  have hn5 := hr.1
  have hB7 := hr.2.2.1
  have h : RM tx ρ c d p ac sl se sd σ := ⟨hTx, hP, hTa, hNw, hAc, hSl, hSe, hSd⟩
  refine Ct.of (by decide) (Nat.le_of_ble_eq_true rfl) (l := [some (.ref 0), some (.int x), some (.int what)]) rfl ?_
  refine Vj_aloadn (q := 1) dX10_thing_0 rfl rfl rfl ?_
  refine Vj_iloadn (q := 2) dX10_thing_1 rfl rfl rfl ?_
  refine Vj_callVi (q := 5) (qX10_isThing hP _) (by decide) rfl rfl lkX10_143 viX10_isThing okX10_isThing dX10_thing_2 rfl rfl (Nat.le_of_ble_eq_true rfl) ?_
  refine Vj_if_ne (q := 8) (tgt := 10) dX10_thing_5 (by decide) rfl (fun h5 => ?_) (fun h5 => ?_)
  ·
    have h8b := bI_n.mp h5
    obtain ⟨j, hj, rfl, ecl⟩ := hT_x (by omega) h8b
    refine Vj_iloadn (q := 11) dX10_thing_10 rfl rfl rfl ?_
    rcases (show what = 0 ∨ what = 1 ∨ what = 2 ∨ (¬ what = 0 ∧ ¬ what = 1 ∧ ¬ what = 2) by by_cases z0 : what = 0; exact Or.inl z0; by_cases z1 : what = 1; exact Or.inr (Or.inl z1); by_cases z2 : what = 2; exact Or.inr (Or.inr (Or.inl z2)); exact Or.inr (Or.inr (Or.inr ⟨z0, z1, z2⟩))) with hw | hw | hw | hw
    ·
      subst hw
      refine Vj_tableIn (q := 36) (off := 25) dX10_thing_11 (by decide) (by decide) (by decide) (by decide) ?_
      refine Vj_aloadn (q := 37) dX10_thing_36 rfl rfl rfl ?_
      refine Vj_getR (q := 40) flX10_7 rfl rfl dX10_thing_37 rfl ?_
      refine Vj_iloadn (q := 41) dX10_thing_40 rfl rfl rfl ?_
      refine Vj_iald (q := 42) rfl (vp_in_nI (by omega) (by decide)) dX10_thing_41 rfl ?_
      rw [nI_clamp (by omega), (hP.2.2.2.2.1 j hj).1]
      exact Vr_iret rfl rfl dX10_thing_42 (⟨by rw [spThing, h8b, if_pos rfl, if_pos rfl, ecl], h⟩)
    ·
      subst hw
      refine Vj_tableIn (q := 43) (off := 32) dX10_thing_11 (by decide) (by decide) (by decide) (by decide) ?_
      refine Vj_aloadn (q := 44) dX10_thing_43 rfl rfl rfl ?_
      refine Vj_aloadn (q := 45) dX10_thing_44 rfl rfl rfl ?_
      refine Vj_getI (q := 48) flX10_117 rfl rfl dX10_thing_45 rfl ?_
      rw [hNw.1]
      refine Vj_iloadn (q := 49) dX10_thing_48 rfl rfl rfl ?_
      refine Vj_callVi (q := 52) (qX10_stateIn hP hc hj) (by decide) rfl rfl lkX10_133 viX10_stateIn okX10_stateIn dX10_thing_49 rfl rfl (Nat.le_of_ble_eq_true rfl) ?_
      exact Vr_iret rfl rfl dX10_thing_52 (⟨by rw [spThing, h8b, if_pos rfl, if_neg (by decide), if_pos rfl, ecl], h⟩)
    ·
      subst hw
      refine Vj_tableIn (q := 53) (off := 42) dX10_thing_11 (by decide) (by decide) (by decide) (by decide) ?_
      refine Vj_aloadn (q := 54) dX10_thing_53 rfl rfl rfl ?_
      refine Vj_aloadn (q := 55) dX10_thing_54 rfl rfl rfl ?_
      refine Vj_getI (q := 58) flX10_124 rfl rfl dX10_thing_55 rfl ?_
      rw [hNw.2.1]
      refine Vj_iloadn (q := 59) dX10_thing_58 rfl rfl rfl ?_
      refine Vj_callVi (q := 62) (qX10_stateIn hP hd hj) (by decide) rfl rfl lkX10_133 viX10_stateIn okX10_stateIn dX10_thing_59 rfl rfl (Nat.le_of_ble_eq_true rfl) ?_
      exact Vr_iret rfl rfl dX10_thing_62 (⟨by rw [spThing, h8b, if_pos rfl, if_neg (by decide), if_neg (by decide), if_pos rfl, ecl], h⟩)
    ·
      have z0 : ¬ what.toInt = 0 := toInt_ne hw.1
      have z1 : ¬ what.toInt = 1 := toInt_ne hw.2.1
      have z2 : ¬ what.toInt = 2 := toInt_ne hw.2.2
      refine Vj_tableOut (q := 63) dX10_thing_11 (by omega) (by decide) ?_
      refine Vj_bipush (q := 65) (v := (-2)) dX10_thing_63 rfl (by decide) ?_
      exact Vr_iret rfl rfl dX10_thing_65 (⟨by rw [spThing, h8b, if_pos rfl, if_neg hw.1, if_neg hw.2.1, if_neg hw.2.2], h⟩)
  ·
    refine Vj_iconst (q := 9) (v := (-1)) dX10_thing_8 rfl (by decide) ?_
    exact Vr_iret rfl rfl dX10_thing_9 (⟨by rw [spThing, bI_f0 h5]; rfl, h⟩)
set_option maxRecDepth 100000 in
theorem qX10_button {tx : List Nat} {ρ : Rm} {c d p : Nat} {ac : List (Nat × Nat × Nat)} {sl : Nat → Option (Nat × Nat × Nat)} {se : List (Nat × Nat × Nat)} {sd : Int64} {N : Nat} {σ : Mem} (h : RM tx ρ c d p ac sl se sd σ) (hv : okV N ρ c d p ac sl se) (x what : Int32) : Ct shM 2 mX10_button [.ref 0, .int x, .int what] σ (PM (spButton ρ x what) tx ρ c d p ac sl se sd) := by
  obtain ⟨hr, hc, hd, hp, hN30, ⟨hal, hav⟩, hsv, hse⟩ := hv
  obtain ⟨hTx, hP, hTa, hNw, hAc, hSl, hSe, hSd⟩ := h
  have hM := mN_le hr
  have hcM := cm_lt hr hc
  have hdM := cm_lt hr hd
  have hn5 := hr.1
  have hB7 := hr.2.2.1
  have h : RM tx ρ c d p ac sl se sd σ := ⟨hTx, hP, hTa, hNw, hAc, hSl, hSe, hSd⟩
  refine Ct.of (by decide) (Nat.le_of_ble_eq_true rfl) (l := [some (.ref 0), some (.int x), some (.int what)]) rfl ?_
  refine Vj_aloadn (q := 1) dX10_button_0 rfl rfl rfl ?_
  refine Vj_iloadn (q := 2) dX10_button_1 rfl rfl rfl ?_
  refine Vj_callVi (q := 5) (qX10_isButton hP _) (by decide) rfl rfl lkX10_147 viX10_isButton okX10_isButton dX10_button_2 rfl rfl (Nat.le_of_ble_eq_true rfl) ?_
  refine Vj_if_ne (q := 8) (tgt := 10) dX10_button_5 (by decide) rfl (fun h5 => ?_) (fun h5 => ?_)
  ·
    have h8b := bI_n.mp h5
    obtain ⟨j, hj, rfl, ecl⟩ := hT_x (by omega) h8b
    refine Vj_iloadn (q := 11) dX10_button_10 rfl rfl rfl ?_
    rcases (show what = 0 ∨ what = 1 ∨ what = 2 ∨ (¬ what = 0 ∧ ¬ what = 1 ∧ ¬ what = 2) by by_cases z0 : what = 0; exact Or.inl z0; by_cases z1 : what = 1; exact Or.inr (Or.inl z1); by_cases z2 : what = 2; exact Or.inr (Or.inr (Or.inl z2)); exact Or.inr (Or.inr (Or.inr ⟨z0, z1, z2⟩))) with hw | hw | hw | hw
    ·
      subst hw
      refine Vj_tableIn (q := 36) (off := 25) dX10_button_11 (by decide) (by decide) (by decide) (by decide) ?_
      refine Vj_aloadn (q := 37) dX10_button_36 rfl rfl rfl ?_
      refine Vj_getR (q := 40) flX10_16 rfl rfl dX10_button_37 rfl ?_
      refine Vj_iloadn (q := 41) dX10_button_40 rfl rfl rfl ?_
      refine Vj_iald (q := 42) rfl (vp_in_nI (by omega) (by decide)) dX10_button_41 rfl ?_
      rw [nI_clamp (by omega), (hP.2.2.2.2.2 j hj).1]
      exact Vr_iret rfl rfl dX10_button_42 (⟨by rw [spButton, h8b, if_pos rfl, if_pos rfl, ecl], h⟩)
    ·
      subst hw
      refine Vj_tableIn (q := 43) (off := 32) dX10_button_11 (by decide) (by decide) (by decide) (by decide) ?_
      refine Vj_aloadn (q := 44) dX10_button_43 rfl rfl rfl ?_
      refine Vj_getR (q := 47) flX10_19 rfl rfl dX10_button_44 rfl ?_
      refine Vj_iloadn (q := 48) dX10_button_47 rfl rfl rfl ?_
      refine Vj_iald (q := 49) rfl (vp_in_nI (by omega) (by decide)) dX10_button_48 rfl ?_
      rw [nI_clamp (by omega), (hP.2.2.2.2.2 j hj).2.1]
      exact Vr_iret rfl rfl dX10_button_49 (⟨by rw [spButton, h8b, if_pos rfl, if_neg (by decide), if_pos rfl, ecl], h⟩)
    ·
      subst hw
      refine Vj_tableIn (q := 50) (off := 39) dX10_button_11 (by decide) (by decide) (by decide) (by decide) ?_
      refine Vj_aloadn (q := 51) dX10_button_50 rfl rfl rfl ?_
      refine Vj_getR (q := 54) flX10_22 rfl rfl dX10_button_51 rfl ?_
      refine Vj_iloadn (q := 55) dX10_button_54 rfl rfl rfl ?_
      refine Vj_iald (q := 56) rfl (vp_in_nI (by omega) (by decide)) dX10_button_55 rfl ?_
      rw [nI_clamp (by omega), (hP.2.2.2.2.2 j hj).2.2]
      exact Vr_iret rfl rfl dX10_button_56 (⟨by rw [spButton, h8b, if_pos rfl, if_neg (by decide), if_neg (by decide), if_pos rfl, ecl], h⟩)
    ·
      have z0 : ¬ what.toInt = 0 := toInt_ne hw.1
      have z1 : ¬ what.toInt = 1 := toInt_ne hw.2.1
      have z2 : ¬ what.toInt = 2 := toInt_ne hw.2.2
      refine Vj_tableOut (q := 57) dX10_button_11 (by omega) (by decide) ?_
      refine Vj_bipush (q := 59) (v := (-2)) dX10_button_57 rfl (by decide) ?_
      exact Vr_iret rfl rfl dX10_button_59 (⟨by rw [spButton, h8b, if_pos rfl, if_neg hw.1, if_neg hw.2.1, if_neg hw.2.2], h⟩)
  ·
    refine Vj_iconst (q := 9) (v := (-1)) dX10_button_8 rfl (by decide) ?_
    exact Vr_iret rfl rfl dX10_button_9 (⟨by rw [spButton, bI_f0 h5]; rfl, h⟩)
set_option maxRecDepth 100000 in
theorem qX10_wipe {tx : List Nat} {ρ : Rm} {c d p : Nat} {ac : List (Nat × Nat × Nat)} {sl : Nat → Option (Nat × Nat × Nat)} {se : List (Nat × Nat × Nat)} {sd : Int64} {N : Nat} {σ : Mem} (h : RM tx ρ c d p ac sl se sd σ) (hv : okV N ρ c d p ac sl se) : Ct shM 0 mX10_wipe [.ref 0] σ (PM (nI tx.length) [] ρ c d p ac sl se sd) := by
  obtain ⟨hr, hc, hd, hp, hN30, ⟨hal, hav⟩, hsv, hse⟩ := hv
  obtain ⟨hTx, hP, hTa, hNw, hAc, hSl, hSe, hSd⟩ := h
  have hM := mN_le hr
  have hcM := cm_lt hr hc
  have hdM := cm_lt hr hd
  have hn5 := hr.1
  have hB7 := hr.2.2.1
  have h : RM tx ρ c d p ac sl se sd σ := ⟨hTx, hP, hTa, hNw, hAc, hSl, hSe, hSd⟩
  refine Ct.of (by decide) (Nat.le_of_ble_eq_true rfl) (l := [some (.ref 0), none]) rfl ?_
  refine Vj_aloadn (q := 1) dX10_wipe_0 rfl rfl rfl ?_
  refine Vj_getI (q := 4) flX10_78 rfl rfl dX10_wipe_1 rfl ?_
  rw [hTx.1]
  refine Vs_istore1 (q := 5) dX10_wipe_4 rfl (by decide) rfl ?_
  refine Vj_aloadn (q := 6) dX10_wipe_5 rfl rfl rfl ?_
  refine Vj_iconst (q := 7) (v := 0) dX10_wipe_6 rfl (by decide) ?_
  refine Vj_putI (q := 10) flX10_78 rfl rfl dX10_wipe_7 rfl ?_
  refine Vj_iloadn (q := 11) dX10_wipe_10 rfl rfl rfl ?_
  exact Vr_iret rfl rfl dX10_wipe_11 (⟨rfl, ⟨by simp [uI, upd, nI_0], by decide, fun i hi => absurd hi (Nat.not_lt_zero i)⟩, hP.of rfl rfl rfl rfl rfl rfl rfl rfl, hTa.of rfl, hNw.of rfl rfl rfl, hAc.of rfl rfl rfl, hSl.of rfl rfl, hSe.of rfl rfl rfl rfl, hSd⟩)
set_option maxRecDepth 100000 in
theorem qX10_unsee {tx : List Nat} {ρ : Rm} {c d p : Nat} {ac : List (Nat × Nat × Nat)} {sl : Nat → Option (Nat × Nat × Nat)} {se : List (Nat × Nat × Nat)} {sd : Int64} {N : Nat} {σ : Mem} (h : RM tx ρ c d p ac sl se sd σ) (hv : okV N ρ c d p ac sl se) : Ct shM 0 mX10_unsee [.ref 0] σ (PM (nI se.length) tx ρ c d p ac sl [] sd) := by
  obtain ⟨hr, hc, hd, hp, hN30, ⟨hal, hav⟩, hsv, hse⟩ := hv
  obtain ⟨hTx, hP, hTa, hNw, hAc, hSl, hSe, hSd⟩ := h
  have hM := mN_le hr
  have hcM := cm_lt hr hc
  have hdM := cm_lt hr hd
  have hn5 := hr.1
  have hB7 := hr.2.2.1
  have h : RM tx ρ c d p ac sl se sd σ := ⟨hTx, hP, hTa, hNw, hAc, hSl, hSe, hSd⟩
  refine Ct.of (by decide) (Nat.le_of_ble_eq_true rfl) (l := [some (.ref 0), none]) rfl ?_
  refine Vj_aloadn (q := 1) dX10_unsee_0 rfl rfl rfl ?_
  refine Vj_getI (q := 4) flX10_190 rfl rfl dX10_unsee_1 rfl ?_
  rw [hSe.1]
  refine Vs_istore1 (q := 5) dX10_unsee_4 rfl (by decide) rfl ?_
  refine Vj_aloadn (q := 6) dX10_unsee_5 rfl rfl rfl ?_
  refine Vj_iconst (q := 7) (v := 0) dX10_unsee_6 rfl (by decide) ?_
  refine Vj_putI (q := 10) flX10_190 rfl rfl dX10_unsee_7 rfl ?_
  refine Vj_iloadn (q := 11) dX10_unsee_10 rfl rfl rfl ?_
  exact Vr_iret rfl rfl dX10_unsee_11 (⟨rfl, hTx.of rfl rfl, hP.of rfl rfl rfl rfl rfl rfl rfl rfl, hTa.of rfl, hNw.of rfl rfl rfl, hAc.of rfl rfl rfl, hSl.of rfl rfl, ⟨by simp [uI, upd, nI_0], fun i hi => absurd hi (Nat.not_lt_zero i)⟩, hSd⟩)
set_option maxRecDepth 100000 in
theorem qX10_seed {tx : List Nat} {ρ : Rm} {c d p : Nat} {ac : List (Nat × Nat × Nat)} {sl : Nat → Option (Nat × Nat × Nat)} {se : List (Nat × Nat × Nat)} {sd : Int64} {N : Nat} {σ : Mem} (h : RM tx ρ c d p ac sl se sd σ) (hv : okV N ρ c d p ac sl se) (v : Int64) : Ct shM 0 mX10_seed [.ref 0, .long v] σ (fun r σ' => r = some (.long sd) ∧ RM tx ρ c d p ac sl se v σ') := by
  obtain ⟨hr, hc, hd, hp, hN30, ⟨hal, hav⟩, hsv, hse⟩ := hv
  obtain ⟨hTx, hP, hTa, hNw, hAc, hSl, hSe, hSd⟩ := h
  have hM := mN_le hr
  have hcM := cm_lt hr hc
  have hdM := cm_lt hr hd
  have hn5 := hr.1
  have hB7 := hr.2.2.1
  refine Ct.of (by decide) (Nat.le_of_ble_eq_true rfl) (l := [some (.ref 0), some (.long v), none, none, none]) rfl ?_
  refine Vj_aloadn (q := 1) dX10_seed_0 rfl rfl rfl ?_
  refine Vj_getL (q := 4) flX10_225 rfl rfl dX10_seed_1 rfl ?_
  rw [hSd]
  refine Vs_lstore3 (q := 5) dX10_seed_4 rfl (by decide) rfl ?_
  refine Vj_aloadn (q := 6) dX10_seed_5 rfl rfl rfl ?_
  refine Vj_lloadn (q := 7) dX10_seed_6 rfl rfl rfl ?_
  refine Vj_putL (q := 10) flX10_225 rfl rfl dX10_seed_7 rfl ?_
  refine Vj_lloadn (q := 11) dX10_seed_10 rfl rfl rfl ?_
  exact Vr_lret rfl dX10_seed_11 (⟨rfl, hTx.of rfl rfl, hP.of rfl rfl rfl rfl rfl rfl rfl rfl, hTa.of rfl, hNw.of rfl rfl rfl, hAc.of rfl rfl rfl, hSl.of rfl rfl, hSe.of rfl rfl rfl rfl, by simp [uL, vp_updL]⟩)
set_option maxRecDepth 100000 in
theorem qX10_write {tx : List Nat} {ρ : Rm} {c d p : Nat} {ac : List (Nat × Nat × Nat)} {sl : Nat → Option (Nat × Nat × Nat)} {se : List (Nat × Nat × Nat)} {sd : Int64} {N : Nat} {σ : Mem} (h : RM tx ρ c d p ac sl se sd σ) (hv : okV N ρ c d p ac sl se) (x : Int32) : Ct shM 1 mX10_write [.ref 0, .int x] σ (PM ((spWrite tx x).1) (spWrite tx x).2 ρ c d p ac sl se sd) := by
  obtain ⟨hr, hc, hd, hp, hN30, ⟨hal, hav⟩, hsv, hse⟩ := hv
  obtain ⟨hTx, hP, hTa, hNw, hAc, hSl, hSe, hSd⟩ := h
  have hM := mN_le hr
  have hcM := cm_lt hr hc
  have hdM := cm_lt hr hd
  have hn5 := hr.1
  have hB7 := hr.2.2.1
  have h : RM tx ρ c d p ac sl se sd σ := ⟨hTx, hP, hTa, hNw, hAc, hSl, hSe, hSd⟩
  obtain ⟨hL0, hL1, hL2⟩ := hTx
  refine Ct.of (by decide) (Nat.le_of_ble_eq_true rfl) (l := [some (.ref 0), some (.int x)]) rfl ?_
  refine Vj_iloadn (q := 1) dX10_write_0 rfl rfl rfl ?_
  refine Vj_i2l (q := 2) dX10_write_1 rfl ?_
  refine Vj_lconst (q := 3) (v := 0) dX10_write_2 rfl (by decide) ?_
  refine Vj_ldc2 (q := 6) dX10_write_3 rfl kcX10_72 ?_
  refine Vj_callSi (q := 9) (qX10_in _ _ _) (by decide) lkX10_74 stX10_in okX10_in dX10_write_6 rfl rfl (Nat.le_of_ble_eq_true rfl) ?_
  rw [in_i (a := 0) (b := 255) rfl rfl]
  refine Vj_if_ne (q := 12) (tgt := 15) dX10_write_9 (by decide) rfl (fun h9 => ?_) (fun h9 => ?_)
  ·
    have hx := iB_wr.mp (bI_n.mp h9)
    refine Vj_aloadn (q := 16) dX10_write_15 rfl rfl rfl ?_
    refine Vj_getI (q := 19) flX10_78 rfl rfl dX10_write_16 rfl ?_
    rw [hL0]
    refine Vj_bipush (q := 21) (v := 44) dX10_write_19 rfl (by decide) ?_
    refine Vj_icmp_ne (q := 24) (tgt := 27) dX10_write_21 (by decide) rfl (fun h21 => ?_) (fun h21 => ?_)
    ·
      have hne : tx.length ≠ 44 := nI_ne_of (b := 44) (by omega) (by decide) h21
      have hlt : tx.length < 44 := by omega
      refine Vj_aloadn (q := 28) dX10_write_27 rfl rfl rfl ?_
      refine Vj_getR (q := 31) flX10_37 rfl rfl dX10_write_28 rfl ?_
      refine Vj_aloadn (q := 32) dX10_write_31 rfl rfl rfl ?_
      refine Vj_getI (q := 35) flX10_78 rfl rfl dX10_write_32 rfl ?_
      rw [hL0]
      refine Vj_iloadn (q := 36) dX10_write_35 rfl rfl rfl ?_
      refine Vj_iast (q := 37) rfl (vp_in_nI (by omega) (by decide)) dX10_write_36 rfl ?_
      rw [nI_clamp (by omega)]
      generalize hs2 : uI σ 10 tx.length x = σ2
      refine Vj_aloadn (q := 38) dX10_write_37 rfl rfl rfl ?_
      refine Vj_dup (q := 39) dX10_write_38 rfl rfl ?_
      refine Vj_getI (q := 42) flX10_78 rfl rfl dX10_write_39 rfl ?_
      rw [show σ2.1 0 18 = nI tx.length by rw [← hs2]; exact hL0]
      refine Vj_iconst (q := 43) (v := 1) dX10_write_42 rfl (by decide) ?_
      refine Vj_iadd (q := 44) dX10_write_43 rfl ?_
      rw [nI_1]
      refine Vj_putI (q := 47) flX10_78 rfl rfl dX10_write_44 rfl ?_
      generalize hs3 : uI σ2 0 18 (nI (tx.length + 1)) = σ3
      refine Vj_aloadn (q := 48) dX10_write_47 rfl rfl rfl ?_
      refine Vj_getI (q := 51) flX10_78 rfl rfl dX10_write_48 rfl ?_
      rw [show σ3.1 0 18 = nI (tx.length + 1) by rw [← hs3]; simp [uI, upd]]
      refine Vr_iret rfl rfl dX10_write_51 ?_
      subst hs2 hs3
      rw [spWrite, if_neg hx, if_neg (by omega)]
      have hx0 : ¬ x < 0 := fun z => hx (Or.inl z)
      obtain ⟨j, hj, rfl⟩ := nI_of2 (M := 255) (n := 255) rfl hx0 (Int32.not_lt.mp fun z => hx (Or.inr z))
      rw [nI_clamp (by omega)]
      refine ⟨rfl, ⟨by rw [List.length_append]; simp [uI, upd], by rw [List.length_append]; exact hlt, fun i hi => ?_⟩, hP.of rfl rfl rfl rfl rfl rfl rfl rfl, hTa.of rfl, hNw.of rfl rfl rfl, hAc.of rfl rfl rfl, hSl.of rfl rfl, hSe.of rfl rfl rfl rfl, hSd⟩
      rw [List.length_append] at hi
      by_cases e : i = tx.length
      · subst e
        rw [List.getD, List.getElem?_append_right (Nat.le_refl _), Nat.sub_self]
        exact ⟨by rw [uI_ne (by decide), uI_eq]; exact if_pos rfl, Nat.lt_succ_of_le hj⟩
      · have hi2 : i < tx.length := by simp at hi; omega
        rw [List.getD, List.getElem?_append_left hi2]
        have := hL2 i hi2
        rw [List.getD] at this
        refine ⟨?_, this.2⟩
        rw [uI_ne (by decide), uI_eq, upd, if_neg e]
        exact this.1
    ·
      refine Vj_bipush (q := 26) (v := (-4)) dX10_write_24 rfl (by decide) ?_
      refine Vr_iret rfl rfl dX10_write_26 ?_
      have h44 : tx.length = 44 := (nI_eq (b := 44) (by omega) (by decide)).mp h21
      rw [spWrite, if_neg hx, if_pos (by omega)]
      exact ⟨rfl, h⟩
  ·
    refine Vj_bipush (q := 14) (v := (-2)) dX10_write_12 rfl (by decide) ?_
    refine Vr_iret rfl rfl dX10_write_14 ?_
    have hx : x < 0 ∨ 255 < x := Decidable.byContradiction fun z => by
      rw [iB_wr.mpr z] at h9
      exact absurd h9 (by decide)
    rw [spWrite, if_pos hx]
    exact ⟨rfl, h⟩
