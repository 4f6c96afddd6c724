/-! the reference: press, miss, step, find -/
theorem cV_nx {ρ : Rm} (hr : okR ρ) {c b : Nat} (hc : cV ρ c) (hb : b < rB ρ) : cV ρ (cNx ρ c b) := ⟨cNx_lt hr hc.1 hb, cOk_nx hr hc.1 hb hc.2⟩
theorem i_256 (j y : Nat) : (256 : Int32) * nI j + nI y = nI (256 * j + y) := by rw [show (256 : Int32) = nI 256 from rfl, nI_mul, nI_add]
theorem bI_f0 {b : Bool} (h : bI b = 0) : b = false := by
  cases b
  · rfl
  · exact absurd h (by decide)

set_option maxRecDepth 100000 in
theorem qX10_press {tx : List Nat} {ρ : Rm} {c d p : Nat} {ac : List (Nat × Nat × Nat)} {sl : Nat → Option (Nat × Nat × Nat)} {se : List (Nat × Nat × Nat)} {sd : Int64} {N : Nat} {σ : Mem} (h : RM tx ρ c d p ac sl se sd σ) (hv : okV N ρ c d p ac sl se) (x : Int32) : Ct shM 2 mX10_press [.ref 0, .int x] σ (PM (spPress ρ c d p ac x).1 tx ρ (spPress ρ c d p ac x).2.1 (spPress ρ c d p ac x).2.2.1 (spPress ρ c d p ac x).2.2.2.1 (spPress ρ c d p ac x).2.2.2.2 sl se sd) := by
  obtain ⟨hr, hc, hd, hp, hN30, ⟨hal, hav⟩, hsv, hse⟩ := hv
  obtain ⟨hTx, hP, hTa, hNw, hAc, hSl, hSe, hSd⟩ := h
  have hM := mN_le hr
  have hcM := cm_lt hr hc
  have hdM := cm_lt hr hd
  have hn5 := hr.1
  have hB7 := hr.2.2.1
  have h : RM tx ρ c d p ac sl se sd σ := ⟨hTx, hP, hTa, hNw, hAc, hSl, hSe, hSd⟩
  refine Ct.of (by decide) (Nat.le_of_ble_eq_true rfl) (l := [some (.ref 0), some (.int x)]) rfl ?_
  refine Vj_aloadn (q := 1) dX10_press_0 rfl rfl rfl ?_
  refine Vj_iloadn (q := 2) dX10_press_1 rfl rfl rfl ?_
  refine Vj_callVi (q := 5) (qX10_isButton hP _) (by decide) rfl rfl lkX10_147 viX10_isButton okX10_isButton dX10_press_2 rfl rfl (Nat.le_of_ble_eq_true rfl) ?_
  refine Vj_if_ne (q := 8) (tgt := 10) dX10_press_5 (by decide) rfl (fun h5 => ?_) (fun h5 => ?_)
  ·
    have hT1 : hT (rB ρ) x = true := bI_n.mp h5
    obtain ⟨j, hj, rfl, hjj⟩ := hT_x (by omega) hT1
    have e : spPress ρ c d p ac (nI j) = (nI (cDg (rN ρ) (cNx ρ c j) (rN ρ)), cNx ρ c j, cNx ρ d j, p + 1, pushA ac (c, d, p)) := by unfold spPress; rw [if_pos hT1, hjj]
    rw [e]
    have hc2 := cV_nx hr hc hj
    have hd2 := cV_nx hr hd hj
    refine Vj_aloadn (q := 11) dX10_press_10 rfl rfl rfl ?_
    refine Vj_callV (q := 14) (qX10_keepAct h ⟨hr, hc, hd, hp, hN30, ⟨hal, hav⟩, hsv, hse⟩) (by decide) rfl rfl lkX10_153 viX10_keepAct okX10_keepAct dX10_press_11 rfl rfl (Nat.le_of_ble_eq_true rfl) ?_
    rintro r1 σ1 ⟨rfl, hTx1, hP1, hTa1, hNw1, hAc1, hSl1, hSe1, hSd1⟩
    show Vj shM 2 mX10_press _ 14 _ [] σ1
    refine Vj_aloadn (q := 15) dX10_press_14 rfl rfl rfl ?_
    refine Vj_aloadn (q := 16) dX10_press_15 rfl rfl rfl ?_
    refine Vj_getR (q := 19) flX10_25 rfl rfl dX10_press_16 rfl ?_
    refine Vj_sipush (q := 22) (v := 256) dX10_press_19 rfl (by decide) ?_
    refine Vj_iloadn (q := 23) dX10_press_22 rfl rfl rfl ?_
    refine Vj_imul (q := 24) dX10_press_23 rfl ?_
    refine Vj_aloadn (q := 25) dX10_press_24 rfl rfl rfl ?_
    refine Vj_getI (q := 28) flX10_117 rfl rfl dX10_press_25 rfl ?_
    rw [hNw1.1]
    refine Vj_iadd (q := 29) dX10_press_28 rfl ?_
    rw [i_256]
    refine Vj_iald (q := 30) rfl (vp_in_nI (by omega) (by decide)) dX10_press_29 rfl ?_
    rw [nI_clamp (by omega), hTa1 j hj c hc]
    refine Vj_putI (q := 33) flX10_117 rfl rfl dX10_press_30 rfl ?_
    generalize hs2 : uI σ1 0 9 (nI (cm ρ (cNx ρ c j))) = σ2
    refine Vj_aloadn (q := 34) dX10_press_33 rfl rfl rfl ?_
    refine Vj_aloadn (q := 35) dX10_press_34 rfl rfl rfl ?_
    refine Vj_getR (q := 38) flX10_25 rfl rfl dX10_press_35 rfl ?_
    refine Vj_sipush (q := 41) (v := 256) dX10_press_38 rfl (by decide) ?_
    refine Vj_iloadn (q := 42) dX10_press_41 rfl rfl rfl ?_
    refine Vj_imul (q := 43) dX10_press_42 rfl ?_
    refine Vj_aloadn (q := 44) dX10_press_43 rfl rfl rfl ?_
    refine Vj_getI (q := 47) flX10_124 rfl rfl dX10_press_44 rfl ?_
    rw [show σ2.1 0 10 = nI (cm ρ d) by rw [← hs2]; exact hNw1.2.1]
    refine Vj_iadd (q := 48) dX10_press_47 rfl ?_
    rw [i_256]
    refine Vj_iald (q := 49) rfl (vp_in_nI (by omega) (by decide)) dX10_press_48 rfl ?_
    rw [nI_clamp (by omega), show σ2.1 6 (256 * j + cm ρ d) = nI (cm ρ (cNx ρ d j)) by rw [← hs2]; exact hTa1 j hj d hd]
    refine Vj_putI (q := 52) flX10_124 rfl rfl dX10_press_49 rfl ?_
    generalize hs3 : uI σ2 0 10 (nI (cm ρ (cNx ρ d j))) = σ3
    refine Vj_aloadn (q := 53) dX10_press_52 rfl rfl rfl ?_
    refine Vj_dup (q := 54) dX10_press_53 rfl rfl ?_
    refine Vj_getI (q := 57) flX10_127 rfl rfl dX10_press_54 rfl ?_
    rw [show σ3.1 0 11 = nI p by rw [← hs3, ← hs2]; exact hNw1.2.2]
    refine Vj_iconst (q := 58) (v := 1) dX10_press_57 rfl (by decide) ?_
    refine Vj_iadd (q := 59) dX10_press_58 rfl ?_
    rw [nI_1]
    refine Vj_putI (q := 62) flX10_127 rfl rfl dX10_press_59 rfl ?_
    generalize hs4 : uI σ3 0 11 (nI (p + 1)) = σ4
    have hP4 : RoM ρ σ4 := by subst hs2 hs3 hs4; exact hP1.of rfl rfl rfl rfl rfl rfl rfl rfl
    refine Vj_aloadn (q := 63) dX10_press_62 rfl rfl rfl ?_
    refine Vj_aloadn (q := 64) dX10_press_63 rfl rfl rfl ?_
    refine Vj_getI (q := 67) flX10_117 rfl rfl dX10_press_64 rfl ?_
    rw [show σ4.1 0 9 = nI (cm ρ (cNx ρ c j)) by rw [← hs4, ← hs3, ← hs2]; simp [uI, upd]]
    refine Vj_callVi (q := 70) (qX10_figuresOf hP4 hc2) (by decide) rfl rfl lkX10_156 viX10_figuresOf okX10_figuresOf dX10_press_67 rfl rfl (Nat.le_of_ble_eq_true rfl) ?_
    refine Vr_iret rfl rfl dX10_press_70 ?_
    subst hs2 hs3 hs4
    exact ⟨rfl, ⟨hTx1.of rfl rfl, hP1.of rfl rfl rfl rfl rfl rfl rfl rfl, hTa1.of rfl, ⟨by simp [uI, upd], by simp [uI, upd], by simp [uI, upd]⟩, hAc1.of rfl rfl rfl, hSl1.of rfl rfl, hSe1.of rfl rfl rfl rfl, hSd1⟩⟩
  ·
    refine Vj_iconst (q := 9) (v := (-1)) dX10_press_8 rfl (by decide) ?_
    refine Vr_iret rfl rfl dX10_press_9 ?_
    have hT0 : hT (rB ρ) x = false := bI_f0 h5
    have e : spPress ρ c d p ac x = (-1, c, d, p, ac) := by unfold spPress; rw [hT0]; rfl
    rw [e]
    exact ⟨rfl, h⟩
set_option maxRecDepth 100000 in
theorem qX10_miss {tx : List Nat} {ρ : Rm} {c d p : Nat} {ac : List (Nat × Nat × Nat)} {sl : Nat → Option (Nat × Nat × Nat)} {se : List (Nat × Nat × Nat)} {sd : Int64} {N : Nat} {σ : Mem} (h : RM tx ρ c d p ac sl se sd σ) (hv : okV N ρ c d p ac sl se) (x : Int32) : Ct shM 2 mX10_miss [.ref 0, .int x] σ (PM (spMiss ρ c d p ac x).1 tx ρ (spMiss ρ c d p ac x).2.1 (spMiss ρ c d p ac x).2.2.1 (spMiss ρ c d p ac x).2.2.2.1 (spMiss ρ c d p ac x).2.2.2.2 sl se sd) := by
  obtain ⟨hr, hc, hd, hp, hN30, ⟨hal, hav⟩, hsv, hse⟩ := hv
  obtain ⟨hTx, hP, hTa, hNw, hAc, hSl, hSe, hSd⟩ := h
  have hM := mN_le hr
  have hcM := cm_lt hr hc
  have hdM := cm_lt hr hd
  have hn5 := hr.1
  have hB7 := hr.2.2.1
  have h : RM tx ρ c d p ac sl se sd σ := ⟨hTx, hP, hTa, hNw, hAc, hSl, hSe, hSd⟩
  refine Ct.of (by decide) (Nat.le_of_ble_eq_true rfl) (l := [some (.ref 0), some (.int x)]) rfl ?_
  refine Vj_aloadn (q := 1) dX10_miss_0 rfl rfl rfl ?_
  refine Vj_iloadn (q := 2) dX10_miss_1 rfl rfl rfl ?_
  refine Vj_callVi (q := 5) (qX10_isButton hP _) (by decide) rfl rfl lkX10_147 viX10_isButton okX10_isButton dX10_miss_2 rfl rfl (Nat.le_of_ble_eq_true rfl) ?_
  refine Vj_if_ne (q := 8) (tgt := 10) dX10_miss_5 (by decide) rfl (fun h5 => ?_) (fun h5 => ?_)
  ·
    have hT1 : hT (rB ρ) x = true := bI_n.mp h5
    obtain ⟨j, hj, rfl, hjj⟩ := hT_x (by omega) hT1
    have e : spMiss ρ c d p ac (nI j) = (nI (cDg (rN ρ) (cNx ρ d j) (rN ρ)), c, cNx ρ d j, p + 1, pushA ac (c, d, p)) := by unfold spMiss; rw [if_pos hT1, hjj]
    rw [e]
    have hd2 := cV_nx hr hd hj
    refine Vj_aloadn (q := 11) dX10_miss_10 rfl rfl rfl ?_
    refine Vj_callV (q := 14) (qX10_keepAct h ⟨hr, hc, hd, hp, hN30, ⟨hal, hav⟩, hsv, hse⟩) (by decide) rfl rfl lkX10_153 viX10_keepAct okX10_keepAct dX10_miss_11 rfl rfl (Nat.le_of_ble_eq_true rfl) ?_
    rintro r1 σ1 ⟨rfl, hTx1, hP1, hTa1, hNw1, hAc1, hSl1, hSe1, hSd1⟩
    show Vj shM 2 mX10_miss _ 14 _ [] σ1
    refine Vj_aloadn (q := 15) dX10_miss_14 rfl rfl rfl ?_
    refine Vj_aloadn (q := 16) dX10_miss_15 rfl rfl rfl ?_
    refine Vj_getR (q := 19) flX10_25 rfl rfl dX10_miss_16 rfl ?_
    refine Vj_sipush (q := 22) (v := 256) dX10_miss_19 rfl (by decide) ?_
    refine Vj_iloadn (q := 23) dX10_miss_22 rfl rfl rfl ?_
    refine Vj_imul (q := 24) dX10_miss_23 rfl ?_
    refine Vj_aloadn (q := 25) dX10_miss_24 rfl rfl rfl ?_
    refine Vj_getI (q := 28) flX10_124 rfl rfl dX10_miss_25 rfl ?_
    rw [hNw1.2.1]
    refine Vj_iadd (q := 29) dX10_miss_28 rfl ?_
    rw [i_256]
    refine Vj_iald (q := 30) rfl (vp_in_nI (by omega) (by decide)) dX10_miss_29 rfl ?_
    rw [nI_clamp (by omega), hTa1 j hj d hd]
    refine Vj_putI (q := 33) flX10_124 rfl rfl dX10_miss_30 rfl ?_
    generalize hs3 : uI σ1 0 10 (nI (cm ρ (cNx ρ d j))) = σ3
    refine Vj_aloadn (q := 34) dX10_miss_33 rfl rfl rfl ?_
    refine Vj_dup (q := 35) dX10_miss_34 rfl rfl ?_
    refine Vj_getI (q := 38) flX10_127 rfl rfl dX10_miss_35 rfl ?_
    rw [show σ3.1 0 11 = nI p by rw [← hs3]; exact hNw1.2.2]
    refine Vj_iconst (q := 39) (v := 1) dX10_miss_38 rfl (by decide) ?_
    refine Vj_iadd (q := 40) dX10_miss_39 rfl ?_
    rw [nI_1]
    refine Vj_putI (q := 43) flX10_127 rfl rfl dX10_miss_40 rfl ?_
    generalize hs4 : uI σ3 0 11 (nI (p + 1)) = σ4
    have hP4 : RoM ρ σ4 := by subst hs3 hs4; exact hP1.of rfl rfl rfl rfl rfl rfl rfl rfl
    refine Vj_aloadn (q := 44) dX10_miss_43 rfl rfl rfl ?_
    refine Vj_aloadn (q := 45) dX10_miss_44 rfl rfl rfl ?_
    refine Vj_getI (q := 48) flX10_124 rfl rfl dX10_miss_45 rfl ?_
    rw [show σ4.1 0 10 = nI (cm ρ (cNx ρ d j)) by rw [← hs4, ← hs3]; simp [uI, upd]]
    refine Vj_callVi (q := 51) (qX10_figuresOf hP4 hd2) (by decide) rfl rfl lkX10_156 viX10_figuresOf okX10_figuresOf dX10_miss_48 rfl rfl (Nat.le_of_ble_eq_true rfl) ?_
    refine Vr_iret rfl rfl dX10_miss_51 ?_
    subst hs3 hs4
    exact ⟨rfl, ⟨hTx1.of rfl rfl, hP1.of rfl rfl rfl rfl rfl rfl rfl rfl, hTa1.of rfl, ⟨by simp [uI, upd, hNw1.1], by simp [uI, upd], by simp [uI, upd]⟩, hAc1.of rfl rfl rfl, hSl1.of rfl rfl, hSe1.of rfl rfl rfl rfl, hSd1⟩⟩
  ·
    refine Vj_iconst (q := 9) (v := (-1)) dX10_miss_8 rfl (by decide) ?_
    refine Vr_iret rfl rfl dX10_miss_9 ?_
    have hT0 : hT (rB ρ) x = false := bI_f0 h5
    have e : spMiss ρ c d p ac x = (-1, c, d, p, ac) := by unfold spMiss; rw [hT0]; rfl
    rw [e]
    exact ⟨rfl, h⟩
set_option maxRecDepth 100000 in
theorem qX10_step {tx : List Nat} {ρ : Rm} {c d p : Nat} {ac : List (Nat × Nat × Nat)} {sl : Nat → Option (Nat × Nat × Nat)} {se : List (Nat × Nat × Nat)} {sd : Int64} {N : Nat} {σ : Mem} (h : RM tx ρ c d p ac sl se sd σ) (hv : okV N ρ c d p ac sl se) (x : Int32) : Ct shM 3 mX10_step [.ref 0, .int x] σ (PM (spStep ρ c d p ac x).1 tx ρ (spStep ρ c d p ac x).2.1 (spStep ρ c d p ac x).2.2.1 (spStep ρ c d p ac x).2.2.2.1 (spStep ρ c d p ac x).2.2.2.2 sl se sd) := by
  obtain ⟨hr, hc, hd, hp, hN30, ⟨hal, hav⟩, hsv, hse⟩ := hv
  obtain ⟨hTx, hP, hTa, hNw, hAc, hSl, hSe, hSd⟩ := h
  have hM := mN_le hr
  have hcM := cm_lt hr hc
  have hdM := cm_lt hr hd
  have hn5 := hr.1
  have hB7 := hr.2.2.1
  have h : RM tx ρ c d p ac sl se sd σ := ⟨hTx, hP, hTa, hNw, hAc, hSl, hSe, hSd⟩
  refine Ct.of (by decide) (Nat.le_of_ble_eq_true rfl) (l := [some (.ref 0), some (.int x)]) rfl ?_
  refine Vj_aloadn (q := 1) dX10_step_0 rfl rfl rfl ?_
  refine Vj_iloadn (q := 2) dX10_step_1 rfl rfl rfl ?_
  refine Vj_callVi (q := 5) (qX10_isThing hP _) (by decide) rfl rfl lkX10_143 viX10_isThing okX10_isThing dX10_step_2 rfl rfl (Nat.le_of_ble_eq_true rfl) ?_
  refine Vj_if_ne (q := 8) (tgt := 10) dX10_step_5 (by decide) rfl (fun h5 => ?_) (fun h5 => ?_)
  ·
    have hT1 : hT (rN ρ) x = true := bI_n.mp h5
    obtain ⟨j, hj, rfl, hjj⟩ := hT_x (by omega) hT1
    have e : spStep ρ c d p ac (nI j) = (nI (cS (rN ρ) (cStp ρ c j) j), cStp ρ c j, d, p, pushA ac (c, d, p)) := by unfold spStep; rw [if_pos hT1, hjj]
    rw [e]
    have hc2 := cV_stp hr hc hj
    refine Vj_aloadn (q := 11) dX10_step_10 rfl rfl rfl ?_
    refine Vj_callV (q := 14) (qX10_keepAct h ⟨hr, hc, hd, hp, hN30, ⟨hal, hav⟩, hsv, hse⟩) (by decide) rfl rfl lkX10_153 viX10_keepAct okX10_keepAct dX10_step_11 rfl rfl (Nat.le_of_ble_eq_true rfl) ?_
    rintro r1 σ1 ⟨rfl, hTx1, hP1, hTa1, hNw1, hAc1, hSl1, hSe1, hSd1⟩
    show Vj shM 3 mX10_step _ 14 _ [] σ1
    refine Vj_aloadn (q := 15) dX10_step_14 rfl rfl rfl ?_
    refine Vj_aloadn (q := 16) dX10_step_15 rfl rfl rfl ?_
    refine Vj_aloadn (q := 17) dX10_step_16 rfl rfl rfl ?_
    refine Vj_getI (q := 20) flX10_117 rfl rfl dX10_step_17 rfl ?_
    rw [hNw1.1]
    refine Vj_iloadn (q := 21) dX10_step_20 rfl rfl rfl ?_
    refine Vj_callVi (q := 24) (qX10_stepped hP1 hc hj) (by decide) rfl rfl lkX10_140 viX10_stepped okX10_stepped dX10_step_21 rfl rfl (Nat.le_of_ble_eq_true rfl) ?_
    refine Vj_putI (q := 27) flX10_117 rfl rfl dX10_step_24 rfl ?_
    generalize hs4 : uI σ1 0 9 (nI (cm ρ (cStp ρ c j))) = σ4
    have hP4 : RoM ρ σ4 := by subst hs4; exact hP1.of rfl rfl rfl rfl rfl rfl rfl rfl
    refine Vj_aloadn (q := 28) dX10_step_27 rfl rfl rfl ?_
    refine Vj_aloadn (q := 29) dX10_step_28 rfl rfl rfl ?_
    refine Vj_getI (q := 32) flX10_117 rfl rfl dX10_step_29 rfl ?_
    rw [show σ4.1 0 9 = nI (cm ρ (cStp ρ c j)) by rw [← hs4]; simp [uI, upd]]
    refine Vj_iloadn (q := 33) dX10_step_32 rfl rfl rfl ?_
    refine Vj_callVi (q := 36) (qX10_stateIn hP4 hc2 hj) (by decide) rfl rfl lkX10_133 viX10_stateIn okX10_stateIn dX10_step_33 rfl rfl (Nat.le_of_ble_eq_true rfl) ?_
    refine Vr_iret rfl rfl dX10_step_36 ?_
    subst hs4
    exact ⟨rfl, ⟨hTx1.of rfl rfl, hP1.of rfl rfl rfl rfl rfl rfl rfl rfl, hTa1.of rfl, ⟨by simp [uI, upd], by simp [uI, upd, hNw1.2.1], by simp [uI, upd, hNw1.2.2]⟩, hAc1.of rfl rfl rfl, hSl1.of rfl rfl, hSe1.of rfl rfl rfl rfl, hSd1⟩⟩
  ·
    refine Vj_iconst (q := 9) (v := (-1)) dX10_step_8 rfl (by decide) ?_
    refine Vr_iret rfl rfl dX10_step_9 ?_
    have hT0 : hT (rN ρ) x = false := bI_f0 h5
    have e : spStep ρ c d p ac x = (-1, c, d, p, ac) := by unfold spStep; rw [hT0]; rfl
    rw [e]
    exact ⟨rfl, h⟩
