/-! the reference: keep -/
theorem iB_2 {x : Int32} : iB x 0 1 = hT 2 x := iB_hT (n := 2) (by decide)
theorem w3k {σ : Mem} {k : Nat} {x y z : Int32} : (uI (uI (uI σ 19 (3 * k) x) 19 (3 * k + 1) y) 19 (3 * k + 2) z).1 19 (3 * k) = x ∧ (uI (uI (uI σ 19 (3 * k) x) 19 (3 * k + 1) y) 19 (3 * k + 2) z).1 19 (3 * k + 1) = y ∧ (uI (uI (uI σ 19 (3 * k) x) 19 (3 * k + 1) y) 19 (3 * k + 2) z).1 19 (3 * k + 2) = z ∧ ∀ j, j < 3 * k ∨ 3 * k + 3 ≤ j → (uI (uI (uI σ 19 (3 * k) x) 19 (3 * k + 1) y) 19 (3 * k + 2) z).1 19 j = σ.1 19 j := by
  simp only [uI_eq, upd]
  refine ⟨?_, ?_, ?_, fun j hj => ?_⟩
  · rw [if_neg (by omega), if_neg (by omega), if_pos trivial]
  · rw [if_neg (by omega), if_pos trivial]
  · rw [if_pos trivial]
  · rw [if_neg (by omega), if_neg (by omega), if_neg (by omega)]

set_option maxRecDepth 100000 in
theorem qX10_keep {tx : List Nat} {ρ : Rm} {c d p : Nat} {ac : List (Nat × Nat × Nat)} {sl : Nat → Option (Nat × Nat × Nat)} {se : List (Nat × Nat × Nat)} {sd : Int64} {N : Nat} {σ : Mem} (h : RM tx ρ c d p ac sl se sd σ) (hv : okV N ρ c d p ac sl se) (x : Int32) : Ct shM 1 mX10_keep [.ref 0, .int x] σ (PM ((spKeep c d p sl x).1) tx ρ c d p ac (spKeep c d p sl x).2 se sd) := by
  obtain ⟨hr, hc, hd, hp, hN30, ⟨hal, hav⟩, hsv, hse⟩ := hv
  obtain ⟨hTx, hP, hTa, hNw, hAc, hSl, hSe, hSd⟩ := h
  have hM := mN_le hr
  have hcM := cm_lt hr hc
  have hdM := cm_lt hr hd
  have hn5 := hr.1
  have hB7 := hr.2.2.1
  have h : RM tx ρ c d p ac sl se sd σ := ⟨hTx, hP, hTa, hNw, hAc, hSl, hSe, hSd⟩
  refine Ct.of (by decide) (Nat.le_of_ble_eq_true rfl) (l := [some (.ref 0), some (.int x)]) rfl ?_
  refine Vj_iloadn (q := 1) dX10_keep_0 rfl rfl rfl ?_
  refine Vj_i2l (q := 2) dX10_keep_1 rfl ?_
  refine Vj_lconst (q := 3) (v := 0) dX10_keep_2 rfl (by decide) ?_
  refine Vj_lconst (q := 4) (v := 1) dX10_keep_3 rfl (by decide) ?_
  refine Vj_callSi (q := 7) (qX10_in _ _ _) (by decide) lkX10_74 stX10_in okX10_in dX10_keep_4 rfl rfl (Nat.le_of_ble_eq_true rfl) ?_
  rw [in_i (a := 0) (b := 1) rfl rfl, iB_2]
  refine Vj_if_ne (q := 10) (tgt := 12) dX10_keep_7 (by decide) rfl (fun h7 => ?_) (fun h7 => ?_)
  ·
    have hT1 : hT 2 x = true := bI_n.mp h7
    obtain ⟨j, hj, rfl, hjj⟩ := hT_x (by decide) hT1
    rw [spKeep, if_pos hT1, hjj]
    refine Vj_aloadn (q := 13) dX10_keep_12 rfl rfl rfl ?_
    refine Vj_getR (q := 16) flX10_61 rfl rfl dX10_keep_13 rfl ?_
    refine Vj_iloadn (q := 17) dX10_keep_16 rfl rfl rfl ?_
    refine Vj_iconst (q := 18) (v := 1) dX10_keep_17 rfl (by decide) ?_
    refine Vj_zast (q := 19) rfl (vp_in_nI (by omega) (by decide)) dX10_keep_18 rfl ?_
    rw [nI_clamp (by omega)]
    generalize hs0 : uI σ 18 j _ = σ0
    refine Vj_aloadn (q := 20) dX10_keep_19 rfl rfl rfl ?_
    refine Vj_getR (q := 23) flX10_65 rfl rfl dX10_keep_20 rfl ?_
    refine Vj_iconst (q := 24) (v := 3) dX10_keep_23 rfl (by decide) ?_
    refine Vj_iloadn (q := 25) dX10_keep_24 rfl rfl rfl ?_
    refine Vj_imul (q := 26) dX10_keep_25 rfl ?_
    rw [i_3]
    refine Vj_aloadn (q := 27) dX10_keep_26 rfl rfl rfl ?_
    refine Vj_getI (q := 30) flX10_117 rfl rfl dX10_keep_27 rfl ?_
    rw [show σ0.1 0 9 = nI (cm ρ c) by rw [← hs0]; exact hNw.1]
    refine Vj_iast (q := 31) rfl (vp_in_nI (by omega) (by decide)) dX10_keep_30 rfl ?_
    rw [nI_clamp (by omega)]
    generalize hs1 : uI σ0 19 (3 * j) _ = σ1
    refine Vj_aloadn (q := 32) dX10_keep_31 rfl rfl rfl ?_
    refine Vj_getR (q := 35) flX10_65 rfl rfl dX10_keep_32 rfl ?_
    refine Vj_iconst (q := 36) (v := 3) dX10_keep_35 rfl (by decide) ?_
    refine Vj_iloadn (q := 37) dX10_keep_36 rfl rfl rfl ?_
    refine Vj_imul (q := 38) dX10_keep_37 rfl ?_
    rw [i_3]
    refine Vj_iconst (q := 39) (v := 1) dX10_keep_38 rfl (by decide) ?_
    refine Vj_iadd (q := 40) dX10_keep_39 rfl ?_
    rw [nI_1]
    refine Vj_aloadn (q := 41) dX10_keep_40 rfl rfl rfl ?_
    refine Vj_getI (q := 44) flX10_124 rfl rfl dX10_keep_41 rfl ?_
    rw [show σ1.1 0 10 = nI (cm ρ d) by rw [← hs1, ← hs0]; exact hNw.2.1]
    refine Vj_iast (q := 45) rfl (vp_in_nI (by omega) (by decide)) dX10_keep_44 rfl ?_
    rw [nI_clamp (by omega)]
    generalize hs2 : uI σ1 19 (3 * j + 1) _ = σ2
    refine Vj_aloadn (q := 46) dX10_keep_45 rfl rfl rfl ?_
    refine Vj_getR (q := 49) flX10_65 rfl rfl dX10_keep_46 rfl ?_
    refine Vj_iconst (q := 50) (v := 3) dX10_keep_49 rfl (by decide) ?_
    refine Vj_iloadn (q := 51) dX10_keep_50 rfl rfl rfl ?_
    refine Vj_imul (q := 52) dX10_keep_51 rfl ?_
    rw [i_3]
    refine Vj_iconst (q := 53) (v := 2) dX10_keep_52 rfl (by decide) ?_
    refine Vj_iadd (q := 54) dX10_keep_53 rfl ?_
    rw [show nI (3 * j) + 2 = nI (3 * j + 2) from nI_add _ 2]
    refine Vj_aloadn (q := 55) dX10_keep_54 rfl rfl rfl ?_
    refine Vj_getI (q := 58) flX10_127 rfl rfl dX10_keep_55 rfl ?_
    rw [show σ2.1 0 11 = nI p by rw [← hs2, ← hs1, ← hs0]; exact hNw.2.2]
    refine Vj_iast (q := 59) rfl (vp_in_nI (by omega) (by decide)) dX10_keep_58 rfl ?_
    rw [nI_clamp (by omega)]
    generalize hs3 : uI σ2 19 (3 * j + 2) _ = σ3
    refine Vj_aloadn (q := 60) dX10_keep_59 rfl rfl rfl ?_
    refine Vj_getI (q := 63) flX10_127 rfl rfl dX10_keep_60 rfl ?_
    rw [show σ3.1 0 11 = nI p by rw [← hs3, ← hs2, ← hs1, ← hs0]; exact hNw.2.2]
    refine Vr_iret rfl rfl dX10_keep_63 ?_
    subst hs0 hs1 hs2 hs3
    obtain ⟨w0, w1, w2, w4⟩ := w3k (σ := uI σ 18 j (vp_nar .boolean 1)) (k := j) (x := nI (cm ρ c)) (y := nI (cm ρ d)) (z := nI p)
    refine ⟨rfl, hTx.of rfl rfl, hP.of rfl rfl rfl rfl rfl rfl rfl rfl, hTa.of rfl, hNw.of rfl rfl rfl, hAc.of rfl rfl rfl, fun i hi => ?_, hSe.of rfl rfl rfl rfl, hSd⟩
    have hs := hSl i hi
    unfold slSet
    dsimp only
    by_cases e : i = j
    · subst e
      rw [if_pos rfl]
      refine ⟨fun u hu => ?_, fun hu => by cases hu⟩
      cases hu
      exact ⟨by rw [uI_ne (by decide), uI_ne (by decide), uI_ne (by decide), uI_eq, upd, if_pos rfl]; decide, w0, w1, w2⟩
    · rw [if_neg e]
      rw [w4 _ (by omega), w4 _ (by omega), w4 _ (by omega)]
      rw [uI_ne (by decide), uI_ne (by decide), uI_ne (by decide), uI_eq, upd, if_neg e, uI_ne (by decide)]
      exact hs
  ·
    refine Vj_iconst (q := 11) (v := (-1)) dX10_keep_10 rfl (by decide) ?_
    refine Vr_iret rfl rfl dX10_keep_11 ?_
    rw [spKeep, bI_f0 h7]
    exact ⟨rfl, h⟩
