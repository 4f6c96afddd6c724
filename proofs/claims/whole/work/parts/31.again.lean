/-! the reference: again -/
set_option maxRecDepth 100000 in
theorem qX10_again {tx : List Nat} {ρ : Rm} {c d p : Nat} {ac : List (Nat × Nat × Nat)} {sl : Nat → Option (Nat × Nat × Nat)} {se : List (Nat × Nat × Nat)} {sd : Int64} {N : Nat} {σ : Mem} (h : RM tx ρ c d p ac sl se sd σ) (hv : okV N ρ c d p ac sl se) (x : Int32) : Ct shM 1 mX10_again [.ref 0, .int x] σ (PM (spAgain c d p ac sl x).1 tx ρ (spAgain c d p ac sl x).2.1 (spAgain c d p ac sl x).2.2.1 (spAgain c d p ac sl x).2.2.2.1 (spAgain c d p ac sl x).2.2.2.2 sl se sd) := by
  obtain ⟨hr, hc, hd, hp, hN30, ⟨hal, hav⟩, hsv, hse⟩ := hv
  obtain ⟨hTx, hP, hTa, hNw, hAc, hSl, hSe, hSd⟩ := h
  have hM := mN_le hr
  have hcM := cm_lt hr hc
  have hdM := cm_lt hr hd
  have hn5 := hr.1
  have hB7 := hr.2.2.1
  have h : RM tx ρ c d p ac sl se sd σ := ⟨hTx, hP, hTa, hNw, hAc, hSl, hSe, hSd⟩
  refine Ct.of (by decide) (Nat.le_of_ble_eq_true rfl) (l := [some (.ref 0), some (.int x)]) rfl ?_
  refine Vj_iloadn (q := 1) dX10_again_0 rfl rfl rfl ?_
  refine Vj_i2l (q := 2) dX10_again_1 rfl ?_
  refine Vj_lconst (q := 3) (v := 0) dX10_again_2 rfl (by decide) ?_
  refine Vj_lconst (q := 4) (v := 1) dX10_again_3 rfl (by decide) ?_
  refine Vj_callSi (q := 7) (qX10_in _ _ _) (by decide) lkX10_74 stX10_in okX10_in dX10_again_4 rfl rfl (Nat.le_of_ble_eq_true rfl) ?_
  rw [in_i (a := 0) (b := 1) rfl rfl, iB_2]
  refine Vj_if_ne (q := 10) (tgt := 12) dX10_again_7 (by decide) rfl (fun h7 => ?_) (fun h7 => ?_)
  ·
    have hT1 : hT 2 x = true := bI_n.mp h7
    obtain ⟨j, hj, rfl, hjj⟩ := hT_x (by decide) hT1
    have hs := hSl j hj
    refine Vj_aloadn (q := 13) dX10_again_12 rfl rfl rfl ?_
    refine Vj_getR (q := 16) flX10_61 rfl rfl dX10_again_13 rfl ?_
    refine Vj_iloadn (q := 17) dX10_again_16 rfl rfl rfl ?_
    refine Vj_zald (q := 18) rfl (vp_in_nI (by omega) (by decide)) dX10_again_17 rfl ?_
    rw [nI_clamp (by omega)]
    refine Vj_if_ne (q := 21) (tgt := 24) dX10_again_18 (by decide) rfl (fun h18 => ?_) (fun h18 => ?_)
    ·
      obtain ⟨u, hu⟩ : ∃ u, sl j = some u := by
        cases hu : sl j with
        | some u => exact ⟨u, rfl⟩
        | none => exact absurd (hs.2 hu) h18
      have hs1 := hs.1 u hu
      have e : spAgain c d p ac sl (nI j) = (nI u.2.2, u.1, u.2.1, u.2.2, []) := by unfold spAgain; rw [if_pos hT1, hjj, hu]
      rw [e]
      refine Vj_aloadn (q := 25) dX10_again_24 rfl rfl rfl ?_
      refine Vj_aloadn (q := 26) dX10_again_25 rfl rfl rfl ?_
      refine Vj_getR (q := 29) flX10_65 rfl rfl dX10_again_26 rfl ?_
      refine Vj_iconst (q := 30) (v := 3) dX10_again_29 rfl (by decide) ?_
      refine Vj_iloadn (q := 31) dX10_again_30 rfl rfl rfl ?_
      refine Vj_imul (q := 32) dX10_again_31 rfl ?_
      rw [i_3]
      refine Vj_iald (q := 33) rfl (vp_in_nI (by omega) (by decide)) dX10_again_32 rfl ?_
      rw [nI_clamp (by omega), hs1.2.1]
      refine Vj_putI (q := 36) flX10_117 rfl rfl dX10_again_33 rfl ?_
      generalize ht1 : uI σ 0 9 _ = σ1
      refine Vj_aloadn (q := 37) dX10_again_36 rfl rfl rfl ?_
      refine Vj_aloadn (q := 38) dX10_again_37 rfl rfl rfl ?_
      refine Vj_getR (q := 41) flX10_65 rfl rfl dX10_again_38 rfl ?_
      refine Vj_iconst (q := 42) (v := 3) dX10_again_41 rfl (by decide) ?_
      refine Vj_iloadn (q := 43) dX10_again_42 rfl rfl rfl ?_
      refine Vj_imul (q := 44) dX10_again_43 rfl ?_
      rw [i_3]
      refine Vj_iconst (q := 45) (v := 1) dX10_again_44 rfl (by decide) ?_
      refine Vj_iadd (q := 46) dX10_again_45 rfl ?_
      rw [nI_1]
      refine Vj_iald (q := 47) rfl (vp_in_nI (by omega) (by decide)) dX10_again_46 rfl ?_
      rw [nI_clamp (by omega), show σ1.1 19 (3 * j + 1) = nI (cm ρ u.2.1) by rw [← ht1]; exact hs1.2.2.1]
      refine Vj_putI (q := 50) flX10_124 rfl rfl dX10_again_47 rfl ?_
      generalize ht2 : uI σ1 0 10 _ = σ2
      refine Vj_aloadn (q := 51) dX10_again_50 rfl rfl rfl ?_
      refine Vj_aloadn (q := 52) dX10_again_51 rfl rfl rfl ?_
      refine Vj_getR (q := 55) flX10_65 rfl rfl dX10_again_52 rfl ?_
      refine Vj_iconst (q := 56) (v := 3) dX10_again_55 rfl (by decide) ?_
      refine Vj_iloadn (q := 57) dX10_again_56 rfl rfl rfl ?_
      refine Vj_imul (q := 58) dX10_again_57 rfl ?_
      rw [i_3]
      refine Vj_iconst (q := 59) (v := 2) dX10_again_58 rfl (by decide) ?_
      refine Vj_iadd (q := 60) dX10_again_59 rfl ?_
      rw [show nI (3 * j) + 2 = nI (3 * j + 2) from nI_add _ 2]
      refine Vj_iald (q := 61) rfl (vp_in_nI (by omega) (by decide)) dX10_again_60 rfl ?_
      rw [nI_clamp (by omega), show σ2.1 19 (3 * j + 2) = nI u.2.2 by rw [← ht2, ← ht1]; exact hs1.2.2.2]
      refine Vj_putI (q := 64) flX10_127 rfl rfl dX10_again_61 rfl ?_
      generalize ht3 : uI σ2 0 11 _ = σ3
      refine Vj_aloadn (q := 65) dX10_again_64 rfl rfl rfl ?_
      refine Vj_iconst (q := 66) (v := 0) dX10_again_65 rfl (by decide) ?_
      refine Vj_putI (q := 69) flX10_130 rfl rfl dX10_again_66 rfl ?_
      generalize ht4 : uI σ3 0 21 _ = σ4
      refine Vj_aloadn (q := 70) dX10_again_69 rfl rfl rfl ?_
      refine Vj_getI (q := 73) flX10_127 rfl rfl dX10_again_70 rfl ?_
      rw [show σ4.1 0 11 = nI u.2.2 by rw [← ht4, ← ht3]; simp [uI, upd]]
      refine Vr_iret rfl rfl dX10_again_73 ?_
      subst ht1 ht2 ht3 ht4
      obtain ⟨hA0, hA1, nx, hx, hA2, hA3⟩ := hAc
      exact ⟨rfl, hTx.of rfl rfl, hP.of rfl rfl rfl rfl rfl rfl rfl rfl, hTa.of rfl, ⟨by simp [uI, upd], by simp [uI, upd], by simp [uI, upd]⟩, ⟨by simp [uI, upd, nI_0], Nat.zero_lt_succ _, nx, hx, hA2, fun i hi => absurd hi (Nat.not_lt_zero i)⟩, hSl.of rfl rfl, hSe.of rfl rfl rfl rfl, hSd⟩
    ·
      refine Vj_bipush (q := 23) (v := (-3)) dX10_again_21 rfl (by decide) ?_
      refine Vr_iret rfl rfl dX10_again_23 ?_
      have hu : sl j = none := by
        cases hu : sl j with
        | some u => exact absurd ((hs.1 u hu).1.symm.trans h18) (by decide)
        | none => rfl
      have e : spAgain c d p ac sl (nI j) = (-3, c, d, p, ac) := by unfold spAgain; rw [if_pos hT1, hjj, hu]
      rw [e]
      exact ⟨rfl, h⟩
  ·
    refine Vj_iconst (q := 11) (v := (-1)) dX10_again_10 rfl (by decide) ?_
    refine Vr_iret rfl rfl dX10_again_11 ?_
    have e : spAgain c d p ac sl x = (-1, c, d, p, ac) := by unfold spAgain; rw [bI_f0 h7]; rfl
    rw [e]
    exact ⟨rfl, h⟩
