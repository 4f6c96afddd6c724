/-! the reference: find -/
theorem dfM_le (n c d : Nat) : ∀ k, dfN n c d k ≤ k
  | 0 => Nat.le_refl _
  | k + 1 => by
    have := dfM_le n c d k
    rw [dfN]
    split <;> omega
set_option maxRecDepth 100000 in
theorem qX10_find_loop {tx : List Nat} {ρ : Rm} {c d p : Nat} {ac : List (Nat × Nat × Nat)} {sl : Nat → Option (Nat × Nat × Nat)} {se : List (Nat × Nat × Nat)} {sd : Int64} {N : Nat} {σ : Mem} (h : RM tx ρ c d p ac sl se sd σ) (hv : okV N ρ c d p ac sl se) : ∀ k t : Nat, t + k = rN ρ → Vj shM 1 mX10_find (PM (spFind ρ c d p ac).1 tx ρ (spFind ρ c d p ac).2.1 (spFind ρ c d p ac).2.2.1 (spFind ρ c d p ac).2.2.2.1 (spFind ρ c d p ac).2.2.2.2 sl se sd) 4 [some (.ref 0), some (.int (nI (dfN (rN ρ) c d t))), some (.int (nI t))] [] σ := by
  intro k
  obtain ⟨hr, hc, hd, hp, hN30, ⟨hal, hav⟩, hsv, hse⟩ := hv
  obtain ⟨hTx, hP, hTa, hNw, hAc, hSl, hSe, hSd⟩ := h
  have hM := mN_le hr
  have hcM := cm_lt hr hc
  have hdM := cm_lt hr hd
  have hn5 := hr.1
  have hB7 := hr.2.2.1
  have h : RM tx ρ c d p ac sl se sd σ := ⟨hTx, hP, hTa, hNw, hAc, hSl, hSe, hSd⟩
  induction k with
  | zero =>
    intro t ht
    obtain rfl : t = rN ρ := by omega
    have hdl := dfM_le (rN ρ) c d (rN ρ)
    refine Vj_iloadn (q := 5) dX10_find_4 rfl rfl rfl ?_
    refine Vj_aloadn (q := 6) dX10_find_5 rfl rfl rfl ?_
    refine Vj_getI (q := 9) flX10_111 rfl rfl dX10_find_6 rfl ?_
    rw [hP.2.1]
    refine Vj_icmp_ge (q := 12) (tgt := 47) dX10_find_9 (by decide) rfl (fun _ => ?_) (fun hz => absurd (nI_le (by omega) (by omega)) hz)
    refine Vj_iloadn (q := 48) dX10_find_47 rfl rfl rfl ?_
    refine Vj_if_ne (q := 51) (tgt := 54) dX10_find_48 (by decide) rfl (fun h48 => ?_) (fun h48 => ?_)
    ·
      have e0 : ¬ dfN (rN ρ) c d (rN ρ) = 0 := fun z => h48 (by rw [z]; rfl)
      have e : spFind ρ c d p ac = (nI (dfN (rN ρ) c d (rN ρ)), c, c, p, pushA ac (c, d, p)) := by unfold spFind; rw [if_neg e0]
      rw [e]
      refine Vj_aloadn (q := 55) dX10_find_54 rfl rfl rfl ?_
      refine Vj_callV (q := 58) (qX10_keepAct h ⟨hr, hc, hd, hp, hN30, ⟨hal, hav⟩, hsv, hse⟩) (by decide) rfl rfl lkX10_153 viX10_keepAct okX10_keepAct dX10_find_55 rfl rfl (Nat.le_of_ble_eq_true rfl) ?_
      rintro r1 σ1 ⟨rfl, hTx1, hP1, hTa1, hNw1, hAc1, hSl1, hSe1, hSd1⟩
      show Vj shM 1 mX10_find _ 58 _ [] σ1
      refine Vj_aloadn (q := 59) dX10_find_58 rfl rfl rfl ?_
      refine Vj_aloadn (q := 60) dX10_find_59 rfl rfl rfl ?_
      refine Vj_getI (q := 63) flX10_117 rfl rfl dX10_find_60 rfl ?_
      rw [hNw1.1]
      refine Vj_putI (q := 66) flX10_124 rfl rfl dX10_find_63 rfl ?_
      generalize hs4 : uI σ1 0 10 (nI (cm ρ c)) = σ4
      refine Vj_iloadn (q := 67) dX10_find_66 rfl rfl rfl ?_
      refine Vr_iret rfl rfl dX10_find_67 ?_
      subst hs4
      exact ⟨rfl, hTx1.of rfl rfl, hP1.of rfl rfl rfl rfl rfl rfl rfl rfl, hTa1.of rfl, ⟨by simp [uI, upd, hNw1.1], by simp [uI, upd], by simp [uI, upd, hNw1.2.2]⟩, hAc1.of rfl rfl rfl, hSl1.of rfl rfl, hSe1.of rfl rfl rfl rfl, hSd1⟩
    ·
      refine Vj_bipush (q := 53) (v := (-3)) dX10_find_51 rfl (by decide) ?_
      refine Vr_iret rfl rfl dX10_find_53 ?_
      have e0 : dfN (rN ρ) c d (rN ρ) = 0 := (nI_z (by omega)).mp h48
      have e : spFind ρ c d p ac = (-3, c, d, p, ac) := by unfold spFind; rw [if_pos e0]
      rw [e]
      exact ⟨rfl, h⟩
  | succ k ih =>
    intro t ht
    have ht' : t < rN ρ := by omega
    have hS1 := cS_lt (rN ρ) c t
    have hS2 := cS_lt (rN ρ) d t
    refine Vj_iloadn (q := 5) dX10_find_4 rfl rfl rfl ?_
    refine Vj_aloadn (q := 6) dX10_find_5 rfl rfl rfl ?_
    refine Vj_getI (q := 9) flX10_111 rfl rfl dX10_find_6 rfl ?_
    rw [hP.2.1]
    refine Vj_icmp_ge (q := 12) (tgt := 47) dX10_find_9 (by decide) rfl (fun hz => absurd hz (nI_ge (by omega) (by omega))) (fun _ => ?_)
    refine Vj_iloadn (q := 13) dX10_find_12 rfl rfl rfl ?_
    refine Vj_aloadn (q := 14) dX10_find_13 rfl rfl rfl ?_
    refine Vj_aloadn (q := 15) dX10_find_14 rfl rfl rfl ?_
    refine Vj_getI (q := 18) flX10_117 rfl rfl dX10_find_15 rfl ?_
    rw [hNw.1]
    refine Vj_iloadn (q := 19) dX10_find_18 rfl rfl rfl ?_
    refine Vj_callVi (q := 22) (qX10_stateIn hP hc ht') (by decide) rfl rfl lkX10_133 viX10_stateIn okX10_stateIn dX10_find_19 rfl rfl (Nat.le_of_ble_eq_true rfl) ?_
    refine Vj_aloadn (q := 23) dX10_find_22 rfl rfl rfl ?_
    refine Vj_aloadn (q := 24) dX10_find_23 rfl rfl rfl ?_
    refine Vj_getI (q := 27) flX10_124 rfl rfl dX10_find_24 rfl ?_
    rw [hNw.2.1]
    refine Vj_iloadn (q := 28) dX10_find_27 rfl rfl rfl ?_
    refine Vj_callVi (q := 31) (qX10_stateIn hP hd ht') (by decide) rfl rfl lkX10_133 viX10_stateIn okX10_stateIn dX10_find_28 rfl rfl (Nat.le_of_ble_eq_true rfl) ?_
    refine Vj_icmp_ne (q := 34) (tgt := 38) dX10_find_31 (by decide) rfl (fun h31 => ?_) (fun h31 => ?_)
    ·
      refine Vj_iconst (q := 39) (v := 1) dX10_find_38 rfl (by decide) ?_
      refine Vj_iadd (q := 40) dX10_find_39 rfl ?_
      rw [nI_1, show dfN (rN ρ) c d t + 1 = dfN (rN ρ) c d (t + 1) by rw [dfN, if_neg (fun z => h31 (by rw [z]))]]
      refine Vs_istore1 (q := 41) dX10_find_40 rfl (by decide) rfl ?_
      refine Vs_iinc2 (q := 44) (z := none) dX10_find_41 rfl (by exact iinc_p _) (by decide) rfl ?_
      refine Vj_goto (q := 4) dX10_find_44 (by decide) ?_
      rw [nI_1]
      exact ih (t + 1) (by omega)
    ·
      refine Vj_iconst (q := 35) (v := 0) dX10_find_34 rfl (by decide) ?_
      refine Vj_goto (q := 39) dX10_find_35 (by decide) ?_
      refine Vj_iadd (q := 40) dX10_find_39 rfl ?_
      rw [Int32.add_zero, show dfN (rN ρ) c d t = dfN (rN ρ) c d (t + 1) by rw [dfN, if_pos ((nI_eq (by omega) (by omega)).mp h31)]; rfl]
      refine Vs_istore1 (q := 41) dX10_find_40 rfl (by decide) rfl ?_
      refine Vs_iinc2 (q := 44) (z := none) dX10_find_41 rfl (by exact iinc_p _) (by decide) rfl ?_
      refine Vj_goto (q := 4) dX10_find_44 (by decide) ?_
      rw [nI_1]
      exact ih (t + 1) (by omega)
set_option maxRecDepth 100000 in
theorem qX10_find {tx : List Nat} {ρ : Rm} {c d p : Nat} {ac : List (Nat × Nat × Nat)} {sl : Nat → Option (Nat × Nat × Nat)} {se : List (Nat × Nat × Nat)} {sd : Int64} {N : Nat} {σ : Mem} (h : RM tx ρ c d p ac sl se sd σ) (hv : okV N ρ c d p ac sl se) : Ct shM 1 mX10_find [.ref 0] σ (PM (spFind ρ c d p ac).1 tx ρ (spFind ρ c d p ac).2.1 (spFind ρ c d p ac).2.2.1 (spFind ρ c d p ac).2.2.2.1 (spFind ρ c d p ac).2.2.2.2 sl se sd) := by
  refine Ct.of (by decide) (Nat.le_of_ble_eq_true rfl) (l := [some (.ref 0), none, none]) rfl ?_
  refine Vj_iconst (q := 1) (v := 0) dX10_find_0 rfl (by decide) ?_
  refine Vs_istore1 (q := 2) dX10_find_1 rfl (by decide) rfl ?_
  refine Vj_iconst (q := 3) (v := 0) dX10_find_2 rfl (by decide) ?_
  refine Vs_istore2 (q := 4) dX10_find_3 rfl (by decide) rfl ?_
  exact qX10_find_loop h hv (rN ρ) 0 (by omega)
