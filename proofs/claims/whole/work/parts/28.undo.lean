/-! the reference: undo -/
theorem i_3 (j : Nat) : (3 : Int32) * nI j = nI (3 * j) := by rw [show (3 : Int32) = nI 3 from rfl, nI_mul]

set_option maxRecDepth 100000 in
theorem qX10_undo {tx : List Nat} {ρ : Rm} {c d p : Nat} {ac : List (Nat × Nat × Nat)} {sl : Nat → Option (Nat × Nat × Nat)} {se : List (Nat × Nat × Nat)} {sd : Int64} {N : Nat} {σ : Mem} (h : RM tx ρ c d p ac sl se sd σ) (hv : okV N ρ c d p ac sl se) : Ct shM 0 mX10_undo [.ref 0] σ (PM (spUndo c d p ac).1 tx ρ (spUndo c d p ac).2.1 (spUndo c d p ac).2.2.1 (spUndo c d p ac).2.2.2.1 (spUndo c d p ac).2.2.2.2 sl se sd) := by
  obtain ⟨hr, hc, hd, hp, hN30, ⟨hal, hav⟩, hsv, hse⟩ := hv
  obtain ⟨hTx, hP, hTa, hNw, hAc, hSl, hSe, hSd⟩ := h
  have hM := mN_le hr
  have hcM := cm_lt hr hc
  have hdM := cm_lt hr hd
  have hn5 := hr.1
  have hB7 := hr.2.2.1
  have h : RM tx ρ c d p ac sl se sd σ := ⟨hTx, hP, hTa, hNw, hAc, hSl, hSe, hSd⟩
  obtain ⟨hA0, hA1, nx, hx, hA2, hA3⟩ := hAc
  refine Ct.of (by decide) (Nat.le_of_ble_eq_true rfl) (l := [some (.ref 0)]) rfl ?_
  refine Vj_aloadn (q := 1) dX10_undo_0 rfl rfl rfl ?_
  refine Vj_getI (q := 4) flX10_130 rfl rfl dX10_undo_1 rfl ?_
  rw [hA0]
  refine Vj_if_ne (q := 7) (tgt := 10) dX10_undo_4 (by decide) rfl (fun h4 => ?_) (fun h4 => ?_)
  ·
    have hl0 : ac.length ≠ 0 := fun z => h4 (by rw [z]; rfl)
    have e : spUndo c d p ac = (nI (ac.length - 1), (ac.getD (ac.length - 1) (0, 0, 0)).1, (ac.getD (ac.length - 1) (0, 0, 0)).2.1, (ac.getD (ac.length - 1) (0, 0, 0)).2.2, ac.take (ac.length - 1)) := by unfold spUndo; rw [if_neg hl0]
    rw [e]
    have hlast := hA3 (ac.length - 1) (by omega)
    rw [show (nx + 14 - ac.length + (ac.length - 1)) % 14 = (nx + 13) % 14 by omega] at hlast
    have hm14 : (nx + 13) % 14 < 14 := Nat.mod_lt _ (by decide)
    generalize hny : (nx + 13) % 14 = ny at hlast hm14
    generalize hu : ac.getD (ac.length - 1) (0, 0, 0) = u at hlast
    refine Vj_aloadn (q := 11) dX10_undo_10 rfl rfl rfl ?_
    refine Vj_dup (q := 12) dX10_undo_11 rfl rfl ?_
    refine Vj_getI (q := 15) flX10_130 rfl rfl dX10_undo_12 rfl ?_
    rw [hA0]
    refine Vj_iconst (q := 16) (v := 1) dX10_undo_15 rfl (by decide) ?_
    refine Vj_isub (q := 17) dX10_undo_16 rfl ?_
    rw [show nI ac.length - 1 = nI (ac.length - 1) from nI_sub (b := 1) (by omega)]
    refine Vj_putI (q := 20) flX10_130 rfl rfl dX10_undo_17 rfl ?_
    generalize hs1 : uI σ 0 21 (nI (ac.length - 1)) = σ1
    refine Vj_aloadn (q := 21) dX10_undo_20 rfl rfl rfl ?_
    refine Vj_aloadn (q := 22) dX10_undo_21 rfl rfl rfl ?_
    refine Vj_getI (q := 25) flX10_150 rfl rfl dX10_undo_22 rfl ?_
    rw [show σ1.1 0 22 = nI nx by rw [← hs1]; exact hA2]
    refine Vj_bipush (q := 27) (v := 13) dX10_undo_25 rfl (by decide) ?_
    refine Vj_iadd (q := 28) dX10_undo_27 rfl ?_
    rw [show nI nx + 13 = nI (nx + 13) from nI_add nx 13]
    refine Vj_bipush (q := 30) (v := 14) dX10_undo_28 rfl (by decide) ?_
    refine Vj_irem (q := 31) dX10_undo_30 rfl (by decide) ?_
    rw [show nI (nx + 13) % 14 = nI ((nx + 13) % 14) from nI_mod (d := 14) (by omega) (by decide) (by decide), hny]
    refine Vj_putI (q := 34) flX10_150 rfl rfl dX10_undo_31 rfl ?_
    generalize hs2 : uI σ1 0 22 (nI ny) = σ2
    refine Vj_aloadn (q := 35) dX10_undo_34 rfl rfl rfl ?_
    refine Vj_aloadn (q := 36) dX10_undo_35 rfl rfl rfl ?_
    refine Vj_getR (q := 39) flX10_40 rfl rfl dX10_undo_36 rfl ?_
    refine Vj_iconst (q := 40) (v := 3) dX10_undo_39 rfl (by decide) ?_
    refine Vj_aloadn (q := 41) dX10_undo_40 rfl rfl rfl ?_
    refine Vj_getI (q := 44) flX10_150 rfl rfl dX10_undo_41 rfl ?_
    rw [show σ2.1 0 22 = nI ny by rw [← hs2]; simp [uI, upd]]
    refine Vj_imul (q := 45) dX10_undo_44 rfl ?_
    rw [i_3]
    refine Vj_iald (q := 46) rfl (vp_in_nI (by omega) (by decide)) dX10_undo_45 rfl ?_
    rw [nI_clamp (by omega), show σ2.1 11 (3 * ny) = nI (cm ρ u.1) by rw [← hs2, ← hs1]; exact hlast.1]
    refine Vj_putI (q := 49) flX10_117 rfl rfl dX10_undo_46 rfl ?_
    generalize hs3 : uI σ2 0 9 (nI (cm ρ u.1)) = σ3
    refine Vj_aloadn (q := 50) dX10_undo_49 rfl rfl rfl ?_
    refine Vj_aloadn (q := 51) dX10_undo_50 rfl rfl rfl ?_
    refine Vj_getR (q := 54) flX10_40 rfl rfl dX10_undo_51 rfl ?_
    refine Vj_iconst (q := 55) (v := 3) dX10_undo_54 rfl (by decide) ?_
    refine Vj_aloadn (q := 56) dX10_undo_55 rfl rfl rfl ?_
    refine Vj_getI (q := 59) flX10_150 rfl rfl dX10_undo_56 rfl ?_
    rw [show σ3.1 0 22 = nI ny by rw [← hs3, ← hs2]; simp [uI, upd]]
    refine Vj_imul (q := 60) dX10_undo_59 rfl ?_
    rw [i_3]
    refine Vj_iconst (q := 61) (v := 1) dX10_undo_60 rfl (by decide) ?_
    refine Vj_iadd (q := 62) dX10_undo_61 rfl ?_
    rw [nI_1]
    refine Vj_iald (q := 63) rfl (vp_in_nI (by omega) (by decide)) dX10_undo_62 rfl ?_
    rw [nI_clamp (by omega), show σ3.1 11 (3 * ny + 1) = nI (cm ρ u.2.1) by rw [← hs3, ← hs2, ← hs1]; exact hlast.2.1]
    refine Vj_putI (q := 66) flX10_124 rfl rfl dX10_undo_63 rfl ?_
    generalize hs4 : uI σ3 0 10 (nI (cm ρ u.2.1)) = σ4
    refine Vj_aloadn (q := 67) dX10_undo_66 rfl rfl rfl ?_
    refine Vj_aloadn (q := 68) dX10_undo_67 rfl rfl rfl ?_
    refine Vj_getR (q := 71) flX10_40 rfl rfl dX10_undo_68 rfl ?_
    refine Vj_iconst (q := 72) (v := 3) dX10_undo_71 rfl (by decide) ?_
    refine Vj_aloadn (q := 73) dX10_undo_72 rfl rfl rfl ?_
    refine Vj_getI (q := 76) flX10_150 rfl rfl dX10_undo_73 rfl ?_
    rw [show σ4.1 0 22 = nI ny by rw [← hs4, ← hs3, ← hs2]; simp [uI, upd]]
    refine Vj_imul (q := 77) dX10_undo_76 rfl ?_
    rw [i_3]
    refine Vj_iconst (q := 78) (v := 2) dX10_undo_77 rfl (by decide) ?_
    refine Vj_iadd (q := 79) dX10_undo_78 rfl ?_
    rw [show nI (3 * ny) + 2 = nI (3 * ny + 2) from nI_add _ 2]
    refine Vj_iald (q := 80) rfl (vp_in_nI (by omega) (by decide)) dX10_undo_79 rfl ?_
    rw [nI_clamp (by omega), show σ4.1 11 (3 * ny + 2) = nI u.2.2 by rw [← hs4, ← hs3, ← hs2, ← hs1]; exact hlast.2.2]
    refine Vj_putI (q := 83) flX10_127 rfl rfl dX10_undo_80 rfl ?_
    generalize hs5 : uI σ4 0 11 (nI u.2.2) = σ5
    refine Vj_aloadn (q := 84) dX10_undo_83 rfl rfl rfl ?_
    refine Vj_getI (q := 87) flX10_130 rfl rfl dX10_undo_84 rfl ?_
    rw [show σ5.1 0 21 = nI (ac.length - 1) by rw [← hs5, ← hs4, ← hs3, ← hs2, ← hs1]; simp [uI, upd]]
    refine Vr_iret rfl rfl dX10_undo_87 ?_
    subst hs1 hs2 hs3 hs4 hs5
    have hlt : (ac.take (ac.length - 1)).length = ac.length - 1 := by rw [List.length_take]; omega
    refine ⟨rfl, hTx.of rfl rfl, hP.of rfl rfl rfl rfl rfl rfl rfl rfl, hTa.of rfl, ⟨by simp [uI, upd], by simp [uI, upd], by simp [uI, upd]⟩, ⟨by rw [hlt]; simp [uI, upd], by rw [hlt]; omega, ny, hm14, by simp [uI, upd], fun i hi => ?_⟩, hSl.of rfl rfl, hSe.of rfl rfl rfl rfl, hSd⟩
    rw [hlt] at hi
    rw [hlt, show (ny + 14 - (ac.length - 1) + i) % 14 = (nx + 14 - ac.length + i) % 14 by omega, show (ac.take (ac.length - 1)).getD i (0, 0, 0) = ac.getD i (0, 0, 0) by rw [List.getD, List.getElem?_take, if_pos hi, List.getD]]
    exact hA3 i (by omega)
  ·
    refine Vj_bipush (q := 9) (v := (-3)) dX10_undo_7 rfl (by decide) ?_
    refine Vr_iret rfl rfl dX10_undo_9 ?_
    have hl0 : ac.length = 0 := (nI_z (by omega)).mp h4
    have e : spUndo c d p ac = (-3, c, d, p, ac) := by unfold spUndo; rw [if_pos hl0]
    rw [e]
    exact ⟨rfl, h⟩
