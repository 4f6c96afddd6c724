/-! the reference: count, see -/
set_option maxRecDepth 100000 in
theorem qX10_count {tx : List Nat} {ρ : Rm} {c d p : Nat} {ac : List (Nat × Nat × Nat)} {sl : Nat → Option (Nat × Nat × Nat)} {se : List (Nat × Nat × Nat)} {sd : Int64} {N : Nat} {σ : Mem} (h : RM tx ρ c d p ac sl se sd σ) (hv : okV N ρ c d p ac sl se) (x : Int32) : Ct shM 2 mX10_count [.ref 0, .int x] σ (PM (spCount tx ρ c d p ac se x) tx ρ c d p ac sl se sd) := by
  obtain ⟨hr, hc, hd, hp, hN30, ⟨hal, hav⟩, hsv, hse⟩ := hv
  obtain ⟨hTx, hP, hTa, hNw, hAc, hSl, hSe, hSd⟩ := h
  have hM := mN_le hr
  have hcM := cm_lt hr hc
  have hdM := cm_lt hr hd
  have hn5 := hr.1
  have hB7 := hr.2.2.1
  have h : RM tx ρ c d p ac sl se sd σ := ⟨hTx, hP, hTa, hNw, hAc, hSl, hSe, hSd⟩
  refine Ct.of (by decide) (Nat.le_of_ble_eq_true rfl) (l := [some (.ref 0), some (.int x)]) rfl ?_
  refine Vj_iloadn (q := 1) dX10_count_0 rfl rfl rfl ?_
  by_cases hin : x.toInt < 0 ∨ 8 < x.toInt
  ·
    have e : spCount tx ρ c d p ac se x = -2 := by rw [spCount, if_neg (fun z => by rw [z] at hin; revert hin; decide), if_neg (fun z => by rw [z] at hin; revert hin; decide), if_neg (fun z => by rw [z] at hin; revert hin; decide), if_neg (fun z => by rw [z] at hin; revert hin; decide), if_neg (fun z => by rw [z] at hin; revert hin; decide), if_neg (fun z => by rw [z] at hin; revert hin; decide), if_neg (fun z => by rw [z] at hin; revert hin; decide), if_neg (fun z => by rw [z] at hin; revert hin; decide), if_neg (fun z => by rw [z] at hin; revert hin; decide)]
    refine Vj_tableOut (q := 109) dX10_count_1 hin (by decide) ?_
    refine Vj_bipush (q := 111) (v := (-2)) dX10_count_109 rfl (by decide) ?_
    exact Vr_iret rfl rfl dX10_count_111 (⟨by rw [e], h⟩)
  ·
    have hx9 : hT 9 x = true := by exact decide_eq_true ⟨by rw [Int32.le_iff_toInt_le]; show (0 : Int) ≤ _; omega, by rw [Int32.lt_iff_toInt_lt]; show _ < (9 : Int); omega⟩
    obtain ⟨j, hj, rfl, ecl⟩ := hT_x (by decide) hx9
    rcases (show j = 0 ∨ j = 1 ∨ j = 2 ∨ j = 3 ∨ j = 4 ∨ j = 5 ∨ j = 6 ∨ j = 7 ∨ j = 8 by omega) with rfl | rfl | rfl | rfl | rfl | rfl | rfl | rfl | rfl
    ·
      refine Vj_tableIn (q := 52) (off := 51) dX10_count_1 (by decide) (by decide) (by decide) (by decide) ?_
      refine Vj_aloadn (q := 53) dX10_count_52 rfl rfl rfl ?_
      refine Vj_getI (q := 56) flX10_78 rfl rfl dX10_count_53 rfl ?_
      rw [hTx.1]
      exact Vr_iret rfl rfl dX10_count_56 (⟨rfl, h⟩)
    ·
      refine Vj_tableIn (q := 57) (off := 56) dX10_count_1 (by decide) (by decide) (by decide) (by decide) ?_
      refine Vj_aloadn (q := 58) dX10_count_57 rfl rfl rfl ?_
      refine Vj_getI (q := 61) flX10_111 rfl rfl dX10_count_58 rfl ?_
      rw [hP.2.1]
      exact Vr_iret rfl rfl dX10_count_61 (⟨rfl, h⟩)
    ·
      refine Vj_tableIn (q := 62) (off := 61) dX10_count_1 (by decide) (by decide) (by decide) (by decide) ?_
      refine Vj_aloadn (q := 63) dX10_count_62 rfl rfl rfl ?_
      refine Vj_getI (q := 66) flX10_114 rfl rfl dX10_count_63 rfl ?_
      rw [hP.2.2.1]
      exact Vr_iret rfl rfl dX10_count_66 (⟨rfl, h⟩)
    ·
      refine Vj_tableIn (q := 67) (off := 66) dX10_count_1 (by decide) (by decide) (by decide) (by decide) ?_
      refine Vj_aloadn (q := 68) dX10_count_67 rfl rfl rfl ?_
      refine Vj_aloadn (q := 69) dX10_count_68 rfl rfl rfl ?_
      refine Vj_getI (q := 72) flX10_117 rfl rfl dX10_count_69 rfl ?_
      rw [hNw.1]
      refine Vj_callVi (q := 75) (qX10_figuresOf hP hc) (by decide) rfl rfl lkX10_156 viX10_figuresOf okX10_figuresOf dX10_count_72 rfl rfl (Nat.le_of_ble_eq_true rfl) ?_
      exact Vr_iret rfl rfl dX10_count_75 (⟨rfl, h⟩)
    ·
      refine Vj_tableIn (q := 76) (off := 75) dX10_count_1 (by decide) (by decide) (by decide) (by decide) ?_
      refine Vj_aloadn (q := 77) dX10_count_76 rfl rfl rfl ?_
      refine Vj_aloadn (q := 78) dX10_count_77 rfl rfl rfl ?_
      refine Vj_getI (q := 81) flX10_124 rfl rfl dX10_count_78 rfl ?_
      rw [hNw.2.1]
      refine Vj_callVi (q := 84) (qX10_figuresOf hP hd) (by decide) rfl rfl lkX10_156 viX10_figuresOf okX10_figuresOf dX10_count_81 rfl rfl (Nat.le_of_ble_eq_true rfl) ?_
      exact Vr_iret rfl rfl dX10_count_84 (⟨rfl, h⟩)
    ·
      refine Vj_tableIn (q := 85) (off := 84) dX10_count_1 (by decide) (by decide) (by decide) (by decide) ?_
      refine Vj_aloadn (q := 86) dX10_count_85 rfl rfl rfl ?_
      refine Vj_aloadn (q := 87) dX10_count_86 rfl rfl rfl ?_
      refine Vj_getI (q := 90) flX10_117 rfl rfl dX10_count_87 rfl ?_
      rw [hNw.1]
      refine Vj_callVi (q := 93) (qX10_lightsOf hP hc) (by decide) rfl rfl lkX10_193 viX10_lightsOf okX10_lightsOf dX10_count_90 rfl rfl (Nat.le_of_ble_eq_true rfl) ?_
      exact Vr_iret rfl rfl dX10_count_93 (⟨rfl, h⟩)
    ·
      refine Vj_tableIn (q := 94) (off := 93) dX10_count_1 (by decide) (by decide) (by decide) (by decide) ?_
      refine Vj_aloadn (q := 95) dX10_count_94 rfl rfl rfl ?_
      refine Vj_getI (q := 98) flX10_127 rfl rfl dX10_count_95 rfl ?_
      rw [hNw.2.2]
      exact Vr_iret rfl rfl dX10_count_98 (⟨rfl, h⟩)
    ·
      refine Vj_tableIn (q := 99) (off := 98) dX10_count_1 (by decide) (by decide) (by decide) (by decide) ?_
      refine Vj_aloadn (q := 100) dX10_count_99 rfl rfl rfl ?_
      refine Vj_getI (q := 103) flX10_130 rfl rfl dX10_count_100 rfl ?_
      rw [hAc.1]
      exact Vr_iret rfl rfl dX10_count_103 (⟨rfl, h⟩)
    ·
      refine Vj_tableIn (q := 104) (off := 103) dX10_count_1 (by decide) (by decide) (by decide) (by decide) ?_
      refine Vj_aloadn (q := 105) dX10_count_104 rfl rfl rfl ?_
      refine Vj_getI (q := 108) flX10_190 rfl rfl dX10_count_105 rfl ?_
      rw [hSe.1]
      exact Vr_iret rfl rfl dX10_count_108 (⟨rfl, h⟩)
set_option maxRecDepth 100000 in
theorem qX10_see {tx : List Nat} {ρ : Rm} {c d p : Nat} {ac : List (Nat × Nat × Nat)} {sl : Nat → Option (Nat × Nat × Nat)} {se : List (Nat × Nat × Nat)} {sd : Int64} {N : Nat} {σ : Mem} (h : RM tx ρ c d p ac sl se sd σ) (hv : okV N ρ c d p ac sl se) (n row li : Int32) : Ct shM 2 mX10_see [.ref 0, .int n, .int row, .int li] σ (PM ((spSee se n row li).1) tx ρ c d p ac sl (spSee se n row li).2 sd) := by
  obtain ⟨hr, hc, hd, hp, hN30, ⟨hal, hav⟩, hsv, hse⟩ := hv
  obtain ⟨hTx, hP, hTa, hNw, hAc, hSl, hSe, hSd⟩ := h
  have hM := mN_le hr
  have hcM := cm_lt hr hc
  have hdM := cm_lt hr hd
  have hn5 := hr.1
  have hB7 := hr.2.2.1
  have h : RM tx ρ c d p ac sl se sd σ := ⟨hTx, hP, hTa, hNw, hAc, hSl, hSe, hSd⟩
  refine Ct.of (by decide) (Nat.le_of_ble_eq_true rfl) (l := [some (.ref 0), some (.int n), some (.int row), some (.int li)]) rfl ?_
  refine Vj_iloadn (q := 1) dX10_see_0 rfl rfl rfl ?_
  refine Vj_iloadn (q := 2) dX10_see_1 rfl rfl rfl ?_
  refine Vj_iconst (q := 3) (v := 0) dX10_see_2 rfl (by decide) ?_
  refine Vj_iconst (q := 4) (v := 3) dX10_see_3 rfl (by decide) ?_
  refine Vj_callSi (q := 7) (qX10_isRow n row (a := 0) (b := 3) (by decide) (by decide)) (by decide) lkX10_162 stX10_isRow okX10_isRow dX10_see_4 rfl rfl (Nat.le_of_ble_eq_true rfl) ?_
  refine Vj_if_eq (q := 10) (tgt := 22) dX10_see_7 (by decide) rfl (fun h7 => ?_) (fun h7 => ?_)
  ·
    refine Vj_bipush (q := 24) (v := (-2)) dX10_see_22 rfl (by decide) ?_
    refine Vr_iret rfl rfl dX10_see_24 ?_
    have hbad : n < 0 ∨ 3 < n ∨ isR n.toNatClampNeg row = false ∨ li < 0 ∨ 15 < li := by
      rcases (rwB_f (a := 0) (b := 3) (by decide) (by decide)).mp (bI_f0 h7) with z | z | z
      · exact Or.inl z
      · exact Or.inr (Or.inl z)
      · exact Or.inr (Or.inr (Or.inl z))
    have e : spSee se n row li = (-2, se) := by unfold spSee; rw [if_pos hbad]
    rw [e]
    exact ⟨rfl, h⟩
  ·
    have h7b := bI_n.mp h7
    refine Vj_iloadn (q := 11) dX10_see_10 rfl rfl rfl ?_
    refine Vj_i2l (q := 12) dX10_see_11 rfl ?_
    refine Vj_lconst (q := 13) (v := 0) dX10_see_12 rfl (by decide) ?_
    refine Vj_ldc2 (q := 16) dX10_see_13 rfl kcX10_188 ?_
    refine Vj_callSi (q := 19) (qX10_in _ _ _) (by decide) lkX10_74 stX10_in okX10_in dX10_see_16 rfl rfl (Nat.le_of_ble_eq_true rfl) ?_
    rw [in_i (a := ((0 : Nat) : Int)) (b := ((15 : Nat) : Int)) rfl rfl]
    refine Vj_if_ne (q := 22) (tgt := 25) dX10_see_19 (by decide) rfl (fun h19 => ?_) (fun h19 => ?_)
    ·
      have h19b := bI_n.mp h19
      have hs7 := hse.1
      obtain ⟨k, r, hk1, hk2, rfl, ek, hrr, rfl, er⟩ := rwB_t (by decide) h7b
      obtain ⟨l, hl1, hl2, rfl, el⟩ := iB_x (by decide) h19b
      have hno : ¬ ((nI k) < 0 ∨ 3 < nI k ∨ isR (nI k).toNatClampNeg (nI r) = false ∨ nI l < 0 ∨ 15 < nI l) := by
        rintro (z | z | z | z)
        · exact absurd z (nI_pos (by omega))
        · exact absurd ((nI_ltI (a := 3) (by decide) (by omega)).mp z) (by omega)
        · have := (rwB_f (a := 0) (b := 3) (by decide) (by decide)).mpr (Or.inr (Or.inr z))
          rw [h7b] at this; cases this
        · have := (iB_f (x := nI l) (a := 0) (b := 15) (by decide) (by decide)).mpr z
          rw [h19b] at this; cases this
      refine Vj_aloadn (q := 26) dX10_see_25 rfl rfl rfl ?_
      refine Vj_getI (q := 29) flX10_190 rfl rfl dX10_see_26 rfl ?_
      rw [hSe.1]
      refine Vj_bipush (q := 31) (v := 6) dX10_see_29 rfl (by decide) ?_
      refine Vj_icmp_ne (q := 34) (tgt := 37) dX10_see_31 (by decide) rfl (fun h31 => ?_) (fun h31 => ?_)
      ·
        have hlt : se.length < 6 := by have : se.length ≠ 6 := nI_ne_of (b := 6) (by omega) (by decide) h31; omega
        have esp : spSee se (nI k) (nI r) (nI l) = (nI (se.length + 1), se ++ [(k, r, l)]) := by unfold spSee; rw [if_neg hno, if_neg (by omega), ek, er, el]
        rw [esp]
        refine Vj_aloadn (q := 38) dX10_see_37 rfl rfl rfl ?_
        refine Vj_getR (q := 41) flX10_46 rfl rfl dX10_see_38 rfl ?_
        refine Vj_aloadn (q := 42) dX10_see_41 rfl rfl rfl ?_
        refine Vj_getI (q := 45) flX10_190 rfl rfl dX10_see_42 rfl ?_
        rw [hSe.1]
        refine Vj_iloadn (q := 46) dX10_see_45 rfl rfl rfl ?_
        refine Vj_iast (q := 47) rfl (vp_in_nI (by omega) (by decide)) dX10_see_46 rfl ?_
        rw [nI_clamp (by omega)]
        generalize hs1 : uI σ 13 se.length _ = σ1
        refine Vj_aloadn (q := 48) dX10_see_47 rfl rfl rfl ?_
        refine Vj_getR (q := 51) flX10_49 rfl rfl dX10_see_48 rfl ?_
        refine Vj_aloadn (q := 52) dX10_see_51 rfl rfl rfl ?_
        refine Vj_getI (q := 55) flX10_190 rfl rfl dX10_see_52 rfl ?_
        rw [show σ1.1 0 25 = nI se.length by rw [← hs1]; exact hSe.1]
        refine Vj_iloadn (q := 56) dX10_see_55 rfl rfl rfl ?_
        refine Vj_iast (q := 57) rfl (vp_in_nI (by omega) (by decide)) dX10_see_56 rfl ?_
        rw [nI_clamp (by omega)]
        generalize hs2 : uI σ1 14 se.length _ = σ2
        refine Vj_aloadn (q := 58) dX10_see_57 rfl rfl rfl ?_
        refine Vj_getR (q := 61) flX10_52 rfl rfl dX10_see_58 rfl ?_
        refine Vj_aloadn (q := 62) dX10_see_61 rfl rfl rfl ?_
        refine Vj_getI (q := 65) flX10_190 rfl rfl dX10_see_62 rfl ?_
        rw [show σ2.1 0 25 = nI se.length by rw [← hs2, ← hs1]; exact hSe.1]
        refine Vj_iloadn (q := 66) dX10_see_65 rfl rfl rfl ?_
        refine Vj_iast (q := 67) rfl (vp_in_nI (by omega) (by decide)) dX10_see_66 rfl ?_
        rw [nI_clamp (by omega)]
        generalize hs3 : uI σ2 15 se.length _ = σ3
        refine Vj_aloadn (q := 68) dX10_see_67 rfl rfl rfl ?_
        refine Vj_dup (q := 69) dX10_see_68 rfl rfl ?_
        refine Vj_getI (q := 72) flX10_190 rfl rfl dX10_see_69 rfl ?_
        rw [show σ3.1 0 25 = nI se.length by rw [← hs3, ← hs2, ← hs1]; exact hSe.1]
        refine Vj_iconst (q := 73) (v := 1) dX10_see_72 rfl (by decide) ?_
        refine Vj_iadd (q := 74) dX10_see_73 rfl ?_
        rw [nI_1]
        refine Vj_putI (q := 77) flX10_190 rfl rfl dX10_see_74 rfl ?_
        generalize hs4 : uI σ3 0 25 _ = σ4
        refine Vj_aloadn (q := 78) dX10_see_77 rfl rfl rfl ?_
        refine Vj_getI (q := 81) flX10_190 rfl rfl dX10_see_78 rfl ?_
        rw [show σ4.1 0 25 = nI (se.length + 1) by rw [← hs4]; simp [uI, upd]]
        refine Vr_iret rfl rfl dX10_see_81 ?_
        subst hs1 hs2 hs3 hs4
        refine ⟨rfl, hTx.of rfl rfl, hP.of rfl rfl rfl rfl rfl rfl rfl rfl, hTa.of rfl, hNw.of rfl rfl rfl, hAc.of rfl rfl rfl, hSl.of rfl rfl, ⟨by simp [uI, upd], fun i hi => ?_⟩, hSd⟩
        rw [List.length_append, List.length_singleton] at hi
        simp only [uI_eq, upd]
        by_cases e : i = se.length
        · subst e
          simp [uI, upd]
        · have hi2 : i < se.length := by omega
          have := hSe.2 i hi2
          rw [List.getD, List.getElem?_append_left hi2]
          rw [List.getD] at this
          simp [uI, upd, e]
          exact this
      ·
        refine Vj_bipush (q := 36) (v := (-4)) dX10_see_34 rfl (by decide) ?_
        refine Vr_iret rfl rfl dX10_see_36 ?_
        have h6 : se.length = 6 := (nI_eq (b := 6) (by omega) (by decide)).mp h31
        have e : spSee se (nI k) (nI r) (nI l) = (-4, se) := by unfold spSee; rw [if_neg hno, if_pos (by omega)]
        rw [e]
        exact ⟨rfl, h⟩
    ·
      refine Vj_bipush (q := 24) (v := (-2)) dX10_see_22 rfl (by decide) ?_
      refine Vr_iret rfl rfl dX10_see_24 ?_
      have hbad : n < 0 ∨ 3 < n ∨ isR n.toNatClampNeg row = false ∨ li < 0 ∨ 15 < li := Or.inr (Or.inr (Or.inr ((iB_f (x := li) (a := 0) (b := 15) (by decide) (by decide)).mp (bI_f0 h19))))
      have e : spSee se n row li = (-2, se) := by unfold spSee; rw [if_pos hbad]
      rw [e]
      exact ⟨rfl, h⟩
/-! the reference: rests -/
set_option maxRecDepth 100000 in
theorem qX10_apart {σ : Mem} {a b : Nat} (ha : a < 4) (hb : b < 4) : Ct shM 0 mX10_apart [.int (nI a), .int (nI b)] σ (Ri (nI (absd a b)) σ) := by
  refine Ct.of (by decide) (Nat.le_of_ble_eq_true rfl) (l := [some (.int (nI a)), some (.int (nI b))]) rfl ?_
  refine Vj_iloadn (q := 1) dX10_apart_0 rfl rfl rfl ?_
  refine Vj_iloadn (q := 2) dX10_apart_1 rfl rfl rfl ?_
  refine Vj_icmp_ge (q := 5) (tgt := 11) dX10_apart_2 (by decide) rfl (fun h2 => ?_) (fun h2 => ?_)
  ·
    have hle := (nI_leI (by omega) (by omega)).mp h2
    refine Vj_iloadn (q := 12) dX10_apart_11 rfl rfl rfl ?_
    refine Vj_iloadn (q := 13) dX10_apart_12 rfl rfl rfl ?_
    refine Vj_isub (q := 14) dX10_apart_13 rfl ?_
    rw [nI_sub (by omega)]
    exact Vr_iret rfl rfl dX10_apart_14 (⟨by unfold absd; rw [if_neg (by omega)], rfl⟩)
  ·
    have hlt := Nat.not_le.mp fun z => h2 (nI_le z (by omega))
    refine Vj_iloadn (q := 6) dX10_apart_5 rfl rfl rfl ?_
    refine Vj_iloadn (q := 7) dX10_apart_6 rfl rfl rfl ?_
    refine Vj_isub (q := 8) dX10_apart_7 rfl ?_
    rw [nI_sub (by omega)]
    refine Vj_goto (q := 14) dX10_apart_8 (by decide) ?_
    exact Vr_iret rfl rfl dX10_apart_14 (⟨by unfold absd; rw [if_pos hlt], rfl⟩)
theorem bcC_V {ρ : Rm} (hr : okR ρ) {c k : Nat} (hc : cV ρ c) (hk : k ≤ rB ρ) : cV ρ (bcC ρ c k) := by
  unfold bcC
  split
  · exact hc
  · exact cV_nx hr hc (by omega)

set_option maxRecDepth 100000 in
theorem qX10_loses {ρ : Rm} {σ : Mem} (hP : RoM ρ σ) (hTa : TaM ρ σ) {c d p : Nat} (hNw : NwM ρ c d p σ) (hc : cV ρ c) {t v a b ow : Nat} (ht : t < rN ρ) (hv4 : v < 4) (ha : a ≤ rB ρ) (hb : b ≤ rB ρ) (ho : ow ≤ rB ρ) : Ct shM 1 mX10_loses [.ref 0, .int (nI t), .int (nI v), .int (nI a), .int (nI b), .int (nI ow)] σ (Ri (nI (lsC ρ c a b t v + prC ow)) σ) := by
  have hr := hP.1
  have hB7 := hr.2.2.1
  have hM := mN_le hr
  have hA := bcC_V hr hc ha
  have hA1 := cm_lt hr hA
  have hBB := bcC_V hr hA hb
  have hC1 := cm_lt hr hc
  refine Ct.of (by decide) (Nat.le_of_ble_eq_true rfl) (l := [some (.ref 0), some (.int (nI t)), some (.int (nI v)), some (.int (nI a)), some (.int (nI b)), some (.int (nI ow)), none]) rfl ?_
  by_cases e1 : a = 0
  ·
    have eA : bcC ρ c a = c := by rw [bcC, if_pos e1]
    refine Vj_iloadn (q := 1) dX10_loses_0 rfl rfl rfl ?_
    refine Vj_if_le (q := 4) (tgt := 24) dX10_loses_1 (by decide) rfl (fun _ => ?_) (fun hz => absurd (by rw [e1]; decide) hz)
    refine Vj_aloadn (q := 25) dX10_loses_24 rfl rfl rfl ?_
    refine Vj_getI (q := 28) flX10_117 rfl rfl dX10_loses_25 rfl ?_
    rw [hNw.1]
    refine Vj_top (show nI (cm ρ c) = nI (cm ρ (bcC ρ c a)) by rw [eA]) ?_
    refine Vs_istore6 (q := 30) dX10_loses_28 rfl (by decide) rfl ?_
    by_cases e2 : b = 0
    ·
      have eB : bcC ρ (bcC ρ c a) b = bcC ρ c a := by rw [bcC, if_pos e2]
      refine Vj_iload (q := 32) dX10_loses_30 rfl rfl ?_
      refine Vj_if_le (q := 35) (tgt := 54) dX10_loses_32 (by decide) rfl (fun _ => ?_) (fun hz => absurd (by rw [e2]; decide) hz)
      refine Vj_iload (q := 56) dX10_loses_54 rfl rfl ?_
      refine Vj_top (show nI (cm ρ (bcC ρ c a)) = nI (cm ρ (bcC ρ (bcC ρ c a) b)) by rw [eB]) ?_
      refine Vs_istore6 (q := 58) dX10_loses_56 rfl (by decide) rfl ?_
      refine Vj_aloadn (q := 59) dX10_loses_58 rfl rfl rfl ?_
      refine Vj_iload (q := 61) dX10_loses_59 rfl rfl ?_
      refine Vj_iloadn (q := 62) dX10_loses_61 rfl rfl rfl ?_
      refine Vj_callVi (q := 65) (qX10_stateIn hP hBB ht) (by decide) rfl rfl lkX10_133 viX10_stateIn okX10_stateIn dX10_loses_62 rfl rfl (Nat.le_of_ble_eq_true rfl) ?_
      refine Vj_iloadn (q := 66) dX10_loses_65 rfl rfl rfl ?_
      refine Vj_callSi (q := 69) (qX10_apart (cS_lt _ _ _) hv4) (by decide) lkX10_210 stX10_apart okX10_apart dX10_loses_66 rfl rfl (Nat.le_of_ble_eq_true rfl) ?_
      rw [show absd (cS (rN ρ) (bcC ρ (bcC ρ c a) b) t) v = lsC ρ c a b t v from rfl]
      by_cases e3 : ow = 0
      ·
        refine Vj_iload (q := 71) dX10_loses_69 rfl rfl ?_
        refine Vj_if_le (q := 74) (tgt := 78) dX10_loses_71 (by decide) rfl (fun _ => ?_) (fun hz => absurd (by rw [e3]; decide) hz)
        refine Vj_iconst (q := 79) (v := 0) dX10_loses_78 rfl (by decide) ?_
        refine Vj_iadd (q := 80) dX10_loses_79 rfl ?_
        exact Vr_iret rfl rfl dX10_loses_80 (⟨by unfold prC; rw [if_pos e3]; exact congrArg (fun z => some (Value.int z)) (Int32.add_zero _), rfl⟩)
      ·
        refine Vj_iload (q := 71) dX10_loses_69 rfl rfl ?_
        refine Vj_if_le (q := 74) (tgt := 78) dX10_loses_71 (by decide) rfl (fun hz => absurd hz (nI_nle (by omega) (by omega))) (fun _ => ?_)
        refine Vj_iconst (q := 75) (v := 1) dX10_loses_74 rfl (by decide) ?_
        refine Vj_goto (q := 79) dX10_loses_75 (by decide) ?_
        refine Vj_iadd (q := 80) dX10_loses_79 rfl ?_
        exact Vr_iret rfl rfl dX10_loses_80 (⟨by unfold prC; rw [if_neg e3, ← nI_1], rfl⟩)
    ·
      have eB : bcC ρ (bcC ρ c a) b = cNx ρ (bcC ρ c a) (b - 1) := by rw [bcC, if_neg e2]
      refine Vj_iload (q := 32) dX10_loses_30 rfl rfl ?_
      refine Vj_if_le (q := 35) (tgt := 54) dX10_loses_32 (by decide) rfl (fun hz => absurd hz (nI_nle (by omega) (by omega))) (fun _ => ?_)
      refine Vj_aloadn (q := 36) dX10_loses_35 rfl rfl rfl ?_
      refine Vj_getR (q := 39) flX10_25 rfl rfl dX10_loses_36 rfl ?_
      refine Vj_sipush (q := 42) (v := 256) dX10_loses_39 rfl (by decide) ?_
      refine Vj_iload (q := 44) dX10_loses_42 rfl rfl ?_
      refine Vj_iconst (q := 45) (v := 1) dX10_loses_44 rfl (by decide) ?_
      refine Vj_isub (q := 46) dX10_loses_45 rfl ?_
      rw [nI_s1 (by omega)]
      refine Vj_imul (q := 47) dX10_loses_46 rfl ?_
      refine Vj_iload (q := 49) dX10_loses_47 rfl rfl ?_
      refine Vj_iadd (q := 50) dX10_loses_49 rfl ?_
      rw [i_256]
      refine Vj_iald (q := 51) rfl (vp_in_nI (by omega) (by decide)) dX10_loses_50 rfl ?_
      rw [nI_clamp (by omega), hTa _ (by omega) _ hA]
      refine Vj_goto (q := 56) dX10_loses_51 (by decide) ?_
      refine Vj_top (show nI (cm ρ (cNx ρ (bcC ρ c a) (b - 1))) = nI (cm ρ (bcC ρ (bcC ρ c a) b)) by rw [eB]) ?_
      refine Vs_istore6 (q := 58) dX10_loses_56 rfl (by decide) rfl ?_
      refine Vj_aloadn (q := 59) dX10_loses_58 rfl rfl rfl ?_
      refine Vj_iload (q := 61) dX10_loses_59 rfl rfl ?_
      refine Vj_iloadn (q := 62) dX10_loses_61 rfl rfl rfl ?_
      refine Vj_callVi (q := 65) (qX10_stateIn hP hBB ht) (by decide) rfl rfl lkX10_133 viX10_stateIn okX10_stateIn dX10_loses_62 rfl rfl (Nat.le_of_ble_eq_true rfl) ?_
      refine Vj_iloadn (q := 66) dX10_loses_65 rfl rfl rfl ?_
      refine Vj_callSi (q := 69) (qX10_apart (cS_lt _ _ _) hv4) (by decide) lkX10_210 stX10_apart okX10_apart dX10_loses_66 rfl rfl (Nat.le_of_ble_eq_true rfl) ?_
      rw [show absd (cS (rN ρ) (bcC ρ (bcC ρ c a) b) t) v = lsC ρ c a b t v from rfl]
      by_cases e3 : ow = 0
      ·
        refine Vj_iload (q := 71) dX10_loses_69 rfl rfl ?_
        refine Vj_if_le (q := 74) (tgt := 78) dX10_loses_71 (by decide) rfl (fun _ => ?_) (fun hz => absurd (by rw [e3]; decide) hz)
        refine Vj_iconst (q := 79) (v := 0) dX10_loses_78 rfl (by decide) ?_
        refine Vj_iadd (q := 80) dX10_loses_79 rfl ?_
        exact Vr_iret rfl rfl dX10_loses_80 (⟨by unfold prC; rw [if_pos e3]; exact congrArg (fun z => some (Value.int z)) (Int32.add_zero _), rfl⟩)
      ·
        refine Vj_iload (q := 71) dX10_loses_69 rfl rfl ?_
        refine Vj_if_le (q := 74) (tgt := 78) dX10_loses_71 (by decide) rfl (fun hz => absurd hz (nI_nle (by omega) (by omega))) (fun _ => ?_)
        refine Vj_iconst (q := 75) (v := 1) dX10_loses_74 rfl (by decide) ?_
        refine Vj_goto (q := 79) dX10_loses_75 (by decide) ?_
        refine Vj_iadd (q := 80) dX10_loses_79 rfl ?_
        exact Vr_iret rfl rfl dX10_loses_80 (⟨by unfold prC; rw [if_neg e3, ← nI_1], rfl⟩)
  ·
    have eA : bcC ρ c a = cNx ρ c (a - 1) := by rw [bcC, if_neg e1]
    refine Vj_iloadn (q := 1) dX10_loses_0 rfl rfl rfl ?_
    refine Vj_if_le (q := 4) (tgt := 24) dX10_loses_1 (by decide) rfl (fun hz => absurd hz (nI_nle (by omega) (by omega))) (fun _ => ?_)
    refine Vj_aloadn (q := 5) dX10_loses_4 rfl rfl rfl ?_
    refine Vj_getR (q := 8) flX10_25 rfl rfl dX10_loses_5 rfl ?_
    refine Vj_sipush (q := 11) (v := 256) dX10_loses_8 rfl (by decide) ?_
    refine Vj_iloadn (q := 12) dX10_loses_11 rfl rfl rfl ?_
    refine Vj_iconst (q := 13) (v := 1) dX10_loses_12 rfl (by decide) ?_
    refine Vj_isub (q := 14) dX10_loses_13 rfl ?_
    rw [nI_s1 (by omega)]
    refine Vj_imul (q := 15) dX10_loses_14 rfl ?_
    refine Vj_aloadn (q := 16) dX10_loses_15 rfl rfl rfl ?_
    refine Vj_getI (q := 19) flX10_117 rfl rfl dX10_loses_16 rfl ?_
    rw [hNw.1]
    refine Vj_iadd (q := 20) dX10_loses_19 rfl ?_
    rw [i_256]
    refine Vj_iald (q := 21) rfl (vp_in_nI (by omega) (by decide)) dX10_loses_20 rfl ?_
    rw [nI_clamp (by omega), hTa _ (by omega) _ hc]
    refine Vj_goto (q := 28) dX10_loses_21 (by decide) ?_
    refine Vj_top (show nI (cm ρ (cNx ρ c (a - 1))) = nI (cm ρ (bcC ρ c a)) by rw [eA]) ?_
    refine Vs_istore6 (q := 30) dX10_loses_28 rfl (by decide) rfl ?_
    by_cases e2 : b = 0
    ·
      have eB : bcC ρ (bcC ρ c a) b = bcC ρ c a := by rw [bcC, if_pos e2]
      refine Vj_iload (q := 32) dX10_loses_30 rfl rfl ?_
      refine Vj_if_le (q := 35) (tgt := 54) dX10_loses_32 (by decide) rfl (fun _ => ?_) (fun hz => absurd (by rw [e2]; decide) hz)
      refine Vj_iload (q := 56) dX10_loses_54 rfl rfl ?_
      refine Vj_top (show nI (cm ρ (bcC ρ c a)) = nI (cm ρ (bcC ρ (bcC ρ c a) b)) by rw [eB]) ?_
      refine Vs_istore6 (q := 58) dX10_loses_56 rfl (by decide) rfl ?_
      refine Vj_aloadn (q := 59) dX10_loses_58 rfl rfl rfl ?_
      refine Vj_iload (q := 61) dX10_loses_59 rfl rfl ?_
      refine Vj_iloadn (q := 62) dX10_loses_61 rfl rfl rfl ?_
      refine Vj_callVi (q := 65) (qX10_stateIn hP hBB ht) (by decide) rfl rfl lkX10_133 viX10_stateIn okX10_stateIn dX10_loses_62 rfl rfl (Nat.le_of_ble_eq_true rfl) ?_
      refine Vj_iloadn (q := 66) dX10_loses_65 rfl rfl rfl ?_
      refine Vj_callSi (q := 69) (qX10_apart (cS_lt _ _ _) hv4) (by decide) lkX10_210 stX10_apart okX10_apart dX10_loses_66 rfl rfl (Nat.le_of_ble_eq_true rfl) ?_
      rw [show absd (cS (rN ρ) (bcC ρ (bcC ρ c a) b) t) v = lsC ρ c a b t v from rfl]
      by_cases e3 : ow = 0
      ·
        refine Vj_iload (q := 71) dX10_loses_69 rfl rfl ?_
        refine Vj_if_le (q := 74) (tgt := 78) dX10_loses_71 (by decide) rfl (fun _ => ?_) (fun hz => absurd (by rw [e3]; decide) hz)
        refine Vj_iconst (q := 79) (v := 0) dX10_loses_78 rfl (by decide) ?_
        refine Vj_iadd (q := 80) dX10_loses_79 rfl ?_
        exact Vr_iret rfl rfl dX10_loses_80 (⟨by unfold prC; rw [if_pos e3]; exact congrArg (fun z => some (Value.int z)) (Int32.add_zero _), rfl⟩)
      ·
        refine Vj_iload (q := 71) dX10_loses_69 rfl rfl ?_
        refine Vj_if_le (q := 74) (tgt := 78) dX10_loses_71 (by decide) rfl (fun hz => absurd hz (nI_nle (by omega) (by omega))) (fun _ => ?_)
        refine Vj_iconst (q := 75) (v := 1) dX10_loses_74 rfl (by decide) ?_
        refine Vj_goto (q := 79) dX10_loses_75 (by decide) ?_
        refine Vj_iadd (q := 80) dX10_loses_79 rfl ?_
        exact Vr_iret rfl rfl dX10_loses_80 (⟨by unfold prC; rw [if_neg e3, ← nI_1], rfl⟩)
    ·
      have eB : bcC ρ (bcC ρ c a) b = cNx ρ (bcC ρ c a) (b - 1) := by rw [bcC, if_neg e2]
      refine Vj_iload (q := 32) dX10_loses_30 rfl rfl ?_
      refine Vj_if_le (q := 35) (tgt := 54) dX10_loses_32 (by decide) rfl (fun hz => absurd hz (nI_nle (by omega) (by omega))) (fun _ => ?_)
      refine Vj_aloadn (q := 36) dX10_loses_35 rfl rfl rfl ?_
      refine Vj_getR (q := 39) flX10_25 rfl rfl dX10_loses_36 rfl ?_
      refine Vj_sipush (q := 42) (v := 256) dX10_loses_39 rfl (by decide) ?_
      refine Vj_iload (q := 44) dX10_loses_42 rfl rfl ?_
      refine Vj_iconst (q := 45) (v := 1) dX10_loses_44 rfl (by decide) ?_
      refine Vj_isub (q := 46) dX10_loses_45 rfl ?_
      rw [nI_s1 (by omega)]
      refine Vj_imul (q := 47) dX10_loses_46 rfl ?_
      refine Vj_iload (q := 49) dX10_loses_47 rfl rfl ?_
      refine Vj_iadd (q := 50) dX10_loses_49 rfl ?_
      rw [i_256]
      refine Vj_iald (q := 51) rfl (vp_in_nI (by omega) (by decide)) dX10_loses_50 rfl ?_
      rw [nI_clamp (by omega), hTa _ (by omega) _ hA]
      refine Vj_goto (q := 56) dX10_loses_51 (by decide) ?_
      refine Vj_top (show nI (cm ρ (cNx ρ (bcC ρ c a) (b - 1))) = nI (cm ρ (bcC ρ (bcC ρ c a) b)) by rw [eB]) ?_
      refine Vs_istore6 (q := 58) dX10_loses_56 rfl (by decide) rfl ?_
      refine Vj_aloadn (q := 59) dX10_loses_58 rfl rfl rfl ?_
      refine Vj_iload (q := 61) dX10_loses_59 rfl rfl ?_
      refine Vj_iloadn (q := 62) dX10_loses_61 rfl rfl rfl ?_
      refine Vj_callVi (q := 65) (qX10_stateIn hP hBB ht) (by decide) rfl rfl lkX10_133 viX10_stateIn okX10_stateIn dX10_loses_62 rfl rfl (Nat.le_of_ble_eq_true rfl) ?_
      refine Vj_iloadn (q := 66) dX10_loses_65 rfl rfl rfl ?_
      refine Vj_callSi (q := 69) (qX10_apart (cS_lt _ _ _) hv4) (by decide) lkX10_210 stX10_apart okX10_apart dX10_loses_66 rfl rfl (Nat.le_of_ble_eq_true rfl) ?_
      rw [show absd (cS (rN ρ) (bcC ρ (bcC ρ c a) b) t) v = lsC ρ c a b t v from rfl]
      by_cases e3 : ow = 0
      ·
        refine Vj_iload (q := 71) dX10_loses_69 rfl rfl ?_
        refine Vj_if_le (q := 74) (tgt := 78) dX10_loses_71 (by decide) rfl (fun _ => ?_) (fun hz => absurd (by rw [e3]; decide) hz)
        refine Vj_iconst (q := 79) (v := 0) dX10_loses_78 rfl (by decide) ?_
        refine Vj_iadd (q := 80) dX10_loses_79 rfl ?_
        exact Vr_iret rfl rfl dX10_loses_80 (⟨by unfold prC; rw [if_pos e3]; exact congrArg (fun z => some (Value.int z)) (Int32.add_zero _), rfl⟩)
      ·
        refine Vj_iload (q := 71) dX10_loses_69 rfl rfl ?_
        refine Vj_if_le (q := 74) (tgt := 78) dX10_loses_71 (by decide) rfl (fun hz => absurd hz (nI_nle (by omega) (by omega))) (fun _ => ?_)
        refine Vj_iconst (q := 75) (v := 1) dX10_loses_74 rfl (by decide) ?_
        refine Vj_goto (q := 79) dX10_loses_75 (by decide) ?_
        refine Vj_iadd (q := 80) dX10_loses_79 rfl ?_
        exact Vr_iret rfl rfl dX10_loses_80 (⟨by unfold prC; rw [if_neg e3, ← nI_1], rfl⟩)
set_option maxRecDepth 100000 in
theorem qX10_isRest_loop {ρ : Rm} {σ : Mem} (hP : RoM ρ σ) (hTa : TaM ρ σ) {c d p : Nat} (hNw : NwM ρ c d p σ) (hc : cV ρ c) {t v u w a b : Nat} (ht : t < rN ρ) (hv4 : v < 4) (hu : u < rN ρ) (hw4 : w < 4) (ha : a ≤ rB ρ) (hb : b ≤ rB ρ) : ∀ n k : Nat, k + n = rB ρ + 1 → Vj shM 2 mX10_isRest (Ri (bI (rsP ρ c t v u w a b)) σ) 6 [some (.ref 0), some (.int (nI t)), some (.int (nI v)), some (.int (nI u)), some (.int (nI w)), some (.int (nI a)), some (.int (nI b)), some (.int (bI (f1R ρ c a b t v k && f2R ρ c a b u w k))), some (.int (nI k))] [] σ := by
  have hr := hP.1
  have hB7 := hr.2.2.1
  intro n
  induction n with
  | zero =>
    intro k hk
    obtain rfl : k = rB ρ + 1 := by omega
    refine Vj_iload (q := 8) dX10_isRest_6 rfl rfl ?_
    refine Vj_aloadn (q := 9) dX10_isRest_8 rfl rfl rfl ?_
    refine Vj_getI (q := 12) flX10_114 rfl rfl dX10_isRest_9 rfl ?_
    rw [hP.2.2.1]
    refine Vj_icmp_gt (q := 15) (tgt := 89) dX10_isRest_12 (by decide) rfl (fun _ => ?_) (fun hz => absurd (nI_lt (by omega) (by omega)) hz)
    refine Vj_iload (q := 91) dX10_isRest_89 rfl rfl ?_
    exact Vr_iret rfl (bI_nar _) dX10_isRest_91 (⟨rfl, rfl⟩)
  | succ n ih =>
    intro k hk
    have p1 := prC_le k
    have p2 := prC_le a
    have p3 := prC_le b
    have l1 := lsC_lt (ρ := ρ) (c := c) (a := k) (b := b) (t := t) hv4
    have l2 := lsC_lt (ρ := ρ) (c := c) (a := a) (b := b) (t := t) hv4
    have l3 := lsC_lt (ρ := ρ) (c := c) (a := a) (b := k) (t := u) hw4
    have l4 := lsC_lt (ρ := ρ) (c := c) (a := a) (b := b) (t := u) hw4
    refine Vj_iload (q := 8) dX10_isRest_6 rfl rfl ?_
    refine Vj_aloadn (q := 9) dX10_isRest_8 rfl rfl rfl ?_
    refine Vj_getI (q := 12) flX10_114 rfl rfl dX10_isRest_9 rfl ?_
    rw [hP.2.2.1]
    refine Vj_icmp_gt (q := 15) (tgt := 89) dX10_isRest_12 (by decide) rfl (fun hz => absurd hz (Int32.not_lt.mpr (nI_le (by omega) (by omega)))) (fun _ => ?_)
    refine Vj_iload (q := 17) dX10_isRest_15 rfl rfl ?_
    refine Vj_if_eq (q := 20) (tgt := 80) dX10_isRest_17 (by decide) rfl (fun h17 => ?_) (fun h17 => ?_)
    ·
      refine Vj_iconst (q := 81) (v := 0) dX10_isRest_80 rfl (by decide) ?_
      refine Vs_istore7 (q := 83) dX10_isRest_81 rfl (by decide) rfl ?_
      refine Vs_iinc8 (q := 86) (z := none) dX10_isRest_83 rfl (by exact iinc_p _) (by decide) rfl ?_
      refine Vj_goto (q := 6) dX10_isRest_86 (by decide) ?_
      rw [nI_1]
      have ih := ih (k + 1) (by omega)
      rw [show (f1R ρ c a b t v (k + 1) && f2R ρ c a b u w (k + 1)) = false by rw [f1R, f2R]; have := bI_z.mp h17; revert this; cases f1R ρ c a b t v k <;> cases f2R ρ c a b u w k <;> simp] at ih
      exact ih
    ·
      refine Vj_aloadn (q := 21) dX10_isRest_20 rfl rfl rfl ?_
      refine Vj_iloadn (q := 22) dX10_isRest_21 rfl rfl rfl ?_
      refine Vj_iloadn (q := 23) dX10_isRest_22 rfl rfl rfl ?_
      refine Vj_iload (q := 25) dX10_isRest_23 rfl rfl ?_
      refine Vj_iload (q := 27) dX10_isRest_25 rfl rfl ?_
      refine Vj_iload (q := 29) dX10_isRest_27 rfl rfl ?_
      refine Vj_callVi (q := 32) (qX10_loses hP hTa hNw hc (a := k) (b := b) (ow := k) ht hv4 (by omega) hb (by omega)) (by decide) rfl rfl lkX10_213 viX10_loses okX10_loses dX10_isRest_29 rfl rfl (Nat.le_of_ble_eq_true rfl) ?_
      refine Vj_aloadn (q := 33) dX10_isRest_32 rfl rfl rfl ?_
      refine Vj_iloadn (q := 34) dX10_isRest_33 rfl rfl rfl ?_
      refine Vj_iloadn (q := 35) dX10_isRest_34 rfl rfl rfl ?_
      refine Vj_iload (q := 37) dX10_isRest_35 rfl rfl ?_
      refine Vj_iload (q := 39) dX10_isRest_37 rfl rfl ?_
      refine Vj_iload (q := 41) dX10_isRest_39 rfl rfl ?_
      refine Vj_callVi (q := 44) (qX10_loses hP hTa hNw hc (a := a) (b := b) (ow := a) ht hv4 ha hb ha) (by decide) rfl rfl lkX10_213 viX10_loses okX10_loses dX10_isRest_41 rfl rfl (Nat.le_of_ble_eq_true rfl) ?_
      refine Vj_icmp_lt (q := 47) (tgt := 80) dX10_isRest_44 (by decide) rfl (fun h44 => ?_) (fun h44 => ?_)
      ·
        refine Vj_iconst (q := 81) (v := 0) dX10_isRest_80 rfl (by decide) ?_
        refine Vs_istore7 (q := 83) dX10_isRest_81 rfl (by decide) rfl ?_
        refine Vs_iinc8 (q := 86) (z := none) dX10_isRest_83 rfl (by exact iinc_p _) (by decide) rfl ?_
        refine Vj_goto (q := 6) dX10_isRest_86 (by decide) ?_
        rw [nI_1]
        have ih := ih (k + 1) (by omega)
        rw [show (f1R ρ c a b t v (k + 1) && f2R ρ c a b u w (k + 1)) = false by rw [f1R, decide_eq_false (Nat.not_le.mpr ((nI_ltI (by omega) (by omega)).mp h44)), Bool.and_false, Bool.false_and]] at ih
        exact ih
      ·
        refine Vj_aloadn (q := 48) dX10_isRest_47 rfl rfl rfl ?_
        refine Vj_iloadn (q := 49) dX10_isRest_48 rfl rfl rfl ?_
        refine Vj_iload (q := 51) dX10_isRest_49 rfl rfl ?_
        refine Vj_iload (q := 53) dX10_isRest_51 rfl rfl ?_
        refine Vj_iload (q := 55) dX10_isRest_53 rfl rfl ?_
        refine Vj_iload (q := 57) dX10_isRest_55 rfl rfl ?_
        refine Vj_callVi (q := 60) (qX10_loses hP hTa hNw hc (a := a) (b := k) (ow := k) hu hw4 ha (by omega) (by omega)) (by decide) rfl rfl lkX10_213 viX10_loses okX10_loses dX10_isRest_57 rfl rfl (Nat.le_of_ble_eq_true rfl) ?_
        refine Vj_aloadn (q := 61) dX10_isRest_60 rfl rfl rfl ?_
        refine Vj_iloadn (q := 62) dX10_isRest_61 rfl rfl rfl ?_
        refine Vj_iload (q := 64) dX10_isRest_62 rfl rfl ?_
        refine Vj_iload (q := 66) dX10_isRest_64 rfl rfl ?_
        refine Vj_iload (q := 68) dX10_isRest_66 rfl rfl ?_
        refine Vj_iload (q := 70) dX10_isRest_68 rfl rfl ?_
        refine Vj_callVi (q := 73) (qX10_loses hP hTa hNw hc (a := a) (b := b) (ow := b) hu hw4 ha hb hb) (by decide) rfl rfl lkX10_213 viX10_loses okX10_loses dX10_isRest_70 rfl rfl (Nat.le_of_ble_eq_true rfl) ?_
        refine Vj_icmp_lt (q := 76) (tgt := 80) dX10_isRest_73 (by decide) rfl (fun h73 => ?_) (fun h73 => ?_)
        ·
          refine Vj_iconst (q := 81) (v := 0) dX10_isRest_80 rfl (by decide) ?_
          refine Vs_istore7 (q := 83) dX10_isRest_81 rfl (by decide) rfl ?_
          refine Vs_iinc8 (q := 86) (z := none) dX10_isRest_83 rfl (by exact iinc_p _) (by decide) rfl ?_
          refine Vj_goto (q := 6) dX10_isRest_86 (by decide) ?_
          rw [nI_1]
          have ih := ih (k + 1) (by omega)
          rw [show (f1R ρ c a b t v (k + 1) && f2R ρ c a b u w (k + 1)) = false by rw [f2R, decide_eq_false (Nat.not_le.mpr ((nI_ltI (by omega) (by omega)).mp h73)), Bool.and_false, Bool.and_false]] at ih
          exact ih
        ·
          refine Vj_iconst (q := 77) (v := 1) dX10_isRest_76 rfl (by decide) ?_
          refine Vj_goto (q := 81) dX10_isRest_77 (by decide) ?_
          refine Vs_istore7 (q := 83) dX10_isRest_81 rfl (by decide) rfl ?_
          refine Vs_iinc8 (q := 86) (z := none) dX10_isRest_83 rfl (by exact iinc_p _) (by decide) rfl ?_
          refine Vj_goto (q := 6) dX10_isRest_86 (by decide) ?_
          rw [nI_1]
          have ih := ih (k + 1) (by omega)
          rw [show (f1R ρ c a b t v (k + 1) && f2R ρ c a b u w (k + 1)) = true by rw [f1R, f2R, decide_eq_true (Nat.not_lt.mp fun z => h44 (nI_lt z (by omega))), decide_eq_true (Nat.not_lt.mp fun z => h73 (nI_lt z (by omega)))]; have := bI_n.mp h17; revert this; cases f1R ρ c a b t v k <;> cases f2R ρ c a b u w k <;> simp] at ih
          exact ih
set_option maxRecDepth 100000 in
theorem qX10_isRest {ρ : Rm} {σ : Mem} (hP : RoM ρ σ) (hTa : TaM ρ σ) {c d p : Nat} (hNw : NwM ρ c d p σ) (hc : cV ρ c) {t v u w a b : Nat} (ht : t < rN ρ) (hv4 : v < 4) (hu : u < rN ρ) (hw4 : w < 4) (ha : a ≤ rB ρ) (hb : b ≤ rB ρ) : Ct shM 2 mX10_isRest [.ref 0, .int (nI t), .int (nI v), .int (nI u), .int (nI w), .int (nI a), .int (nI b)] σ (Ri (bI (rsP ρ c t v u w a b)) σ) := by
  refine Ct.of (by decide) (Nat.le_of_ble_eq_true rfl) (l := [some (.ref 0), some (.int (nI t)), some (.int (nI v)), some (.int (nI u)), some (.int (nI w)), some (.int (nI a)), some (.int (nI b)), none, none]) rfl ?_
  refine Vj_iconst (q := 1) (v := 1) dX10_isRest_0 rfl (by decide) ?_
  refine Vs_istore7 (q := 3) dX10_isRest_1 rfl (by decide) rfl ?_
  refine Vj_iconst (q := 4) (v := 0) dX10_isRest_3 rfl (by decide) ?_
  refine Vs_istore8 (q := 6) dX10_isRest_4 rfl (by decide) rfl ?_
  exact qX10_isRest_loop hP hTa hNw hc ht hv4 hu hw4 ha hb (rB ρ + 1) 0 (by omega)
set_option maxRecDepth 100000 in
theorem qX10_rests_b {tx : List Nat} {ρ : Rm} {c d p : Nat} {ac : List (Nat × Nat × Nat)} {sl : Nat → Option (Nat × Nat × Nat)} {se : List (Nat × Nat × Nat)} {sd : Int64} {N : Nat} {σ : Mem} (h : RM tx ρ c d p ac sl se sd σ) (hv : okV N ρ c d p ac sl se) {t v u w : Nat} (ht : t < rN ρ) (hvs : v < rS ρ t) (hu : u < rN ρ) (hws : w < rS ρ u) {what : Int32} {a : Nat} (ha : a ≤ rB ρ) (kk : Vj shM 3 mX10_rests (PM (spRests ρ c (nI t) (nI v) (nI u) (nI w) what) tx ρ c d p ac sl se sd) 145 [some (.ref 0), some (.int (nI t)), some (.int (nI v)), some (.int (nI u)), some (.int (nI w)), some (.int what), some (.int (nI (rsO ρ c t v u w (a + 1)).1)), some (.int (rsO ρ c t v u w (a + 1)).2), some (.int (nI a)), some (.int (nI (rB ρ + 1)))] [] σ) : ∀ n b : Nat, b + n = rB ρ + 1 → Vj shM 3 mX10_rests (PM (spRests ρ c (nI t) (nI v) (nI u) (nI w) what) tx ρ c d p ac sl se sd) 91 [some (.ref 0), some (.int (nI t)), some (.int (nI v)), some (.int (nI u)), some (.int (nI w)), some (.int what), some (.int (nI (rsI ρ c t v u w a b (rsO ρ c t v u w a)).1)), some (.int (rsI ρ c t v u w a b (rsO ρ c t v u w a)).2), some (.int (nI a)), some (.int (nI b))] [] σ := by
  intro n
  obtain ⟨hr, hc, hd, hp, hN30, ⟨hal, hav⟩, hsv, hse⟩ := hv
  obtain ⟨hTx, hP, hTa, hNw, hAc, hSl, hSe, hSd⟩ := h
  have hM := mN_le hr
  have hcM := cm_lt hr hc
  have hdM := cm_lt hr hd
  have hn5 := hr.1
  have hB7 := hr.2.2.1
  have h : RM tx ρ c d p ac sl se sd σ := ⟨hTx, hP, hTa, hNw, hAc, hSl, hSe, hSd⟩
  have hv4 : v < 4 := by have := (hr.2.1 t ht).2; omega
  have hw4 : w < 4 := by have := (hr.2.1 u hu).2; omega
  induction n with
  | zero =>
    intro b hb
    obtain rfl : b = rB ρ + 1 := by omega
    refine Vj_iload (q := 93) dX10_rests_91 rfl rfl ?_
    refine Vj_aloadn (q := 94) dX10_rests_93 rfl rfl rfl ?_
    refine Vj_getI (q := 97) flX10_114 rfl rfl dX10_rests_94 rfl ?_
    rw [hP.2.2.1]
    refine Vj_icmp_gt (q := 100) (tgt := 145) dX10_rests_97 (by decide) rfl (fun _ => ?_) (fun hz => absurd (nI_lt (by omega) (by omega)) hz)
    exact kk
  | succ n ih =>
    intro b hb
    have hle := rsI_le (ρ := ρ) (c := c) (t := t) (v := v) (u := u) (w := w) (a := a) b (rsO ρ c t v u w a)
    have hle2 := rsO_le (ρ := ρ) (c := c) (t := t) (v := v) (u := u) (w := w) a
    have hle3 : a * (rB ρ + 1) ≤ 6 * 7 := Nat.mul_le_mul (by omega) (by omega)
    refine Vj_iload (q := 93) dX10_rests_91 rfl rfl ?_
    refine Vj_aloadn (q := 94) dX10_rests_93 rfl rfl rfl ?_
    refine Vj_getI (q := 97) flX10_114 rfl rfl dX10_rests_94 rfl ?_
    rw [hP.2.2.1]
    refine Vj_icmp_gt (q := 100) (tgt := 145) dX10_rests_97 (by decide) rfl (fun hz => absurd hz (Int32.not_lt.mpr (nI_le (by omega) (by omega)))) (fun _ => ?_)
    refine Vj_aloadn (q := 101) dX10_rests_100 rfl rfl rfl ?_
    refine Vj_iloadn (q := 102) dX10_rests_101 rfl rfl rfl ?_
    refine Vj_iloadn (q := 103) dX10_rests_102 rfl rfl rfl ?_
    refine Vj_iloadn (q := 104) dX10_rests_103 rfl rfl rfl ?_
    refine Vj_iload (q := 106) dX10_rests_104 rfl rfl ?_
    refine Vj_iload (q := 108) dX10_rests_106 rfl rfl ?_
    refine Vj_iload (q := 110) dX10_rests_108 rfl rfl ?_
    refine Vj_callVi (q := 113) (qX10_isRest hP hTa hNw hc (a := a) (b := b) ht hv4 hu hw4 ha (by omega)) (by decide) rfl rfl lkX10_217 viX10_isRest okX10_isRest dX10_rests_110 rfl rfl (Nat.le_of_ble_eq_true rfl) ?_
    refine Vj_if_eq (q := 116) (tgt := 139) dX10_rests_113 (by decide) rfl (fun h113 => ?_) (fun h113 => ?_)
    ·
      refine Vs_iinc9 (q := 142) (z := none) dX10_rests_139 rfl (by exact iinc_p _) (by decide) rfl ?_
      refine Vj_goto (q := 91) dX10_rests_142 (by decide) ?_
      rw [nI_1]
      have ih := ih (b + 1) (by omega)
      rw [rsI, if_neg (by rw [bI_f0 h113]; decide)] at ih
      exact ih
    ·
      refine Vj_iload (q := 118) dX10_rests_116 rfl rfl ?_
      refine Vj_if_ne (q := 121) (tgt := 132) dX10_rests_118 (by decide) rfl (fun h118 => ?_) (fun h118 => ?_)
      ·
        refine Vj_iload (q := 134) dX10_rests_132 rfl rfl ?_
        refine Vs_istore7 (q := 136) dX10_rests_134 rfl (by decide) rfl ?_
        refine Vs_iinc6 (q := 139) (z := none) dX10_rests_136 rfl (by exact iinc_p _) (by decide) rfl ?_
        refine Vs_iinc9 (q := 142) (z := none) dX10_rests_139 rfl (by exact iinc_p _) (by decide) rfl ?_
        refine Vj_goto (q := 91) dX10_rests_142 (by decide) ?_
        rw [nI_1, nI_1]
        have ih := ih (b + 1) (by omega)
        rw [rsI, if_pos (bI_n.mp h113)] at ih
        simp only [] at ih
        rw [if_neg (fun z => h118 (by rw [z]; rfl))] at ih
        exact ih
      ·
        refine Vj_bipush (q := 123) (v := 10) dX10_rests_121 rfl (by decide) ?_
        refine Vj_iload (q := 125) dX10_rests_123 rfl rfl ?_
        refine Vj_imul (q := 126) dX10_rests_125 rfl ?_
        refine Vj_iload (q := 128) dX10_rests_126 rfl rfl ?_
        refine Vj_iadd (q := 129) dX10_rests_128 rfl ?_
        rw [show (10 : Int32) * nI a + nI b = nI (10 * a + b) by rw [show (10 : Int32) = nI 10 from rfl, nI_mul, nI_add]]
        refine Vj_goto (q := 134) dX10_rests_129 (by decide) ?_
        refine Vs_istore7 (q := 136) dX10_rests_134 rfl (by decide) rfl ?_
        refine Vs_iinc6 (q := 139) (z := none) dX10_rests_136 rfl (by exact iinc_p _) (by decide) rfl ?_
        refine Vs_iinc9 (q := 142) (z := none) dX10_rests_139 rfl (by exact iinc_p _) (by decide) rfl ?_
        refine Vj_goto (q := 91) dX10_rests_142 (by decide) ?_
        rw [nI_1, nI_1]
        have ih := ih (b + 1) (by omega)
        rw [rsI, if_pos (bI_n.mp h113)] at ih
        simp only [] at ih
        rw [if_pos ((nI_z (by omega)).mp h118)] at ih
        exact ih
set_option maxRecDepth 100000 in
theorem qX10_rests_a {tx : List Nat} {ρ : Rm} {c d p : Nat} {ac : List (Nat × Nat × Nat)} {sl : Nat → Option (Nat × Nat × Nat)} {se : List (Nat × Nat × Nat)} {sd : Int64} {N : Nat} {σ : Mem} (h : RM tx ρ c d p ac sl se sd σ) (hv : okV N ρ c d p ac sl se) {t v u w : Nat} (ht : t < rN ρ) (hvs : v < rS ρ t) (hu : u < rN ρ) (hws : w < rS ρ u) {what : Int32} (hwn : ¬ (what < 0 ∨ 1 < what)) : ∀ (n a : Nat) (z9 : Option Value), a + n = rB ρ + 1 → Vj shM 3 mX10_rests (PM (spRests ρ c (nI t) (nI v) (nI u) (nI w) what) tx ρ c d p ac sl se sd) 79 [some (.ref 0), some (.int (nI t)), some (.int (nI v)), some (.int (nI u)), some (.int (nI w)), some (.int what), some (.int (nI (rsO ρ c t v u w a).1)), some (.int (rsO ρ c t v u w a).2), some (.int (nI a)), z9] [] σ := by
  intro n
  obtain ⟨hr, hc, hd, hp, hN30, ⟨hal, hav⟩, hsv, hse⟩ := hv
  obtain ⟨hTx, hP, hTa, hNw, hAc, hSl, hSe, hSd⟩ := h
  have hM := mN_le hr
  have hcM := cm_lt hr hc
  have hdM := cm_lt hr hd
  have hn5 := hr.1
  have hB7 := hr.2.2.1
  have h : RM tx ρ c d p ac sl se sd σ := ⟨hTx, hP, hTa, hNw, hAc, hSl, hSe, hSd⟩
  have hv4 : v < 4 := by have := (hr.2.1 t ht).2; omega
  have hw4 : w < 4 := by have := (hr.2.1 u hu).2; omega
  induction n with
  | zero =>
    intro a z9 ha
    obtain rfl : a = rB ρ + 1 := by omega
    have esp : spRests ρ c (nI t) (nI v) (nI u) (nI w) what = if what = 0 then nI (rsO ρ c t v u w (rB ρ + 1)).1 else (rsO ρ c t v u w (rB ρ + 1)).2 := by
      unfold spRests
      have g1 : hT (rN ρ) (nI t) = true := (hT_iff (by omega)).mpr ⟨t, ht, rfl⟩
      have g2 : hT (rN ρ) (nI u) = true := (hT_iff (by omega)).mpr ⟨u, hu, rfl⟩
      have s1 := (hr.2.1 t ht).2
      have s2 := (hr.2.1 u hu).2
      have g3 : hT (rS ρ t) (nI v) = true := (hT_iff (by omega)).mpr ⟨v, hvs, rfl⟩
      have g4 : hT (rS ρ u) (nI w) = true := (hT_iff (by omega)).mpr ⟨w, hws, rfl⟩
      rw [nI_clamp (show t < 2 ^ 31 by omega), nI_clamp (show u < 2 ^ 31 by omega), nI_clamp (show v < 2 ^ 31 by omega), nI_clamp (show w < 2 ^ 31 by omega), g1, g2, g3, g4]
      rw [if_neg (by decide), if_neg]
      rintro (z | z | z)
      · cases z
      · cases z
      · exact hwn z
    rw [esp]
    refine Vj_iload (q := 81) dX10_rests_79 rfl rfl ?_
    refine Vj_aloadn (q := 82) dX10_rests_81 rfl rfl rfl ?_
    refine Vj_getI (q := 85) flX10_114 rfl rfl dX10_rests_82 rfl ?_
    rw [hP.2.2.1]
    refine Vj_icmp_gt (q := 88) (tgt := 151) dX10_rests_85 (by decide) rfl (fun _ => ?_) (fun hz => absurd (nI_lt (by omega) (by omega)) hz)
    refine Vj_iload (q := 153) dX10_rests_151 rfl rfl ?_
    refine Vj_if_ne (q := 156) (tgt := 161) dX10_rests_153 (by decide) rfl (fun h153 => ?_) (fun h153 => ?_)
    ·
      refine Vj_iload (q := 163) dX10_rests_161 rfl rfl ?_
      exact Vr_iret rfl rfl dX10_rests_163 (⟨by rw [if_neg h153], h⟩)
    ·
      refine Vj_iload (q := 158) dX10_rests_156 rfl rfl ?_
      refine Vj_goto (q := 163) dX10_rests_158 (by decide) ?_
      exact Vr_iret rfl rfl dX10_rests_163 (⟨by rw [if_pos h153], h⟩)
  | succ n ih =>
    intro a z9 ha
    refine Vj_iload (q := 81) dX10_rests_79 rfl rfl ?_
    refine Vj_aloadn (q := 82) dX10_rests_81 rfl rfl rfl ?_
    refine Vj_getI (q := 85) flX10_114 rfl rfl dX10_rests_82 rfl ?_
    rw [hP.2.2.1]
    refine Vj_icmp_gt (q := 88) (tgt := 151) dX10_rests_85 (by decide) rfl (fun hz => absurd hz (Int32.not_lt.mpr (nI_le (by omega) (by omega)))) (fun _ => ?_)
    refine Vj_iconst (q := 89) (v := 0) dX10_rests_88 rfl (by decide) ?_
    refine Vs_istore9 (q := 91) dX10_rests_89 rfl (by decide) rfl ?_
    refine qX10_rests_b h ⟨hr, hc, hd, hp, hN30, ⟨hal, hav⟩, hsv, hse⟩ ht hvs hu hws (a := a) (by omega) ?_ (rB ρ + 1) 0 (by omega)
    refine Vs_iinc8 (q := 148) (z := none) dX10_rests_145 rfl (by exact iinc_p _) (by decide) rfl ?_
    refine Vj_goto (q := 79) dX10_rests_148 (by decide) ?_
    rw [nI_1]
    exact ih (a + 1) _ (by omega)
set_option maxRecDepth 100000 in
theorem qX10_rests {tx : List Nat} {ρ : Rm} {c d p : Nat} {ac : List (Nat × Nat × Nat)} {sl : Nat → Option (Nat × Nat × Nat)} {se : List (Nat × Nat × Nat)} {sd : Int64} {N : Nat} {σ : Mem} (h : RM tx ρ c d p ac sl se sd σ) (hv : okV N ρ c d p ac sl se) (t v u w what : Int32) : Ct shM 3 mX10_rests [.ref 0, .int t, .int v, .int u, .int w, .int what] σ (PM (spRests ρ c t v u w what) tx ρ c d p ac sl se sd) := by
  obtain ⟨hr, hc, hd, hp, hN30, ⟨hal, hav⟩, hsv, hse⟩ := hv
  obtain ⟨hTx, hP, hTa, hNw, hAc, hSl, hSe, hSd⟩ := h
  have hM := mN_le hr
  have hcM := cm_lt hr hc
  have hdM := cm_lt hr hd
  have hn5 := hr.1
  have hB7 := hr.2.2.1
  have h : RM tx ρ c d p ac sl se sd σ := ⟨hTx, hP, hTa, hNw, hAc, hSl, hSe, hSd⟩
  refine Ct.of (by decide) (Nat.le_of_ble_eq_true rfl) (l := [some (.ref 0), some (.int t), some (.int v), some (.int u), some (.int w), some (.int what), none, none, none, none]) rfl ?_
  refine Vj_aloadn (q := 1) dX10_rests_0 rfl rfl rfl ?_
  refine Vj_iloadn (q := 2) dX10_rests_1 rfl rfl rfl ?_
  refine Vj_callVi (q := 5) (qX10_isThing hP _) (by decide) rfl rfl lkX10_143 viX10_isThing okX10_isThing dX10_rests_2 rfl rfl (Nat.le_of_ble_eq_true rfl) ?_
  refine Vj_if_eq (q := 8) (tgt := 16) dX10_rests_5 (by decide) rfl (fun h5 => ?_) (fun h5 => ?_)
  ·
    refine Vj_iconst (q := 17) (v := (-1)) dX10_rests_16 rfl (by decide) ?_
    exact Vr_iret rfl rfl dX10_rests_17 (⟨by unfold spRests; rw [if_pos (Or.inl (bI_f0 h5))], h⟩)
  ·
    have h5b := bI_n.mp h5
    refine Vj_aloadn (q := 9) dX10_rests_8 rfl rfl rfl ?_
    refine Vj_iloadn (q := 10) dX10_rests_9 rfl rfl rfl ?_
    refine Vj_callVi (q := 13) (qX10_isThing hP _) (by decide) rfl rfl lkX10_143 viX10_isThing okX10_isThing dX10_rests_10 rfl rfl (Nat.le_of_ble_eq_true rfl) ?_
    refine Vj_if_ne (q := 16) (tgt := 18) dX10_rests_13 (by decide) rfl (fun h13 => ?_) (fun h13 => ?_)
    ·
      have h13b := bI_n.mp h13
      obtain ⟨tj, ht, rfl, etc⟩ := hT_x (by omega) h5b
      obtain ⟨uj, hu, rfl, euc⟩ := hT_x (by omega) h13b
      have s1 := hr.2.1 tj ht
      have s2 := hr.2.1 uj hu
      refine Vj_iloadn (q := 19) dX10_rests_18 rfl rfl rfl ?_
      refine Vj_i2l (q := 20) dX10_rests_19 rfl ?_
      refine Vj_lconst (q := 21) (v := 0) dX10_rests_20 rfl (by decide) ?_
      refine Vj_aloadn (q := 22) dX10_rests_21 rfl rfl rfl ?_
      refine Vj_getR (q := 25) flX10_7 rfl rfl dX10_rests_22 rfl ?_
      refine Vj_iloadn (q := 26) dX10_rests_25 rfl rfl rfl ?_
      refine Vj_iald (q := 27) rfl (vp_in_nI (by omega) (by decide)) dX10_rests_26 rfl ?_
      rw [nI_clamp (by omega), (hP.2.2.2.2.1 tj ht).1]
      refine Vj_iconst (q := 28) (v := 1) dX10_rests_27 rfl (by decide) ?_
      refine Vj_isub (q := 29) dX10_rests_28 rfl ?_
      refine Vj_i2l (q := 30) dX10_rests_29 rfl ?_
      refine Vj_callSi (q := 33) (qX10_in _ _ _) (by decide) lkX10_74 stX10_in okX10_in dX10_rests_30 rfl rfl (Nat.le_of_ble_eq_true rfl) ?_
      rw [in_i (a := 0) (b := ((rS ρ tj : Nat) : Int) - 1) rfl (i_m1 _ (by omega)), iB_hT (by omega)]
      refine Vj_if_eq (q := 36) (tgt := 66) dX10_rests_33 (by decide) rfl (fun h33 => ?_) (fun h33 => ?_)
      ·
        refine Vj_bipush (q := 68) (v := (-2)) dX10_rests_66 rfl (by decide) ?_
        refine Vr_iret rfl rfl dX10_rests_68 ?_
        refine ⟨?_, h⟩
        have hbad : hT (rS ρ (nI tj).toNatClampNeg) v = false ∨ hT (rS ρ (nI uj).toNatClampNeg) w = false ∨ what < 0 ∨ 1 < what := Or.inl (by rw [etc]; exact bI_f0 h33)
        unfold spRests
        rw [h5b, h13b, if_neg (by decide), if_pos hbad]
      ·
        have h33b := bI_n.mp h33
        refine Vj_iload (q := 38) dX10_rests_36 rfl rfl ?_
        refine Vj_i2l (q := 39) dX10_rests_38 rfl ?_
        refine Vj_lconst (q := 40) (v := 0) dX10_rests_39 rfl (by decide) ?_
        refine Vj_aloadn (q := 41) dX10_rests_40 rfl rfl rfl ?_
        refine Vj_getR (q := 44) flX10_7 rfl rfl dX10_rests_41 rfl ?_
        refine Vj_iloadn (q := 45) dX10_rests_44 rfl rfl rfl ?_
        refine Vj_iald (q := 46) rfl (vp_in_nI (by omega) (by decide)) dX10_rests_45 rfl ?_
        rw [nI_clamp (by omega), (hP.2.2.2.2.1 uj hu).1]
        refine Vj_iconst (q := 47) (v := 1) dX10_rests_46 rfl (by decide) ?_
        refine Vj_isub (q := 48) dX10_rests_47 rfl ?_
        refine Vj_i2l (q := 49) dX10_rests_48 rfl ?_
        refine Vj_callSi (q := 52) (qX10_in _ _ _) (by decide) lkX10_74 stX10_in okX10_in dX10_rests_49 rfl rfl (Nat.le_of_ble_eq_true rfl) ?_
        rw [in_i (a := 0) (b := ((rS ρ uj : Nat) : Int) - 1) rfl (i_m1 _ (by omega)), iB_hT (by omega)]
        refine Vj_if_eq (q := 55) (tgt := 66) dX10_rests_52 (by decide) rfl (fun h52 => ?_) (fun h52 => ?_)
        ·
          refine Vj_bipush (q := 68) (v := (-2)) dX10_rests_66 rfl (by decide) ?_
          refine Vr_iret rfl rfl dX10_rests_68 ?_
          refine ⟨?_, h⟩
          have hbad : hT (rS ρ (nI tj).toNatClampNeg) v = false ∨ hT (rS ρ (nI uj).toNatClampNeg) w = false ∨ what < 0 ∨ 1 < what := Or.inr (Or.inl (by rw [euc]; exact bI_f0 h52))
          unfold spRests
          rw [h5b, h13b, if_neg (by decide), if_pos hbad]
        ·
          have h52b := bI_n.mp h52
          refine Vj_iload (q := 57) dX10_rests_55 rfl rfl ?_
          refine Vj_i2l (q := 58) dX10_rests_57 rfl ?_
          refine Vj_lconst (q := 59) (v := 0) dX10_rests_58 rfl (by decide) ?_
          refine Vj_lconst (q := 60) (v := 1) dX10_rests_59 rfl (by decide) ?_
          refine Vj_callSi (q := 63) (qX10_in _ _ _) (by decide) lkX10_74 stX10_in okX10_in dX10_rests_60 rfl rfl (Nat.le_of_ble_eq_true rfl) ?_
          rw [in_i (a := ((0 : Nat) : Int)) (b := ((1 : Nat) : Int)) rfl rfl]
          refine Vj_if_ne (q := 66) (tgt := 69) dX10_rests_63 (by decide) rfl (fun h63 => ?_) (fun h63 => ?_)
          ·
            have h63b := bI_n.mp h63
            obtain ⟨vj, hvs, rfl, -⟩ := hT_x (by omega) h33b
            obtain ⟨wj, hws, rfl, -⟩ := hT_x (by omega) h52b
            have hwn : ¬ (what < 0 ∨ 1 < what) := (iB_t (x := what) (a := 0) (b := 1) (by decide) (by decide)).mp h63b
            refine Vj_iconst (q := 70) (v := 0) dX10_rests_69 rfl (by decide) ?_
            refine Vs_istore6 (q := 72) dX10_rests_70 rfl (by decide) rfl ?_
            refine Vj_bipush (q := 74) (v := (-9)) dX10_rests_72 rfl (by decide) ?_
            refine Vs_istore7 (q := 76) dX10_rests_74 rfl (by decide) rfl ?_
            refine Vj_iconst (q := 77) (v := 0) dX10_rests_76 rfl (by decide) ?_
            refine Vs_istore8 (q := 79) dX10_rests_77 rfl (by decide) rfl ?_
            exact qX10_rests_a h ⟨hr, hc, hd, hp, hN30, ⟨hal, hav⟩, hsv, hse⟩ ht hvs hu hws hwn (rB ρ + 1) 0 none (by omega)
          ·
            refine Vj_bipush (q := 68) (v := (-2)) dX10_rests_66 rfl (by decide) ?_
            refine Vr_iret rfl rfl dX10_rests_68 ?_
            refine ⟨?_, h⟩
            have hbad : hT (rS ρ (nI tj).toNatClampNeg) v = false ∨ hT (rS ρ (nI uj).toNatClampNeg) w = false ∨ what < 0 ∨ 1 < what := Or.inr (Or.inr ((iB_f (x := what) (a := 0) (b := 1) (by decide) (by decide)).mp (bI_f0 h63)))
            unfold spRests
            rw [h5b, h13b, if_neg (by decide), if_pos hbad]
    ·
      refine Vj_iconst (q := 17) (v := (-1)) dX10_rests_16 rfl (by decide) ?_
      exact Vr_iret rfl rfl dX10_rests_17 (⟨by unfold spRests; rw [if_pos (Or.inr (bI_f0 h13))], h⟩)
