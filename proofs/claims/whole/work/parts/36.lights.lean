/-! the reference: may, tells -/
def mbK (ρ : Rm) (se : List (Nat × Nat × Nat)) (x : Nat) : Nat → Bool
  | 0 => true
  | k + 1 => mbK ρ se x k && (!lkS ρ (se.getD k (0, 0, 0)) || sFi ρ (se.getD k (0, 0, 0)) x)
def mb (ρ : Rm) (se : List (Nat × Nat × Nat)) (x : Nat) : Bool := mbK ρ se x se.length
theorem cdK_b {ρ : Rm} {se : List (Nat × Nat × Nat)} : ∀ K, cdK ρ se K = (rcs ρ (4 ^ rN ρ)).filter (fun c => mbK ρ se c K)
  | 0 => by
    rw [cdK]
    exact (List.filter_eq_self.mpr fun _ _ => rfl).symm
  | K + 1 => by
    rw [cdK, cdK_b K]
    cases e : lkS ρ (se.getD K (0, 0, 0)) with
    | true =>
      rw [if_pos rfl, List.filter_filter]
      refine List.filter_congr fun c _ => ?_
      rw [mbK, e, Bool.and_comm]; rfl
    | false =>
      rw [if_neg (by decide)]
      refine List.filter_congr fun c _ => ?_
      rw [mbK, e]
      cases mbK ρ se c K <;> rfl
theorem fl_len {p : Nat → Bool} {f : Nat → Nat} {n : Nat} : (((List.range n).map f).filter p).length = cntN (fun m => p (f m)) n := by
  rw [cntN_fl, List.filter_map, List.length_map]; rfl
theorem fl_at {p : Nat → Bool} {f : Nat → Nat} : ∀ n t, t < n → p (f t) = true → (((List.range n).map f).filter p).getD (cntN (fun m => p (f m)) t) 0 = f t ∧ cntN (fun m => p (f m)) t < (((List.range n).map f).filter p).length
  | 0, t, h, _ => absurd h (Nat.not_lt_zero t)
  | n + 1, t, h, hp => by
    rw [List.range_succ, List.map_append, List.filter_append, List.length_append]
    by_cases e : t = n
    · subst e
      have hl := fl_len (p := p) (f := f) (n := t)
      rw [List.getD, List.getElem?_append_right (by omega), hl, Nat.sub_self]
      simp only [List.map_cons, List.map_nil, List.filter_cons, hp, if_true, List.filter_nil]
      exact ⟨rfl, Nat.lt_succ_self _⟩
    · have ih := fl_at (p := p) (f := f) n t (by omega) hp
      rw [List.getD, List.getElem?_append_left ih.2]
      exact ⟨ih.1, by omega⟩
/-- the messes that may be, in their order -/
def ml (ρ : Rm) (se : List (Nat × Nat × Nat)) : List Nat := cdK ρ se se.length
def mT0 (ρ : Rm) (se : List (Nat × Nat × Nat)) (t : Nat) : Nat := cntN (fun m => mb ρ se (mc ρ m)) t
theorem ml_e {ρ : Rm} (hr : okR ρ) {se : List (Nat × Nat × Nat)} : ml ρ se = ((List.range (mN ρ)).map (mc ρ)).filter (mb ρ se) := by
  unfold ml
  rw [cdK_b, rcs_mc hr]; rfl
theorem ml_len {ρ : Rm} (hr : okR ρ) {se : List (Nat × Nat × Nat)} : (ml ρ se).length = mT0 ρ se (mN ρ) := by rw [ml_e hr]; exact fl_len
theorem ml_at {ρ : Rm} (hr : okR ρ) {se : List (Nat × Nat × Nat)} {t : Nat} (ht : t < mN ρ) (h : mb ρ se (mc ρ t) = true) : (ml ρ se).getD (mT0 ρ se t) 0 = mc ρ t ∧ mT0 ρ se t < (ml ρ se).length := by
  rw [ml_e hr]; exact fl_at (p := mb ρ se) (f := mc ρ) _ t ht h
theorem mT_y {ρ : Rm} {se : List (Nat × Nat × Nat)} {t : Nat} (h : mb ρ se (mc ρ t) = true) : mT0 ρ se (t + 1) = mT0 ρ se t + 1 := by unfold mT0; rw [cntN, h]; rfl
theorem mT_n {ρ : Rm} {se : List (Nat × Nat × Nat)} {t : Nat} (h : mb ρ se (mc ρ t) = false) : mT0 ρ se (t + 1) = mT0 ρ se t := by unfold mT0; rw [cntN, h]; rfl
theorem ml_V {ρ : Rm} {se : List (Nat × Nat × Nat)} {i : Nat} (h : i < (ml ρ se).length) : cV ρ ((ml ρ se).getD i 0) := cdK_mem _ (getD_mem h)
theorem mT_le {ρ : Rm} {se : List (Nat × Nat × Nat)} {t : Nat} : mT0 ρ se t ≤ t := cntN_le _ _
theorem mT_l {ρ : Rm} (hr : okR ρ) {se : List (Nat × Nat × Nat)} : ∀ k t, t + k = mN ρ → mT0 ρ se t ≤ (ml ρ se).length
  | 0, t, h => by rw [ml_len hr, show t = mN ρ by omega]; exact Nat.le_refl _
  | k + 1, t, h => by
    have := mT_l hr (se := se) k (t + 1) (by omega)
    cases e : mb ρ se (mc ρ t) with
    | true => rw [mT_y e] at this; omega
    | false => rw [mT_n e] at this; exact this

theorem p2_16 {n : Nat} (h : n < 5) : 2 ^ n ≤ 16 := (Nat.pow_le_pow_right (by decide) (by omega) : 2 ^ n ≤ 2 ^ 4)
theorem lk_f {ρ : Rm} {u : Nat × Nat × Nat} (h : rKk ρ u.1 u.2.1 u.1 = false) : lkS ρ u = false := by unfold lkS; rw [h]; rfl
set_option maxRecDepth 100000 in
theorem qX10_mayBe_loop {tx : List Nat} {ρ : Rm} {c d p : Nat} {ac : List (Nat × Nat × Nat)} {sl : Nat → Option (Nat × Nat × Nat)} {se : List (Nat × Nat × Nat)} {sd : Int64} {N : Nat} {σ : Mem} (h : RM tx ρ c d p ac sl se sd σ) (hv : okV N ρ c d p ac sl se) {x : Nat} (hx : cV ρ x) : ∀ (k t : Nat) (z4 z5 : Option Value), t + k = se.length → Vj shM 3 mX10_mayBe (Ri (bI (mb ρ se x)) σ) 4 [some (.ref 0), some (.int (nI (cm ρ x))), some (.int (bI (mbK ρ se x t))), some (.int (nI t)), z4, z5] [] σ := by
  intro k
  obtain ⟨hr, hc, hd, hp, hN30, ⟨hal, hav⟩, hsv, hse⟩ := hv
  obtain ⟨hTx, hP, hTa, hNw, hAc, hSl, hSe, hSd⟩ := h
  have hM := mN_le hr
  have hcM := cm_lt hr hc
  have hdM := cm_lt hr hd
  have hn5 := hr.1
  have hB7 := hr.2.2.1
  have h : RM tx ρ c d p ac sl se sd σ := ⟨hTx, hP, hTa, hNw, hAc, hSl, hSe, hSd⟩
  have hs7 := hse.1
  induction k with
  | zero =>
    intro t z4 z5 ht
    obtain rfl : t = se.length := by omega
    refine Vj_iloadn (q := 5) dX10_mayBe_4 rfl rfl rfl ?_
    refine Vj_aloadn (q := 6) dX10_mayBe_5 rfl rfl rfl ?_
    refine Vj_getI (q := 9) flX10_190 rfl rfl dX10_mayBe_6 rfl ?_
    rw [hSe.1]
    refine Vj_icmp_ge (q := 12) (tgt := 96) dX10_mayBe_9 (by decide) rfl (fun _ => ?_) (fun hz => absurd (nI_le (by omega) (by omega)) hz)
    refine Vj_iloadn (q := 97) dX10_mayBe_96 rfl rfl rfl ?_
    exact Vr_iret rfl (bI_nar _) dX10_mayBe_97 (⟨rfl, rfl⟩)
  | succ k ih =>
    intro t z4 z5 ht
    have hu := hse.2 t (by omega)
    have hS2 := hSe.2 t (by omega)
    generalize eu : se.getD t (0, 0, 0) = u at *
    have hu16 := hu.2.2
    refine Vj_iloadn (q := 5) dX10_mayBe_4 rfl rfl rfl ?_
    refine Vj_aloadn (q := 6) dX10_mayBe_5 rfl rfl rfl ?_
    refine Vj_getI (q := 9) flX10_190 rfl rfl dX10_mayBe_6 rfl ?_
    rw [hSe.1]
    refine Vj_icmp_ge (q := 12) (tgt := 96) dX10_mayBe_9 (by decide) rfl (fun hz => absurd hz (nI_ge (by omega) (by omega))) (fun _ => ?_)
    refine Vj_aloadn (q := 13) dX10_mayBe_12 rfl rfl rfl ?_
    refine Vj_iloadn (q := 14) dX10_mayBe_13 rfl rfl rfl ?_
    refine Vj_aloadn (q := 15) dX10_mayBe_14 rfl rfl rfl ?_
    refine Vj_getR (q := 18) flX10_46 rfl rfl dX10_mayBe_15 rfl ?_
    refine Vj_iloadn (q := 19) dX10_mayBe_18 rfl rfl rfl ?_
    refine Vj_iald (q := 20) rfl (vp_in_nI (by omega) (by decide)) dX10_mayBe_19 rfl ?_
    rw [nI_clamp (by omega), hS2.1]
    refine Vj_aloadn (q := 21) dX10_mayBe_20 rfl rfl rfl ?_
    refine Vj_getR (q := 24) flX10_49 rfl rfl dX10_mayBe_21 rfl ?_
    refine Vj_iloadn (q := 25) dX10_mayBe_24 rfl rfl rfl ?_
    refine Vj_iald (q := 26) rfl (vp_in_nI (by omega) (by decide)) dX10_mayBe_25 rfl ?_
    rw [nI_clamp (by omega), hS2.2.1]
    refine Vj_callVi (q := 29) (qX10_afterRow hP hTa (n := u.1) (r := u.2.1) (by omega) (by omega) hx) (by decide) rfl rfl lkX10_166 viX10_afterRow okX10_afterRow dX10_mayBe_26 rfl rfl (Nat.le_of_ble_eq_true rfl) ?_
    cases hk : rKk ρ u.1 u.2.1 u.1
    ·
      rw [if_neg (by decide)]
      have hlk := lk_f hk
      refine Vs_istore4 (q := 31) dX10_mayBe_29 rfl (by decide) rfl ?_
      refine Vj_iload (q := 33) dX10_mayBe_31 rfl rfl ?_
      refine Vj_bipush (q := 35) (v := (-9)) dX10_mayBe_33 rfl (by decide) ?_
      refine Vj_icmp_eq (q := 38) (tgt := 57) dX10_mayBe_35 (by decide) rfl (fun _ => ?_) (fun hz => absurd rfl hz)
      refine Vj_iconst (q := 58) (v := 0) dX10_mayBe_57 rfl (by decide) ?_
      refine Vs_istore5 (q := 60) dX10_mayBe_58 rfl (by decide) rfl ?_
      refine Vj_iloadn (q := 61) dX10_mayBe_60 rfl rfl rfl ?_
      refine Vj_if_eq (q := 64) (tgt := 88) dX10_mayBe_61 (by decide) rfl (fun h61 => ?_) (fun h61 => ?_)
      ·
        refine Vj_iconst (q := 89) (v := 0) dX10_mayBe_88 rfl (by decide) ?_
        refine Vs_istore2 (q := 90) dX10_mayBe_89 rfl (by decide) rfl ?_
        refine Vs_iinc3 (q := 93) (z := none) dX10_mayBe_90 rfl (by exact iinc_p _) (by decide) rfl ?_
        refine Vj_goto (q := 4) dX10_mayBe_93 (by decide) ?_
        rw [nI_1]
        have e : mbK ρ se x (t + 1) = false := by
          rw [mbK, bI_z.mp h61, Bool.false_and]
        have ih := ih (t + 1)
        rw [e] at ih
        exact ih _ _ (by omega)
      ·
        refine Vj_iload (q := 66) dX10_mayBe_64 rfl rfl ?_
        refine Vj_if_eq (q := 69) (tgt := 84) dX10_mayBe_66 (by decide) rfl (fun _ => ?_) (fun hz => absurd rfl hz)
        refine Vj_iconst (q := 85) (v := 1) dX10_mayBe_84 rfl (by decide) ?_
        refine Vj_goto (q := 89) dX10_mayBe_85 (by decide) ?_
        refine Vs_istore2 (q := 90) dX10_mayBe_89 rfl (by decide) rfl ?_
        refine Vs_iinc3 (q := 93) (z := none) dX10_mayBe_90 rfl (by exact iinc_p _) (by decide) rfl ?_
        refine Vj_goto (q := 4) dX10_mayBe_93 (by decide) ?_
        rw [nI_1]
        have e : mbK ρ se x (t + 1) = true := by
          rw [mbK, bI_n.mp h61, eu, hlk]; rfl
        have ih := ih (t + 1)
        rw [e] at ih
        exact ih _ _ (by omega)
    ·
      rw [if_pos rfl]
      have hcc := rGo_ok hr hx u.1 hk
      refine Vs_istore4 (q := 31) dX10_mayBe_29 rfl (by decide) rfl ?_
      refine Vj_iload (q := 33) dX10_mayBe_31 rfl rfl ?_
      refine Vj_bipush (q := 35) (v := (-9)) dX10_mayBe_33 rfl (by decide) ?_
      refine Vj_icmp_eq (q := 38) (tgt := 57) dX10_mayBe_35 (by decide) rfl (fun hz => absurd hz (oM_ne hr hcc)) (fun _ => ?_)
      refine Vj_aloadn (q := 39) dX10_mayBe_38 rfl rfl rfl ?_
      refine Vj_getR (q := 42) flX10_52 rfl rfl dX10_mayBe_39 rfl ?_
      refine Vj_iloadn (q := 43) dX10_mayBe_42 rfl rfl rfl ?_
      refine Vj_iald (q := 44) rfl (vp_in_nI (by omega) (by decide)) dX10_mayBe_43 rfl ?_
      rw [nI_clamp (by omega), hS2.2.2]
      refine Vj_iconst (q := 45) (v := 1) dX10_mayBe_44 rfl (by decide) ?_
      refine Vj_aloadn (q := 46) dX10_mayBe_45 rfl rfl rfl ?_
      refine Vj_getI (q := 49) flX10_111 rfl rfl dX10_mayBe_46 rfl ?_
      rw [hP.2.1]
      refine Vj_ishl (q := 50) dX10_mayBe_49 rfl ?_
      rw [i_p2 _ hn5]
      refine Vj_icmp_ge (q := 53) (tgt := 57) dX10_mayBe_50 (by decide) rfl (fun h50 => ?_) (fun h50 => ?_)
      ·
        refine Vj_iconst (q := 58) (v := 0) dX10_mayBe_57 rfl (by decide) ?_
        refine Vs_istore5 (q := 60) dX10_mayBe_58 rfl (by decide) rfl ?_
        refine Vj_iloadn (q := 61) dX10_mayBe_60 rfl rfl rfl ?_
        refine Vj_if_eq (q := 64) (tgt := 88) dX10_mayBe_61 (by decide) rfl (fun h61 => ?_) (fun h61 => ?_)
        ·
          refine Vj_iconst (q := 89) (v := 0) dX10_mayBe_88 rfl (by decide) ?_
          refine Vs_istore2 (q := 90) dX10_mayBe_89 rfl (by decide) rfl ?_
          refine Vs_iinc3 (q := 93) (z := none) dX10_mayBe_90 rfl (by exact iinc_p _) (by decide) rfl ?_
          refine Vj_goto (q := 4) dX10_mayBe_93 (by decide) ?_
          rw [nI_1]
          have e : mbK ρ se x (t + 1) = false := by
            rw [mbK, bI_z.mp h61, Bool.false_and]
          have ih := ih (t + 1)
          rw [e] at ih
          exact ih _ _ (by omega)
        ·
          refine Vj_iload (q := 66) dX10_mayBe_64 rfl rfl ?_
          refine Vj_if_eq (q := 69) (tgt := 84) dX10_mayBe_66 (by decide) rfl (fun _ => ?_) (fun hz => absurd rfl hz)
          refine Vj_iconst (q := 85) (v := 1) dX10_mayBe_84 rfl (by decide) ?_
          refine Vj_goto (q := 89) dX10_mayBe_85 (by decide) ?_
          refine Vs_istore2 (q := 90) dX10_mayBe_89 rfl (by decide) rfl ?_
          refine Vs_iinc3 (q := 93) (z := none) dX10_mayBe_90 rfl (by exact iinc_p _) (by decide) rfl ?_
          refine Vj_goto (q := 4) dX10_mayBe_93 (by decide) ?_
          rw [nI_1]
          have e : mbK ρ se x (t + 1) = true := by
            rw [mbK, bI_n.mp h61, eu, show lkS ρ u = false by unfold lkS; rw [decide_eq_false (Nat.not_lt.mpr ((nI_leI (by have := p2_16 hn5; omega) (by omega)).mp h50)), Bool.and_false]]; rfl
          have ih := ih (t + 1)
          rw [e] at ih
          exact ih _ _ (by omega)
      ·
        have hlt := Nat.not_le.mp fun z => h50 (nI_le z (by omega))
        have hlk : lkS ρ u = true := by unfold lkS; rw [hk, decide_eq_true hlt]; rfl
        refine Vj_iconst (q := 54) (v := 1) dX10_mayBe_53 rfl (by decide) ?_
        refine Vj_goto (q := 58) dX10_mayBe_54 (by decide) ?_
        refine Vs_istore5 (q := 60) dX10_mayBe_58 rfl (by decide) rfl ?_
        refine Vj_iloadn (q := 61) dX10_mayBe_60 rfl rfl rfl ?_
        refine Vj_if_eq (q := 64) (tgt := 88) dX10_mayBe_61 (by decide) rfl (fun h61 => ?_) (fun h61 => ?_)
        ·
          refine Vj_iconst (q := 89) (v := 0) dX10_mayBe_88 rfl (by decide) ?_
          refine Vs_istore2 (q := 90) dX10_mayBe_89 rfl (by decide) rfl ?_
          refine Vs_iinc3 (q := 93) (z := none) dX10_mayBe_90 rfl (by exact iinc_p _) (by decide) rfl ?_
          refine Vj_goto (q := 4) dX10_mayBe_93 (by decide) ?_
          rw [nI_1]
          have e : mbK ρ se x (t + 1) = false := by
            rw [mbK, bI_z.mp h61, Bool.false_and]
          have ih := ih (t + 1)
          rw [e] at ih
          exact ih _ _ (by omega)
        ·
          refine Vj_iload (q := 66) dX10_mayBe_64 rfl rfl ?_
          refine Vj_if_eq (q := 69) (tgt := 84) dX10_mayBe_66 (by decide) rfl (fun hz => absurd hz (by decide)) (fun _ => ?_)
          refine Vj_aloadn (q := 70) dX10_mayBe_69 rfl rfl rfl ?_
          refine Vj_iload (q := 72) dX10_mayBe_70 rfl rfl ?_
          refine Vj_callVi (q := 75) (qX10_lightsOf hP hcc) (by decide) rfl rfl lkX10_193 viX10_lightsOf okX10_lightsOf dX10_mayBe_72 rfl rfl (Nat.le_of_ble_eq_true rfl) ?_
          refine Vj_aloadn (q := 76) dX10_mayBe_75 rfl rfl rfl ?_
          refine Vj_getR (q := 79) flX10_52 rfl rfl dX10_mayBe_76 rfl ?_
          refine Vj_iloadn (q := 80) dX10_mayBe_79 rfl rfl rfl ?_
          refine Vj_iald (q := 81) rfl (vp_in_nI (by omega) (by decide)) dX10_mayBe_80 rfl ?_
          rw [nI_clamp (by omega), hS2.2.2]
          refine Vj_icmp_ne (q := 84) (tgt := 88) dX10_mayBe_81 (by decide) rfl (fun h81 => ?_) (fun h81 => ?_)
          ·
            refine Vj_iconst (q := 89) (v := 0) dX10_mayBe_88 rfl (by decide) ?_
            refine Vs_istore2 (q := 90) dX10_mayBe_89 rfl (by decide) rfl ?_
            refine Vs_iinc3 (q := 93) (z := none) dX10_mayBe_90 rfl (by exact iinc_p _) (by decide) rfl ?_
            refine Vj_goto (q := 4) dX10_mayBe_93 (by decide) ?_
            rw [nI_1]
            have e : mbK ρ se x (t + 1) = false := by
              rw [mbK, eu, hlk, show sFi ρ u x = false from beq_eq_false_iff_ne.mpr fun z => h81 (by rw [z])]
              exact Bool.and_false _
            have ih := ih (t + 1)
            rw [e] at ih
            exact ih _ _ (by omega)
          ·
            refine Vj_iconst (q := 85) (v := 1) dX10_mayBe_84 rfl (by decide) ?_
            refine Vj_goto (q := 89) dX10_mayBe_85 (by decide) ?_
            refine Vs_istore2 (q := 90) dX10_mayBe_89 rfl (by decide) rfl ?_
            refine Vs_iinc3 (q := 93) (z := none) dX10_mayBe_90 rfl (by exact iinc_p _) (by decide) rfl ?_
            refine Vj_goto (q := 4) dX10_mayBe_93 (by decide) ?_
            rw [nI_1]
            have e : mbK ρ se x (t + 1) = true := by
              rw [mbK, bI_n.mp h61, eu, hlk, show sFi ρ u x = true from beq_iff_eq.mpr ((nI_eq (by have := li16 hr (rGo ρ u.1 u.2.1 x u.1); omega) (by omega)).mp h81)]; rfl
            have ih := ih (t + 1)
            rw [e] at ih
            exact ih _ _ (by omega)
set_option maxRecDepth 100000 in
theorem qX10_mayBe {tx : List Nat} {ρ : Rm} {c d p : Nat} {ac : List (Nat × Nat × Nat)} {sl : Nat → Option (Nat × Nat × Nat)} {se : List (Nat × Nat × Nat)} {sd : Int64} {N : Nat} {σ : Mem} (h : RM tx ρ c d p ac sl se sd σ) (hv : okV N ρ c d p ac sl se) {x : Nat} (hx : cV ρ x) : Ct shM 3 mX10_mayBe [.ref 0, .int (nI (cm ρ x))] σ (Ri (bI (mb ρ se x)) σ) := by
  refine Ct.of (by decide) (Nat.le_of_ble_eq_true rfl) (l := [some (.ref 0), some (.int (nI (cm ρ x))), none, none, none, none]) rfl ?_
  refine Vj_iconst (q := 1) (v := 1) dX10_mayBe_0 rfl (by decide) ?_
  refine Vs_istore2 (q := 2) dX10_mayBe_1 rfl (by decide) rfl ?_
  refine Vj_iconst (q := 3) (v := 0) dX10_mayBe_2 rfl (by decide) ?_
  refine Vs_istore3 (q := 4) dX10_mayBe_3 rfl (by decide) rfl ?_
  exact qX10_mayBe_loop h hv hx se.length 0 none none (by omega)
theorem cS_or {n a b t : Nat} : cS n (a ||| b) t = 0 ↔ cS n a t = 0 ∧ cS n b t = 0 := by
  have h1 := cS_lt n a t
  have h2 := cS_lt n b t
  have e : cS n (a ||| b) t = cS n a t ||| cS n b t := by
    unfold cS
    rw [show 4 ^ (n - 1 - t) = 2 ^ (2 * (n - 1 - t)) by rw [Nat.pow_mul], ← Nat.shiftRight_eq_div_pow, ← Nat.shiftRight_eq_div_pow, ← Nat.shiftRight_eq_div_pow, Nat.shiftRight_or_distrib, show (4 : Nat) = 2 ^ 2 from rfl, Nat.or_mod_two_pow]
  rw [e]
  generalize cS n a t = x at *
  generalize cS n b t = y at *
  exact (by decide : ∀ x, x < 4 → ∀ y, y < 4 → ((x ||| y) = 0 ↔ x = 0 ∧ y = 0)) x h1 y h2
theorem cS_xor {n a b t : Nat} : cS n (a ^^^ b) t = 0 ↔ cS n a t = cS n b t := by
  have h1 := cS_lt n a t
  have h2 := cS_lt n b t
  have e : cS n (a ^^^ b) t = cS n a t ^^^ cS n b t := by
    unfold cS
    rw [show 4 ^ (n - 1 - t) = 2 ^ (2 * (n - 1 - t)) by rw [Nat.pow_mul], ← Nat.shiftRight_eq_div_pow, ← Nat.shiftRight_eq_div_pow, ← Nat.shiftRight_eq_div_pow, Nat.shiftRight_xor_distrib, show (4 : Nat) = 2 ^ 2 from rfl, Nat.xor_mod_two_pow]
  rw [e]
  generalize cS n a t = x at *
  generalize cS n b t = y at *
  exact (by decide : ∀ x, x < 4 → ∀ y, y < 4 → ((x ^^^ y) = 0 ↔ x = y)) x h1 y h2
theorem oX_i {l : List Nat} {n t : Nat} : ∀ k, cS n (oX l k) t = 0 ↔ ∀ i, i < k → cS n (l.getD i 0) t = cS n (l.getD 0 0) t
  | 0 => ⟨fun _ i hi => absurd hi (Nat.not_lt_zero i), fun _ => cS_0⟩
  | k + 1 => by
    rw [oX]
    by_cases e : k = 0
    · subst e
      rw [if_pos rfl]
      exact ⟨fun _ i hi => by rw [show i = 0 by omega], fun _ => cS_0⟩
    · rw [if_neg e, cS_or, oX_i k, cS_xor]
      constructor
      · rintro ⟨h1, h2⟩ i hi
        by_cases ei : i = k
        · rw [ei]; exact h2
        · exact h1 i (by omega)
      · intro h; exact ⟨fun i hi => h i (by omega), h k (Nat.lt_succ_self k)⟩
theorem tB_t {n o s : Nat} : ∀ k, (tB n o k).testBit s = (decide (s < k) && (cS n o s == 0))
  | 0 => by rw [tB, decide_eq_false (Nat.not_lt_zero s)]; exact Nat.zero_testBit s
  | k + 1 => by
    have ih := tB_t (n := n) (o := o) (s := s) k
    rw [tB]
    by_cases e : cS n o k = 0
    · rw [if_pos e, Nat.testBit_or, ih, Nat.one_shiftLeft, Nat.testBit_two_pow]
      by_cases es : k = s
      · subst es; rw [decide_eq_true rfl, decide_eq_true (Nat.lt_succ_self k), e]; simp
      · rw [decide_eq_false es, Bool.or_false]
        congr 1
        exact decide_eq_decide.mpr (by omega)
    · rw [if_neg e, ih]
      by_cases es : k = s
      · subst es; rw [beq_eq_false_iff_ne.mpr e]; simp
      · congr 1
        exact decide_eq_decide.mpr (by omega)
theorem i_all : ∀ v, v < 16 → nI v &&& (-1) = nI v := by decide +kernel
theorem i_clr : ∀ v, v < 16 → ∀ j, j < 4 → nI v &&& (((1 : Int32) <<< (nI j &&& 31)) ^^^ (-1)) = nI (v &&& (15 - 2 ^ j)) ∧ (v &&& (15 - 2 ^ j)) < 16 ∧ ∀ t, t < 4 → (v &&& (15 - 2 ^ j)).testBit t = (v.testBit t && !Nat.beq t j) := by decide +kernel
theorem tb_eq : ∀ v, v < 16 → ∀ u, u < 16 → (∀ t, t < 4 → v.testBit t = u.testBit t) → v = u := by decide +kernel
theorem tb_all : ∀ n, n < 5 → 2 ^ n - 1 < 16 ∧ ∀ t, t < 4 → (2 ^ n - 1).testBit t = Nat.blt t n := by decide +kernel
/-- bits of what is alike among the first i -/
def alP (ρ : Rm) (l : List Nat) (i v : Nat) : Prop := v < 16 ∧ ∀ s, s < 4 → (v.testBit s = true ↔ s < rN ρ ∧ ∀ j, j < i → cS (rN ρ) (l.getD j 0) s = cS (rN ρ) (l.getD 0 0) s)
theorem al_end {ρ : Rm} (hr : okR ρ) {l : List Nat} {v : Nat} (h : alP ρ l l.length v) : v = tB (rN ρ) (oX l l.length) (rN ρ) := by
  refine tb_eq _ h.1 _ (Nat.lt_of_lt_of_le (tB_lt _) (Nat.pow_le_pow_right (by decide) (by have := hr.1; omega) : 2 ^ rN ρ ≤ 2 ^ 4)) fun t ht => Bool.eq_iff_iff.mpr ?_
  rw [h.2 t ht, tB_t, Bool.and_eq_true, decide_eq_true_iff, beq_iff_eq, oX_i]
theorem al_0 {ρ : Rm} (hr : okR ρ) {l : List Nat} : alP ρ l 0 (2 ^ rN ρ - 1) := by
  obtain ⟨h1, h2⟩ := tb_all _ hr.1
  refine ⟨h1, fun s hs => ?_⟩
  rw [h2 s hs, Nat.blt_eq]
  exact ⟨fun z => ⟨z, fun j hj => absurd hj (Nat.not_lt_zero j)⟩, fun z => z.1⟩

set_option maxRecDepth 100000 in
theorem qX10_may_t {ρ : Rm} {σ : Mem} (hP : RoM ρ σ) {what : Int32} {Post : Option Value → Mem → Prop} {x y n m v0 : Nat} (hm : nI m = nI (cm ρ x)) (hx : cV ρ x) (hy : cV ρ y) (kk : ∀ v, v < 16 → (∀ s, s < 4 → (v.testBit s = true ↔ v0.testBit s = true ∧ (s < rN ρ → cS (rN ρ) x s = cS (rN ρ) y s))) → ∀ z6, Vj shM 4 mX10_may Post 116 [some (.ref 0), some (.int what), some (.int (nI n)), some (.int (nI (cm ρ y))), some (.int (nI v)), some (.int (nI m)), z6] [] σ) :
    ∀ k t v : Nat, t + k = rN ρ → v < 16 → (∀ s, s < 4 → (v.testBit s = true ↔ v0.testBit s = true ∧ (s < t → cS (rN ρ) x s = cS (rN ρ) y s))) → Vj shM 4 mX10_may Post 68 [some (.ref 0), some (.int what), some (.int (nI n)), some (.int (nI (cm ρ y))), some (.int (nI v)), some (.int (nI m)), some (.int (nI t))] [] σ := by
  have hr := hP.1
  have hn5 := hr.1
  intro k
  induction k with
  | zero =>
    intro t v ht hv hI
    obtain rfl : t = rN ρ := by omega
    refine Vj_iload (q := 70) dX10_may_68 rfl rfl ?_
    refine Vj_aloadn (q := 71) dX10_may_70 rfl rfl rfl ?_
    refine Vj_getI (q := 74) flX10_111 rfl rfl dX10_may_71 rfl ?_
    rw [hP.2.1]
    refine Vj_icmp_ge (q := 77) (tgt := 116) dX10_may_74 (by decide) rfl (fun _ => ?_) (fun hz => absurd (nI_le (by omega) (by omega)) hz)
    exact kk v hv hI _
  | succ k ih =>
    intro t v ht hv hI
    have ht' : t < rN ρ := by omega
    have h1 := cS_lt (rN ρ) x t
    have h2 := cS_lt (rN ρ) y t
    obtain ⟨g1, g2, g3⟩ := i_clr v hv t (by omega)
    refine Vj_iload (q := 70) dX10_may_68 rfl rfl ?_
    refine Vj_aloadn (q := 71) dX10_may_70 rfl rfl rfl ?_
    refine Vj_getI (q := 74) flX10_111 rfl rfl dX10_may_71 rfl ?_
    rw [hP.2.1]
    refine Vj_icmp_ge (q := 77) (tgt := 116) dX10_may_74 (by decide) rfl (fun hz => absurd hz (nI_ge (by omega) (by omega))) (fun _ => ?_)
    refine Vj_iload (q := 79) dX10_may_77 rfl rfl ?_
    refine Vj_aloadn (q := 80) dX10_may_79 rfl rfl rfl ?_
    refine Vj_iload (q := 82) dX10_may_80 rfl rfl ?_
    refine Vj_top hm ?_
    refine Vj_iload (q := 84) dX10_may_82 rfl rfl ?_
    refine Vj_callVi (q := 87) (qX10_stateIn hP hx ht') (by decide) rfl rfl lkX10_133 viX10_stateIn okX10_stateIn dX10_may_84 rfl rfl (Nat.le_of_ble_eq_true rfl) ?_
    refine Vj_aloadn (q := 88) dX10_may_87 rfl rfl rfl ?_
    refine Vj_iloadn (q := 89) dX10_may_88 rfl rfl rfl ?_
    refine Vj_iload (q := 91) dX10_may_89 rfl rfl ?_
    refine Vj_callVi (q := 94) (qX10_stateIn hP hy ht') (by decide) rfl rfl lkX10_133 viX10_stateIn okX10_stateIn dX10_may_91 rfl rfl (Nat.le_of_ble_eq_true rfl) ?_
    refine Vj_icmp_ne (q := 97) (tgt := 101) dX10_may_94 (by decide) rfl (fun h94 => ?_) (fun h94 => ?_)
    ·
      refine Vj_iconst (q := 102) (v := 1) dX10_may_101 rfl (by decide) ?_
      refine Vj_iload (q := 104) dX10_may_102 rfl rfl ?_
      refine Vj_ishl (q := 105) dX10_may_104 rfl ?_
      refine Vj_iconst (q := 106) (v := (-1)) dX10_may_105 rfl (by decide) ?_
      refine Vj_ixor (q := 107) dX10_may_106 rfl ?_
      refine Vj_iand (q := 108) dX10_may_107 rfl ?_
      rw [g1]
      refine Vs_istore4 (q := 110) dX10_may_108 rfl (by decide) rfl ?_
      refine Vs_iinc6 (q := 113) (z := none) dX10_may_110 rfl (by exact iinc_p _) (by decide) rfl ?_
      refine Vj_goto (q := 68) dX10_may_113 (by decide) ?_
      rw [nI_1]
      refine ih (t + 1) _ (by omega) g2 fun s hs => ?_
      rw [g3 s hs, Bool.and_eq_true, hI s hs]
      by_cases e : s = t
      · subst e
        rw [show Nat.beq s s = true from Nat.beq_refl s]
        constructor
        · rintro ⟨-, z⟩; cases z
        · rintro ⟨-, z⟩; exact absurd (by rw [z (Nat.lt_succ_self s)]) h94
      · rw [show (!Nat.beq s t) = true by rw [show Nat.beq s t = false from Bool.eq_false_iff.mpr fun z => e (Nat.eq_of_beq_eq_true z)]; rfl]
        constructor
        · rintro ⟨⟨z1, z2⟩, -⟩; exact ⟨z1, fun hh => z2 (by omega)⟩
        · rintro ⟨z1, z2⟩; exact ⟨⟨z1, fun hh => z2 (by omega)⟩, rfl⟩
    ·
      refine Vj_iconst (q := 98) (v := (-1)) dX10_may_97 rfl (by decide) ?_
      refine Vj_goto (q := 107) dX10_may_98 (by decide) ?_
      refine Vj_iand (q := 108) dX10_may_107 rfl ?_
      rw [i_all v hv]
      refine Vs_istore4 (q := 110) dX10_may_108 rfl (by decide) rfl ?_
      refine Vs_iinc6 (q := 113) (z := none) dX10_may_110 rfl (by exact iinc_p _) (by decide) rfl ?_
      refine Vj_goto (q := 68) dX10_may_113 (by decide) ?_
      rw [nI_1]
      refine ih (t + 1) v (by omega) hv fun s hs => ?_
      rw [hI s hs]
      have e0 := (nI_eq (by omega) (by omega)).mp h94
      constructor
      · rintro ⟨z1, z2⟩
        refine ⟨z1, fun hh => ?_⟩
        by_cases e : s = t
        · rw [e]; exact e0
        · exact z2 (by omega)
      · rintro ⟨z1, z2⟩; exact ⟨z1, fun hh => z2 (by omega)⟩
set_option maxRecDepth 100000 in
theorem qX10_may_loop {tx : List Nat} {ρ : Rm} {c d p : Nat} {ac : List (Nat × Nat × Nat)} {sl : Nat → Option (Nat × Nat × Nat)} {se : List (Nat × Nat × Nat)} {sd : Int64} {N : Nat} {σ : Mem} (h : RM tx ρ c d p ac sl se sd σ) (hv : okV N ρ c d p ac sl se) {what : Int32} (hwn : ¬ (what < 0 ∨ 2 < what)) : ∀ (k t v : Nat) (z6 : Option Value), t + k = mN ρ → alP ρ (ml ρ se) (mT0 ρ se t) v → Vj shM 4 mX10_may (PM (spMay ρ se what) tx ρ c d p ac sl se sd) 33 [some (.ref 0), some (.int what), some (.int (nI (mT0 ρ se t))), some (.int ((if mT0 ρ se t = 0 then (-9 : Int32) else nI (cm ρ ((ml ρ se).getD 0 0))))), some (.int (nI v)), some (.int (nI t)), z6] [] σ := by
  intro k
  obtain ⟨hr, hc, hd, hp, hN30, ⟨hal, hav⟩, hsv, hse⟩ := hv
  obtain ⟨hTx, hP, hTa, hNw, hAc, hSl, hSe, hSd⟩ := h
  have hM := mN_le hr
  have hcM := cm_lt hr hc
  have hdM := cm_lt hr hd
  have hn5 := hr.1
  have hB7 := hr.2.2.1
  have h : RM tx ρ c d p ac sl se sd σ := ⟨hTx, hP, hTa, hNw, hAc, hSl, hSe, hSd⟩
  induction k with
  | zero =>
    intro t v z6 ht hI
    obtain rfl : t = mN ρ := by omega
    have hlen := ml_len hr (se := se)
    rw [← hlen] at hI ⊢
    have hll : (ml ρ se).length ≤ 256 := by rw [ml_len hr]; exact Nat.le_trans mT_le hM
    rw [al_end hr hI]
    refine Vj_iload (q := 35) dX10_may_33 rfl rfl ?_
    refine Vj_aloadn (q := 36) dX10_may_35 rfl rfl rfl ?_
    refine Vj_getI (q := 39) flX10_68 rfl rfl dX10_may_36 rfl ?_
    rw [hP.2.2.2.1]
    refine Vj_icmp_ge (q := 42) (tgt := 122) dX10_may_39 (by decide) rfl (fun _ => ?_) (fun hz => absurd (nI_le (by omega) (by omega)) hz)
    refine Vj_iloadn (q := 123) dX10_may_122 rfl rfl rfl ?_
    refine Vj_if_ne (q := 126) (tgt := 130) dX10_may_123 (by decide) rfl (fun h123 => ?_) (fun h123 => ?_)
    ·
      refine Vj_iloadn (q := 131) dX10_may_130 rfl rfl rfl ?_
      refine Vj_if_ne (q := 134) (tgt := 139) dX10_may_131 (by decide) rfl (fun h131 => ?_) (fun h131 => ?_)
      ·
        have hl0 : (ml ρ se).length ≠ 0 := fun z => h131 (by rw [z]; rfl)
        rw [if_neg hl0]
        refine Vj_iloadn (q := 140) dX10_may_139 rfl rfl rfl ?_
        refine Vj_iconst (q := 141) (v := 1) dX10_may_140 rfl (by decide) ?_
        refine Vj_icmp_ne (q := 144) (tgt := 152) dX10_may_141 (by decide) rfl (fun h141 => ?_) (fun h141 => ?_)
        ·
          refine Vj_iload (q := 154) dX10_may_152 rfl rfl ?_
          refine Vr_iret rfl rfl dX10_may_154 ?_
          have hl0 : (ml ρ se).length ≠ 0 := hl0
          have esp : spMay ρ se what = nI (tB (rN ρ) (oX (ml ρ se) (ml ρ se).length) (rN ρ)) := by
            unfold spMay
            rw [if_neg hwn]
            show (if what = 0 then nI (ml ρ se).length else if (ml ρ se).length = 0 then -9 else if what = 1 then nI (cDg (rN ρ) ((ml ρ se).getD 0 0) (rN ρ)) else nI (tB (rN ρ) (oX (ml ρ se) (ml ρ se).length) (rN ρ))) = _
            rw [if_neg h123, if_neg hl0, if_neg h141]
          rw [esp]
          exact ⟨rfl, h⟩
        ·
          refine Vj_aloadn (q := 145) dX10_may_144 rfl rfl rfl ?_
          refine Vj_iloadn (q := 146) dX10_may_145 rfl rfl rfl ?_
          refine Vj_callVi (q := 149) (qX10_figuresOf hP (ml_V (Nat.pos_of_ne_zero hl0))) (by decide) rfl rfl lkX10_156 viX10_figuresOf okX10_figuresOf dX10_may_146 rfl rfl (Nat.le_of_ble_eq_true rfl) ?_
          refine Vj_goto (q := 154) dX10_may_149 (by decide) ?_
          refine Vr_iret rfl rfl dX10_may_154 ?_
          have esp : spMay ρ se what = nI (cDg (rN ρ) ((ml ρ se).getD 0 0) (rN ρ)) := by
            unfold spMay
            rw [if_neg hwn]
            show (if what = 0 then nI (ml ρ se).length else if (ml ρ se).length = 0 then -9 else if what = 1 then nI (cDg (rN ρ) ((ml ρ se).getD 0 0) (rN ρ)) else nI (tB (rN ρ) (oX (ml ρ se) (ml ρ se).length) (rN ρ))) = _
            rw [if_neg h123, if_neg hl0, if_pos h141]
          rw [esp]
          exact ⟨rfl, h⟩
      ·
        refine Vj_bipush (q := 136) (v := (-9)) dX10_may_134 rfl (by decide) ?_
        refine Vj_goto (q := 154) dX10_may_136 (by decide) ?_
        refine Vr_iret rfl rfl dX10_may_154 ?_
        have hl0 : (ml ρ se).length = 0 := (nI_z (by omega)).mp h131
        have esp : spMay ρ se what = -9 := by
          unfold spMay
          rw [if_neg hwn]
          show (if what = 0 then nI (ml ρ se).length else if (ml ρ se).length = 0 then -9 else if what = 1 then nI (cDg (rN ρ) ((ml ρ se).getD 0 0) (rN ρ)) else nI (tB (rN ρ) (oX (ml ρ se) (ml ρ se).length) (rN ρ))) = _
          rw [if_neg h123, if_pos hl0]
        rw [esp]
        exact ⟨rfl, h⟩
    ·
      refine Vj_iloadn (q := 127) dX10_may_126 rfl rfl rfl ?_
      refine Vj_goto (q := 154) dX10_may_127 (by decide) ?_
      refine Vr_iret rfl rfl dX10_may_154 ?_
      have esp : spMay ρ se what = nI (ml ρ se).length := by
        unfold spMay
        rw [if_neg hwn]
        show (if what = 0 then nI (ml ρ se).length else if (ml ρ se).length = 0 then -9 else if what = 1 then nI (cDg (rN ρ) ((ml ρ se).getD 0 0) (rN ρ)) else nI (tB (rN ρ) (oX (ml ρ se) (ml ρ se).length) (rN ρ))) = _
        rw [if_pos h123]
      rw [esp]
      exact ⟨rfl, h⟩
  | succ k ih =>
    intro t v z6 ht hI
    have ht' : t < mN ρ := by omega
    have hmc := mc_cV hr ht'
    have hmT : mT0 ρ se t ≤ t := mT_le
    have et : nI t = nI (cm ρ (mc ρ t)) := by rw [cm_mc hr ht']
    refine Vj_iload (q := 35) dX10_may_33 rfl rfl ?_
    refine Vj_aloadn (q := 36) dX10_may_35 rfl rfl rfl ?_
    refine Vj_getI (q := 39) flX10_68 rfl rfl dX10_may_36 rfl ?_
    rw [hP.2.2.2.1]
    refine Vj_icmp_ge (q := 42) (tgt := 122) dX10_may_39 (by decide) rfl (fun hz => absurd hz (nI_ge (by omega) (by omega))) (fun _ => ?_)
    refine Vj_aloadn (q := 43) dX10_may_42 rfl rfl rfl ?_
    refine Vj_iload (q := 45) dX10_may_43 rfl rfl ?_
    refine Vj_top et ?_
    refine Vj_callVi (q := 48) (qX10_mayBe h ⟨hr, hc, hd, hp, hN30, ⟨hal, hav⟩, hsv, hse⟩ hmc) (by decide) rfl rfl lkX10_198 viX10_mayBe okX10_mayBe dX10_may_45 rfl rfl (Nat.le_of_ble_eq_true rfl) ?_
    refine Vj_if_eq (q := 51) (tgt := 116) dX10_may_48 (by decide) rfl (fun h48 => ?_) (fun h48 => ?_)
    ·
      refine Vs_iinc5 (q := 119) (z := none) dX10_may_116 rfl (by exact iinc_p _) (by decide) rfl ?_
      refine Vj_goto (q := 33) dX10_may_119 (by decide) ?_
      rw [nI_1]
      have hm := bI_f0 h48
      have ih := ih (t + 1) v z6 (by omega)
      rw [mT_n hm] at ih
      exact ih hI
    ·
      by_cases e0 : mT0 ρ se t = 0
      ·
        rw [if_pos e0]
        have hm := bI_n.mp h48
        have hat := ml_at hr ht' hm
        have h0V := ml_V (ρ := ρ) (se := se) (i := 0) (by have := hat.2; omega)
        refine Vj_iloadn (q := 52) dX10_may_51 rfl rfl rfl ?_
        refine Vj_if_ne (q := 55) (tgt := 60) dX10_may_52 (by decide) rfl (fun hz => absurd (by rw [e0]; rfl) hz) (fun _ => ?_)
        refine Vj_iload (q := 57) dX10_may_55 rfl rfl ?_
        refine Vj_goto (q := 61) dX10_may_57 (by decide) ?_
        refine Vs_istore3 (q := 62) dX10_may_61 rfl (by decide) rfl ?_
        refine Vs_iinc2 (q := 65) (z := none) dX10_may_62 rfl (by exact iinc_p _) (by decide) rfl ?_
        refine Vj_iconst (q := 66) (v := 0) dX10_may_65 rfl (by decide) ?_
        refine Vs_istore6 (q := 68) dX10_may_66 rfl (by decide) rfl ?_
        have e9 : nI t = nI (cm ρ ((ml ρ se).getD 0 0)) := by
          have := hat.1
          rw [e0] at this
          rw [this]; exact et
        rw [nI_1]
        suffices z : Vj shM 4 mX10_may (PM (spMay ρ se what) tx ρ c d p ac sl se sd) 68 [some (.ref 0), some (.int what), some (.int (nI (mT0 ρ se t + 1))), some (.int (nI (cm ρ ((ml ρ se).getD 0 0)))), some (.int (nI v)), some (.int (nI t)), some (.int (nI 0))] [] σ by
          rw [← e9] at z; exact z
        refine qX10_may_t hP (m := t) et hmc h0V (fun v2 hv2 hI2 z6 => ?_) (rN ρ) 0 v (by omega) hI.1 (fun s hs => ⟨fun z => ⟨z, fun hh => absurd hh (Nat.not_lt_zero s)⟩, fun z => z.1⟩)
        refine Vs_iinc5 (q := 119) (z := none) dX10_may_116 rfl (by exact iinc_p _) (by decide) rfl ?_
        refine Vj_goto (q := 33) dX10_may_119 (by decide) ?_
        rw [nI_1]
        have ih := ih (t + 1) v2 z6 (by omega)
        rw [mT_y hm, if_neg (Nat.succ_ne_zero _)] at ih
        refine ih ⟨hv2, fun s hs => ?_⟩
        rw [hI2 s hs, hI.2 s hs]
        constructor
        · rintro ⟨⟨z1, z2⟩, z3⟩
          refine ⟨z1, fun j hj => ?_⟩
          by_cases ej : j = mT0 ρ se t
          · rw [ej, hat.1]; exact z3 z1
          · exact z2 j (by omega)
        · rintro ⟨z1, z2⟩
          refine ⟨⟨z1, fun j hj => z2 j (by omega)⟩, fun _ => ?_⟩
          have := z2 (mT0 ρ se t) (Nat.lt_succ_self _)
          rw [hat.1] at this; exact this
      ·
        rw [if_neg e0]
        have hm := bI_n.mp h48
        have hat := ml_at hr ht' hm
        have h0V := ml_V (ρ := ρ) (se := se) (i := 0) (by have := hat.2; omega)
        refine Vj_iloadn (q := 52) dX10_may_51 rfl rfl rfl ?_
        refine Vj_if_ne (q := 55) (tgt := 60) dX10_may_52 (by decide) rfl (fun _ => ?_) (fun hz => absurd hz (fun z => e0 ((nI_z (by omega)).mp z)))
        refine Vj_iloadn (q := 61) dX10_may_60 rfl rfl rfl ?_
        refine Vs_istore3 (q := 62) dX10_may_61 rfl (by decide) rfl ?_
        refine Vs_iinc2 (q := 65) (z := none) dX10_may_62 rfl (by exact iinc_p _) (by decide) rfl ?_
        refine Vj_iconst (q := 66) (v := 0) dX10_may_65 rfl (by decide) ?_
        refine Vs_istore6 (q := 68) dX10_may_66 rfl (by decide) rfl ?_
        rw [nI_1]
        refine qX10_may_t hP (m := t) et hmc h0V (fun v2 hv2 hI2 z6 => ?_) (rN ρ) 0 v (by omega) hI.1 (fun s hs => ⟨fun z => ⟨z, fun hh => absurd hh (Nat.not_lt_zero s)⟩, fun z => z.1⟩)
        refine Vs_iinc5 (q := 119) (z := none) dX10_may_116 rfl (by exact iinc_p _) (by decide) rfl ?_
        refine Vj_goto (q := 33) dX10_may_119 (by decide) ?_
        rw [nI_1]
        have ih := ih (t + 1) v2 z6 (by omega)
        rw [mT_y hm, if_neg (Nat.succ_ne_zero _)] at ih
        refine ih ⟨hv2, fun s hs => ?_⟩
        rw [hI2 s hs, hI.2 s hs]
        constructor
        · rintro ⟨⟨z1, z2⟩, z3⟩
          refine ⟨z1, fun j hj => ?_⟩
          by_cases ej : j = mT0 ρ se t
          · rw [ej, hat.1]; exact z3 z1
          · exact z2 j (by omega)
        · rintro ⟨z1, z2⟩
          refine ⟨⟨z1, fun j hj => z2 j (by omega)⟩, fun _ => ?_⟩
          have := z2 (mT0 ρ se t) (Nat.lt_succ_self _)
          rw [hat.1] at this; exact this
set_option maxRecDepth 100000 in
theorem qX10_may {tx : List Nat} {ρ : Rm} {c d p : Nat} {ac : List (Nat × Nat × Nat)} {sl : Nat → Option (Nat × Nat × Nat)} {se : List (Nat × Nat × Nat)} {sd : Int64} {N : Nat} {σ : Mem} (h : RM tx ρ c d p ac sl se sd σ) (hv : okV N ρ c d p ac sl se) (what : Int32) : Ct shM 4 mX10_may [.ref 0, .int what] σ (PM (spMay ρ se what) tx ρ c d p ac sl se sd) := by
  obtain ⟨hr, hc, hd, hp, hN30, ⟨hal, hav⟩, hsv, hse⟩ := hv
  obtain ⟨hTx, hP, hTa, hNw, hAc, hSl, hSe, hSd⟩ := h
  have hM := mN_le hr
  have hcM := cm_lt hr hc
  have hdM := cm_lt hr hd
  have hn5 := hr.1
  have hB7 := hr.2.2.1
  have h : RM tx ρ c d p ac sl se sd σ := ⟨hTx, hP, hTa, hNw, hAc, hSl, hSe, hSd⟩
  refine Ct.of (by decide) (Nat.le_of_ble_eq_true rfl) (l := [some (.ref 0), some (.int what), none, none, none, none, none]) rfl ?_
  refine Vj_iloadn (q := 1) dX10_may_0 rfl rfl rfl ?_
  refine Vj_i2l (q := 2) dX10_may_1 rfl ?_
  refine Vj_lconst (q := 3) (v := 0) dX10_may_2 rfl (by decide) ?_
  refine Vj_ldc2 (q := 6) dX10_may_3 rfl kcX10_196 ?_
  refine Vj_callSi (q := 9) (qX10_in _ _ _) (by decide) lkX10_74 stX10_in okX10_in dX10_may_6 rfl rfl (Nat.le_of_ble_eq_true rfl) ?_
  rw [in_i (a := ((0 : Nat) : Int)) (b := ((2 : Nat) : Int)) rfl rfl]
  refine Vj_if_ne (q := 12) (tgt := 15) dX10_may_9 (by decide) rfl (fun h9 => ?_) (fun h9 => ?_)
  ·
    have hwn : ¬ (what < 0 ∨ 2 < what) := (iB_t (x := what) (a := 0) (b := 2) (by decide) (by decide)).mp (bI_n.mp h9)
    refine Vj_iconst (q := 16) (v := 0) dX10_may_15 rfl (by decide) ?_
    refine Vs_istore2 (q := 17) dX10_may_16 rfl (by decide) rfl ?_
    refine Vj_bipush (q := 19) (v := (-9)) dX10_may_17 rfl (by decide) ?_
    refine Vs_istore3 (q := 20) dX10_may_19 rfl (by decide) rfl ?_
    refine Vj_iconst (q := 21) (v := 1) dX10_may_20 rfl (by decide) ?_
    refine Vj_aloadn (q := 22) dX10_may_21 rfl rfl rfl ?_
    refine Vj_getI (q := 25) flX10_111 rfl rfl dX10_may_22 rfl ?_
    rw [hP.2.1]
    refine Vj_ishl (q := 26) dX10_may_25 rfl ?_
    refine Vj_iconst (q := 27) (v := 1) dX10_may_26 rfl (by decide) ?_
    refine Vj_isub (q := 28) dX10_may_27 rfl ?_
    rw [show (1 : Int32) <<< (nI (rN ρ) &&& 31) - 1 = nI (2 ^ rN ρ - 1) from i_ev _ (by omega)]
    refine Vs_istore4 (q := 30) dX10_may_28 rfl (by decide) rfl ?_
    refine Vj_iconst (q := 31) (v := 0) dX10_may_30 rfl (by decide) ?_
    refine Vs_istore5 (q := 33) dX10_may_31 rfl (by decide) rfl ?_
    exact qX10_may_loop h ⟨hr, hc, hd, hp, hN30, ⟨hal, hav⟩, hsv, hse⟩ hwn (mN ρ) 0 (2 ^ rN ρ - 1) none (by omega) (al_0 hr)
  ·
    refine Vj_bipush (q := 14) (v := (-2)) dX10_may_12 rfl (by decide) ?_
    refine Vr_iret rfl rfl dX10_may_14 ?_
    have hw : what < 0 ∨ 2 < what := (iB_f (x := what) (a := 0) (b := 2) (by decide) (by decide)).mp (bI_f0 h9)
    exact ⟨by unfold spMay; rw [if_pos hw], h⟩
