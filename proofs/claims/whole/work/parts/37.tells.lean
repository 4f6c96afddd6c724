/-! the reference: which button tells most -/
theorem nI_nle9 {a : Nat} (h : a < 2 ^ 31) : ¬ nI a ≤ -9 := by
  rw [Int32.le_iff_toInt_le, nI_toInt h, show (-9 : Int32).toInt = -9 from rfl]; omega

set_option maxRecDepth 100000 in
theorem qX10_greatest_loop {tx : List Nat} {ρ : Rm} {c d p : Nat} {ac : List (Nat × Nat × Nat)} {sl : Nat → Option (Nat × Nat × Nat)} {se : List (Nat × Nat × Nat)} {sd : Int64} {N : Nat} (hv : okV N ρ c d p ac sl se) {b : Nat} (hb : b < rB ρ) : ∀ (k t : Nat) (σ : Mem) (z4 : Option Value), t + k = mN ρ → RM tx ρ c d p ac sl se sd σ → (∀ a, a < 16 → σ.1 16 a = nI (gC ρ b (ml ρ se) (mT0 ρ se t) a)) → Vj shM 4 mX10_greatest (fun r σ' => r = some (.int (if (ml ρ se).length = 0 then (-9 : Int32) else nI (mA ρ b (ml ρ se) ((ml ρ se).length)))) ∧ RM tx ρ c d p ac sl se sd σ') 26 [some (.ref 0), some (.int (nI b)), some (.int ((if mT0 ρ se t = 0 then (-9 : Int32) else nI (mA ρ b (ml ρ se) (mT0 ρ se t))))), some (.int (nI t)), z4] [] σ := by
  intro k
  induction k with
  | zero =>
    intro t σ z4 ht h hG
    obtain ⟨hr, hc, hd, hp, hN30, ⟨hal, hav⟩, hsv, hse⟩ := hv
    obtain ⟨hTx, hP, hTa, hNw, hAc, hSl, hSe, hSd⟩ := h
    have hM := mN_le hr
    have hcM := cm_lt hr hc
    have hdM := cm_lt hr hd
    have hn5 := hr.1
    have hB7 := hr.2.2.1
    have h : RM tx ρ c d p ac sl se sd σ := ⟨hTx, hP, hTa, hNw, hAc, hSl, hSe, hSd⟩
    obtain rfl : t = mN ρ := by omega
    have hlen := ml_len hr (se := se)
    rw [← hlen]
    refine Vj_iloadn (q := 27) dX10_greatest_26 rfl rfl rfl ?_
    refine Vj_aloadn (q := 28) dX10_greatest_27 rfl rfl rfl ?_
    refine Vj_getI (q := 31) flX10_68 rfl rfl dX10_greatest_28 rfl ?_
    rw [hP.2.2.2.1]
    refine Vj_icmp_ge (q := 34) (tgt := 100) dX10_greatest_31 (by decide) rfl (fun _ => ?_) (fun hz => absurd (nI_le (by omega) (by omega)) hz)
    refine Vj_iloadn (q := 101) dX10_greatest_100 rfl rfl rfl ?_
    exact Vr_iret rfl rfl dX10_greatest_101 (⟨rfl, h⟩)
  | succ k ih =>
    intro t σ z4 ht h hG
    obtain ⟨hr, hc, hd, hp, hN30, ⟨hal, hav⟩, hsv, hse⟩ := hv
    obtain ⟨hTx, hP, hTa, hNw, hAc, hSl, hSe, hSd⟩ := h
    have hM := mN_le hr
    have hcM := cm_lt hr hc
    have hdM := cm_lt hr hd
    have hn5 := hr.1
    have hB7 := hr.2.2.1
    have h : RM tx ρ c d p ac sl se sd σ := ⟨hTx, hP, hTa, hNw, hAc, hSl, hSe, hSd⟩
    have ht' : t < mN ρ := by omega
    have hmc := mc_cV hr ht'
    have hmT : mT0 ρ se t ≤ t := mT_le
    have hmA0 := mA_le (ρ := ρ) (b := b) (l := ml ρ se) (mT0 ρ se t)
    have et : nI t = nI (cm ρ (mc ρ t)) := by rw [cm_mc hr ht']
    have hcn := cV_nx hr hmc hb
    have hla := li16 hr (cNx ρ (mc ρ t) b)
    generalize ela : cLi (rN ρ) (cNx ρ (mc ρ t) b) (rN ρ) = la at *
    have hgc : gC ρ b (ml ρ se) (mT0 ρ se t) la ≤ mT0 ρ se t := gC_le
    have hcl := cm_mc hr ht'
    refine Vj_iloadn (q := 27) dX10_greatest_26 rfl rfl rfl ?_
    refine Vj_aloadn (q := 28) dX10_greatest_27 rfl rfl rfl ?_
    refine Vj_getI (q := 31) flX10_68 rfl rfl dX10_greatest_28 rfl ?_
    rw [hP.2.2.2.1]
    refine Vj_icmp_ge (q := 34) (tgt := 100) dX10_greatest_31 (by decide) rfl (fun hz => absurd hz (nI_ge (by omega) (by omega))) (fun _ => ?_)
    refine Vj_aloadn (q := 35) dX10_greatest_34 rfl rfl rfl ?_
    refine Vj_iloadn (q := 36) dX10_greatest_35 rfl rfl rfl ?_
    refine Vj_top et ?_
    refine Vj_callVi (q := 39) (qX10_mayBe h ⟨hr, hc, hd, hp, hN30, ⟨hal, hav⟩, hsv, hse⟩ hmc) (by decide) rfl rfl lkX10_198 viX10_mayBe okX10_mayBe dX10_greatest_36 rfl rfl (Nat.le_of_ble_eq_true rfl) ?_
    refine Vj_if_eq (q := 42) (tgt := 94) dX10_greatest_39 (by decide) rfl (fun h39 => ?_) (fun h39 => ?_)
    ·
      refine Vs_iinc3 (q := 97) (z := none) dX10_greatest_94 rfl (by exact iinc_p _) (by decide) rfl ?_
      refine Vj_goto (q := 26) dX10_greatest_97 (by decide) ?_
      rw [nI_1]
      have ih := ih (t + 1) σ z4 (by omega) h
      rw [mT_n (bI_f0 h39)] at ih
      exact ih hG
    ·
      have hm := bI_n.mp h39
      have hat := ml_at hr ht' hm
      refine Vj_aloadn (q := 43) dX10_greatest_42 rfl rfl rfl ?_
      refine Vj_aloadn (q := 44) dX10_greatest_43 rfl rfl rfl ?_
      refine Vj_getR (q := 47) flX10_25 rfl rfl dX10_greatest_44 rfl ?_
      refine Vj_sipush (q := 50) (v := 256) dX10_greatest_47 rfl (by decide) ?_
      refine Vj_iloadn (q := 51) dX10_greatest_50 rfl rfl rfl ?_
      refine Vj_imul (q := 52) dX10_greatest_51 rfl ?_
      refine Vj_iloadn (q := 53) dX10_greatest_52 rfl rfl rfl ?_
      refine Vj_iadd (q := 54) dX10_greatest_53 rfl ?_
      rw [i_256]
      refine Vj_iald (q := 55) rfl (vp_in_nI (by omega) (by decide)) dX10_greatest_54 rfl ?_
      rw [nI_clamp (by omega), show σ.1 6 (256 * b + t) = nI (cm ρ (cNx ρ (mc ρ t) b)) by have := hTa b hb _ hmc; rw [hcl] at this; exact this]
      refine Vj_callVi (q := 58) (qX10_lightsOf hP hcn) (by decide) rfl rfl lkX10_193 viX10_lightsOf okX10_lightsOf dX10_greatest_55 rfl rfl (Nat.le_of_ble_eq_true rfl) ?_
      rw [ela]
      refine Vs_istore4 (q := 60) dX10_greatest_58 rfl (by decide) rfl ?_
      refine Vj_aloadn (q := 61) dX10_greatest_60 rfl rfl rfl ?_
      refine Vj_getR (q := 64) flX10_55 rfl rfl dX10_greatest_61 rfl ?_
      refine Vj_iload (q := 66) dX10_greatest_64 rfl rfl ?_
      refine Vj_dup2 (q := 67) dX10_greatest_66 rfl rfl rfl ?_
      refine Vj_iald (q := 68) rfl (vp_in_nI (by omega) (by decide)) dX10_greatest_67 rfl ?_
      rw [nI_clamp (by omega), hG la hla]
      refine Vj_iconst (q := 69) (v := 1) dX10_greatest_68 rfl (by decide) ?_
      refine Vj_iadd (q := 70) dX10_greatest_69 rfl ?_
      rw [nI_1]
      refine Vj_iast (q := 71) rfl (vp_in_nI (by omega) (by decide)) dX10_greatest_70 rfl ?_
      rw [nI_clamp (by omega)]
      have hG2 : ∀ a, a < 16 → (uI σ 16 la (nI (gC ρ b (ml ρ se) (mT0 ρ se t) la + 1))).1 16 a = nI (gC ρ b (ml ρ se) (mT0 ρ se t + 1) a) := by
        intro a ha
        rw [gC_s hat.2, hat.1, uI_eq, upd, ela]
        by_cases e : a = la
        · subst e; rw [if_pos rfl, if_pos rfl]
        · rw [if_neg e, hG a ha, if_neg (fun z => e z.symm), Nat.add_zero]
      have hR2 : RM tx ρ c d p ac sl se sd (uI σ 16 la (nI (gC ρ b (ml ρ se) (mT0 ρ se t) la + 1))) := h.eqo (Eqo.rf.u (S := [16]) rfl) rfl
      have hrd : (uI σ 16 la (nI (gC ρ b (ml ρ se) (mT0 ρ se t) la + 1))).1 16 la = nI (gC ρ b (ml ρ se) (mT0 ρ se t) la + 1) := by rw [uI_eq, upd, if_pos rfl]
      have hmA : mA ρ b (ml ρ se) (mT0 ρ se t + 1) = max (mA ρ b (ml ρ se) (mT0 ρ se t)) (gC ρ b (ml ρ se) (mT0 ρ se t) la + 1) := by
        rw [mA, hat.1, ela, gC_s hat.2, hat.1, ela, if_pos rfl]
      generalize uI σ 16 la (nI (gC ρ b (ml ρ se) (mT0 ρ se t) la + 1)) = σ2 at *
      refine Vj_aloadn (q := 72) dX10_greatest_71 rfl rfl rfl ?_
      refine Vj_getR (q := 75) flX10_55 rfl rfl dX10_greatest_72 rfl ?_
      refine Vj_iload (q := 77) dX10_greatest_75 rfl rfl ?_
      refine Vj_iald (q := 78) rfl (vp_in_nI (by omega) (by decide)) dX10_greatest_77 rfl ?_
      rw [nI_clamp (by omega), hrd]
      by_cases e0 : mT0 ρ se t = 0
      ·
        rw [if_pos e0]
        refine Vj_iloadn (q := 79) dX10_greatest_78 rfl rfl rfl ?_
        refine Vj_icmp_le (q := 82) (tgt := 92) dX10_greatest_79 (by decide) rfl (fun hz => absurd hz (nI_nle9 (by omega))) (fun _ => ?_)
        refine Vj_aloadn (q := 83) dX10_greatest_82 rfl rfl rfl ?_
        refine Vj_getR (q := 86) flX10_55 rfl rfl dX10_greatest_83 rfl ?_
        refine Vj_iload (q := 88) dX10_greatest_86 rfl rfl ?_
        refine Vj_iald (q := 89) rfl (vp_in_nI (by omega) (by decide)) dX10_greatest_88 rfl ?_
        rw [nI_clamp (by omega), hrd]
        refine Vj_goto (q := 93) dX10_greatest_89 (by decide) ?_
        refine Vs_istore2 (q := 94) dX10_greatest_93 rfl (by decide) rfl ?_
        refine Vs_iinc3 (q := 97) (z := none) dX10_greatest_94 rfl (by exact iinc_p _) (by decide) rfl ?_
        refine Vj_goto (q := 26) dX10_greatest_97 (by decide) ?_
        rw [nI_1]
        have ih := ih (t + 1) σ2 (some (.int (nI la))) (by omega) hR2
        rw [mT_y hm, if_neg (Nat.succ_ne_zero _), hmA, show max (mA ρ b (ml ρ se) (mT0 ρ se t)) (gC ρ b (ml ρ se) (mT0 ρ se t) la + 1) = gC ρ b (ml ρ se) (mT0 ρ se t) la + 1 by rw [e0, mA]; omega] at ih
        exact ih hG2
      ·
        rw [if_neg e0]
        refine Vj_iloadn (q := 79) dX10_greatest_78 rfl rfl rfl ?_
        refine Vj_icmp_le (q := 82) (tgt := 92) dX10_greatest_79 (by decide) rfl (fun h79 => ?_) (fun h79 => ?_)
        ·
          refine Vj_iloadn (q := 93) dX10_greatest_92 rfl rfl rfl ?_
          refine Vs_istore2 (q := 94) dX10_greatest_93 rfl (by decide) rfl ?_
          refine Vs_iinc3 (q := 97) (z := none) dX10_greatest_94 rfl (by exact iinc_p _) (by decide) rfl ?_
          refine Vj_goto (q := 26) dX10_greatest_97 (by decide) ?_
          rw [nI_1]
          have ih := ih (t + 1) σ2 (some (.int (nI la))) (by omega) hR2
          rw [mT_y hm, if_neg (Nat.succ_ne_zero _), hmA, show max (mA ρ b (ml ρ se) (mT0 ρ se t)) (gC ρ b (ml ρ se) (mT0 ρ se t) la + 1) = mA ρ b (ml ρ se) (mT0 ρ se t) by have := (nI_leI (by omega) (by omega)).mp h79; omega] at ih
          exact ih hG2
        ·
          refine Vj_aloadn (q := 83) dX10_greatest_82 rfl rfl rfl ?_
          refine Vj_getR (q := 86) flX10_55 rfl rfl dX10_greatest_83 rfl ?_
          refine Vj_iload (q := 88) dX10_greatest_86 rfl rfl ?_
          refine Vj_iald (q := 89) rfl (vp_in_nI (by omega) (by decide)) dX10_greatest_88 rfl ?_
          rw [nI_clamp (by omega), hrd]
          refine Vj_goto (q := 93) dX10_greatest_89 (by decide) ?_
          refine Vs_istore2 (q := 94) dX10_greatest_93 rfl (by decide) rfl ?_
          refine Vs_iinc3 (q := 97) (z := none) dX10_greatest_94 rfl (by exact iinc_p _) (by decide) rfl ?_
          refine Vj_goto (q := 26) dX10_greatest_97 (by decide) ?_
          rw [nI_1]
          have ih := ih (t + 1) σ2 (some (.int (nI la))) (by omega) hR2
          rw [mT_y hm, if_neg (Nat.succ_ne_zero _), hmA, show max (mA ρ b (ml ρ se) (mT0 ρ se t)) (gC ρ b (ml ρ se) (mT0 ρ se t) la + 1) = gC ρ b (ml ρ se) (mT0 ρ se t) la + 1 by have := Nat.not_le.mp fun z => h79 (nI_le z (by omega)); omega] at ih
          exact ih hG2
set_option maxRecDepth 100000 in
theorem qX10_greatest_0 {tx : List Nat} {ρ : Rm} {c d p : Nat} {ac : List (Nat × Nat × Nat)} {sl : Nat → Option (Nat × Nat × Nat)} {se : List (Nat × Nat × Nat)} {sd : Int64} {N : Nat} (hv : okV N ρ c d p ac sl se) {b : Nat} (hb : b < rB ρ) : ∀ (k t : Nat) (σ : Mem), t + k = 16 → RM tx ρ c d p ac sl se sd σ → (∀ a, a < t → σ.1 16 a = 0) → Vj shM 4 mX10_greatest (fun r σ' => r = some (.int (if (ml ρ se).length = 0 then (-9 : Int32) else nI (mA ρ b (ml ρ se) ((ml ρ se).length)))) ∧ RM tx ρ c d p ac sl se sd σ') 2 [some (.ref 0), some (.int (nI b)), some (.int (nI t)), none, none] [] σ := by
  intro k
  induction k with
  | zero =>
    intro t σ ht h hG
    obtain rfl : t = 16 := by omega
    refine Vj_iloadn (q := 3) dX10_greatest_2 rfl rfl rfl ?_
    refine Vj_bipush (q := 5) (v := 16) dX10_greatest_3 rfl (by decide) ?_
    refine Vj_icmp_ge (q := 8) (tgt := 21) dX10_greatest_5 (by decide) rfl (fun _ => ?_) (fun hz => absurd (by decide) hz)
    refine Vj_bipush (q := 23) (v := (-9)) dX10_greatest_21 rfl (by decide) ?_
    refine Vs_istore2 (q := 24) dX10_greatest_23 rfl (by decide) rfl ?_
    refine Vj_iconst (q := 25) (v := 0) dX10_greatest_24 rfl (by decide) ?_
    refine Vs_istore3 (q := 26) dX10_greatest_25 rfl (by decide) rfl ?_
    have z := qX10_greatest_loop hv hb (mN ρ) 0 σ none (by omega) h (fun a ha => by rw [hG a ha]; rfl)
    exact z
  | succ k ih =>
    intro t σ ht h hG
    refine Vj_iloadn (q := 3) dX10_greatest_2 rfl rfl rfl ?_
    refine Vj_bipush (q := 5) (v := 16) dX10_greatest_3 rfl (by decide) ?_
    refine Vj_icmp_ge (q := 8) (tgt := 21) dX10_greatest_5 (by decide) rfl (fun hz => absurd hz (nI_ge (b := 16) (by omega) (by decide))) (fun _ => ?_)
    refine Vj_aloadn (q := 9) dX10_greatest_8 rfl rfl rfl ?_
    refine Vj_getR (q := 12) flX10_55 rfl rfl dX10_greatest_9 rfl ?_
    refine Vj_iloadn (q := 13) dX10_greatest_12 rfl rfl rfl ?_
    refine Vj_iconst (q := 14) (v := 0) dX10_greatest_13 rfl (by decide) ?_
    refine Vj_iast (q := 15) rfl (vp_in_nI (by omega) (by decide)) dX10_greatest_14 rfl ?_
    rw [nI_clamp (by omega)]
    refine Vs_iinc2 (q := 18) (z := none) dX10_greatest_15 rfl (by exact iinc_p _) (by decide) rfl ?_
    refine Vj_goto (q := 2) dX10_greatest_18 (by decide) ?_
    rw [nI_1]
    refine ih (t + 1) _ (by omega) (h.eqo (Eqo.rf.u (S := [16]) rfl) rfl) fun a ha => ?_
    rw [uI_eq, upd]
    by_cases e : a = t
    · rw [if_pos e]
    · rw [if_neg e]; exact hG a (by omega)
set_option maxRecDepth 100000 in
theorem qX10_greatest {tx : List Nat} {ρ : Rm} {c d p : Nat} {ac : List (Nat × Nat × Nat)} {sl : Nat → Option (Nat × Nat × Nat)} {se : List (Nat × Nat × Nat)} {sd : Int64} {N : Nat} {σ : Mem} (h : RM tx ρ c d p ac sl se sd σ) (hv : okV N ρ c d p ac sl se) {b : Nat} (hb : b < rB ρ) : Ct shM 4 mX10_greatest [.ref 0, .int (nI b)] σ (fun r σ' => r = some (.int (if (ml ρ se).length = 0 then (-9 : Int32) else nI (mA ρ b (ml ρ se) ((ml ρ se).length)))) ∧ RM tx ρ c d p ac sl se sd σ') := by
  refine Ct.of (by decide) (Nat.le_of_ble_eq_true rfl) (l := [some (.ref 0), some (.int (nI b)), none, none, none]) rfl ?_
  refine Vj_iconst (q := 1) (v := 0) dX10_greatest_0 rfl (by decide) ?_
  refine Vs_istore2 (q := 2) dX10_greatest_1 rfl (by decide) rfl ?_
  exact qX10_greatest_0 hv hb 16 0 σ (by omega) h (fun a ha => absurd ha (Nat.not_lt_zero a))
def tK9 (ρ : Rm) (l : List Nat) (K : Nat) : Option (Nat × Nat) := if l.length = 0 then none else tlK ρ l K
def tB9 : Option (Nat × Nat) → Int32
  | none => -9
  | some u => nI u.1
def tL9 : Option (Nat × Nat) → Int32
  | none => -9
  | some u => nI u.2
theorem tells_e {ρ : Rm} {se : List (Nat × Nat × Nat)} {many : Int32} : spTells ρ se many = if many = 0 then tB9 (tK9 ρ (ml ρ se) (rB ρ)) else tL9 (tK9 ρ (ml ρ se) (rB ρ)) := by
  unfold spTells tK9 ml
  by_cases e : (cdK ρ se se.length).length = 0
  · simp only [if_pos e]
    split <;> rfl
  · simp only [if_neg e]
    cases tlK ρ (cdK ρ se se.length) (rB ρ) with
    | none => simp only [tB9, tL9]; split <;> rfl
    | some u => simp only [tB9, tL9]

set_option maxRecDepth 100000 in
theorem qX10_tells_loop {tx : List Nat} {ρ : Rm} {c d p : Nat} {ac : List (Nat × Nat × Nat)} {sl : Nat → Option (Nat × Nat × Nat)} {se : List (Nat × Nat × Nat)} {sd : Int64} {N : Nat} (hv : okV N ρ c d p ac sl se) {many : Int32} : ∀ (k t : Nat) (σ : Mem) (z5 z6 : Option Value), t + k = rB ρ → RM tx ρ c d p ac sl se sd σ → Vj shM 5 mX10_tells (PM (spTells ρ se many) tx ρ c d p ac sl se sd) 9 [some (.ref 0), some (.int many), some (.int (tB9 (tK9 ρ (ml ρ se) t))), some (.int (tL9 (tK9 ρ (ml ρ se) t))), some (.int (nI t)), z5, z6] [] σ := by
  intro k
  induction k with
  | zero =>
    intro t σ z5 z6 ht h
    obtain ⟨hr, hc, hd, hp, hN30, ⟨hal, hav⟩, hsv, hse⟩ := hv
    obtain ⟨hTx, hP, hTa, hNw, hAc, hSl, hSe, hSd⟩ := h
    have hM := mN_le hr
    have hcM := cm_lt hr hc
    have hdM := cm_lt hr hd
    have hn5 := hr.1
    have hB7 := hr.2.2.1
    have h : RM tx ρ c d p ac sl se sd σ := ⟨hTx, hP, hTa, hNw, hAc, hSl, hSe, hSd⟩
    obtain rfl : t = rB ρ := by omega
    refine Vj_iload (q := 11) dX10_tells_9 rfl rfl ?_
    refine Vj_aloadn (q := 12) dX10_tells_11 rfl rfl rfl ?_
    refine Vj_getI (q := 15) flX10_114 rfl rfl dX10_tells_12 rfl ?_
    rw [hP.2.2.1]
    refine Vj_icmp_ge (q := 18) (tgt := 82) dX10_tells_15 (by decide) rfl (fun _ => ?_) (fun hz => absurd (nI_le (by omega) (by omega)) hz)
    refine Vj_iloadn (q := 83) dX10_tells_82 rfl rfl rfl ?_
    refine Vj_if_eq (q := 86) (tgt := 90) dX10_tells_83 (by decide) rfl (fun h83 => ?_) (fun h83 => ?_)
    ·
      refine Vj_iloadn (q := 91) dX10_tells_90 rfl rfl rfl ?_
      exact Vr_iret rfl rfl dX10_tells_91 (⟨by rw [tells_e, if_pos h83], h⟩)
    ·
      refine Vj_iloadn (q := 87) dX10_tells_86 rfl rfl rfl ?_
      refine Vj_goto (q := 91) dX10_tells_87 (by decide) ?_
      exact Vr_iret rfl rfl dX10_tells_91 (⟨by rw [tells_e, if_neg h83], h⟩)
  | succ k ih =>
    intro t σ z5 z6 ht h
    obtain ⟨hr, hc, hd, hp, hN30, ⟨hal, hav⟩, hsv, hse⟩ := hv
    obtain ⟨hTx, hP, hTa, hNw, hAc, hSl, hSe, hSd⟩ := h
    have hM := mN_le hr
    have hcM := cm_lt hr hc
    have hdM := cm_lt hr hd
    have hn5 := hr.1
    have hB7 := hr.2.2.1
    have h : RM tx ρ c d p ac sl se sd σ := ⟨hTx, hP, hTa, hNw, hAc, hSl, hSe, hSd⟩
    have hll : (ml ρ se).length ≤ 256 := by rw [ml_len hr]; exact Nat.le_trans mT_le hM
    have hmA0 := mA_le (ρ := ρ) (b := t) (l := ml ρ se) (ml ρ se).length
    refine Vj_iload (q := 11) dX10_tells_9 rfl rfl ?_
    refine Vj_aloadn (q := 12) dX10_tells_11 rfl rfl rfl ?_
    refine Vj_getI (q := 15) flX10_114 rfl rfl dX10_tells_12 rfl ?_
    rw [hP.2.2.1]
    refine Vj_icmp_ge (q := 18) (tgt := 82) dX10_tells_15 (by decide) rfl (fun hz => absurd hz (nI_ge (by omega) (by omega))) (fun _ => ?_)
    refine Vj_aloadn (q := 19) dX10_tells_18 rfl rfl rfl ?_
    refine Vj_iload (q := 21) dX10_tells_19 rfl rfl ?_
    refine Vj_callV (q := 24) (qX10_greatest h ⟨hr, hc, hd, hp, hN30, ⟨hal, hav⟩, hsv, hse⟩ (b := t) (by omega)) (by decide) rfl rfl lkX10_201 viX10_greatest okX10_greatest dX10_tells_21 rfl rfl (Nat.le_of_ble_eq_true rfl) ?_
    rintro r1 σ1 ⟨rfl, h1⟩
    show Vj shM 5 mX10_tells _ 24 _ [.int _] σ1
    by_cases e0 : (ml ρ se).length = 0
    ·
      rw [if_pos e0, show tK9 ρ (ml ρ se) t = none by unfold tK9; rw [if_pos e0]]
      refine Vs_istore5 (q := 26) dX10_tells_24 rfl (by decide) rfl ?_
      refine Vj_iload (q := 28) dX10_tells_26 rfl rfl ?_
      refine Vj_bipush (q := 30) (v := (-9)) dX10_tells_28 rfl (by decide) ?_
      refine Vj_icmp_eq (q := 33) (tgt := 49) dX10_tells_30 (by decide) rfl (fun _ => ?_) (fun hz => absurd rfl hz)
      refine Vj_iconst (q := 50) (v := 0) dX10_tells_49 rfl (by decide) ?_
      refine Vs_istore6 (q := 52) dX10_tells_50 rfl (by decide) rfl ?_
      refine Vj_iload (q := 54) dX10_tells_52 rfl rfl ?_
      refine Vj_if_eq (q := 57) (tgt := 62) dX10_tells_54 (by decide) rfl (fun _ => ?_) (fun hz => absurd rfl hz)
      refine Vj_iloadn (q := 63) dX10_tells_62 rfl rfl rfl ?_
      refine Vs_istore2 (q := 64) dX10_tells_63 rfl (by decide) rfl ?_
      refine Vj_iload (q := 66) dX10_tells_64 rfl rfl ?_
      refine Vj_if_eq (q := 69) (tgt := 74) dX10_tells_66 (by decide) rfl (fun _ => ?_) (fun hz => absurd rfl hz)
      refine Vj_iloadn (q := 75) dX10_tells_74 rfl rfl rfl ?_
      refine Vs_istore3 (q := 76) dX10_tells_75 rfl (by decide) rfl ?_
      refine Vs_iinc4 (q := 79) (z := none) dX10_tells_76 rfl (by exact iinc_p _) (by decide) rfl ?_
      refine Vj_goto (q := 9) dX10_tells_79 (by decide) ?_
      rw [nI_1]
      have ih := fun y5 y6 => ih (t + 1) σ1 y5 y6 (by omega) h1
      rw [show tK9 ρ (ml ρ se) (t + 1) = none by unfold tK9; rw [if_pos e0]] at ih
      exact ih _ _
    ·
      rw [if_neg e0, show tK9 ρ (ml ρ se) t = tlK ρ (ml ρ se) t by unfold tK9; rw [if_neg e0]]
      refine Vs_istore5 (q := 26) dX10_tells_24 rfl (by decide) rfl ?_
      refine Vj_iload (q := 28) dX10_tells_26 rfl rfl ?_
      refine Vj_bipush (q := 30) (v := (-9)) dX10_tells_28 rfl (by decide) ?_
      cases eK : tlK ρ (ml ρ se) t with
      | none =>
        refine Vj_icmp_eq (q := 33) (tgt := 49) dX10_tells_30 (by decide) rfl (fun hz => absurd hz (nI_nm9 (by omega))) (fun _ => ?_)
        refine Vj_iloadn (q := 34) dX10_tells_33 rfl rfl rfl ?_
        refine Vj_bipush (q := 36) (v := (-9)) dX10_tells_34 rfl (by decide) ?_
        refine Vj_icmp_eq (q := 39) (tgt := 45) dX10_tells_36 (by decide) rfl (fun _ => ?_) (fun hz => absurd rfl hz)
        refine Vj_iconst (q := 46) (v := 1) dX10_tells_45 rfl (by decide) ?_
        refine Vj_goto (q := 50) dX10_tells_46 (by decide) ?_
        refine Vs_istore6 (q := 52) dX10_tells_50 rfl (by decide) rfl ?_
        refine Vj_iload (q := 54) dX10_tells_52 rfl rfl ?_
        refine Vj_if_eq (q := 57) (tgt := 62) dX10_tells_54 (by decide) rfl (fun hz => absurd hz (by decide)) (fun _ => ?_)
        refine Vj_iload (q := 59) dX10_tells_57 rfl rfl ?_
        refine Vj_goto (q := 63) dX10_tells_59 (by decide) ?_
        refine Vs_istore2 (q := 64) dX10_tells_63 rfl (by decide) rfl ?_
        refine Vj_iload (q := 66) dX10_tells_64 rfl rfl ?_
        refine Vj_if_eq (q := 69) (tgt := 74) dX10_tells_66 (by decide) rfl (fun hz => absurd hz (by decide)) (fun _ => ?_)
        refine Vj_iload (q := 71) dX10_tells_69 rfl rfl ?_
        refine Vj_goto (q := 75) dX10_tells_71 (by decide) ?_
        refine Vs_istore3 (q := 76) dX10_tells_75 rfl (by decide) rfl ?_
        refine Vs_iinc4 (q := 79) (z := none) dX10_tells_76 rfl (by exact iinc_p _) (by decide) rfl ?_
        refine Vj_goto (q := 9) dX10_tells_79 (by decide) ?_
        rw [nI_1]
        have ih := fun y5 y6 => ih (t + 1) σ1 y5 y6 (by omega) h1
        rw [show tK9 ρ (ml ρ se) (t + 1) = some (t, mA ρ t (ml ρ se) (ml ρ se).length) by unfold tK9; rw [if_neg e0, tlK, eK]] at ih
        exact ih _ _
      | some u =>
        obtain ⟨hu1, hu2⟩ := tlK_lt t u eK
        refine Vj_icmp_eq (q := 33) (tgt := 49) dX10_tells_30 (by decide) rfl (fun hz => absurd hz (nI_nm9 (by omega))) (fun _ => ?_)
        refine Vj_iloadn (q := 34) dX10_tells_33 rfl rfl rfl ?_
        refine Vj_bipush (q := 36) (v := (-9)) dX10_tells_34 rfl (by decide) ?_
        refine Vj_icmp_eq (q := 39) (tgt := 45) dX10_tells_36 (by decide) rfl (fun hz => absurd hz (nI_nm9 (a := u.2) (by omega))) (fun _ => ?_)
        refine Vj_iload (q := 41) dX10_tells_39 rfl rfl ?_
        refine Vj_iloadn (q := 42) dX10_tells_41 rfl rfl rfl ?_
        refine Vj_icmp_ge (q := 45) (tgt := 49) dX10_tells_42 (by decide) rfl (fun h42 => ?_) (fun h42 => ?_)
        ·
          refine Vj_iconst (q := 50) (v := 0) dX10_tells_49 rfl (by decide) ?_
          refine Vs_istore6 (q := 52) dX10_tells_50 rfl (by decide) rfl ?_
          refine Vj_iload (q := 54) dX10_tells_52 rfl rfl ?_
          refine Vj_if_eq (q := 57) (tgt := 62) dX10_tells_54 (by decide) rfl (fun _ => ?_) (fun hz => absurd rfl hz)
          refine Vj_iloadn (q := 63) dX10_tells_62 rfl rfl rfl ?_
          refine Vs_istore2 (q := 64) dX10_tells_63 rfl (by decide) rfl ?_
          refine Vj_iload (q := 66) dX10_tells_64 rfl rfl ?_
          refine Vj_if_eq (q := 69) (tgt := 74) dX10_tells_66 (by decide) rfl (fun _ => ?_) (fun hz => absurd rfl hz)
          refine Vj_iloadn (q := 75) dX10_tells_74 rfl rfl rfl ?_
          refine Vs_istore3 (q := 76) dX10_tells_75 rfl (by decide) rfl ?_
          refine Vs_iinc4 (q := 79) (z := none) dX10_tells_76 rfl (by exact iinc_p _) (by decide) rfl ?_
          refine Vj_goto (q := 9) dX10_tells_79 (by decide) ?_
          rw [nI_1]
          have ih := fun y5 y6 => ih (t + 1) σ1 y5 y6 (by omega) h1
          rw [show tK9 ρ (ml ρ se) (t + 1) = some u by unfold tK9; rw [if_neg e0, tlK, eK]; exact if_neg (Nat.not_lt.mpr ((nI_leI (by omega) (by omega)).mp h42))] at ih
          exact ih _ _
        ·
          refine Vj_iconst (q := 46) (v := 1) dX10_tells_45 rfl (by decide) ?_
          refine Vj_goto (q := 50) dX10_tells_46 (by decide) ?_
          refine Vs_istore6 (q := 52) dX10_tells_50 rfl (by decide) rfl ?_
          refine Vj_iload (q := 54) dX10_tells_52 rfl rfl ?_
          refine Vj_if_eq (q := 57) (tgt := 62) dX10_tells_54 (by decide) rfl (fun hz => absurd hz (by decide)) (fun _ => ?_)
          refine Vj_iload (q := 59) dX10_tells_57 rfl rfl ?_
          refine Vj_goto (q := 63) dX10_tells_59 (by decide) ?_
          refine Vs_istore2 (q := 64) dX10_tells_63 rfl (by decide) rfl ?_
          refine Vj_iload (q := 66) dX10_tells_64 rfl rfl ?_
          refine Vj_if_eq (q := 69) (tgt := 74) dX10_tells_66 (by decide) rfl (fun hz => absurd hz (by decide)) (fun _ => ?_)
          refine Vj_iload (q := 71) dX10_tells_69 rfl rfl ?_
          refine Vj_goto (q := 75) dX10_tells_71 (by decide) ?_
          refine Vs_istore3 (q := 76) dX10_tells_75 rfl (by decide) rfl ?_
          refine Vs_iinc4 (q := 79) (z := none) dX10_tells_76 rfl (by exact iinc_p _) (by decide) rfl ?_
          refine Vj_goto (q := 9) dX10_tells_79 (by decide) ?_
          rw [nI_1]
          have ih := fun y5 y6 => ih (t + 1) σ1 y5 y6 (by omega) h1
          rw [show tK9 ρ (ml ρ se) (t + 1) = some (t, mA ρ t (ml ρ se) (ml ρ se).length) by unfold tK9; rw [if_neg e0, tlK, eK]; exact if_pos (Nat.not_le.mp fun z => h42 (nI_le z (by omega)))] at ih
          exact ih _ _
set_option maxRecDepth 100000 in
theorem qX10_tells {tx : List Nat} {ρ : Rm} {c d p : Nat} {ac : List (Nat × Nat × Nat)} {sl : Nat → Option (Nat × Nat × Nat)} {se : List (Nat × Nat × Nat)} {sd : Int64} {N : Nat} {σ : Mem} (h : RM tx ρ c d p ac sl se sd σ) (hv : okV N ρ c d p ac sl se) (many : Int32) : Ct shM 5 mX10_tells [.ref 0, .int many] σ (PM (spTells ρ se many) tx ρ c d p ac sl se sd) := by
  refine Ct.of (by decide) (Nat.le_of_ble_eq_true rfl) (l := [some (.ref 0), some (.int many), none, none, none, none, none]) rfl ?_
  refine Vj_bipush (q := 2) (v := (-9)) dX10_tells_0 rfl (by decide) ?_
  refine Vs_istore2 (q := 3) dX10_tells_2 rfl (by decide) rfl ?_
  refine Vj_bipush (q := 5) (v := (-9)) dX10_tells_3 rfl (by decide) ?_
  refine Vs_istore3 (q := 6) dX10_tells_5 rfl (by decide) rfl ?_
  refine Vj_iconst (q := 7) (v := 0) dX10_tells_6 rfl (by decide) ?_
  refine Vs_istore4 (q := 9) dX10_tells_7 rfl (by decide) rfl ?_
  have e : tK9 ρ (ml ρ se) 0 = none := by unfold tK9 tlK; split <;> rfl
  have z := qX10_tells_loop hv (many := many) (rB ρ) 0 σ none none (by omega) h
  rw [e] at z
  exact z
