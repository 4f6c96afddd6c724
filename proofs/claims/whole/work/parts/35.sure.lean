/-! the reference: sure, needed -/
def aMr (ρ : Rm) (n r to : Nat) : Nat → Bool
  | 0 => true
  | i + 1 => aMr ρ n r to i && (rGo ρ n r (mc ρ i) n == to)
theorem aMr_i {ρ : Rm} {n r to : Nat} : ∀ K, aMr ρ n r to K = true ↔ ∀ i, i < K → rGo ρ n r (mc ρ i) n = to
  | 0 => ⟨fun _ i hi => absurd hi (Nat.not_lt_zero i), fun _ => rfl⟩
  | K + 1 => by
    rw [aMr, Bool.and_eq_true, aMr_i K, beq_iff_eq]
    constructor
    · rintro ⟨h1, h2⟩ i hi
      by_cases e : i = K
      · rw [e]; exact h2
      · exact h1 i (by omega)
    · intro h; exact ⟨fun i hi => h i (by omega), h K (Nat.lt_succ_self K)⟩
theorem bAk_i {ρ : Rm} {n r to : Nat} : ∀ K, bAk ρ n r to K = true ↔ ∀ c, c < K → cOk ρ c = true → rGo ρ n r c n = to
  | 0 => ⟨fun _ i hi => absurd hi (Nat.not_lt_zero i), fun _ => rfl⟩
  | K + 1 => by
    rw [bAk, Bool.and_eq_true, bAk_i K]
    constructor
    · rintro ⟨h1, h2⟩ c hc ho
      by_cases e : c = K
      · subst e
        rw [ho] at h2
        exact beq_iff_eq.mp h2
      · exact h1 c (by omega) ho
    · intro h
      refine ⟨fun i hi => h i (by omega), ?_⟩
      cases e : cOk ρ K with
      | false => rfl
      | true => exact beq_iff_eq.mpr (h K (Nat.lt_succ_self K) e)
theorem aMr_b {ρ : Rm} (hr : okR ρ) {n r to : Nat} : aMr ρ n r to (mN ρ) = bAk ρ n r to (4 ^ rN ρ) := by
  refine Bool.eq_iff_iff.mpr ((aMr_i _).trans (Iff.trans ?_ (bAk_i _).symm))
  constructor
  · intro h c hc ho
    have := h (cm ρ c) (cm_lt hr ⟨hc, ho⟩)
    rw [mc_cm hr ⟨hc, ho⟩] at this
    exact this
  · intro h i hi
    have := mc_cV hr hi
    exact h _ this.1 this.2
theorem aMr_f {ρ : Rm} {n r to i : Nat} (h : aMr ρ n r to i = false) : ∀ k, aMr ρ n r to (i + k) = false
  | 0 => h
  | k + 1 => by rw [← Nat.add_assoc, aMr, aMr_f h k]; rfl

set_option maxRecDepth 100000 in
theorem qX10_isSure_loop {ρ : Rm} {σ : Mem} (hP : RoM ρ σ) (hTa : TaM ρ σ) {n r to : Nat} (hn : n < 7) (hrr : r < 10 ^ n) (hto : cV ρ to) (hk : rKk ρ n r n = true) : ∀ k t : Nat, t + k = mN ρ → Vj shM 3 mX10_isSure (Ri (bI (bAk ρ n r to (4 ^ rN ρ))) σ) 6 [some (.ref 0), some (.int (nI (cm ρ to))), some (.int (nI n)), some (.int (nI r)), some (.int (bI (aMr ρ n r to t))), some (.int (nI t))] [] σ := by
  have hr := hP.1
  have hM := mN_le hr
  intro k
  induction k with
  | zero =>
    intro t ht
    obtain rfl : t = mN ρ := by omega
    refine Vj_iload (q := 8) dX10_isSure_6 rfl rfl ?_
    refine Vj_aloadn (q := 9) dX10_isSure_8 rfl rfl rfl ?_
    refine Vj_getI (q := 12) flX10_68 rfl rfl dX10_isSure_9 rfl ?_
    rw [hP.2.2.2.1]
    refine Vj_icmp_ge (q := 15) (tgt := 45) dX10_isSure_12 (by decide) rfl (fun _ => ?_) (fun hz => absurd (nI_le (by omega) (by omega)) hz)
    refine Vj_iload (q := 47) dX10_isSure_45 rfl rfl ?_
    refine Vr_iret rfl (bI_nar _) dX10_isSure_47 ?_
    refine ⟨by rw [aMr_b hr], rfl⟩
  | succ k ih =>
    intro t ht
    have ht' : t < mN ρ := by omega
    have hcc := rGo_ok hr (mc_cV hr ht') n hk
    have h1 := cm_lt hr hcc
    have h2 := cm_lt hr hto
    refine Vj_iload (q := 8) dX10_isSure_6 rfl rfl ?_
    refine Vj_aloadn (q := 9) dX10_isSure_8 rfl rfl rfl ?_
    refine Vj_getI (q := 12) flX10_68 rfl rfl dX10_isSure_9 rfl ?_
    rw [hP.2.2.2.1]
    refine Vj_icmp_ge (q := 15) (tgt := 45) dX10_isSure_12 (by decide) rfl (fun hz => absurd hz (nI_ge (by omega) (by omega))) (fun _ => ?_)
    refine Vj_iload (q := 17) dX10_isSure_15 rfl rfl ?_
    refine Vj_if_eq (q := 20) (tgt := 45) dX10_isSure_17 (by decide) rfl (fun h17 => ?_) (fun h17 => ?_)
    ·
      refine Vj_iload (q := 47) dX10_isSure_45 rfl rfl ?_
      refine Vr_iret rfl (bI_nar _) dX10_isSure_47 ?_
      refine ⟨?_, rfl⟩
      rw [← aMr_b hr, ← ht, aMr_f (bI_z.mp h17), bI_z.mp h17]
    ·
      refine Vj_aloadn (q := 21) dX10_isSure_20 rfl rfl rfl ?_
      refine Vj_iload (q := 23) dX10_isSure_21 rfl rfl ?_
      refine Vj_top (show nI t = nI (cm ρ (mc ρ t)) by rw [cm_mc hr ht']) ?_
      refine Vj_iloadn (q := 24) dX10_isSure_23 rfl rfl rfl ?_
      refine Vj_iloadn (q := 25) dX10_isSure_24 rfl rfl rfl ?_
      refine Vj_callVi (q := 28) (qX10_afterRow hP hTa hn (Nat.lt_trans hrr (p10_lt hn).1) (mc_cV hr ht')) (by decide) rfl rfl lkX10_166 viX10_afterRow okX10_afterRow dX10_isSure_25 rfl rfl (Nat.le_of_ble_eq_true rfl) ?_
      refine Vj_iloadn (q := 29) dX10_isSure_28 rfl rfl rfl ?_
      refine Vj_icmp_ne (q := 32) (tgt := 36) dX10_isSure_29 (by decide) rfl (fun h29 => ?_) (fun h29 => ?_)
      ·
        refine Vj_iconst (q := 37) (v := 0) dX10_isSure_36 rfl (by decide) ?_
        refine Vs_istore4 (q := 39) dX10_isSure_37 rfl (by decide) rfl ?_
        refine Vs_iinc5 (q := 42) (z := none) dX10_isSure_39 rfl (by exact iinc_p _) (by decide) rfl ?_
        refine Vj_goto (q := 6) dX10_isSure_42 (by decide) ?_
        rw [nI_1]
        rw [if_pos hk] at h29
        have e : aMr ρ n r to (t + 1) = false := by
          rw [aMr, Bool.and_eq_false_iff]
          exact Or.inr (beq_eq_false_iff_ne.mpr fun z => h29 (by rw [z]))
        have ih := ih (t + 1) (by omega)
        rw [e] at ih
        exact ih
      ·
        refine Vj_iconst (q := 33) (v := 1) dX10_isSure_32 rfl (by decide) ?_
        refine Vj_goto (q := 37) dX10_isSure_33 (by decide) ?_
        refine Vs_istore4 (q := 39) dX10_isSure_37 rfl (by decide) rfl ?_
        refine Vs_iinc5 (q := 42) (z := none) dX10_isSure_39 rfl (by exact iinc_p _) (by decide) rfl ?_
        refine Vj_goto (q := 6) dX10_isSure_42 (by decide) ?_
        rw [nI_1]
        rw [if_pos hk] at h29
        have e : aMr ρ n r to (t + 1) = true := by
          rw [aMr, bI_n.mp h17, (cm_inj hr hcc hto).mp ((nI_eq (by omega) (by omega)).mp h29), beq_self_eq_true]; rfl
        have ih := ih (t + 1) (by omega)
        rw [e] at ih
        exact ih
set_option maxRecDepth 100000 in
theorem qX10_isSure {ρ : Rm} {σ : Mem} (hP : RoM ρ σ) (hTa : TaM ρ σ) {n r to : Nat} (hn : n < 7) (hrr : r < 10 ^ n) (hto : cV ρ to) : Ct shM 3 mX10_isSure [.ref 0, .int (nI (cm ρ to)), .int (nI n), .int (nI r)] σ (Ri (bI (rKk ρ n r n && bAk ρ n r to (4 ^ rN ρ))) σ) := by
  have hr := hP.1
  have hM := mN_le hr
  have hm0 := cm_lt hr hto
  refine Ct.of (by decide) (Nat.le_of_ble_eq_true rfl) (l := [some (.ref 0), some (.int (nI (cm ρ to))), some (.int (nI n)), some (.int (nI r)), none, none]) rfl ?_
  refine Vj_iconst (q := 1) (v := 1) dX10_isSure_0 rfl (by decide) ?_
  refine Vs_istore4 (q := 3) dX10_isSure_1 rfl (by decide) rfl ?_
  refine Vj_iconst (q := 4) (v := 0) dX10_isSure_3 rfl (by decide) ?_
  refine Vs_istore5 (q := 6) dX10_isSure_4 rfl (by decide) rfl ?_
  cases hk : rKk ρ n r n with
  | true =>
    exact qX10_isSure_loop hP hTa hn hrr hto hk (mN ρ) 0 (by omega)
  | false =>
    have ht' : 0 < mN ρ := by omega
    have hz := cm_mc hr ht'
    refine Vj_iload (q := 8) dX10_isSure_6 rfl rfl ?_
    refine Vj_aloadn (q := 9) dX10_isSure_8 rfl rfl rfl ?_
    refine Vj_getI (q := 12) flX10_68 rfl rfl dX10_isSure_9 rfl ?_
    rw [hP.2.2.2.1]
    refine Vj_icmp_ge (q := 15) (tgt := 45) dX10_isSure_12 (by decide) rfl (fun hz => absurd hz (nI_ge (a := 0) (by omega) (by omega))) (fun _ => ?_)
    refine Vj_iload (q := 17) dX10_isSure_15 rfl rfl ?_
    refine Vj_if_eq (q := 20) (tgt := 45) dX10_isSure_17 (by decide) rfl (fun hz => absurd hz (by decide)) (fun _ => ?_)
    refine Vj_aloadn (q := 21) dX10_isSure_20 rfl rfl rfl ?_
    refine Vj_iload (q := 23) dX10_isSure_21 rfl rfl ?_
    refine Vj_top (show (0 : Int32) = nI (cm ρ (mc ρ 0)) by rw [hz]; rfl) ?_
    refine Vj_iloadn (q := 24) dX10_isSure_23 rfl rfl rfl ?_
    refine Vj_iloadn (q := 25) dX10_isSure_24 rfl rfl rfl ?_
    refine Vj_callVi (q := 28) (qX10_afterRow hP hTa hn (Nat.lt_trans hrr (p10_lt hn).1) (mc_cV hr ht')) (by decide) rfl rfl lkX10_166 viX10_afterRow okX10_afterRow dX10_isSure_25 rfl rfl (Nat.le_of_ble_eq_true rfl) ?_
    refine Vj_iloadn (q := 29) dX10_isSure_28 rfl rfl rfl ?_
    refine Vj_icmp_ne (q := 32) (tgt := 36) dX10_isSure_29 (by decide) rfl (fun _ => ?_) (fun hz => absurd hz (fun z => oM_ne hr hto (by rw [if_neg (by rw [hk]; decide)] at z; exact z.symm)))
    refine Vj_iconst (q := 37) (v := 0) dX10_isSure_36 rfl (by decide) ?_
    refine Vs_istore4 (q := 39) dX10_isSure_37 rfl (by decide) rfl ?_
    refine Vs_iinc5 (q := 42) (z := none) dX10_isSure_39 rfl (by exact iinc_p _) (by decide) rfl ?_
    refine Vj_goto (q := 6) dX10_isSure_42 (by decide) ?_
    refine Vj_iload (q := 8) dX10_isSure_6 rfl rfl ?_
    refine Vj_aloadn (q := 9) dX10_isSure_8 rfl rfl rfl ?_
    refine Vj_getI (q := 12) flX10_68 rfl rfl dX10_isSure_9 rfl ?_
    rw [hP.2.2.2.1]
    refine Vj_icmp_ge (q := 15) (tgt := 45) dX10_isSure_12 (by decide) rfl (fun h12 => ?_) (fun h12 => ?_)
    ·
      refine Vj_iload (q := 47) dX10_isSure_45 rfl rfl ?_
      exact Vr_iret rfl rfl dX10_isSure_47 (⟨rfl, rfl⟩)
    ·
      refine Vj_iload (q := 17) dX10_isSure_15 rfl rfl ?_
      refine Vj_if_eq (q := 20) (tgt := 45) dX10_isSure_17 (by decide) rfl (fun _ => ?_) (fun hz => absurd rfl hz)
      refine Vj_iload (q := 47) dX10_isSure_45 rfl rfl ?_
      exact Vr_iret rfl rfl dX10_isSure_47 (⟨rfl, rfl⟩)
theorem fg_row : ∀ n, n < 4 → ∀ k, k < 10 ^ n → ((List.range n).all (fun i => Nat.ble 1 (dg n k i) && Nat.ble (dg n k i) 6)) = true → fgN k = n ∧ k < 667 := by decide +kernel
theorem fg_lt : ∀ t, t < 667 → t < 10 ^ fgN t := by decide +kernel
theorem fg_mono {t k : Nat} (h : t ≤ k) : fgN t ≤ fgN k := by
  unfold fgN
  by_cases h1 : t < 1
  · rw [if_pos h1]; exact Nat.zero_le _
  · rw [if_neg h1, if_neg (show ¬ k < 1 by omega)]
    by_cases h2 : t < 10
    · rw [if_pos h2]; split; exact Nat.le_refl _; split <;> omega
    · rw [if_neg h2, if_neg (show ¬ k < 10 by omega)]
      by_cases h3 : t < 100
      · rw [if_pos h3]; split <;> omega
      · rw [if_neg h3, if_neg (show ¬ k < 100 by omega)]; exact Nat.le_refl _
theorem rKk_fg {ρ : Rm} (hr : okR ρ) {n k : Nat} (hn : n < 4) (hk : k < 10 ^ n) (h : rKk ρ n k n = true) : fgN k = n ∧ k < 667 := by
  refine fg_row n hn k hk (List.all_eq_true.mpr fun i hi => ?_)
  have h1 := of_decide_eq_true (rKk_at n h i (List.mem_range.mp hi))
  have := hr.2.2.1
  rw [Bool.and_eq_true]
  exact ⟨Nat.ble_eq.mpr h1.1, Nat.ble_eq.mpr (by omega)⟩
def suI (ρ : Rm) (to n k : Nat) : Prop := ∀ t, t < 667 → (fgN t < n ∨ (fgN t = n ∧ t < k)) → suB ρ to t = false
theorem su_fst {ρ : Rm} (hr : okR ρ) {to n k : Nat} (hn : n < 4) (hk : k < 10 ^ n) (hI : suI ρ to n k) (h : (rKk ρ n k n && bAk ρ n k to (4 ^ rN ρ)) = true) : fstN (suB ρ to) 667 = some k ∧ fgN k = n := by
  obtain ⟨e1, e2⟩ := rKk_fg hr hn hk (Bool.and_eq_true_iff.mp h).1
  refine ⟨(fstN_some _).mpr ⟨e2, by unfold suB; rw [e1]; exact h, fun j hj => hI j (by omega) ?_⟩, e1⟩
  have := fg_mono (Nat.le_of_lt hj)
  omega
theorem su_no {ρ : Rm} {to n k : Nat} (hI : suI ρ to n k) (h : (rKk ρ n k n && bAk ρ n k to (4 ^ rN ρ)) = false) : suI ρ to n (k + 1) := by
  intro t ht hh
  by_cases e : fgN t = n ∧ t = k
  · obtain ⟨e1, e2⟩ := e
    subst e2
    unfold suB
    rw [e1]; exact h
  · exact hI t ht (by omega)
theorem su_nx {ρ : Rm} {to n : Nat} (hI : suI ρ to n (10 ^ n)) : suI ρ to (n + 1) 0 := by
  intro t ht hh
  refine hI t ht ?_
  by_cases e : fgN t = n
  · have := fg_lt t ht
    rw [e] at this
    exact Or.inr ⟨e, this⟩
  · exact Or.inl (by omega)
theorem su_end {ρ : Rm} {to : Nat} (hI : suI ρ to 4 0) : fstN (suB ρ to) 667 = none := (fstN_none _).mpr fun j hj => hI j hj (Or.inl (fgN_le j))

set_option maxRecDepth 100000 in
theorem qX10_sure_k {tx : List Nat} {ρ : Rm} {c d p : Nat} {ac : List (Nat × Nat × Nat)} {sl : Nat → Option (Nat × Nat × Nat)} {se : List (Nat × Nat × Nat)} {sd : Int64} {N : Nat} {σ : Mem} (h : RM tx ρ c d p ac sl se sd σ) (hv : okV N ρ c d p ac sl se) {x row : Int32} {to n : Nat} (ec : cOf ρ (rN ρ) x 0 = some to) (hto : cV ρ to) (hn : n < 4) (kk : suI ρ to n (10 ^ n) → Vj shM 4 mX10_sure (PM (spSure ρ x row) tx ρ c d p ac sl se sd) 67 [some (.ref 0), some (.int x), some (.int row), some (.int (nI (cm ρ to))), some (.int (nI n)), some (.int (nI (10 ^ n)))] [] σ) : ∀ j k : Nat, k + j = 10 ^ n → suI ρ to n k → Vj shM 4 mX10_sure (PM (spSure ρ x row) tx ρ c d p ac sl se sd) 27 [some (.ref 0), some (.int x), some (.int row), some (.int (nI (cm ρ to))), some (.int (nI n)), some (.int (nI k))] [] σ := by
  have hp10 := p10_lt (n := n) (by omega)
  intro j
  obtain ⟨hr, hc, hd, hp, hN30, ⟨hal, hav⟩, hsv, hse⟩ := hv
  obtain ⟨hTx, hP, hTa, hNw, hAc, hSl, hSe, hSd⟩ := h
  have hM := mN_le hr
  have hcM := cm_lt hr hc
  have hdM := cm_lt hr hd
  have hn5 := hr.1
  have hB7 := hr.2.2.1
  have h : RM tx ρ c d p ac sl se sd σ := ⟨hTx, hP, hTa, hNw, hAc, hSl, hSe, hSd⟩
  induction j with
  | zero =>
    intro k hk hI
    obtain rfl : k = 10 ^ n := by omega
    refine Vj_iload (q := 29) dX10_sure_27 rfl rfl ?_
    refine Vj_iload (q := 31) dX10_sure_29 rfl rfl ?_
    refine Vj_callSi (q := 34) (qX10_tenTo (n := n) (by omega)) (by decide) lkX10_159 stX10_tenTo okX10_tenTo dX10_sure_31 rfl rfl (Nat.le_of_ble_eq_true rfl) ?_
    refine Vj_icmp_ge (q := 37) (tgt := 67) dX10_sure_34 (by decide) rfl (fun _ => ?_) (fun hz => absurd (nI_le (by omega) (by omega)) hz)
    exact kk hI
  | succ j ih =>
    intro k hk hI
    refine Vj_iload (q := 29) dX10_sure_27 rfl rfl ?_
    refine Vj_iload (q := 31) dX10_sure_29 rfl rfl ?_
    refine Vj_callSi (q := 34) (qX10_tenTo (n := n) (by omega)) (by decide) lkX10_159 stX10_tenTo okX10_tenTo dX10_sure_31 rfl rfl (Nat.le_of_ble_eq_true rfl) ?_
    refine Vj_icmp_ge (q := 37) (tgt := 67) dX10_sure_34 (by decide) rfl (fun hz => absurd hz (nI_ge (by omega) (by omega))) (fun _ => ?_)
    refine Vj_aloadn (q := 38) dX10_sure_37 rfl rfl rfl ?_
    refine Vj_iloadn (q := 39) dX10_sure_38 rfl rfl rfl ?_
    refine Vj_iload (q := 41) dX10_sure_39 rfl rfl ?_
    refine Vj_iload (q := 43) dX10_sure_41 rfl rfl ?_
    refine Vj_callVi (q := 46) (qX10_isSure hP hTa (n := n) (r := k) (by omega) (by omega) hto) (by decide) rfl rfl lkX10_181 viX10_isSure okX10_isSure dX10_sure_43 rfl rfl (Nat.le_of_ble_eq_true rfl) ?_
    refine Vj_if_eq (q := 49) (tgt := 61) dX10_sure_46 (by decide) rfl (fun h46 => ?_) (fun h46 => ?_)
    ·
      refine Vs_iinc5 (q := 64) (z := none) dX10_sure_61 rfl (by exact iinc_p _) (by decide) rfl ?_
      refine Vj_goto (q := 27) dX10_sure_64 (by decide) ?_
      rw [nI_1]
      exact ih (k + 1) (by omega) (su_no hI (bI_f0 h46))
    ·
      obtain ⟨e1, e2⟩ := su_fst hr hn (k := k) (by omega) hI (bI_n.mp h46)
      refine Vj_iloadn (q := 50) dX10_sure_49 rfl rfl rfl ?_
      refine Vj_if_eq (q := 53) (tgt := 58) dX10_sure_50 (by decide) rfl (fun h50 => ?_) (fun h50 => ?_)
      ·
        refine Vj_iload (q := 60) dX10_sure_58 rfl rfl ?_
        refine Vr_iret rfl rfl dX10_sure_60 ?_
        refine ⟨?_, h⟩
        unfold spSure
        simp only [ec, e1]
        rw [if_pos h50, e2]
      ·
        refine Vj_iload (q := 55) dX10_sure_53 rfl rfl ?_
        refine Vj_goto (q := 60) dX10_sure_55 (by decide) ?_
        refine Vr_iret rfl rfl dX10_sure_60 ?_
        refine ⟨?_, h⟩
        unfold spSure
        simp only [ec, e1]
        rw [if_neg h50]
set_option maxRecDepth 100000 in
theorem qX10_sure_n {tx : List Nat} {ρ : Rm} {c d p : Nat} {ac : List (Nat × Nat × Nat)} {sl : Nat → Option (Nat × Nat × Nat)} {se : List (Nat × Nat × Nat)} {sd : Int64} {N : Nat} {σ : Mem} (h : RM tx ρ c d p ac sl se sd σ) (hv : okV N ρ c d p ac sl se) {x row : Int32} {to : Nat} (ec : cOf ρ (rN ρ) x 0 = some to) (hto : cV ρ to) : ∀ (j n : Nat) (z5 : Option Value), n + j = 4 → suI ρ to n 0 → Vj shM 4 mX10_sure (PM (spSure ρ x row) tx ρ c d p ac sl se sd) 18 [some (.ref 0), some (.int x), some (.int row), some (.int (nI (cm ρ to))), some (.int (nI n)), z5] [] σ := by
  intro j
  induction j with
  | zero =>
    intro n z5 hj hI
    obtain rfl : n = 4 := by omega
    refine Vj_iload (q := 20) dX10_sure_18 rfl rfl ?_
    refine Vj_iconst (q := 21) (v := 4) dX10_sure_20 rfl (by decide) ?_
    refine Vj_icmp_ge (q := 24) (tgt := 73) dX10_sure_21 (by decide) rfl (fun _ => ?_) (fun hz => absurd (by decide) hz)
    refine Vj_bipush (q := 75) (v := (-9)) dX10_sure_73 rfl (by decide) ?_
    refine Vr_iret rfl rfl dX10_sure_75 ?_
    refine ⟨?_, h⟩
    unfold spSure
    simp only [ec, su_end hI]
  | succ j ih =>
    intro n z5 hj hI
    refine Vj_iload (q := 20) dX10_sure_18 rfl rfl ?_
    refine Vj_iconst (q := 21) (v := 4) dX10_sure_20 rfl (by decide) ?_
    refine Vj_icmp_ge (q := 24) (tgt := 73) dX10_sure_21 (by decide) rfl (fun hz => absurd hz (nI_ge (b := 4) (by omega) (by decide))) (fun _ => ?_)
    refine Vj_iconst (q := 25) (v := 0) dX10_sure_24 rfl (by decide) ?_
    refine Vs_istore5 (q := 27) dX10_sure_25 rfl (by decide) rfl ?_
    refine qX10_sure_k h hv ec hto (by omega) (fun hI2 => ?_) (10 ^ n) 0 (by omega) hI
    refine Vs_iinc4 (q := 70) (z := none) dX10_sure_67 rfl (by exact iinc_p _) (by decide) rfl ?_
    refine Vj_goto (q := 18) dX10_sure_70 (by decide) ?_
    rw [nI_1]
    exact ih (n + 1) _ (by omega) (su_nx hI2)
set_option maxRecDepth 100000 in
theorem qX10_sure {tx : List Nat} {ρ : Rm} {c d p : Nat} {ac : List (Nat × Nat × Nat)} {sl : Nat → Option (Nat × Nat × Nat)} {se : List (Nat × Nat × Nat)} {sd : Int64} {N : Nat} {σ : Mem} (h : RM tx ρ c d p ac sl se sd σ) (hv : okV N ρ c d p ac sl se) (x row : Int32) : Ct shM 4 mX10_sure [.ref 0, .int x, .int row] σ (PM (spSure ρ x row) tx ρ c d p ac sl se sd) := by
  obtain ⟨hr, hc, hd, hp, hN30, ⟨hal, hav⟩, hsv, hse⟩ := hv
  obtain ⟨hTx, hP, hTa, hNw, hAc, hSl, hSe, hSd⟩ := h
  have hM := mN_le hr
  have hcM := cm_lt hr hc
  have hdM := cm_lt hr hd
  have hn5 := hr.1
  have hB7 := hr.2.2.1
  have h : RM tx ρ c d p ac sl se sd σ := ⟨hTx, hP, hTa, hNw, hAc, hSl, hSe, hSd⟩
  refine Ct.of (by decide) (Nat.le_of_ble_eq_true rfl) (l := [some (.ref 0), some (.int x), some (.int row), none, none, none]) rfl ?_
  refine Vj_aloadn (q := 1) dX10_sure_0 rfl rfl rfl ?_
  refine Vj_iloadn (q := 2) dX10_sure_1 rfl rfl rfl ?_
  refine Vj_callVi (q := 5) (qX10_messOf hP x) (by decide) rfl rfl lkX10_169 viX10_messOf okX10_messOf dX10_sure_2 rfl rfl (Nat.le_of_ble_eq_true rfl) ?_
  rcases ec : cOf ρ (rN ρ) x 0 with _ | to
  ·
    refine Vs_istore3 (q := 6) dX10_sure_5 rfl (by decide) rfl ?_
    refine Vj_iloadn (q := 7) dX10_sure_6 rfl rfl rfl ?_
    refine Vj_bipush (q := 9) (v := (-9)) dX10_sure_7 rfl (by decide) ?_
    refine Vj_icmp_ne (q := 12) (tgt := 15) dX10_sure_9 (by decide) rfl (fun hz => absurd rfl hz) (fun _ => ?_)
    refine Vj_bipush (q := 14) (v := (-2)) dX10_sure_12 rfl (by decide) ?_
    exact Vr_iret rfl rfl dX10_sure_14 (⟨by unfold spSure; rw [ec], h⟩)
  ·
    have hto := cOf_V0 hr ec
    rw [oM_s]
    refine Vs_istore3 (q := 6) dX10_sure_5 rfl (by decide) rfl ?_
    refine Vj_iloadn (q := 7) dX10_sure_6 rfl rfl rfl ?_
    refine Vj_bipush (q := 9) (v := (-9)) dX10_sure_7 rfl (by decide) ?_
    refine Vj_icmp_ne (q := 12) (tgt := 15) dX10_sure_9 (by decide) rfl (fun _ => ?_) (fun hz => absurd hz (oM_ne hr hto))
    refine Vj_iconst (q := 16) (v := 0) dX10_sure_15 rfl (by decide) ?_
    refine Vs_istore4 (q := 18) dX10_sure_16 rfl (by decide) rfl ?_
    exact qX10_sure_n h ⟨hr, hc, hd, hp, hN30, ⟨hal, hav⟩, hsv, hse⟩ ec hto 4 0 none (by omega) (fun t _ hh => absurd hh (by omega))
theorem pop_le : ∀ n, n < 7 → ∀ x, x < 2 ^ n → pop6 x ≤ n := by decide +kernel
def rcB (ρ : Rm) (to c s : Nat) : Bool := (dst (cNx ρ) (rB ρ) s to c).isSome
/-- the best of the first s sets -/
def bsP (ρ : Rm) (to c s : Nat) (best : Option Nat) : Prop := (best = none → ∀ y, y < s → rcB ρ to c y = false) ∧ ∀ x, best = some x → x < s ∧ rcB ρ to c x = true ∧ ∀ y, y < s → rcB ρ to c y = true → pop6 x < pop6 y ∨ (pop6 x = pop6 y ∧ x ≤ y)
theorem ndK_n {ρ : Rm} {to c : Nat} : ∀ K, (∀ k, k < K → nd1 ρ to c k = none) → ndK ρ to c K = none
  | 0, _ => rfl
  | K + 1, h => by
    rw [ndK, ndK_n K (fun k hk => h k (by omega))]
    exact h K (Nat.lt_succ_self K)
theorem ndK_m {ρ : Rm} {to c K x : Nat} (h : ndK ρ to c K = some x) : ∀ j, ndK ρ to c (K + j) = some x
  | 0 => h
  | j + 1 => by rw [← Nat.add_assoc, ndK, ndK_m h j]
theorem nd_fin {ρ : Rm} (hr : okR ρ) {to c : Nat} {best : Option Nat} (h : bsP ρ to c (2 ^ rB ρ) best) : ndK ρ to c (rB ρ + 1) = best := by
  cases best with
  | none =>
    refine ndK_n _ fun k _ => (fstN_none _).mpr fun j hj => ?_
    rw [show (dst (cNx ρ) (rB ρ) j to c).isSome = false from h.1 rfl j hj, Bool.and_false]
  | some x =>
    obtain ⟨h1, h2, h3⟩ := h.2 x rfl
    have hp := pop_le _ hr.2.2.1 x h1
    have e0 : ndK ρ to c (pop6 x) = none := by
      refine ndK_n _ fun k hk => (fstN_none _).mpr fun j hj => Bool.eq_false_iff.mpr fun z => ?_
      rw [Bool.and_eq_true, beq_iff_eq] at z
      have := h3 j hj z.2
      omega
    have e1 : ndK ρ to c (pop6 x + 1) = some x := by
      rw [ndK, e0]
      refine (fstN_some _).mpr ⟨h1, by rw [Bool.and_eq_true, beq_iff_eq]; exact ⟨rfl, h2⟩, fun j hj => Bool.eq_false_iff.mpr fun z => ?_⟩
      rw [Bool.and_eq_true, beq_iff_eq] at z
      have := h3 j (by omega) z.2
      omega
    have := ndK_m e1 (rB ρ - pop6 x)
    rw [show pop6 x + 1 + (rB ρ - pop6 x) = rB ρ + 1 by omega] at this
    exact this
theorem bs_keep {ρ : Rm} {to c s : Nat} {best : Option Nat} (h : bsP ρ to c s best) (hs : rcB ρ to c s = false) : bsP ρ to c (s + 1) best := by
  refine ⟨fun e y hy => ?_, fun x e => ?_⟩
  · by_cases ey : y = s
    · rw [ey]; exact hs
    · exact h.1 e y (by omega)
  · obtain ⟨h1, h2, h3⟩ := h.2 x e
    refine ⟨by omega, h2, fun y hy hry => ?_⟩
    by_cases ey : y = s
    · rw [ey, hs] at hry; cases hry
    · exact h3 y (by omega) hry
theorem bs_skip {ρ : Rm} {to c s x : Nat} (h : bsP ρ to c s (some x)) (hs : pop6 x ≤ pop6 s) : bsP ρ to c (s + 1) (some x) := by
  refine ⟨fun e => (by cases e), fun x' e => ?_⟩
  cases e
  obtain ⟨h1, h2, h3⟩ := h.2 x rfl
  refine ⟨by omega, h2, fun y hy hry => ?_⟩
  by_cases ey : y = s
  · rw [ey]; omega
  · exact h3 y (by omega) hry
theorem bs_new {ρ : Rm} {to c s : Nat} {best : Option Nat} (h : bsP ρ to c s best) (hs : rcB ρ to c s = true) (hb : ∀ x, best = some x → pop6 s < pop6 x) : bsP ρ to c (s + 1) (some s) := by
  refine ⟨fun e => (by cases e), fun x' e => ?_⟩
  cases e
  refine ⟨Nat.lt_succ_self s, hs, fun y hy hry => ?_⟩
  by_cases ey : y = s
  · subst ey; exact Or.inr ⟨rfl, Nat.le_refl _⟩
  · cases best with
    | none => rw [h.1 rfl y (by omega)] at hry; cases hry
    | some x =>
      have := (h.2 x rfl).2.2 y (by omega) hry
      have := hb x rfl
      omega
theorem o9_i {o : Option Nat} (h : ¬ o9 o = -9) : o.isSome = true := by
  cases o with
  | none => exact absurd rfl h
  | some k => rfl

set_option maxRecDepth 100000 in
theorem qX10_needed_loop {tx : List Nat} {ρ : Rm} {c d p : Nat} {ac : List (Nat × Nat × Nat)} {sl : Nat → Option (Nat × Nat × Nat)} {se : List (Nat × Nat × Nat)} {sd : Int64} {N : Nat} (hv : okV N ρ c d p ac sl se) {x : Int32} {to : Nat} (ec : cOf ρ (rN ρ) x 0 = some to) (hto : cV ρ to) : ∀ (k : Nat) (σ : Mem), RM tx ρ c d p ac sl se sd σ → ∀ (s : Nat) (best : Option Nat), s + k = 2 ^ rB ρ → bsP ρ to c s best → Vj shM 2 mX10_needed (PM (spNeeded ρ c x) tx ρ c d p ac sl se sd) 21 [some (.ref 0), some (.int x), some (.int (nI (cm ρ to))), some (.int (o9 best)), some (.int (nI s))] [] σ := by
  have hev := evB_lt hv.1
  have e2 : evB ρ + 1 = 2 ^ rB ρ := by have : 0 < 2 ^ rB ρ := Nat.pow_pos (by decide); unfold evB; omega
  intro k
  induction k with
  | zero =>
    intro σ h s best hs hI
    obtain ⟨hr, hc, hd, hp, hN30, ⟨hal, hav⟩, hsv, hse⟩ := hv
    obtain ⟨hTx, hP, hTa, hNw, hAc, hSl, hSe, hSd⟩ := h
    have hM := mN_le hr
    have hcM := cm_lt hr hc
    have hdM := cm_lt hr hd
    have hn5 := hr.1
    have hB7 := hr.2.2.1
    have h : RM tx ρ c d p ac sl se sd σ := ⟨hTx, hP, hTa, hNw, hAc, hSl, hSe, hSd⟩
    obtain rfl : s = 2 ^ rB ρ := by omega
    refine Vj_iload (q := 23) dX10_needed_21 rfl rfl ?_
    refine Vj_aloadn (q := 24) dX10_needed_23 rfl rfl rfl ?_
    refine Vj_callVi (q := 27) (qX10_every hP) (by decide) rfl rfl lkX10_172 viX10_every okX10_every dX10_needed_24 rfl rfl (Nat.le_of_ble_eq_true rfl) ?_
    refine Vj_icmp_gt (q := 30) (tgt := 83) dX10_needed_27 (by decide) rfl (fun _ => ?_) (fun hz => absurd (nI_lt (by omega) (by omega)) hz)
    refine Vj_iloadn (q := 84) dX10_needed_83 rfl rfl rfl ?_
    refine Vr_iret rfl rfl dX10_needed_84 ?_
    refine ⟨?_, h⟩
    unfold spNeeded
    simp only [ec, nd_fin hr hI]
    cases best <;> rfl
  | succ k ih =>
    intro σ h s best hs hI
    obtain ⟨hr, hc, hd, hp, hN30, ⟨hal, hav⟩, hsv, hse⟩ := hv
    obtain ⟨hTx, hP, hTa, hNw, hAc, hSl, hSe, hSd⟩ := h
    have hM := mN_le hr
    have hcM := cm_lt hr hc
    have hdM := cm_lt hr hd
    have hn5 := hr.1
    have hB7 := hr.2.2.1
    have h : RM tx ρ c d p ac sl se sd σ := ⟨hTx, hP, hTa, hNw, hAc, hSl, hSe, hSd⟩
    cases best with
    | none =>
      refine Vj_iload (q := 23) dX10_needed_21 rfl rfl ?_
      refine Vj_aloadn (q := 24) dX10_needed_23 rfl rfl rfl ?_
      refine Vj_callVi (q := 27) (qX10_every hP) (by decide) rfl rfl lkX10_172 viX10_every okX10_every dX10_needed_24 rfl rfl (Nat.le_of_ble_eq_true rfl) ?_
      refine Vj_icmp_gt (q := 30) (tgt := 83) dX10_needed_27 (by decide) rfl (fun hz => absurd hz (Int32.not_lt.mpr (nI_le (by omega) (by omega)))) (fun _ => ?_)
      refine Vj_iloadn (q := 31) dX10_needed_30 rfl rfl rfl ?_
      refine Vj_bipush (q := 33) (v := (-9)) dX10_needed_31 rfl (by decide) ?_
      refine Vj_icmp_eq (q := 36) (tgt := 48) dX10_needed_33 (by decide) rfl (fun _ => ?_) (fun hz => absurd rfl hz)
      refine Vj_aloadn (q := 49) dX10_needed_48 rfl rfl rfl ?_
      refine Vj_iloadn (q := 50) dX10_needed_49 rfl rfl rfl ?_
      refine Vj_iload (q := 52) dX10_needed_50 rfl rfl ?_
      refine Vj_callV (q := 55) (qX10_layFar hP hTa (ch := s) (by omega) hto) (by decide) rfl rfl lkX10_175 viX10_layFar okX10_layFar dX10_needed_52 rfl rfl (Nat.le_of_ble_eq_true rfl) ?_
      rintro r1 σ1 ⟨rfl, hL, hE⟩
      show Vj shM 2 mX10_needed _ 55 _ [.int _] σ1
      have h1 := h.eqo hE rfl
      have hNw1 := h1.2.2.2.1
      have eL := hL c hc
      have ih := ih σ1 h1
      refine Vj_pop (q := 56) dX10_needed_55 rfl rfl ?_
      refine Vj_aloadn (q := 57) dX10_needed_56 rfl rfl rfl ?_
      refine Vj_getR (q := 60) flX10_43 rfl rfl dX10_needed_57 rfl ?_
      refine Vj_aloadn (q := 61) dX10_needed_60 rfl rfl rfl ?_
      refine Vj_getI (q := 64) flX10_117 rfl rfl dX10_needed_61 rfl ?_
      rw [hNw1.1]
      refine Vj_iald (q := 65) rfl (vp_in_nI (by omega) (by decide)) dX10_needed_64 rfl ?_
      rw [nI_clamp (by omega), eL]
      refine Vj_bipush (q := 67) (v := (-9)) dX10_needed_65 rfl (by decide) ?_
      refine Vj_icmp_ne (q := 70) (tgt := 74) dX10_needed_67 (by decide) rfl (fun h67 => ?_) (fun h67 => ?_)
      ·
        refine Vj_iload (q := 76) dX10_needed_74 rfl rfl ?_
        refine Vs_istore3 (q := 77) dX10_needed_76 rfl (by decide) rfl ?_
        refine Vs_iinc4 (q := 80) (z := none) dX10_needed_77 rfl (by exact iinc_p _) (by decide) rfl ?_
        refine Vj_goto (q := 21) dX10_needed_80 (by decide) ?_
        rw [nI_1]
        exact ih (s + 1) (some s) (by omega) (bs_new hI (o9_i h67) (fun x e => by cases e))
      ·
        refine Vj_iloadn (q := 71) dX10_needed_70 rfl rfl rfl ?_
        refine Vj_goto (q := 76) dX10_needed_71 (by decide) ?_
        refine Vs_istore3 (q := 77) dX10_needed_76 rfl (by decide) rfl ?_
        refine Vs_iinc4 (q := 80) (z := none) dX10_needed_77 rfl (by exact iinc_p _) (by decide) rfl ?_
        refine Vj_goto (q := 21) dX10_needed_80 (by decide) ?_
        rw [nI_1]
        exact ih (s + 1) none (by omega) (bs_keep hI (by unfold rcB; rw [(o9_n (fun k z => by have := dst_lt z; omega)).mp h67]; rfl))
    | some y =>
      obtain ⟨hy1, hy2, hy3⟩ := hI.2 y rfl
      have hq1 : pop6 s < 2 ^ 31 := by unfold pop6; omega
      have hq2 : pop6 y < 2 ^ 31 := by unfold pop6; omega
      rw [o9_k]
      refine Vj_iload (q := 23) dX10_needed_21 rfl rfl ?_
      refine Vj_aloadn (q := 24) dX10_needed_23 rfl rfl rfl ?_
      refine Vj_callVi (q := 27) (qX10_every hP) (by decide) rfl rfl lkX10_172 viX10_every okX10_every dX10_needed_24 rfl rfl (Nat.le_of_ble_eq_true rfl) ?_
      refine Vj_icmp_gt (q := 30) (tgt := 83) dX10_needed_27 (by decide) rfl (fun hz => absurd hz (Int32.not_lt.mpr (nI_le (by omega) (by omega)))) (fun _ => ?_)
      refine Vj_iloadn (q := 31) dX10_needed_30 rfl rfl rfl ?_
      refine Vj_bipush (q := 33) (v := (-9)) dX10_needed_31 rfl (by decide) ?_
      refine Vj_icmp_eq (q := 36) (tgt := 48) dX10_needed_33 (by decide) rfl (fun hz => absurd hz (nI_nm9 (by omega))) (fun _ => ?_)
      refine Vj_iload (q := 38) dX10_needed_36 rfl rfl ?_
      refine Vj_callSi (q := 41) (qX10_ones (x := s) (by omega)) (by decide) lkX10_185 stX10_ones okX10_ones dX10_needed_38 rfl rfl (Nat.le_of_ble_eq_true rfl) ?_
      refine Vj_iloadn (q := 42) dX10_needed_41 rfl rfl rfl ?_
      refine Vj_callSi (q := 45) (qX10_ones (x := y) (by omega)) (by decide) lkX10_185 stX10_ones okX10_ones dX10_needed_42 rfl rfl (Nat.le_of_ble_eq_true rfl) ?_
      refine Vj_icmp_ge (q := 48) (tgt := 77) dX10_needed_45 (by decide) rfl (fun h45 => ?_) (fun h45 => ?_)
      ·
        refine Vs_iinc4 (q := 80) (z := none) dX10_needed_77 rfl (by exact iinc_p _) (by decide) rfl ?_
        refine Vj_goto (q := 21) dX10_needed_80 (by decide) ?_
        rw [nI_1]
        exact ih σ h (s + 1) (some y) (by omega) (bs_skip hI ((nI_leI hq2 hq1).mp h45))
      ·
        refine Vj_aloadn (q := 49) dX10_needed_48 rfl rfl rfl ?_
        refine Vj_iloadn (q := 50) dX10_needed_49 rfl rfl rfl ?_
        refine Vj_iload (q := 52) dX10_needed_50 rfl rfl ?_
        refine Vj_callV (q := 55) (qX10_layFar hP hTa (ch := s) (by omega) hto) (by decide) rfl rfl lkX10_175 viX10_layFar okX10_layFar dX10_needed_52 rfl rfl (Nat.le_of_ble_eq_true rfl) ?_
        rintro r1 σ1 ⟨rfl, hL, hE⟩
        show Vj shM 2 mX10_needed _ 55 _ [.int _] σ1
        have h1 := h.eqo hE rfl
        have hNw1 := h1.2.2.2.1
        have eL := hL c hc
        have ih := ih σ1 h1
        refine Vj_pop (q := 56) dX10_needed_55 rfl rfl ?_
        refine Vj_aloadn (q := 57) dX10_needed_56 rfl rfl rfl ?_
        refine Vj_getR (q := 60) flX10_43 rfl rfl dX10_needed_57 rfl ?_
        refine Vj_aloadn (q := 61) dX10_needed_60 rfl rfl rfl ?_
        refine Vj_getI (q := 64) flX10_117 rfl rfl dX10_needed_61 rfl ?_
        rw [hNw1.1]
        refine Vj_iald (q := 65) rfl (vp_in_nI (by omega) (by decide)) dX10_needed_64 rfl ?_
        rw [nI_clamp (by omega), eL]
        refine Vj_bipush (q := 67) (v := (-9)) dX10_needed_65 rfl (by decide) ?_
        refine Vj_icmp_ne (q := 70) (tgt := 74) dX10_needed_67 (by decide) rfl (fun h67 => ?_) (fun h67 => ?_)
        ·
          refine Vj_iload (q := 76) dX10_needed_74 rfl rfl ?_
          refine Vs_istore3 (q := 77) dX10_needed_76 rfl (by decide) rfl ?_
          refine Vs_iinc4 (q := 80) (z := none) dX10_needed_77 rfl (by exact iinc_p _) (by decide) rfl ?_
          refine Vj_goto (q := 21) dX10_needed_80 (by decide) ?_
          rw [nI_1]
          exact ih (s + 1) (some s) (by omega) (bs_new hI (o9_i h67) (fun x e => by cases e; exact Nat.not_le.mp fun z => h45 (nI_le z hq1)))
        ·
          refine Vj_iloadn (q := 71) dX10_needed_70 rfl rfl rfl ?_
          refine Vj_goto (q := 76) dX10_needed_71 (by decide) ?_
          refine Vs_istore3 (q := 77) dX10_needed_76 rfl (by decide) rfl ?_
          refine Vs_iinc4 (q := 80) (z := none) dX10_needed_77 rfl (by exact iinc_p _) (by decide) rfl ?_
          refine Vj_goto (q := 21) dX10_needed_80 (by decide) ?_
          rw [nI_1]
          exact ih (s + 1) (some y) (by omega) (bs_keep hI (by unfold rcB; rw [(o9_n (fun k z => by have := dst_lt z; omega)).mp h67]; rfl))
set_option maxRecDepth 100000 in
theorem qX10_needed {tx : List Nat} {ρ : Rm} {c d p : Nat} {ac : List (Nat × Nat × Nat)} {sl : Nat → Option (Nat × Nat × Nat)} {se : List (Nat × Nat × Nat)} {sd : Int64} {N : Nat} {σ : Mem} (h : RM tx ρ c d p ac sl se sd σ) (hv : okV N ρ c d p ac sl se) (x : Int32) : Ct shM 2 mX10_needed [.ref 0, .int x] σ (PM (spNeeded ρ c x) tx ρ c d p ac sl se sd) := by
  obtain ⟨hr, hc, hd, hp, hN30, ⟨hal, hav⟩, hsv, hse⟩ := hv
  obtain ⟨hTx, hP, hTa, hNw, hAc, hSl, hSe, hSd⟩ := h
  have hM := mN_le hr
  have hcM := cm_lt hr hc
  have hdM := cm_lt hr hd
  have hn5 := hr.1
  have hB7 := hr.2.2.1
  have h : RM tx ρ c d p ac sl se sd σ := ⟨hTx, hP, hTa, hNw, hAc, hSl, hSe, hSd⟩
  refine Ct.of (by decide) (Nat.le_of_ble_eq_true rfl) (l := [some (.ref 0), some (.int x), none, none, none]) rfl ?_
  refine Vj_aloadn (q := 1) dX10_needed_0 rfl rfl rfl ?_
  refine Vj_iloadn (q := 2) dX10_needed_1 rfl rfl rfl ?_
  refine Vj_callVi (q := 5) (qX10_messOf hP x) (by decide) rfl rfl lkX10_169 viX10_messOf okX10_messOf dX10_needed_2 rfl rfl (Nat.le_of_ble_eq_true rfl) ?_
  rcases ec : cOf ρ (rN ρ) x 0 with _ | to
  ·
    refine Vs_istore2 (q := 6) dX10_needed_5 rfl (by decide) rfl ?_
    refine Vj_iloadn (q := 7) dX10_needed_6 rfl rfl rfl ?_
    refine Vj_bipush (q := 9) (v := (-9)) dX10_needed_7 rfl (by decide) ?_
    refine Vj_icmp_ne (q := 12) (tgt := 15) dX10_needed_9 (by decide) rfl (fun hz => absurd rfl hz) (fun _ => ?_)
    refine Vj_bipush (q := 14) (v := (-2)) dX10_needed_12 rfl (by decide) ?_
    exact Vr_iret rfl rfl dX10_needed_14 (⟨by unfold spNeeded; rw [ec], h⟩)
  ·
    have hto := cOf_V0 hr ec
    rw [oM_s]
    refine Vs_istore2 (q := 6) dX10_needed_5 rfl (by decide) rfl ?_
    refine Vj_iloadn (q := 7) dX10_needed_6 rfl rfl rfl ?_
    refine Vj_bipush (q := 9) (v := (-9)) dX10_needed_7 rfl (by decide) ?_
    refine Vj_icmp_ne (q := 12) (tgt := 15) dX10_needed_9 (by decide) rfl (fun _ => ?_) (fun hz => absurd hz (oM_ne hr hto))
    refine Vj_bipush (q := 17) (v := (-9)) dX10_needed_15 rfl (by decide) ?_
    refine Vs_istore3 (q := 18) dX10_needed_17 rfl (by decide) rfl ?_
    refine Vj_iconst (q := 19) (v := 0) dX10_needed_18 rfl (by decide) ?_
    refine Vs_istore4 (q := 21) dX10_needed_19 rfl (by decide) rfl ?_
    exact qX10_needed_loop ⟨hr, hc, hd, hp, hN30, ⟨hal, hav⟩, hsv, hse⟩ ec hto (2 ^ rB ρ) σ h 0 none (by omega) ⟨fun _ y hy => absurd hy (Nat.not_lt_zero y), fun x e => by cases e⟩
