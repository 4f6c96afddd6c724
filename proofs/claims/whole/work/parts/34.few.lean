/-! the reference: every, reached, worst, fewest -/
theorem RM.eqo {tx : List Nat} {ρ : Rm} {c d p : Nat} {ac : List (Nat × Nat × Nat)} {sl : Nat → Option (Nat × Nat × Nat)} {se : List (Nat × Nat × Nat)} {sd : Int64} {σ σ' : Mem} {S : List Nat} (h : RM tx ρ c d p ac sl se sd σ) (hE : Eqo S σ σ') (hS : [0, 1, 2, 3, 4, 5, 6, 10, 11, 13, 14, 15, 18, 19].all (fun q => !S.contains q) = true) : RM tx ρ c d p ac sl se sd σ' := by
  obtain ⟨hTx, hP, hTa, hNw, hAc, hSl, hSe, hSd⟩ := h
  have f : ∀ q, q ∈ [0, 1, 2, 3, 4, 5, 6, 10, 11, 13, 14, 15, 18, 19] → σ'.1 q = σ.1 q := fun q hq => hE.at q (by
    have := List.all_eq_true.mp hS q hq
    rwa [Bool.not_eq_true'] at this)
  have f0 := f 0 (by decide)
  exact ⟨hTx.of (by rw [f0]) (f 10 (by decide)), hP.of (by rw [f0]) (by rw [f0]) (by rw [f0]) (f 1 (by decide)) (f 2 (by decide)) (f 3 (by decide)) (f 4 (by decide)) (f 5 (by decide)), hTa.of (f 6 (by decide)), hNw.of (by rw [f0]) (by rw [f0]) (by rw [f0]), hAc.of (by rw [f0]) (by rw [f0]) (f 11 (by decide)), hSl.of (f 18 (by decide)) (f 19 (by decide)), hSe.of (by rw [f0]) (f 13 (by decide)) (f 14 (by decide)) (f 15 (by decide)), by rw [hE.2]; exact hSd⟩
theorem oM_s {ρ : Rm} {c : Nat} : oM ρ (some c) = nI (cm ρ c) := rfl
theorem o9_k {k : Nat} : o9 (some k) = nI k := rfl

set_option maxRecDepth 100000 in
theorem qX10_every {ρ : Rm} {σ : Mem} (h : RoM ρ σ) : Ct shM 0 mX10_every [.ref 0] σ (Ri (nI (evB ρ)) σ) := by
  refine Ct.of (by decide) (Nat.le_of_ble_eq_true rfl) (l := [some (.ref 0)]) rfl ?_
  refine Vj_iconst (q := 1) (v := 1) dX10_every_0 rfl (by decide) ?_
  refine Vj_aloadn (q := 2) dX10_every_1 rfl rfl rfl ?_
  refine Vj_getI (q := 5) flX10_114 rfl rfl dX10_every_2 rfl ?_
  rw [h.2.2.1]
  refine Vj_ishl (q := 6) dX10_every_5 rfl ?_
  refine Vj_iconst (q := 7) (v := 1) dX10_every_6 rfl (by decide) ?_
  refine Vj_isub (q := 8) dX10_every_7 rfl ?_
  rw [i_ev _ h.1.2.2.1]
  exact Vr_iret rfl rfl dX10_every_8 (⟨rfl, rfl⟩)
theorem cnR_m {ρ : Rm} (hr : okR ρ) {ch to : Nat} (ht : cV ρ to) : cnR ρ to ch = cntN (fun m => (dst (cNx ρ) (rB ρ) ch to (mc ρ m)).isSome) (mN ρ) := by
  unfold cnR
  refine cntN_mc hr (p := fun c => (dst (cNx ρ) (rB ρ) ch to c).isSome) fun c hc e => ?_
  refine Decidable.byContradiction fun z => ?_
  have := dst_inv (ch := ch) ht (fun y => z y.2) hc
  have e : (dst (cNx ρ) (rB ρ) ch to c).isSome = true := e
  rw [this] at e; cases e
set_option maxRecDepth 100000 in
theorem qX10_reached_loop {ρ : Rm} {σ0 : Mem} {ch to : Nat} (hto : cV ρ to) {σ : Mem} (hP : RoM ρ σ) (hL : LfM ρ ch to σ) (hE : Eqo [12] σ0 σ) : ∀ k t : Nat, t + k = mN ρ → Vj shM 2 mX10_reached (fun r σ' => r = some (.int (nI (cnR ρ to ch))) ∧ Eqo [12] σ0 σ') 12 [some (.ref 0), some (.int (nI (cm ρ to))), some (.int (nI ch)), some (.int (nI (cntN (fun m => (dst (cNx ρ) (rB ρ) ch to (mc ρ m)).isSome) t))), some (.int (nI t))] [] σ := by
  have hr := hP.1
  have hM := mN_le hr
  intro k
  induction k with
  | zero =>
    intro t ht
    obtain rfl : t = mN ρ := by omega
    refine Vj_iload (q := 14) dX10_reached_12 rfl rfl ?_
    refine Vj_aloadn (q := 15) dX10_reached_14 rfl rfl rfl ?_
    refine Vj_getI (q := 18) flX10_68 rfl rfl dX10_reached_15 rfl ?_
    rw [hP.2.2.2.1]
    refine Vj_icmp_ge (q := 21) (tgt := 47) dX10_reached_18 (by decide) rfl (fun _ => ?_) (fun hz => absurd (nI_le (by omega) (by omega)) hz)
    refine Vj_iloadn (q := 48) dX10_reached_47 rfl rfl rfl ?_
    exact Vr_iret rfl rfl dX10_reached_48 (⟨by rw [cnR_m hr hto], hE⟩)
  | succ k ih =>
    intro t ht
    have ht' : t < mN ρ := by omega
    have e := hL _ (mc_cV hr ht')
    rw [cm_mc hr ht'] at e
    have hlt : ∀ k, dst (cNx ρ) (rB ρ) ch to (mc ρ t) = some k → k < 2 ^ 31 := fun k z => by have := dst_lt z; omega
    refine Vj_iload (q := 14) dX10_reached_12 rfl rfl ?_
    refine Vj_aloadn (q := 15) dX10_reached_14 rfl rfl rfl ?_
    refine Vj_getI (q := 18) flX10_68 rfl rfl dX10_reached_15 rfl ?_
    rw [hP.2.2.2.1]
    refine Vj_icmp_ge (q := 21) (tgt := 47) dX10_reached_18 (by decide) rfl (fun hz => absurd hz (nI_ge (by omega) (by omega))) (fun _ => ?_)
    refine Vj_iloadn (q := 22) dX10_reached_21 rfl rfl rfl ?_
    refine Vj_aloadn (q := 23) dX10_reached_22 rfl rfl rfl ?_
    refine Vj_getR (q := 26) flX10_43 rfl rfl dX10_reached_23 rfl ?_
    refine Vj_iload (q := 28) dX10_reached_26 rfl rfl ?_
    refine Vj_iald (q := 29) rfl (vp_in_nI (by omega) (by decide)) dX10_reached_28 rfl ?_
    rw [nI_clamp (by omega), e]
    refine Vj_bipush (q := 31) (v := (-9)) dX10_reached_29 rfl (by decide) ?_
    refine Vj_icmp_ne (q := 34) (tgt := 38) dX10_reached_31 (by decide) rfl (fun h31 => ?_) (fun h31 => ?_)
    ·
      refine Vj_iconst (q := 39) (v := 1) dX10_reached_38 rfl (by decide) ?_
      refine Vj_iadd (q := 40) dX10_reached_39 rfl ?_
      rw [nI_1, show cntN (fun m => (dst (cNx ρ) (rB ρ) ch to (mc ρ m)).isSome) t + 1 = cntN (fun m => (dst (cNx ρ) (rB ρ) ch to (mc ρ m)).isSome) (t + 1) by
        have := fun z => h31 ((o9_n hlt).mpr z)
        rw [cntN]
        cases e2 : dst (cNx ρ) (rB ρ) ch to (mc ρ t) with
        | none => exact absurd e2 this
        | some k => rfl]
      refine Vs_istore3 (q := 41) dX10_reached_40 rfl (by decide) rfl ?_
      refine Vs_iinc4 (q := 44) (z := none) dX10_reached_41 rfl (by exact iinc_p _) (by decide) rfl ?_
      refine Vj_goto (q := 12) dX10_reached_44 (by decide) ?_
      rw [nI_1]
      exact ih (t + 1) (by omega)
    ·
      refine Vj_iconst (q := 35) (v := 0) dX10_reached_34 rfl (by decide) ?_
      refine Vj_goto (q := 39) dX10_reached_35 (by decide) ?_
      refine Vj_iadd (q := 40) dX10_reached_39 rfl ?_
      rw [Int32.add_zero, show cntN (fun m => (dst (cNx ρ) (rB ρ) ch to (mc ρ m)).isSome) t = cntN (fun m => (dst (cNx ρ) (rB ρ) ch to (mc ρ m)).isSome) (t + 1) by
        rw [cntN, (o9_n hlt).mp h31]
        rfl]
      refine Vs_istore3 (q := 41) dX10_reached_40 rfl (by decide) rfl ?_
      refine Vs_iinc4 (q := 44) (z := none) dX10_reached_41 rfl (by exact iinc_p _) (by decide) rfl ?_
      refine Vj_goto (q := 12) dX10_reached_44 (by decide) ?_
      rw [nI_1]
      exact ih (t + 1) (by omega)
set_option maxRecDepth 100000 in
theorem qX10_reached {ρ : Rm} {σ0 : Mem} (hP : RoM ρ σ0) (hTa : TaM ρ σ0) {ch to : Nat} (hch : ch < 64) (hto : cV ρ to) : Ct shM 2 mX10_reached [.ref 0, .int (nI (cm ρ to)), .int (nI ch)] σ0 (fun r σ' => r = some (.int (nI (cnR ρ to ch))) ∧ Eqo [12] σ0 σ') := by
  refine Ct.of (by decide) (Nat.le_of_ble_eq_true rfl) (l := [some (.ref 0), some (.int (nI (cm ρ to))), some (.int (nI ch)), none, none]) rfl ?_
  refine Vj_aloadn (q := 1) dX10_reached_0 rfl rfl rfl ?_
  refine Vj_iloadn (q := 2) dX10_reached_1 rfl rfl rfl ?_
  refine Vj_iloadn (q := 3) dX10_reached_2 rfl rfl rfl ?_
  refine Vj_callV (q := 6) (qX10_layFar hP hTa hch hto) (by decide) rfl rfl lkX10_175 viX10_layFar okX10_layFar dX10_reached_3 rfl rfl (Nat.le_of_ble_eq_true rfl) ?_
  rintro r1 σ1 ⟨rfl, hL, hE⟩
  show Vj shM 2 mX10_reached _ 6 _ [.int _] σ1
  refine Vj_pop (q := 7) dX10_reached_6 rfl rfl ?_
  refine Vj_iconst (q := 8) (v := 0) dX10_reached_7 rfl (by decide) ?_
  refine Vs_istore3 (q := 9) dX10_reached_8 rfl (by decide) rfl ?_
  refine Vj_iconst (q := 10) (v := 0) dX10_reached_9 rfl (by decide) ?_
  refine Vs_istore4 (q := 12) dX10_reached_10 rfl (by decide) rfl ?_
  exact qX10_reached_loop hto (hP.far hE) hL hE (mN ρ) 0 (by omega)
set_option maxRecDepth 100000 in
theorem qX10_worst {tx : List Nat} {ρ : Rm} {c d p : Nat} {ac : List (Nat × Nat × Nat)} {sl : Nat → Option (Nat × Nat × Nat)} {se : List (Nat × Nat × Nat)} {sd : Int64} {N : Nat} {σ : Mem} (h : RM tx ρ c d p ac sl se sd σ) (hv : okV N ρ c d p ac sl se) (x what : Int32) : Ct shM 3 mX10_worst [.ref 0, .int x, .int what] σ (PM (spWorst ρ x what) tx ρ c d p ac sl se sd) := by
  obtain ⟨hr, hc, hd, hp, hN30, ⟨hal, hav⟩, hsv, hse⟩ := hv
  obtain ⟨hTx, hP, hTa, hNw, hAc, hSl, hSe, hSd⟩ := h
  have hM := mN_le hr
  have hcM := cm_lt hr hc
  have hdM := cm_lt hr hd
  have hn5 := hr.1
  have hB7 := hr.2.2.1
  have h : RM tx ρ c d p ac sl se sd σ := ⟨hTx, hP, hTa, hNw, hAc, hSl, hSe, hSd⟩
  refine Ct.of (by decide) (Nat.le_of_ble_eq_true rfl) (l := [some (.ref 0), some (.int x), some (.int what), none]) rfl ?_
  refine Vj_aloadn (q := 1) dX10_worst_0 rfl rfl rfl ?_
  refine Vj_iloadn (q := 2) dX10_worst_1 rfl rfl rfl ?_
  refine Vj_callVi (q := 5) (qX10_messOf hP x) (by decide) rfl rfl lkX10_169 viX10_messOf okX10_messOf dX10_worst_2 rfl rfl (Nat.le_of_ble_eq_true rfl) ?_
  rcases ec : cOf ρ (rN ρ) x 0 with _ | to
  ·
    refine Vs_istore3 (q := 6) dX10_worst_5 rfl (by decide) rfl ?_
    refine Vj_iloadn (q := 7) dX10_worst_6 rfl rfl rfl ?_
    refine Vj_bipush (q := 9) (v := (-9)) dX10_worst_7 rfl (by decide) ?_
    refine Vj_icmp_eq (q := 12) (tgt := 22) dX10_worst_9 (by decide) rfl (fun _ => ?_) (fun hz => absurd rfl hz)
    refine Vj_bipush (q := 24) (v := (-2)) dX10_worst_22 rfl (by decide) ?_
    exact Vr_iret rfl rfl dX10_worst_24 (⟨by unfold spWorst; rw [ec], h⟩)
  ·
    have hto := cOf_V0 hr ec
    rw [oM_s]
    refine Vs_istore3 (q := 6) dX10_worst_5 rfl (by decide) rfl ?_
    refine Vj_iloadn (q := 7) dX10_worst_6 rfl rfl rfl ?_
    refine Vj_bipush (q := 9) (v := (-9)) dX10_worst_7 rfl (by decide) ?_
    refine Vj_icmp_eq (q := 12) (tgt := 22) dX10_worst_9 (by decide) rfl (fun hz => absurd hz (oM_ne hr hto)) (fun _ => ?_)
    refine Vj_iloadn (q := 13) dX10_worst_12 rfl rfl rfl ?_
    refine Vj_i2l (q := 14) dX10_worst_13 rfl ?_
    refine Vj_lconst (q := 15) (v := 0) dX10_worst_14 rfl (by decide) ?_
    refine Vj_lconst (q := 16) (v := 1) dX10_worst_15 rfl (by decide) ?_
    refine Vj_callSi (q := 19) (qX10_in _ _ _) (by decide) lkX10_74 stX10_in okX10_in dX10_worst_16 rfl rfl (Nat.le_of_ble_eq_true rfl) ?_
    rw [in_i (a := ((0 : Nat) : Int)) (b := ((1 : Nat) : Int)) rfl rfl]
    refine Vj_if_ne (q := 22) (tgt := 25) dX10_worst_19 (by decide) rfl (fun h19 => ?_) (fun h19 => ?_)
    ·
      have hw := (iB_t (x := what) (a := 0) (b := 1) (by decide) (by decide)).mp (bI_n.mp h19)
      have hwn : ¬ (what < 0 ∨ 1 < what) := hw
      refine Vj_iloadn (q := 26) dX10_worst_25 rfl rfl rfl ?_
      refine Vj_if_ne (q := 29) (tgt := 41) dX10_worst_26 (by decide) rfl (fun h26 => ?_) (fun h26 => ?_)
      ·
        refine Vj_aloadn (q := 42) dX10_worst_41 rfl rfl rfl ?_
        refine Vj_iloadn (q := 43) dX10_worst_42 rfl rfl rfl ?_
        refine Vj_aloadn (q := 44) dX10_worst_43 rfl rfl rfl ?_
        refine Vj_callVi (q := 47) (qX10_every hP) (by decide) rfl rfl lkX10_172 viX10_every okX10_every dX10_worst_44 rfl rfl (Nat.le_of_ble_eq_true rfl) ?_
        refine Vj_callV (q := 50) (qX10_reached hP hTa (evB_lt hr) hto) (by decide) rfl rfl lkX10_178 viX10_reached okX10_reached dX10_worst_47 rfl rfl (Nat.le_of_ble_eq_true rfl) ?_
        rintro r1 σ1 ⟨rfl, hE⟩
        show Vj shM 3 mX10_worst _ 50 _ [.int _] σ1
        refine Vr_iret rfl rfl dX10_worst_50 ?_
        have h1 : what = 1 := by
          obtain ⟨j, hj, rfl⟩ := nI_of2 (M := 1) (n := 1) rfl (fun z => hwn (Or.inl z)) (Int32.not_lt.mp fun z => hwn (Or.inr z))
          have : j ≠ 0 := fun z => h26 (by rw [z]; rfl)
          rw [show j = 1 by omega]; rfl
        exact ⟨by unfold spWorst; simp only [ec]; rw [if_neg hwn, if_pos h1]; rfl, h.eqo hE rfl⟩
      ·
        refine Vj_aloadn (q := 30) dX10_worst_29 rfl rfl rfl ?_
        refine Vj_iloadn (q := 31) dX10_worst_30 rfl rfl rfl ?_
        refine Vj_aloadn (q := 32) dX10_worst_31 rfl rfl rfl ?_
        refine Vj_callVi (q := 35) (qX10_every hP) (by decide) rfl rfl lkX10_172 viX10_every okX10_every dX10_worst_32 rfl rfl (Nat.le_of_ble_eq_true rfl) ?_
        refine Vj_callV (q := 38) (qX10_layFar hP hTa (evB_lt hr) hto) (by decide) rfl rfl lkX10_175 viX10_layFar okX10_layFar dX10_worst_35 rfl rfl (Nat.le_of_ble_eq_true rfl) ?_
        rintro r1 σ1 ⟨rfl, hL, hE⟩
        show Vj shM 3 mX10_worst _ 38 _ [.int _] σ1
        refine Vj_goto (q := 50) dX10_worst_38 (by decide) ?_
        refine Vr_iret rfl rfl dX10_worst_50 ?_
        exact ⟨by unfold spWorst; simp only [ec]; rw [if_neg hwn, if_neg (by rw [h26]; decide)], h.eqo hE rfl⟩
    ·
      refine Vj_bipush (q := 24) (v := (-2)) dX10_worst_22 rfl (by decide) ?_
      refine Vr_iret rfl rfl dX10_worst_24 ?_
      have hw : what < 0 ∨ 1 < what := (iB_f (x := what) (a := 0) (b := 1) (by decide) (by decide)).mp (bI_f0 h19)
      exact ⟨by unfold spWorst; simp only [ec]; rw [if_pos hw], h⟩
set_option maxRecDepth 100000 in
theorem qX10_fewest_b {ρ : Rm} {σ : Mem} (hP : RoM ρ σ) (hTa : TaM ρ σ) {ch to : Nat} (hL : LfM ρ ch to σ) {x row : Int32} {Post : Option Value → Mem → Prop} {v y k bb : Nat} (hy : cV ρ y) (hk : dst (cNx ρ) (rB ρ) ch to y = some (k + 1)) (hbb : bb < rB ρ) (h1 : dst (cNx ρ) (rB ρ) ch to (cNx ρ y bb) = some k) (h2 : ∀ b, b < bb → dst (cNx ρ) (rB ρ) ch to (cNx ρ y b) ≠ some k)
    (kk : Vj shM 2 mX10_fewest Post 135 [some (.ref 0), some (.int x), some (.int row), some (.int (nI (cm ρ to))), some (.int (nI (v))), some (.int (nI (cm ρ y))), some (.int (nI bb))] [] σ) : ∀ n b : Nat, b + n = bb → Vj shM 2 mX10_fewest Post 98 [some (.ref 0), some (.int x), some (.int row), some (.int (nI (cm ρ to))), some (.int (nI (v))), some (.int (nI (cm ρ y))), some (.int (nI b))] [] σ := by
  have hr := hP.1
  have hM := mN_le hr
  have hyl := cm_lt hr hy
  have hB7 := hr.2.2.1
  have hk3 := dst_lt hk
  have eL := hL y hy
  rw [hk] at eL
  intro n
  induction n with
  | zero =>
    intro b hb
    obtain rfl : b = bb := by omega
    have hcn := cV_nx hr hy hbb
    have hcl := cm_lt hr hcn
    have eN := hL _ hcn
    rw [h1] at eN
    refine Vj_aloadn (q := 99) dX10_fewest_98 rfl rfl rfl ?_
    refine Vj_getR (q := 102) flX10_43 rfl rfl dX10_fewest_99 rfl ?_
    refine Vj_aloadn (q := 103) dX10_fewest_102 rfl rfl rfl ?_
    refine Vj_getR (q := 106) flX10_25 rfl rfl dX10_fewest_103 rfl ?_
    refine Vj_sipush (q := 109) (v := 256) dX10_fewest_106 rfl (by decide) ?_
    refine Vj_iload (q := 111) dX10_fewest_109 rfl rfl ?_
    refine Vj_imul (q := 112) dX10_fewest_111 rfl ?_
    refine Vj_iload (q := 114) dX10_fewest_112 rfl rfl ?_
    refine Vj_iadd (q := 115) dX10_fewest_114 rfl ?_
    rw [i_256]
    refine Vj_iald (q := 116) rfl (vp_in_nI (by omega) (by decide)) dX10_fewest_115 rfl ?_
    rw [nI_clamp (by omega), hTa _ hbb _ hy]
    refine Vj_iald (q := 117) rfl (vp_in_nI (by omega) (by decide)) dX10_fewest_116 rfl ?_
    rw [nI_clamp (by omega), eN]
    refine Vj_aloadn (q := 118) dX10_fewest_117 rfl rfl rfl ?_
    refine Vj_getR (q := 121) flX10_43 rfl rfl dX10_fewest_118 rfl ?_
    refine Vj_iload (q := 123) dX10_fewest_121 rfl rfl ?_
    refine Vj_iald (q := 124) rfl (vp_in_nI (by omega) (by decide)) dX10_fewest_123 rfl ?_
    rw [nI_clamp (by omega), eL, o9_k]
    refine Vj_iconst (q := 125) (v := 1) dX10_fewest_124 rfl (by decide) ?_
    refine Vj_isub (q := 126) dX10_fewest_125 rfl ?_
    rw [nI_pred]
    refine Vj_icmp_eq (q := 129) (tgt := 135) dX10_fewest_126 (by decide) rfl (fun _ => ?_) (fun hz => absurd rfl hz)
    exact kk
  | succ n ih =>
    intro b hb
    have hcn := cV_nx hr hy (b := b) (by omega)
    have hcl := cm_lt hr hcn
    have eN := hL _ hcn
    have hne : ¬ o9 (dst (cNx ρ) (rB ρ) ch to (cNx ρ y b)) = nI k := fun z => h2 b (by omega) ((o9_s (by omega) (fun j hj => by have := dst_lt hj; omega)).mp z)
    refine Vj_aloadn (q := 99) dX10_fewest_98 rfl rfl rfl ?_
    refine Vj_getR (q := 102) flX10_43 rfl rfl dX10_fewest_99 rfl ?_
    refine Vj_aloadn (q := 103) dX10_fewest_102 rfl rfl rfl ?_
    refine Vj_getR (q := 106) flX10_25 rfl rfl dX10_fewest_103 rfl ?_
    refine Vj_sipush (q := 109) (v := 256) dX10_fewest_106 rfl (by decide) ?_
    refine Vj_iload (q := 111) dX10_fewest_109 rfl rfl ?_
    refine Vj_imul (q := 112) dX10_fewest_111 rfl ?_
    refine Vj_iload (q := 114) dX10_fewest_112 rfl rfl ?_
    refine Vj_iadd (q := 115) dX10_fewest_114 rfl ?_
    rw [i_256]
    refine Vj_iald (q := 116) rfl (vp_in_nI (by omega) (by decide)) dX10_fewest_115 rfl ?_
    rw [nI_clamp (by omega), hTa _ (by omega) _ hy]
    refine Vj_iald (q := 117) rfl (vp_in_nI (by omega) (by decide)) dX10_fewest_116 rfl ?_
    rw [nI_clamp (by omega), eN]
    refine Vj_aloadn (q := 118) dX10_fewest_117 rfl rfl rfl ?_
    refine Vj_getR (q := 121) flX10_43 rfl rfl dX10_fewest_118 rfl ?_
    refine Vj_iload (q := 123) dX10_fewest_121 rfl rfl ?_
    refine Vj_iald (q := 124) rfl (vp_in_nI (by omega) (by decide)) dX10_fewest_123 rfl ?_
    rw [nI_clamp (by omega), eL, o9_k]
    refine Vj_iconst (q := 125) (v := 1) dX10_fewest_124 rfl (by decide) ?_
    refine Vj_isub (q := 126) dX10_fewest_125 rfl ?_
    rw [nI_pred]
    refine Vj_icmp_eq (q := 129) (tgt := 135) dX10_fewest_126 (by decide) rfl (fun hz => absurd hz hne) (fun _ => ?_)
    refine Vs_iinc6 (q := 132) (z := none) dX10_fewest_129 rfl (by exact iinc_p _) (by decide) rfl ?_
    refine Vj_goto (q := 98) dX10_fewest_132 (by decide) ?_
    rw [nI_1]
    exact ih (b + 1) (by omega)
set_option maxRecDepth 100000 in
theorem qX10_fewest_loop {tx : List Nat} {ρ : Rm} {c d p : Nat} {ac : List (Nat × Nat × Nat)} {sl : Nat → Option (Nat × Nat × Nat)} {se : List (Nat × Nat × Nat)} {sd : Int64} {N : Nat} {σ : Mem} (h : RM tx ρ c d p ac sl se sd σ) (hv : okV N ρ c d p ac sl se) {ch to : Nat} (hL : LfM ρ ch to σ) {x row : Int32} : ∀ (k y v : Nat) (z6 : Option Value), cV ρ y → dst (cNx ρ) (rB ρ) ch to y = some k → Vj shM 2 mX10_fewest (PM (nI (fwGo (cNx ρ) (rB ρ) (dst (cNx ρ) (rB ρ) ch to) k y v)) tx ρ c d p ac sl se sd) 85 [some (.ref 0), some (.int x), some (.int row), some (.int (nI (cm ρ to))), some (.int (nI (v))), some (.int (nI (cm ρ y))), z6] [] σ := by
  intro k
  obtain ⟨hr, hc, hd, hp, hN30, ⟨hal, hav⟩, hsv, hse⟩ := hv
  obtain ⟨hTx, hP, hTa, hNw, hAc, hSl, hSe, hSd⟩ := h
  have hM := mN_le hr
  have hcM := cm_lt hr hc
  have hdM := cm_lt hr hd
  have hn5 := hr.1
  have hB7 := hr.2.2.1
  have h : RM tx ρ c d p ac sl se sd σ := ⟨hTx, hP, hTa, hNw, hAc, hSl, hSe, hSd⟩
  induction k with
  | zero =>
    intro y v z6 hy hk
    have hyl := cm_lt hr hy
    have eL := hL y hy
    rw [hk] at eL
    rw [fwGo]
    refine Vj_aloadn (q := 86) dX10_fewest_85 rfl rfl rfl ?_
    refine Vj_getR (q := 89) flX10_43 rfl rfl dX10_fewest_86 rfl ?_
    refine Vj_iload (q := 91) dX10_fewest_89 rfl rfl ?_
    refine Vj_iald (q := 92) rfl (vp_in_nI (by omega) (by decide)) dX10_fewest_91 rfl ?_
    rw [nI_clamp (by omega), eL, o9_k]
    refine Vj_if_le (q := 95) (tgt := 166) dX10_fewest_92 (by decide) rfl (fun _ => ?_) (fun hz => absurd (by decide) hz)
    refine Vj_iload (q := 168) dX10_fewest_166 rfl rfl ?_
    exact Vr_iret rfl rfl dX10_fewest_168 (⟨rfl, h⟩)
  | succ k ih =>
    intro y v z6 hy hk
    have hyl := cm_lt hr hy
    have hk3 := dst_lt hk
    have eL := hL y hy
    rw [hk] at eL
    obtain ⟨bb, g1, g2, g3⟩ := dst_near hk
    have g4 := (fstN_some _).mp g2
    have hcn := cV_nx hr hy g1
    rw [fwGo, g2, Option.getD_some]
    refine Vj_aloadn (q := 86) dX10_fewest_85 rfl rfl rfl ?_
    refine Vj_getR (q := 89) flX10_43 rfl rfl dX10_fewest_86 rfl ?_
    refine Vj_iload (q := 91) dX10_fewest_89 rfl rfl ?_
    refine Vj_iald (q := 92) rfl (vp_in_nI (by omega) (by decide)) dX10_fewest_91 rfl ?_
    rw [nI_clamp (by omega), eL, o9_k]
    refine Vj_if_le (q := 95) (tgt := 166) dX10_fewest_92 (by decide) rfl (fun hz => absurd hz (nI_nle (by omega) (by omega))) (fun _ => ?_)
    refine Vj_iconst (q := 96) (v := 0) dX10_fewest_95 rfl (by decide) ?_
    refine Vs_istore6 (q := 98) dX10_fewest_96 rfl (by decide) rfl ?_
    refine qX10_fewest_b hP hTa hL hy hk g1 g3 (fun b hb z => ?_) ?_ bb 0 (by omega)
    · have := g4.2.2 b hb
      rw [z] at this
      simp at this
    ·
      refine Vj_bipush (q := 137) (v := 10) dX10_fewest_135 rfl (by decide) ?_
      refine Vj_iload (q := 139) dX10_fewest_137 rfl rfl ?_
      refine Vj_imul (q := 140) dX10_fewest_139 rfl ?_
      refine Vj_iload (q := 142) dX10_fewest_140 rfl rfl ?_
      refine Vj_iadd (q := 143) dX10_fewest_142 rfl ?_
      refine Vj_iconst (q := 144) (v := 1) dX10_fewest_143 rfl (by decide) ?_
      refine Vj_iadd (q := 145) dX10_fewest_144 rfl ?_
      rw [show (10 : Int32) * nI v + nI bb + 1 = nI (v * 10 + bb + 1) by rw [show (10 : Int32) = nI 10 from rfl, nI_mul, nI_add, nI_1, Nat.mul_comm]]
      refine Vs_istore4 (q := 147) dX10_fewest_145 rfl (by decide) rfl ?_
      refine Vj_aloadn (q := 148) dX10_fewest_147 rfl rfl rfl ?_
      refine Vj_getR (q := 151) flX10_25 rfl rfl dX10_fewest_148 rfl ?_
      refine Vj_sipush (q := 154) (v := 256) dX10_fewest_151 rfl (by decide) ?_
      refine Vj_iload (q := 156) dX10_fewest_154 rfl rfl ?_
      refine Vj_imul (q := 157) dX10_fewest_156 rfl ?_
      refine Vj_iload (q := 159) dX10_fewest_157 rfl rfl ?_
      refine Vj_iadd (q := 160) dX10_fewest_159 rfl ?_
      rw [i_256]
      refine Vj_iald (q := 161) rfl (vp_in_nI (by omega) (by decide)) dX10_fewest_160 rfl ?_
      rw [nI_clamp (by omega), hTa _ g1 _ hy]
      refine Vs_istore5 (q := 163) dX10_fewest_161 rfl (by decide) rfl ?_
      refine Vj_goto (q := 85) dX10_fewest_163 (by decide) ?_
      exact ih _ _ _ hcn g3
set_option maxRecDepth 100000 in
theorem qX10_fewest {tx : List Nat} {ρ : Rm} {c d p : Nat} {ac : List (Nat × Nat × Nat)} {sl : Nat → Option (Nat × Nat × Nat)} {se : List (Nat × Nat × Nat)} {sd : Int64} {N : Nat} {σ : Mem} (h : RM tx ρ c d p ac sl se sd σ) (hv : okV N ρ c d p ac sl se) (x row : Int32) : Ct shM 2 mX10_fewest [.ref 0, .int x, .int row] σ (PM (spFewest ρ c x row) tx ρ c d p ac sl se sd) := by
  obtain ⟨hr, hc, hd, hp, hN30, ⟨hal, hav⟩, hsv, hse⟩ := hv
  obtain ⟨hTx, hP, hTa, hNw, hAc, hSl, hSe, hSd⟩ := h
  have hM := mN_le hr
  have hcM := cm_lt hr hc
  have hdM := cm_lt hr hd
  have hn5 := hr.1
  have hB7 := hr.2.2.1
  have h : RM tx ρ c d p ac sl se sd σ := ⟨hTx, hP, hTa, hNw, hAc, hSl, hSe, hSd⟩
  refine Ct.of (by decide) (Nat.le_of_ble_eq_true rfl) (l := [some (.ref 0), some (.int x), some (.int row), none, none, none, none]) rfl ?_
  refine Vj_aloadn (q := 1) dX10_fewest_0 rfl rfl rfl ?_
  refine Vj_iloadn (q := 2) dX10_fewest_1 rfl rfl rfl ?_
  refine Vj_callVi (q := 5) (qX10_messOf hP x) (by decide) rfl rfl lkX10_169 viX10_messOf okX10_messOf dX10_fewest_2 rfl rfl (Nat.le_of_ble_eq_true rfl) ?_
  rcases ec : cOf ρ (rN ρ) x 0 with _ | to
  ·
    refine Vs_istore3 (q := 6) dX10_fewest_5 rfl (by decide) rfl ?_
    refine Vj_iloadn (q := 7) dX10_fewest_6 rfl rfl rfl ?_
    refine Vj_bipush (q := 9) (v := (-9)) dX10_fewest_7 rfl (by decide) ?_
    refine Vj_icmp_ne (q := 12) (tgt := 15) dX10_fewest_9 (by decide) rfl (fun hz => absurd rfl hz) (fun _ => ?_)
    refine Vj_bipush (q := 14) (v := (-2)) dX10_fewest_12 rfl (by decide) ?_
    exact Vr_iret rfl rfl dX10_fewest_14 (⟨by rw [spFewest, ec], h⟩)
  ·
    have hto := cOf_V0 hr ec
    rw [oM_s]
    refine Vs_istore3 (q := 6) dX10_fewest_5 rfl (by decide) rfl ?_
    refine Vj_iloadn (q := 7) dX10_fewest_6 rfl rfl rfl ?_
    refine Vj_bipush (q := 9) (v := (-9)) dX10_fewest_7 rfl (by decide) ?_
    refine Vj_icmp_ne (q := 12) (tgt := 15) dX10_fewest_9 (by decide) rfl (fun _ => ?_) (fun hz => absurd hz (oM_ne hr hto))
    refine Vj_aloadn (q := 16) dX10_fewest_15 rfl rfl rfl ?_
    refine Vj_iloadn (q := 17) dX10_fewest_16 rfl rfl rfl ?_
    refine Vj_aloadn (q := 18) dX10_fewest_17 rfl rfl rfl ?_
    refine Vj_callVi (q := 21) (qX10_every hP) (by decide) rfl rfl lkX10_172 viX10_every okX10_every dX10_fewest_18 rfl rfl (Nat.le_of_ble_eq_true rfl) ?_
    refine Vj_callV (q := 24) (qX10_layFar hP hTa (evB_lt hr) hto) (by decide) rfl rfl lkX10_175 viX10_layFar okX10_layFar dX10_fewest_21 rfl rfl (Nat.le_of_ble_eq_true rfl) ?_
    rintro r1 σ1 ⟨rfl, hL, hE⟩
    show Vj shM 2 mX10_fewest _ 24 _ [.int _] σ1
    have h1 := h.eqo hE rfl
    obtain ⟨hTx1, hP1, hTa1, hNw1, hAc1, hSl1, hSe1, hSd1⟩ := h1
    have h1 := h.eqo hE rfl
    have eL := hL c hc
    refine Vj_pop (q := 25) dX10_fewest_24 rfl rfl ?_
    refine Vj_iloadn (q := 26) dX10_fewest_25 rfl rfl rfl ?_
    refine Vj_if_eq (q := 29) (tgt := 57) dX10_fewest_26 (by decide) rfl (fun h26 => ?_) (fun h26 => ?_)
    ·
      refine Vj_iloadn (q := 58) dX10_fewest_57 rfl rfl rfl ?_
      refine Vj_if_eq (q := 61) (tgt := 66) dX10_fewest_58 (by decide) rfl (fun _ => ?_) (fun hz => absurd h26 hz)
      refine Vj_aloadn (q := 67) dX10_fewest_66 rfl rfl rfl ?_
      refine Vj_getR (q := 70) flX10_43 rfl rfl dX10_fewest_67 rfl ?_
      refine Vj_aloadn (q := 71) dX10_fewest_70 rfl rfl rfl ?_
      refine Vj_getI (q := 74) flX10_117 rfl rfl dX10_fewest_71 rfl ?_
      rw [hNw1.1]
      refine Vj_iald (q := 75) rfl (vp_in_nI (by omega) (by decide)) dX10_fewest_74 rfl ?_
      rw [nI_clamp (by omega), eL]
      refine Vr_iret rfl rfl dX10_fewest_75 ?_
      refine ⟨?_, h1⟩
      unfold spFewest
      simp only [ec]
      cases e : dst (cNx ρ) (rB ρ) (evB ρ) to c with
      | none => rfl
      | some k => simp only []; rw [if_pos h26]; rfl
    ·
      refine Vj_aloadn (q := 30) dX10_fewest_29 rfl rfl rfl ?_
      refine Vj_getR (q := 33) flX10_43 rfl rfl dX10_fewest_30 rfl ?_
      refine Vj_aloadn (q := 34) dX10_fewest_33 rfl rfl rfl ?_
      refine Vj_getI (q := 37) flX10_117 rfl rfl dX10_fewest_34 rfl ?_
      rw [hNw1.1]
      refine Vj_iald (q := 38) rfl (vp_in_nI (by omega) (by decide)) dX10_fewest_37 rfl ?_
      rw [nI_clamp (by omega), eL]
      refine Vj_bipush (q := 40) (v := (-9)) dX10_fewest_38 rfl (by decide) ?_
      refine Vj_icmp_eq (q := 43) (tgt := 57) dX10_fewest_40 (by decide) rfl (fun h40 => ?_) (fun h40 => ?_)
      ·
        refine Vj_iloadn (q := 58) dX10_fewest_57 rfl rfl rfl ?_
        refine Vj_if_eq (q := 61) (tgt := 66) dX10_fewest_58 (by decide) rfl (fun hz => absurd hz h26) (fun _ => ?_)
        refine Vj_bipush (q := 63) (v := (-9)) dX10_fewest_61 rfl (by decide) ?_
        refine Vj_goto (q := 75) dX10_fewest_63 (by decide) ?_
        refine Vr_iret rfl rfl dX10_fewest_75 ?_
        refine ⟨?_, h1⟩
        unfold spFewest
        simp only [ec]
        rw [(o9_n (fun k z => by have := dst_lt z; omega)).mp h40]
      ·
        obtain ⟨k, ek⟩ : ∃ k, dst (cNx ρ) (rB ρ) (evB ρ) to c = some k := by
          cases e : dst (cNx ρ) (rB ρ) (evB ρ) to c with
          | none => exact absurd (by rw [e]; rfl) h40
          | some k => exact ⟨k, rfl⟩
        have hk3 := dst_lt ek
        refine Vj_aloadn (q := 44) dX10_fewest_43 rfl rfl rfl ?_
        refine Vj_getR (q := 47) flX10_43 rfl rfl dX10_fewest_44 rfl ?_
        refine Vj_aloadn (q := 48) dX10_fewest_47 rfl rfl rfl ?_
        refine Vj_getI (q := 51) flX10_117 rfl rfl dX10_fewest_48 rfl ?_
        rw [hNw1.1]
        refine Vj_iald (q := 52) rfl (vp_in_nI (by omega) (by decide)) dX10_fewest_51 rfl ?_
        rw [nI_clamp (by omega), eL, ek, o9_k]
        refine Vj_bipush (q := 54) (v := 9) dX10_fewest_52 rfl (by decide) ?_
        refine Vj_icmp_le (q := 57) (tgt := 76) dX10_fewest_54 (by decide) rfl (fun h54 => ?_) (fun h54 => ?_)
        ·
          refine Vj_iconst (q := 77) (v := 0) dX10_fewest_76 rfl (by decide) ?_
          refine Vs_istore4 (q := 79) dX10_fewest_77 rfl (by decide) rfl ?_
          refine Vj_aloadn (q := 80) dX10_fewest_79 rfl rfl rfl ?_
          refine Vj_getI (q := 83) flX10_117 rfl rfl dX10_fewest_80 rfl ?_
          rw [hNw1.1]
          refine Vs_istore5 (q := 85) dX10_fewest_83 rfl (by decide) rfl ?_
          have e : spFewest ρ c x row = nI (fwGo (cNx ρ) (rB ρ) (dst (cNx ρ) (rB ρ) (evB ρ) to) k c 0) := by
            unfold spFewest
            simp only [ec, ek]
            rw [if_neg h26, if_neg (by have := (nI_leI (b := 9) (by omega) (by decide)).mp h54; omega)]
          rw [e]
          exact qX10_fewest_loop h1 ⟨hr, hc, hd, hp, hN30, ⟨hal, hav⟩, hsv, hse⟩ hL k c 0 none hc ek
        ·
          refine Vj_iloadn (q := 58) dX10_fewest_57 rfl rfl rfl ?_
          refine Vj_if_eq (q := 61) (tgt := 66) dX10_fewest_58 (by decide) rfl (fun hz => absurd hz h26) (fun _ => ?_)
          refine Vj_bipush (q := 63) (v := (-9)) dX10_fewest_61 rfl (by decide) ?_
          refine Vj_goto (q := 75) dX10_fewest_63 (by decide) ?_
          refine Vr_iret rfl rfl dX10_fewest_75 ?_
          refine ⟨?_, h1⟩
          unfold spFewest
          simp only [ec, ek]
          rw [if_neg h26, if_pos (Nat.not_le.mp fun z => h54 (nI_le (b := 9) z (by decide)))]
