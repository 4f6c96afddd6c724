/-! the reference: deeds, figures, lights -/
theorem cV_stp {ρ : Rm} (hr : okR ρ) {c t : Nat} (hc : cV ρ c) (ht : t < rN ρ) : cV ρ (cStp ρ c t) := ⟨cStp_lt hr hc.1 ht, cOk_stp hr hc.1 ht hc.2⟩
theorem cV_W {ρ : Rm} (hr : okR ρ) {c t s : Nat} (hc : cV ρ c) (ht : t < rN ρ) (hs : s < rS ρ t) : cV ρ (cW (rN ρ) c t s) := ⟨cW_lt _ hr.1 _ hc.1 _ ht _ (by have := (hr.2.1 t ht).2; omega), cOk_cW hr hc.1 ht hs hc.2⟩
theorem cS_r {ρ : Rm} {c t : Nat} (hc : cV ρ c) (ht : t < rN ρ) : cS (rN ρ) c t < rS ρ t := cOk_iff.mp hc.2 t ht
theorem i_stp {s x : Nat} (hs : s < x) (hx : x < 5) : nI (s + 1) % nI x = nI (if s + 1 < x then s + 1 else 0) := by
  rw [nI_mod (by omega) (by omega) (by omega)]
  by_cases e : s + 1 < x
  · rw [if_pos e, Nat.mod_eq_of_lt e]
  · rw [if_neg e, show s + 1 = x by omega, Nat.mod_self]

set_option maxRecDepth 100000 in
theorem qX10_stepped {ρ : Rm} {σ : Mem} (h : RoM ρ σ) {c t : Nat} (hc : cV ρ c) (ht : t < rN ρ) : Ct shM 2 mX10_stepped [.ref 0, .int (nI (cm ρ c)), .int (nI t)] σ (Ri (nI (cm ρ (cStp ρ c t))) σ) := by
  have hn := h.1.1
  have hs := h.1.2.1 t ht
  have hS := cS_r hc ht
  have e := h.2.2.2.2.1 t ht
  unfold cStp
  refine Ct.of (by decide) (Nat.le_of_ble_eq_true rfl) (l := [some (.ref 0), some (.int (nI (cm ρ c))), some (.int (nI t))]) rfl ?_
  refine Vj_aloadn (q := 1) dX10_stepped_0 rfl rfl rfl ?_
  refine Vj_iloadn (q := 2) dX10_stepped_1 rfl rfl rfl ?_
  refine Vj_iloadn (q := 3) dX10_stepped_2 rfl rfl rfl ?_
  refine Vj_aloadn (q := 4) dX10_stepped_3 rfl rfl rfl ?_
  refine Vj_iloadn (q := 5) dX10_stepped_4 rfl rfl rfl ?_
  refine Vj_iloadn (q := 6) dX10_stepped_5 rfl rfl rfl ?_
  refine Vj_callVi (q := 9) (qX10_stateIn h hc ht) (by decide) rfl rfl lkX10_133 viX10_stateIn okX10_stateIn dX10_stepped_6 rfl rfl (Nat.le_of_ble_eq_true rfl) ?_
  refine Vj_iconst (q := 10) (v := 1) dX10_stepped_9 rfl (by decide) ?_
  refine Vj_iadd (q := 11) dX10_stepped_10 rfl ?_
  rw [nI_1]
  refine Vj_aloadn (q := 12) dX10_stepped_11 rfl rfl rfl ?_
  refine Vj_getR (q := 15) flX10_7 rfl rfl dX10_stepped_12 rfl ?_
  refine Vj_iloadn (q := 16) dX10_stepped_15 rfl rfl rfl ?_
  refine Vj_iald (q := 17) rfl (vp_in_nI (by omega) (by decide)) dX10_stepped_16 rfl ?_
  rw [nI_clamp (by omega), e.1]
  refine Vj_irem (q := 18) dX10_stepped_17 rfl (nI_ne0 (by omega) (by omega)) ?_
  rw [i_stp hS (by omega)]
  refine Vj_callVi (q := 21) (qX10_with h hc ht (by split <;> omega)) (by decide) rfl rfl lkX10_136 viX10_with okX10_with dX10_stepped_18 rfl rfl (Nat.le_of_ble_eq_true rfl) ?_
  exact Vr_iret rfl rfl dX10_stepped_21 (⟨rfl, rfl⟩)
set_option maxRecDepth 100000 in
theorem qX10_made_loop {ρ : Rm} {σ : Mem} (h : RoM ρ σ) {c0 b : Nat} {z3 : Int32} (hc0 : cV ρ c0) : ∀ k t c : Nat, t + k = rN ρ → cV ρ c → Vj shM 3 mX10_made (Ri (nI (cm ρ (cSwi (rN ρ) c0 k t c))) σ) 66 [some (.ref 0), some (.int (nI b)), some (.int (nI (cm ρ c0))), some (.int z3), some (.int (nI (cm ρ c))), some (.int (nI t))] [] σ := by
  intro k
  induction k with
  | zero =>
    intro t c ht hc
    have hn := h.1.1
    refine Vj_iload (q := 68) dX10_made_66 rfl rfl ?_
    refine Vj_aloadn (q := 69) dX10_made_68 rfl rfl rfl ?_
    refine Vj_getI (q := 72) flX10_111 rfl rfl dX10_made_69 rfl ?_
    rw [h.2.1]
    refine Vj_icmp_ge (q := 75) (tgt := 106) dX10_made_72 (by decide) rfl (fun _ => ?_) (fun hz => absurd (nI_le (by omega) (by omega)) hz)
    refine Vj_iload (q := 108) dX10_made_106 rfl rfl ?_
    exact Vr_iret rfl rfl dX10_made_108 (⟨rfl, rfl⟩)
  | succ k ih =>
    intro t c ht hc
    have hn := h.1.1
    have ht' : t < rN ρ := by omega
    have hS := cS_r hc0 ht'
    have hs := h.1.2.1 t ht'
    rw [cSwi]
    refine Vj_iload (q := 68) dX10_made_66 rfl rfl ?_
    refine Vj_aloadn (q := 69) dX10_made_68 rfl rfl rfl ?_
    refine Vj_getI (q := 72) flX10_111 rfl rfl dX10_made_69 rfl ?_
    rw [h.2.1]
    refine Vj_icmp_ge (q := 75) (tgt := 106) dX10_made_72 (by decide) rfl (fun hz => absurd hz (nI_ge (by omega) (by omega))) (fun _ => ?_)
    refine Vj_aloadn (q := 76) dX10_made_75 rfl rfl rfl ?_
    refine Vj_iload (q := 78) dX10_made_76 rfl rfl ?_
    refine Vj_iload (q := 80) dX10_made_78 rfl rfl ?_
    refine Vj_aloadn (q := 81) dX10_made_80 rfl rfl rfl ?_
    refine Vj_iloadn (q := 82) dX10_made_81 rfl rfl rfl ?_
    refine Vj_iload (q := 84) dX10_made_82 rfl rfl ?_
    refine Vj_callVi (q := 87) (qX10_stateIn h hc0 ht') (by decide) rfl rfl lkX10_133 viX10_stateIn okX10_stateIn dX10_made_84 rfl rfl (Nat.le_of_ble_eq_true rfl) ?_
    refine Vj_if_ne (q := 90) (tgt := 94) dX10_made_87 (by decide) rfl (fun h87 => ?_) (fun h87 => ?_)
    ·
      rw [if_neg (fun z => h87 ((nI_z (by omega)).mpr z))]
      refine Vj_iconst (q := 95) (v := 0) dX10_made_94 rfl (by decide) ?_
      refine Vj_callVi (q := 98) (qX10_with h hc ht' (s := 0) (by decide)) (by decide) rfl rfl lkX10_136 viX10_with okX10_with dX10_made_95 rfl rfl (Nat.le_of_ble_eq_true rfl) ?_
      refine Vs_istore4 (q := 100) dX10_made_98 rfl (by decide) rfl ?_
      refine Vs_iinc5 (q := 103) (z := none) dX10_made_100 rfl (by exact iinc_p _) (by decide) rfl ?_
      refine Vj_goto (q := 66) dX10_made_103 (by decide) ?_
      rw [nI_1]
      exact ih (t + 1) _ (by omega) (cV_W h.1 hc ht' (by omega))
    ·
      rw [if_pos ((nI_z (by omega)).mp h87)]
      refine Vj_iconst (q := 91) (v := 1) dX10_made_90 rfl (by decide) ?_
      refine Vj_goto (q := 95) dX10_made_91 (by decide) ?_
      refine Vj_callVi (q := 98) (qX10_with h hc ht' (s := 1) (by decide)) (by decide) rfl rfl lkX10_136 viX10_with okX10_with dX10_made_95 rfl rfl (Nat.le_of_ble_eq_true rfl) ?_
      refine Vs_istore4 (q := 100) dX10_made_98 rfl (by decide) rfl ?_
      refine Vs_iinc5 (q := 103) (z := none) dX10_made_100 rfl (by exact iinc_p _) (by decide) rfl ?_
      refine Vj_goto (q := 66) dX10_made_103 (by decide) ?_
      rw [nI_1]
      exact ih (t + 1) _ (by omega) (cV_W h.1 hc ht' (by omega))
set_option maxRecDepth 100000 in
theorem qX10_made {ρ : Rm} {σ : Mem} (h : RoM ρ σ) {c b : Nat} (hc : cV ρ c) (hb : b < rB ρ) : Ct shM 3 mX10_made [.ref 0, .int (nI b), .int (nI (cm ρ c))] σ (Ri (nI (cm ρ (cDo ρ c b))) σ) := by
  have hn := h.1.1
  have hb7 := h.1.2.2.1
  obtain ⟨g1, g2, g3, g4, g5⟩ := h.1.2.2.2 b hb
  obtain ⟨e1, e2, e3⟩ := h.2.2.2.2.2 b hb
  refine Ct.of (by decide) (Nat.le_of_ble_eq_true rfl) (l := [some (.ref 0), some (.int (nI b)), some (.int (nI (cm ρ c))), none, none, none]) rfl ?_
  refine Vj_aloadn (q := 1) dX10_made_0 rfl rfl rfl ?_
  refine Vj_getR (q := 4) flX10_16 rfl rfl dX10_made_1 rfl ?_
  refine Vj_iloadn (q := 5) dX10_made_4 rfl rfl rfl ?_
  refine Vj_iald (q := 6) rfl (vp_in_nI (by omega) (by decide)) dX10_made_5 rfl ?_
  rw [nI_clamp (by omega), e1]
  refine Vs_istore3 (q := 7) dX10_made_6 rfl (by decide) rfl ?_
  refine Vj_aloadn (q := 8) dX10_made_7 rfl rfl rfl ?_
  refine Vj_getR (q := 11) flX10_19 rfl rfl dX10_made_8 rfl ?_
  refine Vj_iloadn (q := 12) dX10_made_11 rfl rfl rfl ?_
  refine Vj_iald (q := 13) rfl (vp_in_nI (by omega) (by decide)) dX10_made_12 rfl ?_
  rw [nI_clamp (by omega), e2]
  rcases (show rK ρ b = 0 ∨ rK ρ b = 1 ∨ rK ρ b = 2 ∨ rK ρ b = 3 by omega) with hk | hk | hk | hk
  ·
    rw [hk]
    refine Vj_tableIn (q := 40) (off := 27) dX10_made_13 (by decide) (by decide) (by decide) (by decide) ?_
    refine Vj_aloadn (q := 41) dX10_made_40 rfl rfl rfl ?_
    refine Vj_iloadn (q := 42) dX10_made_41 rfl rfl rfl ?_
    refine Vj_iloadn (q := 43) dX10_made_42 rfl rfl rfl ?_
    refine Vj_callVi (q := 46) (qX10_stepped h hc g1) (by decide) rfl rfl lkX10_140 viX10_stepped okX10_stepped dX10_made_43 rfl rfl (Nat.le_of_ble_eq_true rfl) ?_
    exact Vr_iret rfl rfl dX10_made_46 (⟨by rw [cDo, if_neg (by omega), if_neg (by omega), if_neg (by omega)], rfl⟩)
  ·
    rw [hk]
    refine Vj_tableIn (q := 47) (off := 34) dX10_made_13 (by decide) (by decide) (by decide) (by decide) ?_
    refine Vj_aloadn (q := 48) dX10_made_47 rfl rfl rfl ?_
    refine Vj_iloadn (q := 49) dX10_made_48 rfl rfl rfl ?_
    refine Vj_iloadn (q := 50) dX10_made_49 rfl rfl rfl ?_
    refine Vj_aloadn (q := 51) dX10_made_50 rfl rfl rfl ?_
    refine Vj_getR (q := 54) flX10_22 rfl rfl dX10_made_51 rfl ?_
    refine Vj_iloadn (q := 55) dX10_made_54 rfl rfl rfl ?_
    refine Vj_iald (q := 56) rfl (vp_in_nI (by omega) (by decide)) dX10_made_55 rfl ?_
    rw [nI_clamp (by omega), e3]
    refine Vj_callVi (q := 59) (qX10_with h hc g1 (by have := g3 hk; have := (h.1.2.1 _ g1).2; omega)) (by decide) rfl rfl lkX10_136 viX10_with okX10_with dX10_made_56 rfl rfl (Nat.le_of_ble_eq_true rfl) ?_
    exact Vr_iret rfl rfl dX10_made_59 (⟨by rw [cDo, if_pos hk], rfl⟩)
  ·
    rw [hk]
    refine Vj_tableIn (q := 60) (off := 47) dX10_made_13 (by decide) (by decide) (by decide) (by decide) ?_
    refine Vj_iloadn (q := 61) dX10_made_60 rfl rfl rfl ?_
    refine Vs_istore4 (q := 63) dX10_made_61 rfl (by decide) rfl ?_
    refine Vj_iloadn (q := 64) dX10_made_63 rfl rfl rfl ?_
    refine Vs_istore5 (q := 66) dX10_made_64 rfl (by decide) rfl ?_
    rw [cDo, if_neg (by omega), if_pos hk]
    exact qX10_made_loop h hc (rN ρ - rT ρ b) (rT ρ b) c (by omega) hc
  ·
    rw [hk]
    refine Vj_tableOut (q := 109) dX10_made_13 (Or.inr (by decide)) (by decide) ?_
    refine Vj_aloadn (q := 110) dX10_made_109 rfl rfl rfl ?_
    refine Vj_iloadn (q := 111) dX10_made_110 rfl rfl rfl ?_
    refine Vj_aloadn (q := 112) dX10_made_111 rfl rfl rfl ?_
    refine Vj_getR (q := 115) flX10_22 rfl rfl dX10_made_112 rfl ?_
    refine Vj_iloadn (q := 116) dX10_made_115 rfl rfl rfl ?_
    refine Vj_iald (q := 117) rfl (vp_in_nI (by omega) (by decide)) dX10_made_116 rfl ?_
    rw [nI_clamp (by omega), e3]
    refine Vj_callVi (q := 120) (qX10_stateIn h hc (g4 hk).1) (by decide) rfl rfl lkX10_133 viX10_stateIn okX10_stateIn dX10_made_117 rfl rfl (Nat.le_of_ble_eq_true rfl) ?_
    refine Vj_if_ne (q := 123) (tgt := 127) dX10_made_120 (by decide) rfl (fun h120 => ?_) (fun h120 => ?_)
    ·
      refine Vj_aloadn (q := 128) dX10_made_127 rfl rfl rfl ?_
      refine Vj_iloadn (q := 129) dX10_made_128 rfl rfl rfl ?_
      refine Vj_iloadn (q := 130) dX10_made_129 rfl rfl rfl ?_
      refine Vj_callVi (q := 133) (qX10_stepped h hc g1) (by decide) rfl rfl lkX10_140 viX10_stepped okX10_stepped dX10_made_130 rfl rfl (Nat.le_of_ble_eq_true rfl) ?_
      exact Vr_iret rfl rfl dX10_made_133 (⟨by rw [cDo, if_neg (by omega), if_neg (by omega), if_pos hk, if_neg (fun z => h120 ((nI_z (by have := cS_lt (rN ρ) c (rA ρ b); omega)).mpr z))], rfl⟩)
    ·
      refine Vj_iloadn (q := 124) dX10_made_123 rfl rfl rfl ?_
      refine Vj_goto (q := 133) dX10_made_124 (by decide) ?_
      exact Vr_iret rfl rfl dX10_made_133 (⟨by rw [cDo, if_neg (by omega), if_neg (by omega), if_pos hk, if_pos ((nI_z (by have := cS_lt (rN ρ) c (rA ρ b); omega)).mp h120)], rfl⟩)
set_option maxRecDepth 100000 in
theorem qX10_figuresOf_loop {ρ : Rm} {σ : Mem} (h : RoM ρ σ) {c : Nat} (hc : cV ρ c) : ∀ k t : Nat, t + k = rN ρ → Vj shM 1 mX10_figuresOf (Ri (nI (cDg (rN ρ) c (rN ρ))) σ) 4 [some (.ref 0), some (.int (nI (cm ρ c))), some (.int (nI (cDg (rN ρ) c t))), some (.int (nI t))] [] σ := by
  intro k
  induction k with
  | zero =>
    intro t ht
    obtain rfl : t = rN ρ := by omega
    have hn := h.1.1
    refine Vj_iloadn (q := 5) dX10_figuresOf_4 rfl rfl rfl ?_
    refine Vj_aloadn (q := 6) dX10_figuresOf_5 rfl rfl rfl ?_
    refine Vj_getI (q := 9) flX10_111 rfl rfl dX10_figuresOf_6 rfl ?_
    rw [h.2.1]
    refine Vj_icmp_ge (q := 12) (tgt := 30) dX10_figuresOf_9 (by decide) rfl (fun _ => ?_) (fun hz => absurd (nI_le (by omega) (by omega)) hz)
    refine Vj_iloadn (q := 31) dX10_figuresOf_30 rfl rfl rfl ?_
    exact Vr_iret rfl rfl dX10_figuresOf_31 (⟨rfl, rfl⟩)
  | succ k ih =>
    intro t ht
    have hn := h.1.1
    refine Vj_iloadn (q := 5) dX10_figuresOf_4 rfl rfl rfl ?_
    refine Vj_aloadn (q := 6) dX10_figuresOf_5 rfl rfl rfl ?_
    refine Vj_getI (q := 9) flX10_111 rfl rfl dX10_figuresOf_6 rfl ?_
    rw [h.2.1]
    refine Vj_icmp_ge (q := 12) (tgt := 30) dX10_figuresOf_9 (by decide) rfl (fun hz => absurd hz (nI_ge (by omega) (by omega))) (fun _ => ?_)
    refine Vj_bipush (q := 14) (v := 10) dX10_figuresOf_12 rfl (by decide) ?_
    refine Vj_iloadn (q := 15) dX10_figuresOf_14 rfl rfl rfl ?_
    refine Vj_imul (q := 16) dX10_figuresOf_15 rfl ?_
    refine Vj_aloadn (q := 17) dX10_figuresOf_16 rfl rfl rfl ?_
    refine Vj_iloadn (q := 18) dX10_figuresOf_17 rfl rfl rfl ?_
    refine Vj_iloadn (q := 19) dX10_figuresOf_18 rfl rfl rfl ?_
    refine Vj_callVi (q := 22) (qX10_stateIn h hc (by omega)) (by decide) rfl rfl lkX10_133 viX10_stateIn okX10_stateIn dX10_figuresOf_19 rfl rfl (Nat.le_of_ble_eq_true rfl) ?_
    refine Vj_iadd (q := 23) dX10_figuresOf_22 rfl ?_
    rw [show (10 : Int32) = nI 10 from rfl, nI_mul, nI_add, show 10 * cDg (rN ρ) c t + cS (rN ρ) c t = cDg (rN ρ) c (t + 1) by rw [cDg, Nat.mul_comm]]
    refine Vs_istore2 (q := 24) dX10_figuresOf_23 rfl (by decide) rfl ?_
    refine Vs_iinc3 (q := 27) (z := none) dX10_figuresOf_24 rfl (by exact iinc_p _) (by decide) rfl ?_
    refine Vj_goto (q := 4) dX10_figuresOf_27 (by decide) ?_
    rw [nI_1]
    exact ih (t + 1) (by omega)
set_option maxRecDepth 100000 in
theorem qX10_figuresOf {ρ : Rm} {σ : Mem} (h : RoM ρ σ) {c : Nat} (hc : cV ρ c) : Ct shM 1 mX10_figuresOf [.ref 0, .int (nI (cm ρ c))] σ (Ri (nI (cDg (rN ρ) c (rN ρ))) σ) := by
  refine Ct.of (by decide) (Nat.le_of_ble_eq_true rfl) (l := [some (.ref 0), some (.int (nI (cm ρ c))), none, none]) rfl ?_
  refine Vj_iconst (q := 1) (v := 0) dX10_figuresOf_0 rfl (by decide) ?_
  refine Vs_istore2 (q := 2) dX10_figuresOf_1 rfl (by decide) rfl ?_
  refine Vj_iconst (q := 3) (v := 0) dX10_figuresOf_2 rfl (by decide) ?_
  refine Vs_istore3 (q := 4) dX10_figuresOf_3 rfl (by decide) rfl ?_
  exact qX10_figuresOf_loop h hc (rN ρ) 0 (by omega)
set_option maxRecDepth 100000 in
theorem qX10_lightsOf_loop {ρ : Rm} {σ : Mem} (h : RoM ρ σ) {c : Nat} (hc : cV ρ c) : ∀ k t : Nat, t + k = rN ρ → Vj shM 1 mX10_lightsOf (Ri (nI (cLi (rN ρ) c (rN ρ))) σ) 4 [some (.ref 0), some (.int (nI (cm ρ c))), some (.int (nI (cLi (rN ρ) c t))), some (.int (nI t))] [] σ := by
  intro k
  induction k with
  | zero =>
    intro t ht
    obtain rfl : t = rN ρ := by omega
    have hn := h.1.1
    refine Vj_iloadn (q := 5) dX10_lightsOf_4 rfl rfl rfl ?_
    refine Vj_aloadn (q := 6) dX10_lightsOf_5 rfl rfl rfl ?_
    refine Vj_getI (q := 9) flX10_111 rfl rfl dX10_lightsOf_6 rfl ?_
    rw [h.2.1]
    refine Vj_icmp_ge (q := 12) (tgt := 37) dX10_lightsOf_9 (by decide) rfl (fun _ => ?_) (fun hz => absurd (nI_le (by omega) (by omega)) hz)
    refine Vj_iloadn (q := 38) dX10_lightsOf_37 rfl rfl rfl ?_
    exact Vr_iret rfl rfl dX10_lightsOf_38 (⟨rfl, rfl⟩)
  | succ k ih =>
    intro t ht
    have hn := h.1.1
    have hS := cS_lt (rN ρ) c t
    have hl : cLi (rN ρ) c t < 16 := Nat.lt_of_lt_of_le (cLi_lt (rN ρ) c t) (Nat.pow_le_pow_right (by decide) (show t ≤ 4 by omega))
    refine Vj_iloadn (q := 5) dX10_lightsOf_4 rfl rfl rfl ?_
    refine Vj_aloadn (q := 6) dX10_lightsOf_5 rfl rfl rfl ?_
    refine Vj_getI (q := 9) flX10_111 rfl rfl dX10_lightsOf_6 rfl ?_
    rw [h.2.1]
    refine Vj_icmp_ge (q := 12) (tgt := 37) dX10_lightsOf_9 (by decide) rfl (fun hz => absurd hz (nI_ge (by omega) (by omega))) (fun _ => ?_)
    refine Vj_iloadn (q := 13) dX10_lightsOf_12 rfl rfl rfl ?_
    refine Vj_aloadn (q := 14) dX10_lightsOf_13 rfl rfl rfl ?_
    refine Vj_iloadn (q := 15) dX10_lightsOf_14 rfl rfl rfl ?_
    refine Vj_iloadn (q := 16) dX10_lightsOf_15 rfl rfl rfl ?_
    refine Vj_callVi (q := 19) (qX10_stateIn h hc (by omega)) (by decide) rfl rfl lkX10_133 viX10_stateIn okX10_stateIn dX10_lightsOf_16 rfl rfl (Nat.le_of_ble_eq_true rfl) ?_
    refine Vj_if_le (q := 22) (tgt := 28) dX10_lightsOf_19 (by decide) rfl (fun h19 => ?_) (fun h19 => ?_)
    ·
      refine Vj_iconst (q := 29) (v := 0) dX10_lightsOf_28 rfl (by decide) ?_
      refine Vj_ior (q := 30) dX10_lightsOf_29 rfl ?_
      rw [show nI (cLi (rN ρ) c t) ||| (0 : Int32) = nI (cLi (rN ρ) c (t + 1)) by rw [show (0 : Int32) = nI 0 from rfl, nI_or', Nat.or_zero, cLi, if_pos]; exact (Decidable.byContradiction fun z => nI_nle (Nat.pos_of_ne_zero z) (by omega) h19)]
      refine Vs_istore2 (q := 31) dX10_lightsOf_30 rfl (by decide) rfl ?_
      refine Vs_iinc3 (q := 34) (z := none) dX10_lightsOf_31 rfl (by exact iinc_p _) (by decide) rfl ?_
      refine Vj_goto (q := 4) dX10_lightsOf_34 (by decide) ?_
      rw [nI_1]
      exact ih (t + 1) (by omega)
    ·
      refine Vj_iconst (q := 23) (v := 1) dX10_lightsOf_22 rfl (by decide) ?_
      refine Vj_iloadn (q := 24) dX10_lightsOf_23 rfl rfl rfl ?_
      refine Vj_ishl (q := 25) dX10_lightsOf_24 rfl ?_
      refine Vj_goto (q := 29) dX10_lightsOf_25 (by decide) ?_
      refine Vj_ior (q := 30) dX10_lightsOf_29 rfl ?_
      rw [i_or1 t (by omega) _ hl, show cLi (rN ρ) c t ||| 1 <<< t = cLi (rN ρ) c (t + 1) by rw [cLi, if_neg]; intro z; rw [z] at h19; exact h19 (by decide)]
      refine Vs_istore2 (q := 31) dX10_lightsOf_30 rfl (by decide) rfl ?_
      refine Vs_iinc3 (q := 34) (z := none) dX10_lightsOf_31 rfl (by exact iinc_p _) (by decide) rfl ?_
      refine Vj_goto (q := 4) dX10_lightsOf_34 (by decide) ?_
      rw [nI_1]
      exact ih (t + 1) (by omega)
set_option maxRecDepth 100000 in
theorem qX10_lightsOf {ρ : Rm} {σ : Mem} (h : RoM ρ σ) {c : Nat} (hc : cV ρ c) : Ct shM 1 mX10_lightsOf [.ref 0, .int (nI (cm ρ c))] σ (Ri (nI (cLi (rN ρ) c (rN ρ))) σ) := by
  refine Ct.of (by decide) (Nat.le_of_ble_eq_true rfl) (l := [some (.ref 0), some (.int (nI (cm ρ c))), none, none]) rfl ?_
  refine Vj_iconst (q := 1) (v := 0) dX10_lightsOf_0 rfl (by decide) ?_
  refine Vs_istore2 (q := 2) dX10_lightsOf_1 rfl (by decide) rfl ?_
  refine Vj_iconst (q := 3) (v := 0) dX10_lightsOf_2 rfl (by decide) ?_
  refine Vs_istore3 (q := 4) dX10_lightsOf_3 rfl (by decide) rfl ?_
  exact qX10_lightsOf_loop h hc (rN ρ) 0 (by omega)
