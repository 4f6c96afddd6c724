/-! the reference: room -/
/-- the things alone -/
def RoS (ρ : Rm) (σ : Mem) : Prop := okR ρ ∧ σ.1 0 0 = nI (rN ρ) ∧ ∀ t, t < rN ρ → σ.1 1 t = nI (rS ρ t) ∧ σ.1 2 t = nI (mu ρ t)

set_option maxRecDepth 100000 in
theorem rX10_stateIn {ρ : Rm} {σ : Mem} (h : RoS ρ σ) {c t : Nat} (hc : cV ρ c) (ht : t < rN ρ) : Ct shM 0 mX10_stateIn [.ref 0, .int (nI (cm ρ c)), .int (nI t)] σ (Ri (nI (cS (rN ρ) c t)) σ) := by
  have hn := h.1.1
  have hu := mu_le h.1 ht
  have hs := h.1.2.1 t ht
  have e := h.2.2 t ht
  refine Ct.of (by decide) (Nat.le_of_ble_eq_true rfl) (l := [some (.ref 0), some (.int (nI (cm ρ c))), some (.int (nI t))]) rfl ?_
  refine Vj_iloadn (q := 1) dX10_stateIn_0 rfl rfl rfl ?_
  refine Vj_aloadn (q := 2) dX10_stateIn_1 rfl rfl rfl ?_
  refine Vj_getR (q := 5) flX10_13 rfl rfl dX10_stateIn_2 rfl ?_
  refine Vj_iloadn (q := 6) dX10_stateIn_5 rfl rfl rfl ?_
  refine Vj_iald (q := 7) rfl (vp_in_nI (by omega) (by decide)) dX10_stateIn_6 rfl ?_
  rw [nI_clamp (by omega), e.2]
  refine Vj_idiv (q := 8) dX10_stateIn_7 rfl (nI_ne0 (by omega) (by omega)) ?_
  refine Vj_aloadn (q := 9) dX10_stateIn_8 rfl rfl rfl ?_
  refine Vj_getR (q := 12) flX10_7 rfl rfl dX10_stateIn_9 rfl ?_
  refine Vj_iloadn (q := 13) dX10_stateIn_12 rfl rfl rfl ?_
  refine Vj_iald (q := 14) rfl (vp_in_nI (by omega) (by decide)) dX10_stateIn_13 rfl ?_
  rw [nI_clamp (by omega), e.1]
  refine Vj_irem (q := 15) dX10_stateIn_14 rfl (nI_ne0 (by omega) (by omega)) ?_
  rw [i_stM h.1 hc ht]
  exact Vr_iret rfl rfl dX10_stateIn_15 (⟨rfl, rfl⟩)
set_option maxRecDepth 100000 in
theorem rX10_with {ρ : Rm} {σ : Mem} (h : RoS ρ σ) {c t s : Nat} (hc : cV ρ c) (ht : t < rN ρ) (hs : s < 4) : Ct shM 1 mX10_with [.ref 0, .int (nI (cm ρ c)), .int (nI t), .int (nI s)] σ (Ri (nI (cm ρ (cW (rN ρ) c t s))) σ) := by
  have hn := h.1.1
  have e := h.2.2 t ht
  refine Ct.of (by decide) (Nat.le_of_ble_eq_true rfl) (l := [some (.ref 0), some (.int (nI (cm ρ c))), some (.int (nI t)), some (.int (nI s))]) rfl ?_
  refine Vj_iloadn (q := 1) dX10_with_0 rfl rfl rfl ?_
  refine Vj_iloadn (q := 2) dX10_with_1 rfl rfl rfl ?_
  refine Vj_aloadn (q := 3) dX10_with_2 rfl rfl rfl ?_
  refine Vj_iloadn (q := 4) dX10_with_3 rfl rfl rfl ?_
  refine Vj_iloadn (q := 5) dX10_with_4 rfl rfl rfl ?_
  refine Vj_callVi (q := 8) (rX10_stateIn h hc ht) (by decide) rfl rfl lkX10_133 viX10_stateIn okX10_stateIn dX10_with_5 rfl rfl (Nat.le_of_ble_eq_true rfl) ?_
  refine Vj_isub (q := 9) dX10_with_8 rfl ?_
  refine Vj_aloadn (q := 10) dX10_with_9 rfl rfl rfl ?_
  refine Vj_getR (q := 13) flX10_13 rfl rfl dX10_with_10 rfl ?_
  refine Vj_iloadn (q := 14) dX10_with_13 rfl rfl rfl ?_
  refine Vj_iald (q := 15) rfl (vp_in_nI (by omega) (by decide)) dX10_with_14 rfl ?_
  rw [nI_clamp (by omega), e.2]
  refine Vj_imul (q := 16) dX10_with_15 rfl ?_
  refine Vj_iadd (q := 17) dX10_with_16 rfl ?_
  rw [i_with h.1 hc.1 ht hs]
  exact Vr_iret rfl rfl dX10_with_17 (⟨rfl, rfl⟩)
set_option maxRecDepth 100000 in
theorem rX10_stepped {ρ : Rm} {σ : Mem} (h : RoS ρ σ) {c t : Nat} (hc : cV ρ c) (ht : t < rN ρ) : Ct shM 2 mX10_stepped [.ref 0, .int (nI (cm ρ c)), .int (nI t)] σ (Ri (nI (cm ρ (cStp ρ c t))) σ) := by
  have hn := h.1.1
  have hs := h.1.2.1 t ht
  have hS := cS_r hc ht
  have e := h.2.2 t ht
  unfold cStp
  refine Ct.of (by decide) (Nat.le_of_ble_eq_true rfl) (l := [some (.ref 0), some (.int (nI (cm ρ c))), some (.int (nI t))]) rfl ?_
  refine Vj_aloadn (q := 1) dX10_stepped_0 rfl rfl rfl ?_
  refine Vj_iloadn (q := 2) dX10_stepped_1 rfl rfl rfl ?_
  refine Vj_iloadn (q := 3) dX10_stepped_2 rfl rfl rfl ?_
  refine Vj_aloadn (q := 4) dX10_stepped_3 rfl rfl rfl ?_
  refine Vj_iloadn (q := 5) dX10_stepped_4 rfl rfl rfl ?_
  refine Vj_iloadn (q := 6) dX10_stepped_5 rfl rfl rfl ?_
  refine Vj_callVi (q := 9) (rX10_stateIn h hc ht) (by decide) rfl rfl lkX10_133 viX10_stateIn okX10_stateIn dX10_stepped_6 rfl rfl (Nat.le_of_ble_eq_true rfl) ?_
  refine Vj_iconst (q := 10) (v := 1) dX10_stepped_9 rfl (by decide) ?_
  refine Vj_iadd (q := 11) dX10_stepped_10 rfl ?_
  rw [nI_1]
  refine Vj_aloadn (q := 12) dX10_stepped_11 rfl rfl rfl ?_
  refine Vj_getR (q := 15) flX10_7 rfl rfl dX10_stepped_12 rfl ?_
  refine Vj_iloadn (q := 16) dX10_stepped_15 rfl rfl rfl ?_
  refine Vj_iald (q := 17) rfl (vp_in_nI (by omega) (by decide)) dX10_stepped_16 rfl ?_
  rw [nI_clamp (by omega), e.1]
  refine Vj_irem (q := 18) dX10_stepped_17 rfl (nI_ne0 (by omega) (by omega)) ?_
  rw [i_stp hS (by omega)]
  refine Vj_callVi (q := 21) (rX10_with h hc ht (by split <;> omega)) (by decide) rfl rfl lkX10_136 viX10_with okX10_with dX10_stepped_18 rfl rfl (Nat.le_of_ble_eq_true rfl) ?_
  exact Vr_iret rfl rfl dX10_stepped_21 (⟨rfl, rfl⟩)
set_option maxRecDepth 100000 in
theorem rX10_made_loop {ρ : Rm} {σ : Mem} (h : RoS ρ σ) {c0 b : Nat} {z3 : Int32} (hc0 : cV ρ c0) : ∀ k t c : Nat, t + k = rN ρ → cV ρ c → Vj shM 3 mX10_made (Ri (nI (cm ρ (cSwi (rN ρ) c0 k t c))) σ) 66 [some (.ref 0), some (.int (nI b)), some (.int (nI (cm ρ c0))), some (.int z3), some (.int (nI (cm ρ c))), some (.int (nI t))] [] σ := by
  intro k
  induction k with
  | zero =>
    intro t c ht hc
    have hn := h.1.1
    refine Vj_iload (q := 68) dX10_made_66 rfl rfl ?_
    refine Vj_aloadn (q := 69) dX10_made_68 rfl rfl rfl ?_
    refine Vj_getI (q := 72) flX10_111 rfl rfl dX10_made_69 rfl ?_
    rw [h.2.1]
    refine Vj_icmp_ge (q := 75) (tgt := 106) dX10_made_72 (by decide) rfl (fun _ => ?_) (fun hz => absurd (nI_le (by omega) (by omega)) hz)
    refine Vj_iload (q := 108) dX10_made_106 rfl rfl ?_
    exact Vr_iret rfl rfl dX10_made_108 (⟨rfl, rfl⟩)
  | succ k ih =>
    intro t c ht hc
    have hn := h.1.1
    have ht' : t < rN ρ := by omega
    have hS := cS_r hc0 ht'
    have hs := h.1.2.1 t ht'
    rw [cSwi]
    refine Vj_iload (q := 68) dX10_made_66 rfl rfl ?_
    refine Vj_aloadn (q := 69) dX10_made_68 rfl rfl rfl ?_
    refine Vj_getI (q := 72) flX10_111 rfl rfl dX10_made_69 rfl ?_
    rw [h.2.1]
    refine Vj_icmp_ge (q := 75) (tgt := 106) dX10_made_72 (by decide) rfl (fun hz => absurd hz (nI_ge (by omega) (by omega))) (fun _ => ?_)
    refine Vj_aloadn (q := 76) dX10_made_75 rfl rfl rfl ?_
    refine Vj_iload (q := 78) dX10_made_76 rfl rfl ?_
    refine Vj_iload (q := 80) dX10_made_78 rfl rfl ?_
    refine Vj_aloadn (q := 81) dX10_made_80 rfl rfl rfl ?_
    refine Vj_iloadn (q := 82) dX10_made_81 rfl rfl rfl ?_
    refine Vj_iload (q := 84) dX10_made_82 rfl rfl ?_
    refine Vj_callVi (q := 87) (rX10_stateIn h hc0 ht') (by decide) rfl rfl lkX10_133 viX10_stateIn okX10_stateIn dX10_made_84 rfl rfl (Nat.le_of_ble_eq_true rfl) ?_
    refine Vj_if_ne (q := 90) (tgt := 94) dX10_made_87 (by decide) rfl (fun h87 => ?_) (fun h87 => ?_)
    ·
      rw [if_neg (fun z => h87 ((nI_z (by omega)).mpr z))]
      refine Vj_iconst (q := 95) (v := 0) dX10_made_94 rfl (by decide) ?_
      refine Vj_callVi (q := 98) (rX10_with h hc ht' (s := 0) (by decide)) (by decide) rfl rfl lkX10_136 viX10_with okX10_with dX10_made_95 rfl rfl (Nat.le_of_ble_eq_true rfl) ?_
      refine Vs_istore4 (q := 100) dX10_made_98 rfl (by decide) rfl ?_
      refine Vs_iinc5 (q := 103) (z := none) dX10_made_100 rfl (by exact iinc_p _) (by decide) rfl ?_
      refine Vj_goto (q := 66) dX10_made_103 (by decide) ?_
      rw [nI_1]
      exact ih (t + 1) _ (by omega) (cV_W h.1 hc ht' (by omega))
    ·
      rw [if_pos ((nI_z (by omega)).mp h87)]
      refine Vj_iconst (q := 91) (v := 1) dX10_made_90 rfl (by decide) ?_
      refine Vj_goto (q := 95) dX10_made_91 (by decide) ?_
      refine Vj_callVi (q := 98) (rX10_with h hc ht' (s := 1) (by decide)) (by decide) rfl rfl lkX10_136 viX10_with okX10_with dX10_made_95 rfl rfl (Nat.le_of_ble_eq_true rfl) ?_
      refine Vs_istore4 (q := 100) dX10_made_98 rfl (by decide) rfl ?_
      refine Vs_iinc5 (q := 103) (z := none) dX10_made_100 rfl (by exact iinc_p _) (by decide) rfl ?_
      refine Vj_goto (q := 66) dX10_made_103 (by decide) ?_
      rw [nI_1]
      exact ih (t + 1) _ (by omega) (cV_W h.1 hc ht' (by omega))
set_option maxRecDepth 100000 in
theorem rX10_made {ρ : Rm} {σ : Mem} (h : RoS ρ σ) {c b : Nat} (hc : cV ρ c) (hb : b < rB ρ) (he : σ.1 3 b = nI (rT ρ b) ∧ σ.1 4 b = nI (rK ρ b) ∧ σ.1 5 b = nI (rA ρ b)) : Ct shM 3 mX10_made [.ref 0, .int (nI b), .int (nI (cm ρ c))] σ (Ri (nI (cm ρ (cDo ρ c b))) σ) := by
  have hn := h.1.1
  have hb7 := h.1.2.2.1
  obtain ⟨g1, g2, g3, g4, g5⟩ := h.1.2.2.2 b hb
  obtain ⟨e1, e2, e3⟩ := he
  refine Ct.of (by decide) (Nat.le_of_ble_eq_true rfl) (l := [some (.ref 0), some (.int (nI b)), some (.int (nI (cm ρ c))), none, none, none]) rfl ?_
  refine Vj_aloadn (q := 1) dX10_made_0 rfl rfl rfl ?_
  refine Vj_getR (q := 4) flX10_16 rfl rfl dX10_made_1 rfl ?_
  refine Vj_iloadn (q := 5) dX10_made_4 rfl rfl rfl ?_
  refine Vj_iald (q := 6) rfl (vp_in_nI (by omega) (by decide)) dX10_made_5 rfl ?_
  rw [nI_clamp (by omega), e1]
  refine Vs_istore3 (q := 7) dX10_made_6 rfl (by decide) rfl ?_
  refine Vj_aloadn (q := 8) dX10_made_7 rfl rfl rfl ?_
  refine Vj_getR (q := 11) flX10_19 rfl rfl dX10_made_8 rfl ?_
  refine Vj_iloadn (q := 12) dX10_made_11 rfl rfl rfl ?_
  refine Vj_iald (q := 13) rfl (vp_in_nI (by omega) (by decide)) dX10_made_12 rfl ?_
  rw [nI_clamp (by omega), e2]
  rcases (show rK ρ b = 0 ∨ rK ρ b = 1 ∨ rK ρ b = 2 ∨ rK ρ b = 3 by omega) with hk | hk | hk | hk
  ·
    rw [hk]
    refine Vj_tableIn (q := 40) (off := 27) dX10_made_13 (by decide) (by decide) (by decide) (by decide) ?_
    refine Vj_aloadn (q := 41) dX10_made_40 rfl rfl rfl ?_
    refine Vj_iloadn (q := 42) dX10_made_41 rfl rfl rfl ?_
    refine Vj_iloadn (q := 43) dX10_made_42 rfl rfl rfl ?_
    refine Vj_callVi (q := 46) (rX10_stepped h hc g1) (by decide) rfl rfl lkX10_140 viX10_stepped okX10_stepped dX10_made_43 rfl rfl (Nat.le_of_ble_eq_true rfl) ?_
    exact Vr_iret rfl rfl dX10_made_46 (⟨by rw [cDo, if_neg (by omega), if_neg (by omega), if_neg (by omega)], rfl⟩)
  ·
    rw [hk]
    refine Vj_tableIn (q := 47) (off := 34) dX10_made_13 (by decide) (by decide) (by decide) (by decide) ?_
    refine Vj_aloadn (q := 48) dX10_made_47 rfl rfl rfl ?_
    refine Vj_iloadn (q := 49) dX10_made_48 rfl rfl rfl ?_
    refine Vj_iloadn (q := 50) dX10_made_49 rfl rfl rfl ?_
    refine Vj_aloadn (q := 51) dX10_made_50 rfl rfl rfl ?_
    refine Vj_getR (q := 54) flX10_22 rfl rfl dX10_made_51 rfl ?_
    refine Vj_iloadn (q := 55) dX10_made_54 rfl rfl rfl ?_
    refine Vj_iald (q := 56) rfl (vp_in_nI (by omega) (by decide)) dX10_made_55 rfl ?_
    rw [nI_clamp (by omega), e3]
    refine Vj_callVi (q := 59) (rX10_with h hc g1 (by have := g3 hk; have := (h.1.2.1 _ g1).2; omega)) (by decide) rfl rfl lkX10_136 viX10_with okX10_with dX10_made_56 rfl rfl (Nat.le_of_ble_eq_true rfl) ?_
    exact Vr_iret rfl rfl dX10_made_59 (⟨by rw [cDo, if_pos hk], rfl⟩)
  ·
    rw [hk]
    refine Vj_tableIn (q := 60) (off := 47) dX10_made_13 (by decide) (by decide) (by decide) (by decide) ?_
    refine Vj_iloadn (q := 61) dX10_made_60 rfl rfl rfl ?_
    refine Vs_istore4 (q := 63) dX10_made_61 rfl (by decide) rfl ?_
    refine Vj_iloadn (q := 64) dX10_made_63 rfl rfl rfl ?_
    refine Vs_istore5 (q := 66) dX10_made_64 rfl (by decide) rfl ?_
    rw [cDo, if_neg (by omega), if_pos hk]
    exact rX10_made_loop h hc (rN ρ - rT ρ b) (rT ρ b) c (by omega) hc
  ·
    rw [hk]
    refine Vj_tableOut (q := 109) dX10_made_13 (Or.inr (by decide)) (by decide) ?_
    refine Vj_aloadn (q := 110) dX10_made_109 rfl rfl rfl ?_
    refine Vj_iloadn (q := 111) dX10_made_110 rfl rfl rfl ?_
    refine Vj_aloadn (q := 112) dX10_made_111 rfl rfl rfl ?_
    refine Vj_getR (q := 115) flX10_22 rfl rfl dX10_made_112 rfl ?_
    refine Vj_iloadn (q := 116) dX10_made_115 rfl rfl rfl ?_
    refine Vj_iald (q := 117) rfl (vp_in_nI (by omega) (by decide)) dX10_made_116 rfl ?_
    rw [nI_clamp (by omega), e3]
    refine Vj_callVi (q := 120) (rX10_stateIn h hc (g4 hk).1) (by decide) rfl rfl lkX10_133 viX10_stateIn okX10_stateIn dX10_made_117 rfl rfl (Nat.le_of_ble_eq_true rfl) ?_
    refine Vj_if_ne (q := 123) (tgt := 127) dX10_made_120 (by decide) rfl (fun h120 => ?_) (fun h120 => ?_)
    ·
      refine Vj_aloadn (q := 128) dX10_made_127 rfl rfl rfl ?_
      refine Vj_iloadn (q := 129) dX10_made_128 rfl rfl rfl ?_
      refine Vj_iloadn (q := 130) dX10_made_129 rfl rfl rfl ?_
      refine Vj_callVi (q := 133) (rX10_stepped h hc g1) (by decide) rfl rfl lkX10_140 viX10_stepped okX10_stepped dX10_made_130 rfl rfl (Nat.le_of_ble_eq_true rfl) ?_
      exact Vr_iret rfl rfl dX10_made_133 (⟨by rw [cDo, if_neg (by omega), if_neg (by omega), if_pos hk, if_neg (fun z => h120 ((nI_z (by have := cS_lt (rN ρ) c (rA ρ b); omega)).mpr z))], rfl⟩)
    ·
      refine Vj_iloadn (q := 124) dX10_made_123 rfl rfl rfl ?_
      refine Vj_goto (q := 133) dX10_made_124 (by decide) ?_
      exact Vr_iret rfl rfl dX10_made_133 (⟨by rw [cDo, if_neg (by omega), if_neg (by omega), if_pos hk, if_pos ((nI_z (by have := cS_lt (rN ρ) c (rA ρ b); omega)).mp h120)], rfl⟩)
/-- what room may change -/
def rmQ (q j : Nat) : Bool := (Nat.ble 1 q && Nat.ble q 6) || q == 18 || (q == 0 && (j == 0 || j == 1 || j == 2 || j == 9 || j == 10 || j == 11 || j == 21))
def Eqm (σ σ' : Mem) : Prop := (∀ q j, rmQ q j = false → σ'.1 q j = σ.1 q j) ∧ σ'.2 = σ.2
theorem Eqm.rf {σ : Mem} : Eqm σ σ := ⟨fun _ _ _ => rfl, rfl⟩
theorem Eqm.u {σ σ' : Mem} {q j : Nat} {x : Int32} (h : Eqm σ σ') (hq : rmQ q j = true) : Eqm σ (uI σ' q j x) := by
  refine ⟨fun q' j' h' => ?_, h.2⟩
  by_cases e : q' = q
  · subst e
    rw [uI_eq, upd]
    by_cases e2 : j' = j
    · subst e2; rw [hq] at h'; cases h'
    · rw [if_neg e2]; exact h.1 _ _ h'
  · rw [uI_ne e]; exact h.1 _ _ h'
theorem Eqm.at {σ σ' : Mem} (h : Eqm σ σ') (q : Nat) (hq : (Nat.ble q 6 || q == 18) = false) : σ'.1 q = σ.1 q := funext fun j => h.1 q j (by
  simp only [Bool.or_eq_false_iff] at hq
  unfold rmQ
  rw [hq.1, hq.2, Bool.and_false]
  have : (q == 0) = false := by
    cases q with
    | zero => cases hq.1
    | succ n => rfl
  rw [this]; rfl)
theorem RdM.eqm {L F : List Nat} {B : List (Nat × Nat × Nat)} {σ σ' : Mem} (h : RdM L F B σ) (hE : Eqm σ σ') : RdM L F B σ' := by
  unfold RdM
  rw [hE.1 0 15 rfl, hE.1 0 16 rfl, hE.at 7 rfl, hE.at 8 rfl, hE.at 9 rfl]
  exact h
theorem lP_d (L : List Nat) {k : Nat} (h : k < L.length) : lP (L.drop k) = L.getD k 0 * lP (L.drop (k + 1)) := by
  rw [List.drop_eq_getElem_cons h, lP, List.getD, List.getElem?_eq_getElem h]; rfl
/-- the mess told -/
def mK (L F : List Nat) : Nat → Nat
  | 0 => 0
  | k + 1 => mK L F k + lU L k * F.getD k 0
theorem cS_Fi {n : Nat} (hn : n < 5) {F : Nat → Nat} (hF : ∀ t, t < n → F t < 4) : ∀ k, k ≤ n → ∀ u, u < n → cS n (cFi n F k) u = if u < k then F u else 0
  | 0, _, u, hu => by rw [cFi, if_neg (Nat.not_lt_zero u)]; exact cS_0
  | k + 1, hk, u, hu => by
    have ih := cS_Fi hn hF k (by omega) u hu
    rw [cFi, cS_cW n hn _ (cFi_lt hn hF k (by omega)) k (by omega) _ (hF k (by omega)) u hu, ih]
    by_cases e : u = k
    · subst e; rw [if_pos rfl, if_pos (Nat.lt_succ_self u)]
    · rw [if_neg e]
      by_cases e2 : u < k
      · rw [if_pos e2, if_pos (by omega)]
      · rw [if_neg e2, if_neg (by omega)]
theorem mK_e {L F : List Nat} {c : Nat} : ∀ k, (∀ u, u < k → cS L.length c u = F.getD u 0) → lMk L c k = mK L F k
  | 0, _ => rfl
  | k + 1, h => by rw [lMk, mK, mK_e k (fun u hu => h u (by omega)), h k (Nat.lt_succ_self k), Nat.mul_comm]
def RoQ (tx : List Nat) (ρ : Rm) (c d p : Nat) (ac : List (Nat × Nat × Nat)) (sl : Nat → Option (Nat × Nat × Nat)) (se : List (Nat × Nat × Nat)) (sd : Int64) : Option Value → Mem → Prop :=
  match spRoom tx with
  | none => PM (-3) tx ρ c d p ac sl se sd
  | some ρ' => PM (nI (10 * rN ρ' + rB ρ')) tx ρ' (spC0 tx) (spC0 tx) 0 [] (fun _ => none) se sd
/-- what stays of the state, whatever room does -/
def KpM (tx : List Nat) (se : List (Nat × Nat × Nat)) (sd : Int64) (σ : Mem) : Prop := TxM tx σ ∧ (∃ nx, nx < 14 ∧ σ.1 0 22 = nI nx) ∧ SeM se σ ∧ σ.2 0 31 = sd
theorem KpM.eqm {tx : List Nat} {se : List (Nat × Nat × Nat)} {sd : Int64} {σ σ' : Mem} (h : KpM tx se sd σ) (hE : Eqm σ σ') : KpM tx se sd σ' := by
  obtain ⟨h1, ⟨nx, h2, h3⟩, h4, h5⟩ := h
  exact ⟨h1.of (hE.1 0 18 rfl) (hE.at 10 rfl), ⟨nx, h2, by rw [hE.1 0 22 rfl]; exact h3⟩, h4.of (hE.1 0 25 rfl) (hE.at 13 rfl) (hE.at 14 rfl) (hE.at 15 rfl), by rw [hE.2]; exact h5⟩

set_option maxRecDepth 100000 in
theorem qX10_room_d {tx : List Nat} {se : List (Nat × Nat × Nat)} {sd : Int64} {L F : List Nat} {B : List (Nat × Nat × Nat)} (hO : PO L F B) {b : Nat} (hb : b < B.length) {Post : Option Value → Mem → Prop} (kk : ∀ (σ : Mem) (z2 : Option Value), KpM tx se sd σ → RdM L F B σ → RoS (L, B) σ → σ.1 0 1 = nI B.length → σ.1 0 2 = nI (mN (L, B)) → σ.1 0 9 = nI (cm (L, B) (cFi L.length (fun t => F.getD t 0) L.length)) → (∀ b', b' < b + 1 → (σ.1 3 b' = nI (rT (L, B) b') ∧ σ.1 4 b' = nI (rK (L, B) b') ∧ σ.1 5 b' = nI (rA (L, B) b')) ∧ ∀ c, cV (L, B) c → σ.1 6 (256 * b' + cm (L, B) c) = nI (cm (L, B) (cNx (L, B) c b'))) → Vj shM 4 mX10_room Post 220 [some (.ref 0), some (.int (nI b)), z2] [] σ) :
    ∀ (k t : Nat) (σ : Mem), t + k = mN (L, B) → KpM tx se sd σ → RdM L F B σ → RoS (L, B) σ → σ.1 0 1 = nI B.length → σ.1 0 2 = nI (mN (L, B)) → σ.1 0 9 = nI (cm (L, B) (cFi L.length (fun t => F.getD t 0) L.length)) → (∀ b', b' < b → (σ.1 3 b' = nI (rT (L, B) b') ∧ σ.1 4 b' = nI (rK (L, B) b') ∧ σ.1 5 b' = nI (rA (L, B) b')) ∧ ∀ c, cV (L, B) c → σ.1 6 (256 * b' + cm (L, B) c) = nI (cm (L, B) (cNx (L, B) c b'))) → (σ.1 3 b = nI (rT (L, B) b) ∧ σ.1 4 b = nI (rK (L, B) b) ∧ σ.1 5 b = nI (rA (L, B) b)) → (∀ c, cV (L, B) c → cm (L, B) c < t → σ.1 6 (256 * b + cm (L, B) c) = nI (cm (L, B) (cNx (L, B) c b))) → Vj shM 4 mX10_room Post 188 [some (.ref 0), some (.int (nI b)), some (.int (nI t))] [] σ := by
  have hr := hO.1
  have hFL := hO.2.1
  have hn5 : L.length < 5 := hr.1
  have hB7 : B.length < 7 := hr.2.2.1
  have hM := mN_le hr
  intro k
  induction k with
  | zero =>
    intro t σ ht hK hRd hS h1 h2 h9 hT he hrow
    obtain rfl : t = mN (L, B) := by omega
    refine Vj_iloadn (q := 189) dX10_room_188 rfl rfl rfl ?_
    refine Vj_aloadn (q := 190) dX10_room_189 rfl rfl rfl ?_
    refine Vj_getI (q := 193) flX10_68 rfl rfl dX10_room_190 rfl ?_
    rw [h2]
    refine Vj_icmp_ge (q := 196) (tgt := 220) dX10_room_193 (by decide) rfl (fun _ => ?_) (fun hz => absurd (nI_le (by omega) (by omega)) hz)
    refine kk σ _ hK hRd hS h1 h2 h9 fun b' hb' => ?_
    by_cases e : b' = b
    · subst e
      exact ⟨he, fun c hc => hrow c hc (cm_lt hr hc)⟩
    · exact hT b' (by omega)
  | succ k ih =>
    intro t σ ht hK hRd hS h1 h2 h9 hT he hrow
    have ht' : t < mN (L, B) := by omega
    have hmc := mc_cV hr ht'
    have ecm := cm_mc hr ht'
    refine Vj_iloadn (q := 189) dX10_room_188 rfl rfl rfl ?_
    refine Vj_aloadn (q := 190) dX10_room_189 rfl rfl rfl ?_
    refine Vj_getI (q := 193) flX10_68 rfl rfl dX10_room_190 rfl ?_
    rw [h2]
    refine Vj_icmp_ge (q := 196) (tgt := 220) dX10_room_193 (by decide) rfl (fun hz => absurd hz (nI_ge (by omega) (by omega))) (fun _ => ?_)
    refine Vj_aloadn (q := 197) dX10_room_196 rfl rfl rfl ?_
    refine Vj_getR (q := 200) flX10_25 rfl rfl dX10_room_197 rfl ?_
    refine Vj_sipush (q := 203) (v := 256) dX10_room_200 rfl (by decide) ?_
    refine Vj_iloadn (q := 204) dX10_room_203 rfl rfl rfl ?_
    refine Vj_imul (q := 205) dX10_room_204 rfl ?_
    refine Vj_iloadn (q := 206) dX10_room_205 rfl rfl rfl ?_
    refine Vj_iadd (q := 207) dX10_room_206 rfl ?_
    rw [i_256]
    refine Vj_aloadn (q := 208) dX10_room_207 rfl rfl rfl ?_
    refine Vj_iloadn (q := 209) dX10_room_208 rfl rfl rfl ?_
    refine Vj_iloadn (q := 210) dX10_room_209 rfl rfl rfl ?_
    refine Vj_top (show nI t = nI (cm (L, B) (mc (L, B) t)) by rw [ecm]) ?_
    refine Vj_callVi (q := 213) (rX10_made hS (c := mc (L, B) t) (b := b) hmc hb he) (by decide) rfl rfl lkX10_120 viX10_made okX10_made dX10_room_210 rfl rfl (Nat.le_of_ble_eq_true rfl) ?_
    refine Vj_iast (q := 214) rfl (vp_in_nI (by omega) (by decide)) dX10_room_213 rfl ?_
    rw [nI_clamp (by omega)]
    refine Vs_iinc2 (q := 217) (z := none) dX10_room_214 rfl (by exact iinc_p _) (by decide) rfl ?_
    refine Vj_goto (q := 188) dX10_room_217 (by decide) ?_
    rw [nI_1]
    have hE : Eqm σ (uI σ 6 (256 * b + t) (nI (cm (L, B) (cDo (L, B) (mc (L, B) t) b)))) := Eqm.rf.u rfl
    refine ih (t + 1) _ (by omega) (hK.eqm hE) (hRd.eqm hE) hS h1 h2 h9 (fun b' hb' => ⟨(hT b' hb').1, fun c hc => ?_⟩) he (fun c hc hl => ?_)
    · have hl := cm_lt hr hc
      rw [uI_eq, upd, if_neg (by omega)]
      exact (hT b' hb').2 c hc
    · rw [uI_eq, upd]
      by_cases e : cm (L, B) c = t
      · have : c = mc (L, B) t := by rw [← e, mc_cm hr hc]
        subst this
        rw [if_pos (by rw [e]), cNx, if_pos hc.2]
      · rw [if_neg (by omega)]
        exact hrow c hc (by omega)
set_option maxRecDepth 100000 in
theorem qX10_room_c {tx : List Nat} {se : List (Nat × Nat × Nat)} {sd : Int64} {L F : List Nat} {B : List (Nat × Nat × Nat)} (hO : PO L F B) : ∀ (k b : Nat) (σ : Mem) (z2 : Option Value), b + k = B.length → KpM tx se sd σ → RdM L F B σ → RoS (L, B) σ → σ.1 0 1 = nI B.length → σ.1 0 2 = nI (mN (L, B)) → σ.1 0 9 = nI (cm (L, B) (cFi L.length (fun t => F.getD t 0) L.length)) → (∀ b', b' < b → (σ.1 3 b' = nI (rT (L, B) b') ∧ σ.1 4 b' = nI (rK (L, B) b') ∧ σ.1 5 b' = nI (rA (L, B) b')) ∧ ∀ c, cV (L, B) c → σ.1 6 (256 * b' + cm (L, B) c) = nI (cm (L, B) (cNx (L, B) c b'))) → Vj shM 4 mX10_room (PM (nI (10 * L.length + B.length)) tx (L, B) (cFi L.length (fun t => F.getD t 0) L.length) (cFi L.length (fun t => F.getD t 0) L.length) 0 [] (fun _ => none) se sd) 132 [some (.ref 0), some (.int (nI b)), z2] [] σ := by
  have hr := hO.1
  have hFL := hO.2.1
  have hn5 : L.length < 5 := hr.1
  have hB7 : B.length < 7 := hr.2.2.1
  have hM := mN_le hr
  intro k
  induction k with
  | zero =>
    intro b σ z2 hb hK hRd hS h1 h2 h9 hT
    obtain rfl : b = B.length := by omega
    refine Vj_iloadn (q := 133) dX10_room_132 rfl rfl rfl ?_
    refine Vj_aloadn (q := 134) dX10_room_133 rfl rfl rfl ?_
    refine Vj_getI (q := 137) flX10_114 rfl rfl dX10_room_134 rfl ?_
    rw [h1]
    refine Vj_icmp_ge (q := 140) (tgt := 226) dX10_room_137 (by decide) rfl (fun _ => ?_) (fun hz => absurd (nI_le (by omega) (by omega)) hz)
    refine Vj_aloadn (q := 227) dX10_room_226 rfl rfl rfl ?_
    refine Vj_aloadn (q := 228) dX10_room_227 rfl rfl rfl ?_
    refine Vj_getI (q := 231) flX10_117 rfl rfl dX10_room_228 rfl ?_
    rw [h9]
    refine Vj_putI (q := 234) flX10_124 rfl rfl dX10_room_231 rfl ?_
    generalize e1 : uI σ 0 10 _ = σ1
    refine Vj_aloadn (q := 235) dX10_room_234 rfl rfl rfl ?_
    refine Vj_iconst (q := 236) (v := 0) dX10_room_235 rfl (by decide) ?_
    refine Vj_putI (q := 239) flX10_127 rfl rfl dX10_room_236 rfl ?_
    generalize e2 : uI σ1 0 11 _ = σ2
    refine Vj_aloadn (q := 240) dX10_room_239 rfl rfl rfl ?_
    refine Vj_iconst (q := 241) (v := 0) dX10_room_240 rfl (by decide) ?_
    refine Vj_putI (q := 244) flX10_130 rfl rfl dX10_room_241 rfl ?_
    generalize e3 : uI σ2 0 21 _ = σ3
    refine Vj_aloadn (q := 245) dX10_room_244 rfl rfl rfl ?_
    refine Vj_getR (q := 248) flX10_61 rfl rfl dX10_room_245 rfl ?_
    refine Vj_iconst (q := 249) (v := 0) dX10_room_248 rfl (by decide) ?_
    refine Vj_iconst (q := 250) (v := 0) dX10_room_249 rfl (by decide) ?_
    refine Vj_zast (q := 251) rfl (vp_in_nI (n := 0) (by decide) (by decide)) dX10_room_250 rfl ?_
    rw [show ((0 : Int32).toNatClampNeg) = 0 from rfl, show vp_nar .boolean 0 = 0 by decide]
    generalize e4 : uI σ3 18 0 _ = σ4
    refine Vj_aloadn (q := 252) dX10_room_251 rfl rfl rfl ?_
    refine Vj_getR (q := 255) flX10_61 rfl rfl dX10_room_252 rfl ?_
    refine Vj_iconst (q := 256) (v := 1) dX10_room_255 rfl (by decide) ?_
    refine Vj_iconst (q := 257) (v := 0) dX10_room_256 rfl (by decide) ?_
    refine Vj_zast (q := 258) rfl (vp_in_nI (n := 1) (by decide) (by decide)) dX10_room_257 rfl ?_
    rw [show ((1 : Int32).toNatClampNeg) = 1 from rfl, show vp_nar .boolean 0 = 0 by decide]
    generalize e5 : uI σ4 18 1 _ = σ5
    refine Vj_bipush (q := 260) (v := 10) dX10_room_258 rfl (by decide) ?_
    refine Vj_aloadn (q := 261) dX10_room_260 rfl rfl rfl ?_
    refine Vj_getI (q := 264) flX10_111 rfl rfl dX10_room_261 rfl ?_
    rw [show σ5.1 0 0 = nI L.length by rw [← e5, ← e4, ← e3, ← e2, ← e1]; exact hS.2.1]
    refine Vj_imul (q := 265) dX10_room_264 rfl ?_
    refine Vj_aloadn (q := 266) dX10_room_265 rfl rfl rfl ?_
    refine Vj_getI (q := 269) flX10_114 rfl rfl dX10_room_266 rfl ?_
    rw [show σ5.1 0 1 = nI B.length by rw [← e5, ← e4, ← e3, ← e2, ← e1]; exact h1]
    refine Vj_iadd (q := 270) dX10_room_269 rfl ?_
    rw [show (10 : Int32) = nI 10 from rfl, nI_mul, nI_add]
    refine Vr_iret rfl rfl dX10_room_270 ?_
    subst e1 e2 e3 e4 e5
    have hE : Eqm σ (uI (uI (uI (uI (uI σ 0 10 (nI (cm (L, B) (cFi L.length (fun t => F.getD t 0) L.length)))) 0 11 0) 0 21 0) 18 0 0) 18 1 0) := ((((Eqm.rf.u rfl).u rfl).u rfl).u rfl).u rfl
    obtain ⟨g1, ⟨nx, g2, g3⟩, g4, g5⟩ := hK.eqm hE
    refine ⟨rfl, g1, ⟨hr, hS.2.1, h1, h2, hS.2.2, fun b' hb' => (hT b' hb').1⟩, fun b' hb' => (hT b' hb').2, ⟨h9, rfl, rfl⟩, ⟨rfl, by decide, nx, g2, g3, fun i hi => absurd hi (Nat.not_lt_zero i)⟩, fun i hi => ⟨fun u hu => (by cases hu), fun _ => ?_⟩, g4, g5⟩
    rcases (show i = 0 ∨ i = 1 by omega) with rfl | rfl <;> rfl
  | succ k ih =>
    intro b σ z2 hb hK hRd hS h1 h2 h9 hT
    have hb' : b < B.length := by omega
    obtain ⟨q1, q2, q3⟩ := hRd.2.2.2 b hb'
    refine Vj_iloadn (q := 133) dX10_room_132 rfl rfl rfl ?_
    refine Vj_aloadn (q := 134) dX10_room_133 rfl rfl rfl ?_
    refine Vj_getI (q := 137) flX10_114 rfl rfl dX10_room_134 rfl ?_
    rw [h1]
    refine Vj_icmp_ge (q := 140) (tgt := 226) dX10_room_137 (by decide) rfl (fun hz => absurd hz (nI_ge (by omega) (by omega))) (fun _ => ?_)
    refine Vj_aloadn (q := 141) dX10_room_140 rfl rfl rfl ?_
    refine Vj_getR (q := 144) flX10_16 rfl rfl dX10_room_141 rfl ?_
    refine Vj_iloadn (q := 145) dX10_room_144 rfl rfl rfl ?_
    refine Vj_aloadn (q := 146) dX10_room_145 rfl rfl rfl ?_
    refine Vj_getR (q := 149) flX10_34 rfl rfl dX10_room_146 rfl ?_
    refine Vj_iconst (q := 150) (v := 3) dX10_room_149 rfl (by decide) ?_
    refine Vj_iloadn (q := 151) dX10_room_150 rfl rfl rfl ?_
    refine Vj_imul (q := 152) dX10_room_151 rfl ?_
    rw [i_3]
    refine Vj_iald (q := 153) rfl (vp_in_nI (by omega) (by decide)) dX10_room_152 rfl ?_
    rw [nI_clamp (by omega), q1]
    refine Vj_iast (q := 154) rfl (vp_in_nI (by omega) (by decide)) dX10_room_153 rfl ?_
    rw [nI_clamp (by omega)]
    generalize e1 : uI σ 3 b _ = σ1
    refine Vj_aloadn (q := 155) dX10_room_154 rfl rfl rfl ?_
    refine Vj_getR (q := 158) flX10_19 rfl rfl dX10_room_155 rfl ?_
    refine Vj_iloadn (q := 159) dX10_room_158 rfl rfl rfl ?_
    refine Vj_aloadn (q := 160) dX10_room_159 rfl rfl rfl ?_
    refine Vj_getR (q := 163) flX10_34 rfl rfl dX10_room_160 rfl ?_
    refine Vj_iconst (q := 164) (v := 3) dX10_room_163 rfl (by decide) ?_
    refine Vj_iloadn (q := 165) dX10_room_164 rfl rfl rfl ?_
    refine Vj_imul (q := 166) dX10_room_165 rfl ?_
    rw [i_3]
    refine Vj_iconst (q := 167) (v := 1) dX10_room_166 rfl (by decide) ?_
    refine Vj_iadd (q := 168) dX10_room_167 rfl ?_
    rw [nI_1]
    refine Vj_iald (q := 169) rfl (vp_in_nI (by omega) (by decide)) dX10_room_168 rfl ?_
    rw [nI_clamp (by omega), show σ1.1 9 (3 * b + 1) = nI (B.getD b (0, 0, 0)).2.1 by rw [← e1]; exact q2]
    refine Vj_iast (q := 170) rfl (vp_in_nI (by omega) (by decide)) dX10_room_169 rfl ?_
    rw [nI_clamp (by omega)]
    generalize e2 : uI σ1 4 b _ = σ2
    refine Vj_aloadn (q := 171) dX10_room_170 rfl rfl rfl ?_
    refine Vj_getR (q := 174) flX10_22 rfl rfl dX10_room_171 rfl ?_
    refine Vj_iloadn (q := 175) dX10_room_174 rfl rfl rfl ?_
    refine Vj_aloadn (q := 176) dX10_room_175 rfl rfl rfl ?_
    refine Vj_getR (q := 179) flX10_34 rfl rfl dX10_room_176 rfl ?_
    refine Vj_iconst (q := 180) (v := 3) dX10_room_179 rfl (by decide) ?_
    refine Vj_iloadn (q := 181) dX10_room_180 rfl rfl rfl ?_
    refine Vj_imul (q := 182) dX10_room_181 rfl ?_
    rw [i_3]
    refine Vj_iconst (q := 183) (v := 2) dX10_room_182 rfl (by decide) ?_
    refine Vj_iadd (q := 184) dX10_room_183 rfl ?_
    rw [show nI (3 * b) + 2 = nI (3 * b + 2) from nI_add _ 2]
    refine Vj_iald (q := 185) rfl (vp_in_nI (by omega) (by decide)) dX10_room_184 rfl ?_
    rw [nI_clamp (by omega), show σ2.1 9 (3 * b + 2) = nI (B.getD b (0, 0, 0)).2.2 by rw [← e2, ← e1]; exact q3]
    refine Vj_iast (q := 186) rfl (vp_in_nI (by omega) (by decide)) dX10_room_185 rfl ?_
    rw [nI_clamp (by omega)]
    generalize e3 : uI σ2 5 b _ = σ3
    refine Vj_iconst (q := 187) (v := 0) dX10_room_186 rfl (by decide) ?_
    refine Vs_istore2 (q := 188) dX10_room_187 rfl (by decide) rfl ?_
    subst e1 e2 e3
    have hE : Eqm σ (uI (uI (uI σ 3 b (nI (B.getD b (0, 0, 0)).1)) 4 b (nI (B.getD b (0, 0, 0)).2.1)) 5 b (nI (B.getD b (0, 0, 0)).2.2)) := ((Eqm.rf.u rfl).u rfl).u rfl
    refine qX10_room_d hO hb' (fun σ2 z2 a1 a2 a3 a4 a5 a6 a7 => ?_) (mN (L, B)) 0 _ (by omega) (hK.eqm hE) (hRd.eqm hE) hS h1 h2 h9 (fun b2 hb2 => ⟨?_, (hT b2 hb2).2⟩) ?_ (fun c hc hl => absurd hl (Nat.not_lt_zero _))
    ·
      refine Vs_iinc1 (q := 223) (z := none) dX10_room_220 rfl (by exact iinc_p _) (by decide) rfl ?_
      refine Vj_goto (q := 132) dX10_room_223 (by decide) ?_
      rw [nI_1]
      exact ih (b + 1) σ2 _ (by omega) a1 a2 a3 a4 a5 a6 a7
    · have := (hT b2 hb2).1
      have hu : ∀ (f : Nat → Int32) (y : Int32), upd f b y b2 = f b2 := fun f y => if_neg (by omega)
      exact ⟨(hu _ _).trans this.1, (hu _ _).trans this.2.1, (hu _ _).trans this.2.2⟩
    · simp [uI, upd, rT, rK, rA]
set_option maxRecDepth 100000 in
theorem qX10_room_b {tx : List Nat} {se : List (Nat × Nat × Nat)} {sd : Int64} {L F : List Nat} {B : List (Nat × Nat × Nat)} (hO : PO L F B) : ∀ (k t : Nat) (σ : Mem), t + k = L.length → KpM tx se sd σ → RdM L F B σ → RoS (L, B) σ → σ.1 0 1 = nI B.length → σ.1 0 2 = nI (mN (L, B)) → σ.1 0 9 = nI (mK L F t) → Vj shM 4 mX10_room (PM (nI (10 * L.length + B.length)) tx (L, B) (cFi L.length (fun t => F.getD t 0) L.length) (cFi L.length (fun t => F.getD t 0) L.length) 0 [] (fun _ => none) se sd) 94 [some (.ref 0), some (.int (nI t)), none] [] σ := by
  have hr := hO.1
  have hFL := hO.2.1
  have hn5 : L.length < 5 := hr.1
  have hB7 : B.length < 7 := hr.2.2.1
  have hM := mN_le hr
  intro k
  induction k with
  | zero =>
    intro t σ ht hK hRd hS h1 h2 h9
    obtain rfl : t = L.length := by omega
    have hF4 : ∀ t, t < L.length → F.getD t 0 < 4 := fun t ht => by
      have g1 := hO.2.2 t ht
      have g2 := (hr.2.1 t ht).2
      have e : rS (L, B) t = L.getD t 0 := rfl
      omega
    have em : cm (L, B) (cFi L.length (fun t => F.getD t 0) L.length) = mK L F L.length := by
      rw [cm_k]
      refine mK_e _ fun u hu => ?_
      rw [cS_Fi hn5 hF4 L.length (Nat.le_refl _) u hu]
      exact if_pos hu
    rw [← em] at h9
    have hS0 : σ.1 0 0 = nI L.length := hS.2.1
    refine Vj_iloadn (q := 95) dX10_room_94 rfl rfl rfl ?_
    refine Vj_aloadn (q := 96) dX10_room_95 rfl rfl rfl ?_
    refine Vj_getI (q := 99) flX10_111 rfl rfl dX10_room_96 rfl ?_
    rw [hS0]
    refine Vj_icmp_ge (q := 102) (tgt := 130) dX10_room_99 (by decide) rfl (fun _ => ?_) (fun hz => absurd (nI_le (by omega) (by omega)) hz)
    refine Vj_iconst (q := 131) (v := 0) dX10_room_130 rfl (by decide) ?_
    refine Vs_istore1 (q := 132) dX10_room_131 rfl (by decide) rfl ?_
    exact qX10_room_c hO B.length 0 σ none (by omega) hK hRd hS h1 h2 h9 (fun b hb => absurd hb (Nat.not_lt_zero b))
  | succ k ih =>
    intro t σ ht hK hRd hS h1 h2 h9
    have ht' : t < L.length := by omega
    have hS0 : σ.1 0 0 = nI L.length := hS.2.1
    have hu : σ.1 2 t = nI (lU L t) := (hS.2.2 t ht').2
    have hq := (hRd.2.2.1 t ht').2
    refine Vj_iloadn (q := 95) dX10_room_94 rfl rfl rfl ?_
    refine Vj_aloadn (q := 96) dX10_room_95 rfl rfl rfl ?_
    refine Vj_getI (q := 99) flX10_111 rfl rfl dX10_room_96 rfl ?_
    rw [hS0]
    refine Vj_icmp_ge (q := 102) (tgt := 130) dX10_room_99 (by decide) rfl (fun hz => absurd hz (nI_ge (by omega) (by omega))) (fun _ => ?_)
    refine Vj_aloadn (q := 103) dX10_room_102 rfl rfl rfl ?_
    refine Vj_dup (q := 104) dX10_room_103 rfl rfl ?_
    refine Vj_getI (q := 107) flX10_117 rfl rfl dX10_room_104 rfl ?_
    rw [h9]
    refine Vj_aloadn (q := 108) dX10_room_107 rfl rfl rfl ?_
    refine Vj_getR (q := 111) flX10_13 rfl rfl dX10_room_108 rfl ?_
    refine Vj_iloadn (q := 112) dX10_room_111 rfl rfl rfl ?_
    refine Vj_iald (q := 113) rfl (vp_in_nI (by omega) (by decide)) dX10_room_112 rfl ?_
    rw [nI_clamp (by omega), hu]
    refine Vj_aloadn (q := 114) dX10_room_113 rfl rfl rfl ?_
    refine Vj_getR (q := 117) flX10_31 rfl rfl dX10_room_114 rfl ?_
    refine Vj_iloadn (q := 118) dX10_room_117 rfl rfl rfl ?_
    refine Vj_iald (q := 119) rfl (vp_in_nI (by omega) (by decide)) dX10_room_118 rfl ?_
    rw [nI_clamp (by omega), hq]
    refine Vj_imul (q := 120) dX10_room_119 rfl ?_
    refine Vj_iadd (q := 121) dX10_room_120 rfl ?_
    rw [nI_mul, nI_add]
    refine Vj_putI (q := 124) flX10_117 rfl rfl dX10_room_121 rfl ?_
    refine Vs_iinc1 (q := 127) (z := none) dX10_room_124 rfl (by exact iinc_p _) (by decide) rfl ?_
    refine Vj_goto (q := 94) dX10_room_127 (by decide) ?_
    rw [nI_1]
    have hE : Eqm σ (uI σ 0 9 (nI (mK L F t + lU L t * F.getD t 0))) := Eqm.rf.u rfl
    exact ih (t + 1) _ (by omega) (hK.eqm hE) (hRd.eqm hE) hS h1 h2 rfl
set_option maxRecDepth 100000 in
theorem qX10_room_a {tx : List Nat} {se : List (Nat × Nat × Nat)} {sd : Int64} {L F : List Nat} {B : List (Nat × Nat × Nat)} (hO : PO L F B) : ∀ (k : Nat) (σ : Mem), k ≤ L.length → KpM tx se sd σ → RdM L F B σ → σ.1 0 0 = nI L.length → σ.1 0 1 = nI B.length → σ.1 0 2 = nI (lP (L.drop k)) → (∀ t, k ≤ t → t < L.length → σ.1 1 t = nI (L.getD t 0) ∧ σ.1 2 t = nI (lU L t)) → Vj shM 4 mX10_room (PM (nI (10 * L.length + B.length)) tx (L, B) (cFi L.length (fun t => F.getD t 0) L.length) (cFi L.length (fun t => F.getD t 0) L.length) 0 [] (fun _ => none) se sd) 40 [some (.ref 0), some (.int (nI k - 1)), none] [] σ := by
  have hr := hO.1
  have hFL := hO.2.1
  have hn5 : L.length < 5 := hr.1
  have hB7 : B.length < 7 := hr.2.2.1
  have hM := mN_le hr
  intro k
  induction k with
  | zero =>
    intro σ hk hK hRd h0 h1 h2 hT
    refine Vj_iloadn (q := 41) dX10_room_40 rfl rfl rfl ?_
    refine Vj_if_lt (q := 44) (tgt := 87) dX10_room_41 (by decide) rfl (fun _ => ?_) (fun hz => absurd (by decide) hz)
    refine Vj_aloadn (q := 88) dX10_room_87 rfl rfl rfl ?_
    refine Vj_iconst (q := 89) (v := 0) dX10_room_88 rfl (by decide) ?_
    refine Vj_putI (q := 92) flX10_117 rfl rfl dX10_room_89 rfl ?_
    refine Vj_iconst (q := 93) (v := 0) dX10_room_92 rfl (by decide) ?_
    refine Vs_istore1 (q := 94) dX10_room_93 rfl (by decide) rfl ?_
    have hE : Eqm σ (uI σ 0 9 0) := Eqm.rf.u rfl
    exact qX10_room_b hO L.length 0 _ (by omega) (hK.eqm hE) (hRd.eqm hE) ⟨hr, h0, fun t ht => hT t (Nat.zero_le t) ht⟩ h1 h2 rfl
  | succ k ih =>
    intro σ hk hK hRd h0 h1 h2 hT
    have hq := (hRd.2.2.1 k (by omega)).1
    rw [nI_pred]
    refine Vj_iloadn (q := 41) dX10_room_40 rfl rfl rfl ?_
    refine Vj_if_lt (q := 44) (tgt := 87) dX10_room_41 (by decide) rfl (fun hz => absurd hz (nI_pos (by omega))) (fun _ => ?_)
    refine Vj_aloadn (q := 45) dX10_room_44 rfl rfl rfl ?_
    refine Vj_getR (q := 48) flX10_7 rfl rfl dX10_room_45 rfl ?_
    refine Vj_iloadn (q := 49) dX10_room_48 rfl rfl rfl ?_
    refine Vj_aloadn (q := 50) dX10_room_49 rfl rfl rfl ?_
    refine Vj_getR (q := 53) flX10_28 rfl rfl dX10_room_50 rfl ?_
    refine Vj_iloadn (q := 54) dX10_room_53 rfl rfl rfl ?_
    refine Vj_iald (q := 55) rfl (vp_in_nI (by omega) (by decide)) dX10_room_54 rfl ?_
    rw [nI_clamp (by omega), hq]
    refine Vj_iast (q := 56) rfl (vp_in_nI (by omega) (by decide)) dX10_room_55 rfl ?_
    rw [nI_clamp (by omega)]
    generalize e1 : uI σ 1 k _ = σ1
    refine Vj_aloadn (q := 57) dX10_room_56 rfl rfl rfl ?_
    refine Vj_getR (q := 60) flX10_13 rfl rfl dX10_room_57 rfl ?_
    refine Vj_iloadn (q := 61) dX10_room_60 rfl rfl rfl ?_
    refine Vj_aloadn (q := 62) dX10_room_61 rfl rfl rfl ?_
    refine Vj_getI (q := 65) flX10_68 rfl rfl dX10_room_62 rfl ?_
    rw [show σ1.1 0 2 = nI (lP (L.drop (k + 1))) by rw [← e1]; exact h2]
    refine Vj_iast (q := 66) rfl (vp_in_nI (by omega) (by decide)) dX10_room_65 rfl ?_
    rw [nI_clamp (by omega)]
    generalize e2 : uI σ1 2 k _ = σ2
    refine Vj_aloadn (q := 67) dX10_room_66 rfl rfl rfl ?_
    refine Vj_dup (q := 68) dX10_room_67 rfl rfl ?_
    refine Vj_getI (q := 71) flX10_68 rfl rfl dX10_room_68 rfl ?_
    rw [show σ2.1 0 2 = nI (lP (L.drop (k + 1))) by rw [← e2, ← e1]; exact h2]
    refine Vj_aloadn (q := 72) dX10_room_71 rfl rfl rfl ?_
    refine Vj_getR (q := 75) flX10_7 rfl rfl dX10_room_72 rfl ?_
    refine Vj_iloadn (q := 76) dX10_room_75 rfl rfl rfl ?_
    refine Vj_iald (q := 77) rfl (vp_in_nI (by omega) (by decide)) dX10_room_76 rfl ?_
    rw [nI_clamp (by omega), show σ2.1 1 k = nI (L.getD k 0) by rw [← e2, ← e1]; simp [uI, upd]]
    refine Vj_imul (q := 78) dX10_room_77 rfl ?_
    rw [nI_mul, show lP (L.drop (k + 1)) * L.getD k 0 = lP (L.drop k) by rw [lP_d L (show k < L.length by omega), Nat.mul_comm]]
    refine Vj_putI (q := 81) flX10_68 rfl rfl dX10_room_78 rfl ?_
    refine Vs_iinc1 (q := 84) (z := none) dX10_room_81 rfl (by exact iinc_m _) (by decide) rfl ?_
    refine Vj_goto (q := 40) dX10_room_84 (by decide) ?_
    subst e1 e2
    have hE : Eqm σ (uI (uI (uI σ 1 k (nI (L.getD k 0))) 2 k (nI (lP (L.drop (k + 1))))) 0 2 (nI (lP (L.drop k)))) := ((Eqm.rf.u rfl).u rfl).u rfl
    refine ih _ (by omega) (hK.eqm hE) (hRd.eqm hE) h0 h1 rfl (fun t ht1 ht2 => ?_)
    by_cases e : t = k
    · subst e
      simp [uI, upd, lU]
    · have := hT t (by omega) ht2
      simp [uI, upd, e]
      exact this
set_option maxRecDepth 100000 in
theorem qX10_room {tx : List Nat} {ρ : Rm} {c d p : Nat} {ac : List (Nat × Nat × Nat)} {sl : Nat → Option (Nat × Nat × Nat)} {se : List (Nat × Nat × Nat)} {sd : Int64} {N : Nat} {σ : Mem} (h : RM tx ρ c d p ac sl se sd σ) (hv : okV N ρ c d p ac sl se) : Ct shM 4 mX10_room [.ref 0] σ (RoQ tx ρ c d p ac sl se sd) := by
  have hPO := pText_PO tx
  have h44 := h.1.2.1
  refine Ct.of (by decide) (Nat.le_of_ble_eq_true rfl) (l := [some (.ref 0), none, none]) rfl ?_
  refine Vj_aloadn (q := 1) dX10_room_0 rfl rfl rfl ?_
  refine Vj_callV (q := 4) (qX10_readText h.1) (by decide) rfl rfl lkX10_107 viX10_readText okX10_readText dX10_room_1 rfl rfl (Nat.le_of_ble_eq_true rfl) ?_
  rintro r1 σ1 ⟨rfl, hE, hRd⟩
  show Vj shM 4 mX10_room _ 4 _ [.int _] σ1
  have h1 := h.eqr hE
  rcases eT : pText tx with ⟨o, L, F, B⟩
  rw [eT] at hPO hRd
  rcases o with _ | f
  ·
    have hRd := hRd rfl
    have eR : spRoom tx = some (L, B) := by unfold spRoom; rw [eT]; rfl
    have eC : spC0 tx = cFi L.length (fun t => F.getD t 0) L.length := by unfold spC0; rw [eT]
    unfold RoQ
    rw [eR, eC]
    obtain ⟨hTx1, -, -, -, ⟨-, -, nx, hx1, hx2, -⟩, -, hSe1, hSd1⟩ := h1
    have hK : KpM tx se sd σ1 := ⟨hTx1, ⟨nx, hx1, hx2⟩, hSe1, hSd1⟩
    refine Vj_bipush (q := 6) (v := (-9)) dX10_room_4 rfl (by decide) ?_
    refine Vj_icmp_eq (q := 9) (tgt := 12) dX10_room_6 (by decide) rfl (fun _ => ?_) (fun hz => absurd rfl hz)
    refine Vj_aloadn (q := 13) dX10_room_12 rfl rfl rfl ?_
    refine Vj_aloadn (q := 14) dX10_room_13 rfl rfl rfl ?_
    refine Vj_getI (q := 17) flX10_93 rfl rfl dX10_room_14 rfl ?_
    rw [hRd.1]
    refine Vj_putI (q := 20) flX10_111 rfl rfl dX10_room_17 rfl ?_
    refine Vj_aloadn (q := 21) dX10_room_20 rfl rfl rfl ?_
    refine Vj_aloadn (q := 22) dX10_room_21 rfl rfl rfl ?_
    refine Vj_getI (q := 25) flX10_96 rfl rfl dX10_room_22 rfl ?_
    rw [show (uI σ1 0 0 (nI L.length)).1 0 16 = nI B.length from hRd.2.1]
    refine Vj_putI (q := 28) flX10_114 rfl rfl dX10_room_25 rfl ?_
    refine Vj_aloadn (q := 29) dX10_room_28 rfl rfl rfl ?_
    refine Vj_iconst (q := 30) (v := 1) dX10_room_29 rfl (by decide) ?_
    refine Vj_putI (q := 33) flX10_68 rfl rfl dX10_room_30 rfl ?_
    refine Vj_aloadn (q := 34) dX10_room_33 rfl rfl rfl ?_
    refine Vj_getI (q := 37) flX10_111 rfl rfl dX10_room_34 rfl ?_
    rw [show (uI (uI (uI σ1 0 0 (nI L.length)) 0 1 (nI B.length)) 0 2 1).1 0 0 = nI L.length from rfl]
    refine Vj_iconst (q := 38) (v := 1) dX10_room_37 rfl (by decide) ?_
    refine Vj_isub (q := 39) dX10_room_38 rfl ?_
    refine Vs_istore1 (q := 40) dX10_room_39 rfl (by decide) rfl ?_
    have hE : Eqm σ1 (uI (uI (uI σ1 0 0 (nI L.length)) 0 1 (nI B.length)) 0 2 1) := ((Eqm.rf.u rfl).u rfl).u rfl
    exact qX10_room_a hPO L.length _ (Nat.le_refl _) (hK.eqm hE) (hRd.eqm hE) rfl rfl (by rw [List.drop_length]; rfl) (fun t h1 h2 => absurd h2 (Nat.not_lt.mpr h1))
  ·
    have eR : spRoom tx = none := by unfold spRoom; rw [eT]; rfl
    unfold RoQ
    rw [eR]
    have hf31 : f < 2 ^ 31 := by
      have e : (pText tx).1 = some f := by rw [eT]
      unfold pText at e
      split at e
      · have := pLoop_lt h44 _ _ _ _ _ _ e; omega
      · cases e; decide
    refine Vj_bipush (q := 6) (v := (-9)) dX10_room_4 rfl (by decide) ?_
    refine Vj_icmp_eq (q := 9) (tgt := 12) dX10_room_6 (by decide) rfl (fun hz => absurd hz (nI_nm9 hf31)) (fun _ => ?_)
    refine Vj_bipush (q := 11) (v := (-3)) dX10_room_9 rfl (by decide) ?_
    exact Vr_iret rfl rfl dX10_room_11 (⟨rfl, h1⟩)
