/-! FiveRemotes$Plan over a room ρ: what the parts hold (cells 11 to 16) -/
def RP (ρ : Rm) (σ : Mem) : Prop := okR ρ ∧ σ.1 11 0 = nI (rN ρ) ∧ σ.1 11 1 = nI (rB ρ) ∧ (∀ t, t < rN ρ → σ.1 12 t = nI (rS ρ t)) ∧ ∀ b, b < rB ρ → σ.1 14 b = nI (rT ρ b) ∧ σ.1 15 b = nI (rK ρ b) ∧ σ.1 16 b = nI (rA ρ b)
theorem RP.of {ρ : Rm} {σ σ' : Mem} (h : RP ρ σ) (h1 : σ'.1 11 = σ.1 11) (h2 : σ'.1 12 = σ.1 12) (h3 : σ'.1 14 = σ.1 14) (h4 : σ'.1 15 = σ.1 15) (h5 : σ'.1 16 = σ.1 16) : RP ρ σ' := by
  refine ⟨h.1, by rw [h1]; exact h.2.1, by rw [h1]; exact h.2.2.1, fun t ht => by rw [h2]; exact h.2.2.2.1 t ht, fun b hb => ?_⟩
  rw [h3, h4, h5]
  exact h.2.2.2.2 b hb
/-- other cells than these hold what they held -/
def Eqo (S : List Nat) (σ σ' : Mem) : Prop := (∀ q, q ∉ S → σ'.1 q = σ.1 q) ∧ σ'.2 = σ.2
theorem Eqo.rf {S : List Nat} {σ : Mem} : Eqo S σ σ := ⟨fun _ _ => rfl, rfl⟩
theorem Eqo.tr {S S' : List Nat} {σ σ' σ'' : Mem} (h : Eqo S σ σ') (h' : Eqo S' σ' σ'') : Eqo (S ++ S') σ σ'' :=
  ⟨fun q hq => (h'.1 q fun z => hq (List.mem_append_right _ z)).trans (h.1 q fun z => hq (List.mem_append_left _ z)), h'.2.trans h.2⟩
theorem Eqo.in {S S' : List Nat} {σ σ' : Mem} (h : Eqo S σ σ') (hs : S.all (fun q => S'.contains q) = true) : Eqo S' σ σ' :=
  ⟨fun q hq => h.1 q fun z => hq (by have := List.all_eq_true.mp hs q z; simpa using this), h.2⟩
theorem Eqo.u {S : List Nat} {σ σ' : Mem} {q j : Nat} {x : Int32} (h : Eqo S σ σ') (hq : S.contains q = true) : Eqo S σ (uI σ' q j x) :=
  ⟨fun p hp => by
    have : p ≠ q := fun e => hp (by subst e; simpa using hq)
    rw [uI_ne this]; exact h.1 p hp, h.2⟩
theorem Eqo.at {S : List Nat} {σ σ' : Mem} (h : Eqo S σ σ') (q : Nat) (hq : S.contains q = false) : σ'.1 q = σ.1 q := h.1 q (fun z => by
  have : S.contains q = true := by simpa using z
  rw [hq] at this; cases this)
theorem nI_z {x : Nat} (h : x < 2 ^ 31) : nI x = 0 ↔ x = 0 := by
  rw [show (0 : Int32) = nI 0 from rfl, nI_eq h (by decide)]
theorem bI_z {b : Bool} : bI b = 0 ↔ b = false := by cases b <;> decide
theorem bI_n {b : Bool} : ¬ bI b = 0 ↔ b = true := by cases b <;> decide
/-- is x one of n things -/
def hT (n : Nat) (x : Int32) : Bool := decide (0 ≤ x ∧ x < nI n)
theorem hT_y {n : Nat} {x : Int32} (h1 : ¬ x < 0) (h2 : ¬ nI n ≤ x) : hT n x = true := decide_eq_true ⟨i_nlt h1, i_nle h2⟩
theorem hT_n1 {n : Nat} {x : Int32} (h1 : x < 0) : hT n x = false := decide_eq_false fun z => absurd h1 (Int32.not_lt.mpr z.1)
theorem hT_n2 {n : Nat} {x : Int32} (h2 : nI n ≤ x) : hT n x = false := decide_eq_false fun z => absurd h2 (Int32.not_le.mpr z.2)
theorem hT_iff {n : Nat} (hn : n < 2 ^ 31) {x : Int32} : hT n x = true ↔ ∃ j, j < n ∧ x = nI j := by
  constructor
  · intro h
    have h := of_decide_eq_true h
    obtain ⟨j, hj, rfl⟩ := nI_of (Int32.not_lt.mpr h.1)
    exact ⟨j, (nI_ltI hj hn).mp h.2, rfl⟩
  · rintro ⟨j, hj, rfl⟩
    exact decide_eq_true ⟨nI_pos' (by omega), nI_lt hj hn⟩

set_option maxRecDepth 100000 in
theorem qX2_shiftOf {ρ : Rm} {σ : Mem} (h : RP ρ σ) {t : Nat} (ht : t < rN ρ) : Ct shX 0 mX2_shiftOf [.ref 10, .int (nI t)] σ (Ri (nI (2 * (rN ρ - 1 - t))) σ) := by
  refine Ct.of (by decide) (Nat.le_of_ble_eq_true rfl) (l := [some (.ref 10), some (.int (nI t))]) rfl ?_
  refine Vj_iconst (q := 1) (v := 2) dX2_shiftOf_0 rfl (by decide) ?_
  refine Vj_aloadn (q := 2) dX2_shiftOf_1 rfl rfl rfl ?_
  refine Vj_getR (q := 5) flX2_12 rfl rfl dX2_shiftOf_2 rfl ?_
  refine Vj_getI (q := 8) flX2_32 rfl rfl dX2_shiftOf_5 rfl ?_
  rw [h.2.1]
  refine Vj_iconst (q := 9) (v := 1) dX2_shiftOf_8 rfl (by decide) ?_
  refine Vj_isub (q := 10) dX2_shiftOf_9 rfl ?_
  refine Vj_iloadn (q := 11) dX2_shiftOf_10 rfl rfl rfl ?_
  refine Vj_isub (q := 12) dX2_shiftOf_11 rfl ?_
  refine Vj_imul (q := 13) dX2_shiftOf_12 rfl ?_
  rw [i_sh _ h.1.1 _ ht]
  exact Vr_iret rfl rfl dX2_shiftOf_13 (⟨rfl, rfl⟩)
set_option maxRecDepth 100000 in
theorem qX2_stateIn {ρ : Rm} {σ : Mem} (h : RP ρ σ) {c t : Nat} (hc : c < 256) (ht : t < rN ρ) : Ct shX 1 mX2_stateIn [.ref 10, .int (nI c), .int (nI t)] σ (Ri (nI (cS (rN ρ) c t)) σ) := by
  refine Ct.of (by decide) (Nat.le_of_ble_eq_true rfl) (l := [some (.ref 10), some (.int (nI c)), some (.int (nI t))]) rfl ?_
  refine Vj_iloadn (q := 1) dX2_stateIn_0 rfl rfl rfl ?_
  refine Vj_aloadn (q := 2) dX2_stateIn_1 rfl rfl rfl ?_
  refine Vj_iloadn (q := 3) dX2_stateIn_2 rfl rfl rfl ?_
  refine Vj_callVi (q := 6) (qX2_shiftOf h ht) (by decide) rfl rfl lkX2_84 viX2_shiftOf okX2_shiftOf dX2_stateIn_3 rfl rfl (Nat.le_of_ble_eq_true rfl) ?_
  refine Vj_ishr (q := 7) dX2_stateIn_6 rfl ?_
  refine Vj_iconst (q := 8) (v := 3) dX2_stateIn_7 rfl (by decide) ?_
  refine Vj_iand (q := 9) dX2_stateIn_8 rfl ?_
  rw [i_st h.1.1 ht hc]
  exact Vr_iret rfl rfl dX2_stateIn_9 (⟨rfl, rfl⟩)
set_option maxRecDepth 100000 in
theorem qX2_with {ρ : Rm} {σ : Mem} (h : RP ρ σ) {c t s : Nat} (hc : c < 256) (ht : t < rN ρ) (hs : s < 4) : Ct shX 1 mX2_with [.ref 10, .int (nI c), .int (nI t), .int (nI s)] σ (Ri (nI (cW (rN ρ) c t s)) σ) := by
  refine Ct.of (by decide) (Nat.le_of_ble_eq_true rfl) (l := [some (.ref 10), some (.int (nI c)), some (.int (nI t)), some (.int (nI s)), none]) rfl ?_
  refine Vj_aloadn (q := 1) dX2_with_0 rfl rfl rfl ?_
  refine Vj_iloadn (q := 2) dX2_with_1 rfl rfl rfl ?_
  refine Vj_callVi (q := 5) (qX2_shiftOf h ht) (by decide) rfl rfl lkX2_84 viX2_shiftOf okX2_shiftOf dX2_with_2 rfl rfl (Nat.le_of_ble_eq_true rfl) ?_
  refine Vs_istore4 (q := 7) dX2_with_5 rfl (by decide) rfl ?_
  refine Vj_iloadn (q := 8) dX2_with_7 rfl rfl rfl ?_
  refine Vj_iconst (q := 9) (v := 3) dX2_with_8 rfl (by decide) ?_
  refine Vj_iload (q := 11) dX2_with_9 rfl rfl ?_
  refine Vj_ishl (q := 12) dX2_with_11 rfl ?_
  refine Vj_iconst (q := 13) (v := (-1)) dX2_with_12 rfl (by decide) ?_
  refine Vj_ixor (q := 14) dX2_with_13 rfl ?_
  refine Vj_iand (q := 15) dX2_with_14 rfl ?_
  refine Vj_iloadn (q := 16) dX2_with_15 rfl rfl rfl ?_
  refine Vj_iload (q := 18) dX2_with_16 rfl rfl ?_
  refine Vj_ishl (q := 19) dX2_with_18 rfl ?_
  refine Vj_ior (q := 20) dX2_with_19 rfl ?_
  rw [i_wi h.1.1 ht hc hs]
  exact Vr_iret rfl rfl dX2_with_20 (⟨rfl, rfl⟩)
set_option maxRecDepth 100000 in
theorem qX2_statesOf {ρ : Rm} {σ : Mem} (h : RP ρ σ) {t : Nat} (ht : t < rN ρ) : Ct shX 1 mX2_statesOf [.ref 10, .int (nI t)] σ (Ri (nI (rS ρ t)) σ) := by
  refine Ct.of (by decide) (Nat.le_of_ble_eq_true rfl) (l := [some (.ref 10), some (.int (nI t))]) rfl ?_
  refine Vj_aloadn (q := 1) dX2_statesOf_0 rfl rfl rfl ?_
  refine Vj_getR (q := 4) flX2_12 rfl rfl dX2_statesOf_1 rfl ?_
  refine Vj_getR (q := 7) flX2_93 rfl rfl dX2_statesOf_4 rfl ?_
  refine Vj_iloadn (q := 8) dX2_statesOf_7 rfl rfl rfl ?_
  refine Vj_callSi (q := 11) (qX9_atn rfl (by decide) (j := t) (by have := h.1.1; omega)) (by decide) lkX2_64 stX9_at okX9_at dX2_statesOf_8 rfl rfl (Nat.le_of_ble_eq_true rfl) ?_
  rw [h.2.2.2.1 t ht]
  exact Vr_iret rfl rfl dX2_statesOf_11 (⟨rfl, rfl⟩)
set_option maxRecDepth 100000 in
theorem qX2_stepped {ρ : Rm} {σ : Mem} (h : RP ρ σ) {c t : Nat} (hc : c < 256) (ht : t < rN ρ) : Ct shX 2 mX2_stepped [.ref 10, .int (nI c), .int (nI t)] σ (Ri (nI (cStp ρ c t)) σ) := by
  have hS := cS_lt (rN ρ) c t
  have hz := (h.1.2.1 t ht).2
  unfold cStp
  refine Ct.of (by decide) (Nat.le_of_ble_eq_true rfl) (l := [some (.ref 10), some (.int (nI c)), some (.int (nI t)), none]) rfl ?_
  refine Vj_aloadn (q := 1) dX2_stepped_0 rfl rfl rfl ?_
  refine Vj_iloadn (q := 2) dX2_stepped_1 rfl rfl rfl ?_
  refine Vj_iloadn (q := 3) dX2_stepped_2 rfl rfl rfl ?_
  refine Vj_callVi (q := 6) (qX2_stateIn h hc ht) (by decide) rfl rfl lkX2_43 viX2_stateIn okX2_stateIn dX2_stepped_3 rfl rfl (Nat.le_of_ble_eq_true rfl) ?_
  refine Vj_iconst (q := 7) (v := 1) dX2_stepped_6 rfl (by decide) ?_
  refine Vj_iadd (q := 8) dX2_stepped_7 rfl ?_
  rw [nI_1]
  refine Vs_istore3 (q := 9) dX2_stepped_8 rfl (by decide) rfl ?_
  refine Vj_aloadn (q := 10) dX2_stepped_9 rfl rfl rfl ?_
  refine Vj_iloadn (q := 11) dX2_stepped_10 rfl rfl rfl ?_
  refine Vj_iloadn (q := 12) dX2_stepped_11 rfl rfl rfl ?_
  refine Vj_iloadn (q := 13) dX2_stepped_12 rfl rfl rfl ?_
  refine Vj_aloadn (q := 14) dX2_stepped_13 rfl rfl rfl ?_
  refine Vj_iloadn (q := 15) dX2_stepped_14 rfl rfl rfl ?_
  refine Vj_callVi (q := 18) (qX2_statesOf h ht) (by decide) rfl rfl lkX2_47 viX2_statesOf okX2_statesOf dX2_stepped_15 rfl rfl (Nat.le_of_ble_eq_true rfl) ?_
  refine Vj_icmp_ge (q := 21) (tgt := 25) dX2_stepped_18 (by decide) rfl (fun h18 => ?_) (fun h18 => ?_)
  ·
    have hlt : ¬ cS (rN ρ) c t + 1 < rS ρ t := by
      have h18 := (nI_leI (by omega) (by omega)).mp h18
      omega
    rw [if_neg hlt]
    refine Vj_iconst (q := 26) (v := 0) dX2_stepped_25 rfl (by decide) ?_
    refine Vj_callVi (q := 29) (qX2_with h hc ht (s := 0) (by decide)) (by decide) rfl rfl lkX2_74 viX2_with okX2_with dX2_stepped_26 rfl rfl (Nat.le_of_ble_eq_true rfl) ?_
    exact Vr_iret rfl rfl dX2_stepped_29 (⟨rfl, rfl⟩)
  ·
    have hlt : cS (rN ρ) c t + 1 < rS ρ t := by
      have h18 := (nI_ltI (by omega) (by omega)).mp (i_nle h18)
      exact h18
    rw [if_pos hlt]
    refine Vj_iloadn (q := 22) dX2_stepped_21 rfl rfl rfl ?_
    refine Vj_goto (q := 26) dX2_stepped_22 (by decide) ?_
    refine Vj_callVi (q := 29) (qX2_with h hc ht (by omega)) (by decide) rfl rfl lkX2_74 viX2_with okX2_with dX2_stepped_26 rfl rfl (Nat.le_of_ble_eq_true rfl) ?_
    exact Vr_iret rfl rfl dX2_stepped_29 (⟨rfl, rfl⟩)
set_option maxRecDepth 100000 in
theorem qX2_switched_loop {ρ : Rm} {σ : Mem} (h : RP ρ σ) {c0 t0 : Nat} (hc0 : c0 < 256) : ∀ k t c : Nat, t + k = rN ρ → c < 4 ^ rN ρ → Vj shX 2 mX2_switched (Ri (nI (cSwi (rN ρ) c0 k t c)) σ) 5 [some (.ref 10), some (.int (nI c0)), some (.int (nI t0)), some (.int (nI c)), some (.int (nI t))] [] σ := by
  intro k
  induction k with
  | zero =>
    intro t c ht hc
    have hn := h.1.1
    refine Vj_iload (q := 7) dX2_switched_5 rfl rfl ?_
    refine Vj_aloadn (q := 8) dX2_switched_7 rfl rfl rfl ?_
    refine Vj_getR (q := 11) flX2_12 rfl rfl dX2_switched_8 rfl ?_
    refine Vj_getI (q := 14) flX2_32 rfl rfl dX2_switched_11 rfl ?_
    rw [h.2.1]
    refine Vj_icmp_ge (q := 17) (tgt := 46) dX2_switched_14 (by decide) rfl (fun _ => ?_) (fun hz => absurd (nI_le (by omega) (by omega)) hz)
    refine Vj_iloadn (q := 47) dX2_switched_46 rfl rfl rfl ?_
    exact Vr_iret rfl rfl dX2_switched_47 (⟨rfl, rfl⟩)
  | succ k ih =>
    intro t c ht hc
    have hn := h.1.1
    have hp4 := p4_le hn
    have hS := cS_lt (rN ρ) c0 t
    rw [cSwi]
    refine Vj_iload (q := 7) dX2_switched_5 rfl rfl ?_
    refine Vj_aloadn (q := 8) dX2_switched_7 rfl rfl rfl ?_
    refine Vj_getR (q := 11) flX2_12 rfl rfl dX2_switched_8 rfl ?_
    refine Vj_getI (q := 14) flX2_32 rfl rfl dX2_switched_11 rfl ?_
    rw [h.2.1]
    refine Vj_icmp_ge (q := 17) (tgt := 46) dX2_switched_14 (by decide) rfl (fun hz => absurd hz (nI_ge (by omega) (by omega))) (fun _ => ?_)
    refine Vj_aloadn (q := 18) dX2_switched_17 rfl rfl rfl ?_
    refine Vj_iloadn (q := 19) dX2_switched_18 rfl rfl rfl ?_
    refine Vj_iload (q := 21) dX2_switched_19 rfl rfl ?_
    refine Vj_aloadn (q := 22) dX2_switched_21 rfl rfl rfl ?_
    refine Vj_iloadn (q := 23) dX2_switched_22 rfl rfl rfl ?_
    refine Vj_iload (q := 25) dX2_switched_23 rfl rfl ?_
    refine Vj_callVi (q := 28) (qX2_stateIn h hc0 (by omega)) (by decide) rfl rfl lkX2_43 viX2_stateIn okX2_stateIn dX2_switched_25 rfl rfl (Nat.le_of_ble_eq_true rfl) ?_
    refine Vj_if_ne (q := 31) (tgt := 35) dX2_switched_28 (by decide) rfl (fun h28 => ?_) (fun h28 => ?_)
    ·
      rw [if_neg (fun z => h28 ((nI_z (by omega)).mpr z))]
      refine Vj_iconst (q := 36) (v := 0) dX2_switched_35 rfl (by decide) ?_
      refine Vj_callVi (q := 39) (qX2_with h (by omega) (by omega) (s := 0) (by decide)) (by decide) rfl rfl lkX2_74 viX2_with okX2_with dX2_switched_36 rfl rfl (Nat.le_of_ble_eq_true rfl) ?_
      refine Vs_istore3 (q := 40) dX2_switched_39 rfl (by decide) rfl ?_
      refine Vs_iinc4 (q := 43) (z := none) dX2_switched_40 rfl (by exact iinc_p _) (by decide) rfl ?_
      refine Vj_goto (q := 5) dX2_switched_43 (by decide) ?_
      rw [nI_1]
      exact ih (t + 1) _ (by omega) (cW_lt _ hn c hc t (by omega) _ (by decide))
    ·
      rw [if_pos ((nI_z (by omega)).mp (Decidable.not_not.mp (fun z => (fun hh => hh) z h28)))]
      refine Vj_iconst (q := 32) (v := 1) dX2_switched_31 rfl (by decide) ?_
      refine Vj_goto (q := 36) dX2_switched_32 (by decide) ?_
      refine Vj_callVi (q := 39) (qX2_with h (by omega) (by omega) (s := 1) (by decide)) (by decide) rfl rfl lkX2_74 viX2_with okX2_with dX2_switched_36 rfl rfl (Nat.le_of_ble_eq_true rfl) ?_
      refine Vs_istore3 (q := 40) dX2_switched_39 rfl (by decide) rfl ?_
      refine Vs_iinc4 (q := 43) (z := none) dX2_switched_40 rfl (by exact iinc_p _) (by decide) rfl ?_
      refine Vj_goto (q := 5) dX2_switched_43 (by decide) ?_
      rw [nI_1]
      exact ih (t + 1) _ (by omega) (cW_lt _ hn c hc t (by omega) _ (by decide))
set_option maxRecDepth 100000 in
theorem qX2_switched {ρ : Rm} {σ : Mem} (h : RP ρ σ) {c t : Nat} (hc : c < 4 ^ rN ρ) (ht : t < rN ρ) : Ct shX 2 mX2_switched [.ref 10, .int (nI c), .int (nI t)] σ (Ri (nI (cSwi (rN ρ) c (rN ρ - t) t c)) σ) := by
  refine Ct.of (by decide) (Nat.le_of_ble_eq_true rfl) (l := [some (.ref 10), some (.int (nI c)), some (.int (nI t)), none, none]) rfl ?_
  refine Vj_iloadn (q := 1) dX2_switched_0 rfl rfl rfl ?_
  refine Vs_istore3 (q := 2) dX2_switched_1 rfl (by decide) rfl ?_
  refine Vj_iloadn (q := 3) dX2_switched_2 rfl rfl rfl ?_
  refine Vs_istore4 (q := 5) dX2_switched_3 rfl (by decide) rfl ?_
  exact qX2_switched_loop h (by have := p4_le h.1.1; omega) (rN ρ - t) t c (by omega) hc
set_option maxRecDepth 100000 in
theorem qX2_done {ρ : Rm} {σ : Mem} (h : RP ρ σ) {c b : Nat} (hc : c < 4 ^ rN ρ) (hb : b < rB ρ) : Ct shX 3 mX2_done [.ref 10, .int (nI c), .int (nI b)] σ (Ri (nI (cDo ρ c b)) σ) := by
  have hc6 : c < 256 := by have := p4_le h.1.1; omega
  have hb7 := h.1.2.2.1
  obtain ⟨g1, g2, g3, g4, g5⟩ := h.1.2.2.2 b hb
  obtain ⟨e1, e2, e3⟩ := h.2.2.2.2 b hb
  refine Ct.of (by decide) (Nat.le_of_ble_eq_true rfl) (l := [some (.ref 10), some (.int (nI c)), some (.int (nI b)), none, none]) rfl ?_
  refine Vj_aloadn (q := 1) dX2_done_0 rfl rfl rfl ?_
  refine Vj_getR (q := 4) flX2_12 rfl rfl dX2_done_1 rfl ?_
  refine Vj_getR (q := 7) flX2_61 rfl rfl dX2_done_4 rfl ?_
  refine Vj_iloadn (q := 8) dX2_done_7 rfl rfl rfl ?_
  refine Vj_callSi (q := 11) (qX9_atn rfl (by decide) (j := b) (by omega)) (by decide) lkX2_64 stX9_at okX9_at dX2_done_8 rfl rfl (Nat.le_of_ble_eq_true rfl) ?_
  rw [e1]
  refine Vs_istore3 (q := 12) dX2_done_11 rfl (by decide) rfl ?_
  refine Vj_aloadn (q := 13) dX2_done_12 rfl rfl rfl ?_
  refine Vj_getR (q := 16) flX2_12 rfl rfl dX2_done_13 rfl ?_
  refine Vj_getR (q := 19) flX2_68 rfl rfl dX2_done_16 rfl ?_
  refine Vj_iloadn (q := 20) dX2_done_19 rfl rfl rfl ?_
  refine Vj_callSi (q := 23) (qX9_atn rfl (by decide) (j := b) (by omega)) (by decide) lkX2_64 stX9_at okX9_at dX2_done_20 rfl rfl (Nat.le_of_ble_eq_true rfl) ?_
  rw [e3]
  refine Vs_istore4 (q := 25) dX2_done_23 rfl (by decide) rfl ?_
  refine Vj_aloadn (q := 26) dX2_done_25 rfl rfl rfl ?_
  refine Vj_getR (q := 29) flX2_12 rfl rfl dX2_done_26 rfl ?_
  refine Vj_getR (q := 32) flX2_71 rfl rfl dX2_done_29 rfl ?_
  refine Vj_iloadn (q := 33) dX2_done_32 rfl rfl rfl ?_
  refine Vj_callSi (q := 36) (qX9_atn rfl (by decide) (j := b) (by omega)) (by decide) lkX2_64 stX9_at okX9_at dX2_done_33 rfl rfl (Nat.le_of_ble_eq_true rfl) ?_
  rw [e2]
  rcases (show rK ρ b = 1 ∨ rK ρ b = 2 ∨ rK ρ b = 3 ∨ rK ρ b = 0 by omega) with hk | hk | hk | hk
  ·
    rw [hk]
    refine Vj_tableIn (q := 64) (off := 28) dX2_done_36 (by decide) (by decide) (by decide) (by decide) ?_
    refine Vj_aloadn (q := 65) dX2_done_64 rfl rfl rfl ?_
    refine Vj_iloadn (q := 66) dX2_done_65 rfl rfl rfl ?_
    refine Vj_iloadn (q := 67) dX2_done_66 rfl rfl rfl ?_
    refine Vj_iload (q := 69) dX2_done_67 rfl rfl ?_
    refine Vj_callVi (q := 72) (qX2_with h hc6 g1 (by have := g3 hk; have := (h.1.2.1 _ g1).2; omega)) (by decide) rfl rfl lkX2_74 viX2_with okX2_with dX2_done_69 rfl rfl (Nat.le_of_ble_eq_true rfl) ?_
    exact Vr_iret rfl rfl dX2_done_72 (⟨by rw [cDo, if_pos hk], rfl⟩)
  ·
    rw [hk]
    refine Vj_tableIn (q := 73) (off := 37) dX2_done_36 (by decide) (by decide) (by decide) (by decide) ?_
    refine Vj_aloadn (q := 74) dX2_done_73 rfl rfl rfl ?_
    refine Vj_iloadn (q := 75) dX2_done_74 rfl rfl rfl ?_
    refine Vj_iloadn (q := 76) dX2_done_75 rfl rfl rfl ?_
    refine Vj_callVi (q := 79) (qX2_switched h hc g1) (by decide) rfl rfl lkX2_78 viX2_switched okX2_switched dX2_done_76 rfl rfl (Nat.le_of_ble_eq_true rfl) ?_
    exact Vr_iret rfl rfl dX2_done_79 (⟨by rw [cDo, if_neg (by omega), if_pos hk], rfl⟩)
  ·
    rw [hk]
    refine Vj_tableIn (q := 80) (off := 44) dX2_done_36 (by decide) (by decide) (by decide) (by decide) ?_
    refine Vj_aloadn (q := 81) dX2_done_80 rfl rfl rfl ?_
    refine Vj_iloadn (q := 82) dX2_done_81 rfl rfl rfl ?_
    refine Vj_iload (q := 84) dX2_done_82 rfl rfl ?_
    refine Vj_callVi (q := 87) (qX2_stateIn h hc6 (g4 hk).1) (by decide) rfl rfl lkX2_43 viX2_stateIn okX2_stateIn dX2_done_84 rfl rfl (Nat.le_of_ble_eq_true rfl) ?_
    refine Vj_if_ne (q := 90) (tgt := 94) dX2_done_87 (by decide) rfl (fun h87 => ?_) (fun h87 => ?_)
    ·
      refine Vj_aloadn (q := 95) dX2_done_94 rfl rfl rfl ?_
      refine Vj_iloadn (q := 96) dX2_done_95 rfl rfl rfl ?_
      refine Vj_iloadn (q := 97) dX2_done_96 rfl rfl rfl ?_
      refine Vj_callVi (q := 100) (qX2_stepped h hc6 g1) (by decide) rfl rfl lkX2_81 viX2_stepped okX2_stepped dX2_done_97 rfl rfl (Nat.le_of_ble_eq_true rfl) ?_
      exact Vr_iret rfl rfl dX2_done_100 (⟨by rw [cDo, if_neg (by omega), if_neg (by omega), if_pos hk, if_neg (fun z => h87 ((nI_z (by have := cS_lt (rN ρ) c (rA ρ b); omega)).mpr z))], rfl⟩)
    ·
      refine Vj_iloadn (q := 91) dX2_done_90 rfl rfl rfl ?_
      refine Vj_goto (q := 100) dX2_done_91 (by decide) ?_
      exact Vr_iret rfl rfl dX2_done_100 (⟨by rw [cDo, if_neg (by omega), if_neg (by omega), if_pos hk, if_pos ((nI_z (by have := cS_lt (rN ρ) c (rA ρ b); omega)).mp h87)], rfl⟩)
  ·
    rw [hk]
    refine Vj_tableOut (q := 101) dX2_done_36 (Or.inl (by decide)) (by decide) ?_
    refine Vj_aloadn (q := 102) dX2_done_101 rfl rfl rfl ?_
    refine Vj_iloadn (q := 103) dX2_done_102 rfl rfl rfl ?_
    refine Vj_iloadn (q := 104) dX2_done_103 rfl rfl rfl ?_
    refine Vj_callVi (q := 107) (qX2_stepped h hc6 g1) (by decide) rfl rfl lkX2_81 viX2_stepped okX2_stepped dX2_done_104 rfl rfl (Nat.le_of_ble_eq_true rfl) ?_
    exact Vr_iret rfl rfl dX2_done_107 (⟨by rw [cDo, if_neg (by omega), if_neg (by omega), if_neg (by omega)], rfl⟩)
set_option maxRecDepth 100000 in
theorem qX2_behind {σ : Mem} {c b : Nat} (hc : c < 256) (hb : b < 6) : Ct shX 1 mX2_behind [.ref 10, .int (nI c), .int (nI b)] σ (Ri (σ.1 19 (c * 6 + b)) σ) := by
  refine Ct.of (by decide) (Nat.le_of_ble_eq_true rfl) (l := [some (.ref 10), some (.int (nI c)), some (.int (nI b))]) rfl ?_
  refine Vj_aloadn (q := 1) dX2_behind_0 rfl rfl rfl ?_
  refine Vj_getR (q := 4) flX2_25 rfl rfl dX2_behind_1 rfl ?_
  refine Vj_iloadn (q := 5) dX2_behind_4 rfl rfl rfl ?_
  refine Vj_bipush (q := 7) (v := 6) dX2_behind_5 rfl (by decide) ?_
  refine Vj_imul (q := 8) dX2_behind_7 rfl ?_
  refine Vj_iloadn (q := 9) dX2_behind_8 rfl rfl rfl ?_
  refine Vj_iadd (q := 10) dX2_behind_9 rfl ?_
  rw [show nI c * 6 + nI b = nI (c * 6 + b) by rw [show (6 : Int32) = nI 6 from rfl, pk_mul, nI_add]]
  refine Vj_callSi (q := 13) (qX9_atn rfl (by decide) (j := c * 6 + b) (by omega)) (by decide) lkX2_64 stX9_at okX9_at dX2_behind_10 rfl rfl (Nat.le_of_ble_eq_true rfl) ?_
  exact Vr_iret rfl rfl dX2_behind_13 (⟨rfl, rfl⟩)
set_option maxRecDepth 100000 in
theorem qX2_messOf {σ : Mem} {c : Nat} (hc : c < 256) : Ct shX 1 mX2_messOf [.ref 10, .int (nI c)] σ (Ri (σ.1 17 c) σ) := by
  refine Ct.of (by decide) (Nat.le_of_ble_eq_true rfl) (l := [some (.ref 10), some (.int (nI c))]) rfl ?_
  refine Vj_aloadn (q := 1) dX2_messOf_0 rfl rfl rfl ?_
  refine Vj_getR (q := 4) flX2_18 rfl rfl dX2_messOf_1 rfl ?_
  refine Vj_iloadn (q := 5) dX2_messOf_4 rfl rfl rfl ?_
  refine Vj_callSi (q := 8) (qX9_atn rfl (by decide) (j := c) hc) (by decide) lkX2_64 stX9_at okX9_at dX2_messOf_5 rfl rfl (Nat.le_of_ble_eq_true rfl) ?_
  exact Vr_iret rfl rfl dX2_messOf_8 (⟨rfl, rfl⟩)
set_option maxRecDepth 100000 in
theorem qX2_lightsIn {σ : Mem} {c : Nat} (hc : c < 256) : Ct shX 1 mX2_lightsIn [.ref 10, .int (nI c)] σ (Ri (σ.1 18 c) σ) := by
  refine Ct.of (by decide) (Nat.le_of_ble_eq_true rfl) (l := [some (.ref 10), some (.int (nI c))]) rfl ?_
  refine Vj_aloadn (q := 1) dX2_lightsIn_0 rfl rfl rfl ?_
  refine Vj_getR (q := 4) flX2_22 rfl rfl dX2_lightsIn_1 rfl ?_
  refine Vj_iloadn (q := 5) dX2_lightsIn_4 rfl rfl rfl ?_
  refine Vj_callSi (q := 8) (qX9_atn rfl (by decide) (j := c) hc) (by decide) lkX2_64 stX9_at okX9_at dX2_lightsIn_5 rfl rfl (Nat.le_of_ble_eq_true rfl) ?_
  exact Vr_iret rfl rfl dX2_lightsIn_8 (⟨rfl, rfl⟩)
set_option maxRecDepth 100000 in
theorem qX2_isReal {σ : Mem} {c : Nat} (hc : c < 256) : Ct shX 2 mX2_isReal [.ref 10, .int (nI c)] σ (Ri (bI (decide (¬ σ.1 17 c = -1))) σ) := by
  refine Ct.of (by decide) (Nat.le_of_ble_eq_true rfl) (l := [some (.ref 10), some (.int (nI c))]) rfl ?_
  refine Vj_aloadn (q := 1) dX2_isReal_0 rfl rfl rfl ?_
  refine Vj_iloadn (q := 2) dX2_isReal_1 rfl rfl rfl ?_
  refine Vj_callVi (q := 5) (qX2_messOf hc) (by decide) rfl rfl lkX2_90 viX2_messOf okX2_messOf dX2_isReal_2 rfl rfl (Nat.le_of_ble_eq_true rfl) ?_
  refine Vj_iconst (q := 6) (v := (-1)) dX2_isReal_5 rfl (by decide) ?_
  refine Vj_icmp_eq (q := 9) (tgt := 13) dX2_isReal_6 (by decide) rfl (fun h6 => ?_) (fun h6 => ?_)
  ·
    refine Vj_iconst (q := 14) (v := 0) dX2_isReal_13 rfl (by decide) ?_
    exact Vr_iret rfl rfl dX2_isReal_14 (⟨by rw [decide_eq_false (fun z => z h6)]; rfl, rfl⟩)
  ·
    refine Vj_iconst (q := 10) (v := 1) dX2_isReal_9 rfl (by decide) ?_
    refine Vj_goto (q := 14) dX2_isReal_10 (by decide) ?_
    exact Vr_iret rfl rfl dX2_isReal_14 (⟨by rw [decide_eq_true h6]; rfl, rfl⟩)
set_option maxRecDepth 100000 in
theorem qX2_things {ρ : Rm} {σ : Mem} (h : RP ρ σ) : Ct shX 0 mX2_things [.ref 10] σ (Ri (nI (rN ρ)) σ) := by
  refine Ct.of (by decide) (Nat.le_of_ble_eq_true rfl) (l := [some (.ref 10)]) rfl ?_
  refine Vj_aloadn (q := 1) dX2_things_0 rfl rfl rfl ?_
  refine Vj_getR (q := 4) flX2_12 rfl rfl dX2_things_1 rfl ?_
  refine Vj_getI (q := 7) flX2_32 rfl rfl dX2_things_4 rfl ?_
  exact Vr_iret rfl rfl dX2_things_7 (⟨by rw [h.2.1], rfl⟩)
set_option maxRecDepth 100000 in
theorem qX2_buttons {ρ : Rm} {σ : Mem} (h : RP ρ σ) : Ct shX 0 mX2_buttons [.ref 10] σ (Ri (nI (rB ρ)) σ) := by
  refine Ct.of (by decide) (Nat.le_of_ble_eq_true rfl) (l := [some (.ref 10)]) rfl ?_
  refine Vj_aloadn (q := 1) dX2_buttons_0 rfl rfl rfl ?_
  refine Vj_getR (q := 4) flX2_12 rfl rfl dX2_buttons_1 rfl ?_
  refine Vj_getI (q := 7) flX2_55 rfl rfl dX2_buttons_4 rfl ?_
  exact Vr_iret rfl rfl dX2_buttons_7 (⟨by rw [h.2.2.1], rfl⟩)
set_option maxRecDepth 100000 in
theorem qX2_everyButton {ρ : Rm} {σ : Mem} (h : RP ρ σ) : Ct shX 0 mX2_everyButton [.ref 10] σ (Ri (nI (2 ^ rB ρ - 1)) σ) := by
  refine Ct.of (by decide) (Nat.le_of_ble_eq_true rfl) (l := [some (.ref 10)]) rfl ?_
  refine Vj_iconst (q := 1) (v := 1) dX2_everyButton_0 rfl (by decide) ?_
  refine Vj_aloadn (q := 2) dX2_everyButton_1 rfl rfl rfl ?_
  refine Vj_getR (q := 5) flX2_12 rfl rfl dX2_everyButton_2 rfl ?_
  refine Vj_getI (q := 8) flX2_55 rfl rfl dX2_everyButton_5 rfl ?_
  rw [h.2.2.1]
  refine Vj_ishl (q := 9) dX2_everyButton_8 rfl ?_
  refine Vj_iconst (q := 10) (v := 1) dX2_everyButton_9 rfl (by decide) ?_
  refine Vj_isub (q := 11) dX2_everyButton_10 rfl ?_
  exact Vr_iret rfl rfl dX2_everyButton_11 (⟨by rw [i_ev _ h.1.2.2.1], rfl⟩)
set_option maxRecDepth 100000 in
theorem qX2_hasThing {ρ : Rm} {σ : Mem} (h : RP ρ σ) (x : Int32) : Ct shX 0 mX2_hasThing [.ref 10, .int x] σ (Ri (bI (hT (rN ρ) x)) σ) := by
  refine Ct.of (by decide) (Nat.le_of_ble_eq_true rfl) (l := [some (.ref 10), some (.int x)]) rfl ?_
  refine Vj_iloadn (q := 1) dX2_hasThing_0 rfl rfl rfl ?_
  refine Vj_if_lt (q := 4) (tgt := 19) dX2_hasThing_1 (by decide) rfl (fun h1 => ?_) (fun h1 => ?_)
  ·
    refine Vj_iconst (q := 20) (v := 0) dX2_hasThing_19 rfl (by decide) ?_
    exact Vr_iret rfl rfl dX2_hasThing_20 (⟨by rw [hT_n1 h1]; rfl, rfl⟩)
  ·
    refine Vj_iloadn (q := 5) dX2_hasThing_4 rfl rfl rfl ?_
    refine Vj_aloadn (q := 6) dX2_hasThing_5 rfl rfl rfl ?_
    refine Vj_getR (q := 9) flX2_12 rfl rfl dX2_hasThing_6 rfl ?_
    refine Vj_getI (q := 12) flX2_32 rfl rfl dX2_hasThing_9 rfl ?_
    rw [h.2.1]
    refine Vj_icmp_ge (q := 15) (tgt := 19) dX2_hasThing_12 (by decide) rfl (fun h12 => ?_) (fun h12 => ?_)
    ·
      refine Vj_iconst (q := 20) (v := 0) dX2_hasThing_19 rfl (by decide) ?_
      exact Vr_iret rfl rfl dX2_hasThing_20 (⟨by rw [hT_n2 h12]; rfl, rfl⟩)
    ·
      refine Vj_iconst (q := 16) (v := 1) dX2_hasThing_15 rfl (by decide) ?_
      refine Vj_goto (q := 20) dX2_hasThing_16 (by decide) ?_
      exact Vr_iret rfl rfl dX2_hasThing_20 (⟨by rw [hT_y h1 h12]; rfl, rfl⟩)
set_option maxRecDepth 100000 in
theorem qX2_hasButton {ρ : Rm} {σ : Mem} (h : RP ρ σ) (x : Int32) : Ct shX 0 mX2_hasButton [.ref 10, .int x] σ (Ri (bI (hT (rB ρ) x)) σ) := by
  refine Ct.of (by decide) (Nat.le_of_ble_eq_true rfl) (l := [some (.ref 10), some (.int x)]) rfl ?_
  refine Vj_iloadn (q := 1) dX2_hasButton_0 rfl rfl rfl ?_
  refine Vj_if_lt (q := 4) (tgt := 19) dX2_hasButton_1 (by decide) rfl (fun h1 => ?_) (fun h1 => ?_)
  ·
    refine Vj_iconst (q := 20) (v := 0) dX2_hasButton_19 rfl (by decide) ?_
    exact Vr_iret rfl rfl dX2_hasButton_20 (⟨by rw [hT_n1 h1]; rfl, rfl⟩)
  ·
    refine Vj_iloadn (q := 5) dX2_hasButton_4 rfl rfl rfl ?_
    refine Vj_aloadn (q := 6) dX2_hasButton_5 rfl rfl rfl ?_
    refine Vj_getR (q := 9) flX2_12 rfl rfl dX2_hasButton_6 rfl ?_
    refine Vj_getI (q := 12) flX2_55 rfl rfl dX2_hasButton_9 rfl ?_
    rw [h.2.2.1]
    refine Vj_icmp_ge (q := 15) (tgt := 19) dX2_hasButton_12 (by decide) rfl (fun h12 => ?_) (fun h12 => ?_)
    ·
      refine Vj_iconst (q := 20) (v := 0) dX2_hasButton_19 rfl (by decide) ?_
      exact Vr_iret rfl rfl dX2_hasButton_20 (⟨by rw [hT_n2 h12]; rfl, rfl⟩)
    ·
      refine Vj_iconst (q := 16) (v := 1) dX2_hasButton_15 rfl (by decide) ?_
      refine Vj_goto (q := 20) dX2_hasButton_16 (by decide) ?_
      exact Vr_iret rfl rfl dX2_hasButton_20 (⟨by rw [hT_y h1 h12]; rfl, rfl⟩)
