/-! the whole object -/
/-- cells that hold nothing from call to call -/
def scr (q j : Nat) : Bool := (decide (4 ≤ q) && decide (q ≤ 9)) || q == 20 || (decide (23 ≤ q) && decide (q ≤ 26)) || (decide (40 ≤ q) && decide (q ≤ 42)) || (q == 36 && j == 5)
def Eqc (σ σ' : Mem) : Prop := (∀ q j, scr q j = false → σ'.1 q j = σ.1 q j) ∧ σ'.2 = σ.2
theorem Eqc.rf {σ : Mem} : Eqc σ σ := ⟨fun _ _ _ => rfl, rfl⟩
theorem Eqc.tr {σ σ' σ'' : Mem} (h : Eqc σ σ') (h' : Eqc σ' σ'') : Eqc σ σ'' := ⟨fun q j hq => (h'.1 q j hq).trans (h.1 q j hq), h'.2.trans h.2⟩
theorem Eqc.u {σ σ' : Mem} {q j : Nat} {x : Int32} (h : Eqc σ σ') (hq : scr q j = true) : Eqc σ (uI σ' q j x) := by
  refine ⟨fun p k hp => ?_, h.2⟩
  by_cases e : p = q
  · subst e
    rw [uI_eq, upd]
    by_cases e2 : k = j
    · subst e2; rw [hq] at hp; cases hp
    · rw [if_neg e2]; exact h.1 p k hp
  · rw [uI_ne e]; exact h.1 p k hp
theorem Eqo.c {S : List Nat} {σ σ' : Mem} (h : Eqo S σ σ') (hS : S.all (fun q => scr q 0 && q != 36) = true) : Eqc σ σ' := by
  refine ⟨fun q j hq => ?_, h.2⟩
  rw [h.1 q fun z => ?_]
  have := List.all_eq_true.mp hS q z
  simp only [scr, Bool.and_eq_true, Bool.or_eq_true, bne_iff_ne, ne_eq, beq_iff_eq, decide_eq_true_eq, Bool.or_eq_false_iff, Bool.and_eq_false_iff, beq_eq_false_iff_ne, decide_eq_false_iff_not] at this hq
  omega
def cV (ρ : Rm) (c : Nat) : Prop := c < 4 ^ rN ρ ∧ cOk ρ c = true
def uV (ρ : Rm) (N : Nat) (u : Nat × Nat × Nat) : Prop := cV ρ u.1 ∧ cV ρ u.2.1 ∧ u.2.2 ≤ N
def NwX (c d p : Nat) (σ : Mem) : Prop := σ.1 27 0 = nI c ∧ σ.1 27 1 = nI d ∧ σ.1 27 2 = nI p
def AcX (ac : List (Nat × Nat × Nat)) (σ : Mem) : Prop := σ.1 0 11 = nI ac.length ∧ ac.length < 15 ∧ ∀ i, i < ac.length → σ.1 29 i = nI (ac.getD i (0, 0, 0)).1 ∧ σ.1 30 i = nI (ac.getD i (0, 0, 0)).2.1 ∧ σ.1 31 i = nI (ac.getD i (0, 0, 0)).2.2
def SlX (sl : Nat → Option (Nat × Nat × Nat)) (σ : Mem) : Prop := ∀ i, i < 2 → (∀ u, sl i = some u → σ.1 33 i = nI u.1 ∧ σ.1 34 i = nI u.2.1 ∧ σ.1 35 i = nI u.2.2) ∧ (sl i = none → σ.1 35 i = -1)
/-- what the object holds -/
def RX (tx : List Nat) (ρ : Rm) (c d p : Nat) (ac : List (Nat × Nat × Nat)) (sl : Nat → Option (Nat × Nat × Nat)) (se : List (Nat × Nat × Nat)) (sd : Int64) (σ : Mem) : Prop :=
  Tx tx σ ∧ RP ρ σ ∧ RT ρ σ ∧ RE ρ σ ∧ NwX c d p σ ∧ AcX ac σ ∧ SlX sl σ ∧ SeX se σ ∧ σ.2 0 12 = sd
/-- and what is always so of it -/
def okV (N : Nat) (ρ : Rm) (c d p : Nat) (ac : List (Nat × Nat × Nat)) (sl : Nat → Option (Nat × Nat × Nat)) (se : List (Nat × Nat × Nat)) : Prop :=
  okR ρ ∧ cV ρ c ∧ cV ρ d ∧ p ≤ N ∧ N < 2 ^ 30 ∧ (ac.length < 15 ∧ ∀ i, i < ac.length → uV ρ N (ac.getD i (0, 0, 0))) ∧ (∀ i u, sl i = some u → uV ρ N u) ∧ seV se
theorem NwX.of {c d p : Nat} {σ σ' : Mem} (h : NwX c d p σ) (h1 : σ'.1 27 = σ.1 27) : NwX c d p σ' := by unfold NwX; rw [h1]; exact h
theorem AcX.of {ac : List (Nat × Nat × Nat)} {σ σ' : Mem} (h : AcX ac σ) (h0 : σ'.1 0 = σ.1 0) (h1 : σ'.1 29 = σ.1 29) (h2 : σ'.1 30 = σ.1 30) (h3 : σ'.1 31 = σ.1 31) : AcX ac σ' := by unfold AcX; rw [h0, h1, h2, h3]; exact h
theorem SlX.of {sl : Nat → Option (Nat × Nat × Nat)} {σ σ' : Mem} (h : SlX sl σ) (h1 : σ'.1 33 = σ.1 33) (h2 : σ'.1 34 = σ.1 34) (h3 : σ'.1 35 = σ.1 35) : SlX sl σ' := by unfold SlX; rw [h1, h2, h3]; exact h
theorem SeX.of {se : List (Nat × Nat × Nat)} {σ σ' : Mem} (h : SeX se σ) (h0 : σ'.1 36 4 = σ.1 36 4) (h1 : σ'.1 37 = σ.1 37) (h2 : σ'.1 38 = σ.1 38) (h3 : σ'.1 39 = σ.1 39) : SeX se σ' := by unfold SeX; rw [h0, h1, h2, h3]; exact h
theorem Eqc.at {σ σ' : Mem} (h : Eqc σ σ') (q : Nat) (hq : (∀ j, scr q j = false)) : σ'.1 q = σ.1 q := funext fun j => h.1 q j (hq j)
theorem scr_n {q : Nat} (h : (q == 0 || q == 1 || q == 2 || q == 10 || q == 11 || q == 12 || q == 13 || q == 14 || q == 15 || q == 16 || q == 17 || q == 18 || q == 19 || q == 21 || q == 22 || q == 27 || q == 29 || q == 30 || q == 31 || q == 33 || q == 34 || q == 35 || q == 37 || q == 38 || q == 39) = true) : ∀ j, scr q j = false := by
  intro j
  simp only [Bool.or_eq_true, beq_iff_eq] at h
  simp only [scr, Bool.or_eq_false_iff, Bool.and_eq_false_iff, beq_eq_false_iff_ne, decide_eq_false_iff_not]
  omega
theorem Tx.eqc {tx : List Nat} {σ σ' : Mem} (h : Tx tx σ) (hE : Eqc σ σ') : Tx tx σ' := h.of (hE.at _ (scr_n rfl)) (hE.at _ (scr_n rfl))
theorem RP.eqc {ρ : Rm} {σ σ' : Mem} (h : RP ρ σ) (hE : Eqc σ σ') : RP ρ σ' := h.of (hE.at _ (scr_n rfl)) (hE.at _ (scr_n rfl)) (hE.at _ (scr_n rfl)) (hE.at _ (scr_n rfl)) (hE.at _ (scr_n rfl))
theorem RT.eqc {ρ : Rm} {σ σ' : Mem} (h : RT ρ σ) (hE : Eqc σ σ') : RT ρ σ' := h.of (hE.at _ (scr_n rfl)) (hE.at _ (scr_n rfl)) (hE.at _ (scr_n rfl)) (hE.at _ (scr_n rfl))
theorem RE.eqc {ρ : Rm} {σ σ' : Mem} (h : RE ρ σ) (hE : Eqc σ σ') : RE ρ σ' := h.of (hE.at _ (scr_n rfl)) (hE.at _ (scr_n rfl))
theorem NwX.eqc {c d p : Nat} {σ σ' : Mem} (h : NwX c d p σ) (hE : Eqc σ σ') : NwX c d p σ' := h.of (hE.at _ (scr_n rfl))
theorem SeX.eqc {se : List (Nat × Nat × Nat)} {σ σ' : Mem} (h : SeX se σ) (hE : Eqc σ σ') : SeX se σ' := h.of (hE.1 36 4 rfl) (hE.at _ (scr_n rfl)) (hE.at _ (scr_n rfl)) (hE.at _ (scr_n rfl))
section RXL
variable {tx : List Nat} {ρ : Rm} {c d p : Nat} {ac : List (Nat × Nat × Nat)} {sl : Nat → Option (Nat × Nat × Nat)} {se : List (Nat × Nat × Nat)} {sd : Int64} {σ σ' : Mem}
theorem RX.eqc (h : RX tx ρ c d p ac sl se sd σ) (hE : Eqc σ σ') : RX tx ρ c d p ac sl se sd σ' := by
  obtain ⟨h1, h2, h3, h4, h5, h6, h7, h8, h9⟩ := h
  exact ⟨h1.eqc hE, h2.eqc hE, h3.eqc hE, h4.eqc hE, h5.eqc hE, h6.of (hE.at _ (scr_n rfl)) (hE.at _ (scr_n rfl)) (hE.at _ (scr_n rfl)) (hE.at _ (scr_n rfl)), h7.of (hE.at _ (scr_n rfl)) (hE.at _ (scr_n rfl)) (hE.at _ (scr_n rfl)), h8.eqc hE, by rw [hE.2]; exact h9⟩
theorem RX.now {c' d' p' : Nat} (h : RX tx ρ c d p ac sl se sd σ) (hE : Eqo [27] σ σ') (hn : NwX c' d' p' σ') : RX tx ρ c' d' p' ac sl se sd σ' := by
  obtain ⟨h1, h2, h3, h4, h5, h6, h7, h8, h9⟩ := h
  exact ⟨h1.eqo hE rfl, h2.eqo hE rfl, h3.eqo hE rfl, h4.eqo hE rfl, hn, h6.of (hE.at _ rfl) (hE.at _ rfl) (hE.at _ rfl) (hE.at _ rfl), h7.of (hE.at _ rfl) (hE.at _ rfl) (hE.at _ rfl), h8.of (by rw [hE.at 36 rfl]) (hE.at _ rfl) (hE.at _ rfl) (hE.at _ rfl), by rw [hE.2]; exact h9⟩
theorem RX.acts {ac' : List (Nat × Nat × Nat)} (h : RX tx ρ c d p ac sl se sd σ) (hE : Eqo [0, 29, 30, 31] σ σ') (hn : AcX ac' σ') : RX tx ρ c d p ac' sl se sd σ' := by
  obtain ⟨h1, h2, h3, h4, h5, h6, h7, h8, h9⟩ := h
  exact ⟨h1.eqo hE rfl, h2.eqo hE rfl, h3.eqo hE rfl, h4.eqo hE rfl, h5.of (hE.at _ rfl), hn, h7.of (hE.at _ rfl) (hE.at _ rfl) (hE.at _ rfl), h8.of (by rw [hE.at 36 rfl]) (hE.at _ rfl) (hE.at _ rfl) (hE.at _ rfl), by rw [hE.2]; exact h9⟩
theorem RX.slots {sl' : Nat → Option (Nat × Nat × Nat)} (h : RX tx ρ c d p ac sl se sd σ) (hE : Eqo [33, 34, 35] σ σ') (hn : SlX sl' σ') : RX tx ρ c d p ac sl' se sd σ' := by
  obtain ⟨h1, h2, h3, h4, h5, h6, h7, h8, h9⟩ := h
  exact ⟨h1.eqo hE rfl, h2.eqo hE rfl, h3.eqo hE rfl, h4.eqo hE rfl, h5.of (hE.at _ rfl), h6.of (hE.at _ rfl) (hE.at _ rfl) (hE.at _ rfl) (hE.at _ rfl), hn, h8.of (by rw [hE.at 36 rfl]) (hE.at _ rfl) (hE.at _ rfl) (hE.at _ rfl), by rw [hE.2]; exact h9⟩
theorem RX.seen {se' : List (Nat × Nat × Nat)} (h : RX tx ρ c d p ac sl se sd σ) (hE : Eqo [36, 37, 38, 39] σ σ') (hn : SeX se' σ') : RX tx ρ c d p ac sl se' sd σ' := by
  obtain ⟨h1, h2, h3, h4, h5, h6, h7, h8, h9⟩ := h
  exact ⟨h1.eqo hE rfl, h2.eqo hE rfl, h3.eqo hE rfl, h4.eqo hE rfl, h5.of (hE.at _ rfl), h6.of (hE.at _ rfl) (hE.at _ rfl) (hE.at _ rfl) (hE.at _ rfl), h7.of (hE.at _ rfl) (hE.at _ rfl) (hE.at _ rfl), hn, by rw [hE.2]; exact h9⟩
theorem RX.text {tx' : List Nat} (h : RX tx ρ c d p ac sl se sd σ) (hE : Eqo [1, 2] σ σ') (hn : Tx tx' σ') : RX tx' ρ c d p ac sl se sd σ' := by
  obtain ⟨h1, h2, h3, h4, h5, h6, h7, h8, h9⟩ := h
  exact ⟨hn, h2.eqo hE rfl, h3.eqo hE rfl, h4.eqo hE rfl, h5.of (hE.at _ rfl), h6.of (hE.at _ rfl) (hE.at _ rfl) (hE.at _ rfl) (hE.at _ rfl), h7.of (hE.at _ rfl) (hE.at _ rfl) (hE.at _ rfl), h8.of (by rw [hE.at 36 rfl]) (hE.at _ rfl) (hE.at _ rfl) (hE.at _ rfl), by rw [hE.2]; exact h9⟩
end RXL
/-! Seen.narrow -/
def rcs (ρ : Rm) (K : Nat) : List Nat := (List.range K).filter (cOk ρ)
def lkS (ρ : Rm) (u : Nat × Nat × Nat) : Bool := rKk ρ u.1 u.2.1 u.1 && decide (u.2.2 < 2 ^ rN ρ)
def sFi (ρ : Rm) (u : Nat × Nat × Nat) (c : Nat) : Bool := cLi (rN ρ) (rGo ρ u.1 u.2.1 c u.1) (rN ρ) == u.2.2
def cdK (ρ : Rm) (se : List (Nat × Nat × Nat)) : Nat → List Nat
  | 0 => rcs ρ (4 ^ rN ρ)
  | k + 1 => if lkS ρ (se.getD k (0, 0, 0)) then (cdK ρ se k).filter (sFi ρ (se.getD k (0, 0, 0))) else cdK ρ se k
theorem rcs_s {ρ : Rm} {K : Nat} : rcs ρ (K + 1) = rcs ρ K ++ (if cOk ρ K then [K] else []) := by
  unfold rcs
  rw [List.range_succ, List.filter_append, List.filter_cons, List.filter_nil]
theorem rcs_len {ρ : Rm} {K : Nat} : (rcs ρ K).length ≤ K := by
  unfold rcs; exact Nat.le_trans (List.length_filter_le _ _) (by rw [List.length_range]; exact Nat.le_refl _)
theorem cdK_mem {ρ : Rm} {se : List (Nat × Nat × Nat)} {c : Nat} : ∀ k, c ∈ cdK ρ se k → c < 4 ^ rN ρ ∧ cOk ρ c = true
  | 0, h => by
    have := List.mem_filter.mp h
    exact ⟨List.mem_range.mp this.1, this.2⟩
  | k + 1, h => by
    rw [cdK] at h
    split at h
    · exact cdK_mem k (List.mem_filter.mp h).1
    · exact cdK_mem k h
theorem cdK_len {ρ : Rm} {se : List (Nat × Nat × Nat)} : ∀ k, (cdK ρ se k).length ≤ 4 ^ rN ρ
  | 0 => rcs_len
  | k + 1 => by
    rw [cdK]
    split
    · exact Nat.le_trans (List.length_filter_le _ _) (cdK_len k)
    · exact cdK_len k
theorem getD_mem {l : List Nat} {i : Nat} (h : i < l.length) : l.getD i 0 ∈ l := by
  rw [List.getD, List.getElem?_eq_getElem h]; exact List.getElem_mem h
theorem i_p2 : ∀ n, n < 5 → (1 : Int32) <<< (nI n &&& 31) = nI (2 ^ n) := by decide +kernel
def NaP (ρ : Rm) (se : List (Nat × Nat × Nat)) (σ0 : Mem) : Option Value → Mem → Prop := fun r σ' => r = none ∧ σ'.1 36 5 = nI (cdK ρ se se.length).length ∧ CdH (cdK ρ se se.length) σ' ∧ Eqc σ0 σ'
theorem NbP.eqc {ρ : Rm} {n r li : Nat} {l : List Nat} {σ σ' : Mem} (h1 : ∀ j, j ≠ 5 → σ'.1 36 j = σ.1 36 j) (h2 : Eqo [36, 40] σ σ') : Eqc σ σ' := by
  refine ⟨fun q j hq => ?_, h2.2⟩
  by_cases e : q = 36
  · subst e
    refine h1 j fun z => ?_
    subst z; cases hq
  · by_cases e2 : q = 40
    · subst e2; cases hq
    · rw [h2.1 q (by simp [e, e2])]

set_option maxRecDepth 100000 in
theorem qX5_narrow_l2 {ρ : Rm} (hr : okR ρ) {se : List (Nat × Nat × Nat)} (hv : seV se) {σ0 : Mem} : ∀ (k i : Nat) (σ : Mem), i + k = se.length → RP ρ σ → RT ρ σ → SeX se σ → σ.1 36 5 = nI (cdK ρ se i).length → CdH (cdK ρ se i) σ → Eqc σ0 σ → Vj shX 4 mX5_narrow (NaP ρ se σ0) 53 [some (.ref 36), some (.ref 10), some (.ref 25), some (.int (nI i))] [] σ := by
  intro k
  induction k with
  | zero =>
    intro i σ hi hP hT hS h5 hC hE
    have hl7 := hv.1
    obtain rfl : i = se.length := by omega
    refine Vj_iloadn (q := 54) dX5_narrow_53 rfl rfl rfl ?_
    refine Vj_aloadn (q := 55) dX5_narrow_54 rfl rfl rfl ?_
    refine Vj_getI (q := 58) flX5_24 rfl rfl dX5_narrow_55 rfl ?_
    rw [hS.1]
    refine Vj_icmp_ge (q := 61) (tgt := 126) dX5_narrow_58 (by decide) rfl (fun _ => ?_) (fun hz => absurd (nI_le (Nat.le_refl _) (by omega)) hz)
    exact Vr_vret rfl dX5_narrow_126 (⟨rfl, h5, hC, hE⟩)
  | succ k ih =>
    intro i σ hi hP hT hS h5 hC hE
    have hl7 := hv.1
    have hil : i < se.length := by omega
    obtain ⟨v1, v2, v3⟩ := hv.2 i hil
    obtain ⟨s1, s2, s3⟩ := hS.2 i hil
    have hp4 := p4_le hr.1
    have hn5 := hr.1
    have e2n : (2 : Nat) ^ rN ρ ≤ 16 := (Nat.pow_le_pow_right (by decide) (by omega) : 2 ^ rN ρ ≤ 2 ^ 4)
    refine Vj_iloadn (q := 54) dX5_narrow_53 rfl rfl rfl ?_
    refine Vj_aloadn (q := 55) dX5_narrow_54 rfl rfl rfl ?_
    refine Vj_getI (q := 58) flX5_24 rfl rfl dX5_narrow_55 rfl ?_
    rw [hS.1]
    refine Vj_icmp_ge (q := 61) (tgt := 126) dX5_narrow_58 (by decide) rfl (fun hz => absurd hz (nI_ge (by omega) (by omega))) (fun _ => ?_)
    refine Vj_aloadn (q := 62) dX5_narrow_61 rfl rfl rfl ?_
    refine Vj_aloadn (q := 63) dX5_narrow_62 rfl rfl rfl ?_
    refine Vj_getR (q := 66) flX5_9 rfl rfl dX5_narrow_63 rfl ?_
    refine Vj_iloadn (q := 67) dX5_narrow_66 rfl rfl rfl ?_
    refine Vj_callSi (q := 70) (qX9_atn rfl (by decide) (j := i) (by omega)) (by decide) lkX5_43 stX9_at okX9_at dX5_narrow_67 rfl rfl (Nat.le_of_ble_eq_true rfl) ?_
    rw [s1]
    refine Vj_aloadn (q := 71) dX5_narrow_70 rfl rfl rfl ?_
    refine Vj_getR (q := 74) flX5_15 rfl rfl dX5_narrow_71 rfl ?_
    refine Vj_iloadn (q := 75) dX5_narrow_74 rfl rfl rfl ?_
    refine Vj_callSi (q := 78) (qX9_atn rfl (by decide) (j := i) (by omega)) (by decide) lkX5_43 stX9_at okX9_at dX5_narrow_75 rfl rfl (Nat.le_of_ble_eq_true rfl) ?_
    rw [s2]
    refine Vj_callV (q := 81) (qX4_read (by omega) (by omega)) (by decide) rfl rfl lkX5_47 viX4_read okX4_read dX5_narrow_78 rfl rfl (Nat.le_of_ble_eq_true rfl) ?_
    rintro r1 σ1 ⟨rfl, hR, hE1⟩
    show Vj shX 4 mX5_narrow _ 81 _ [] σ1
    have f5 : σ1.1 36 5 = σ.1 36 5 := by rw [hE1.at 36 rfl]
    have hC1 : CdH (cdK ρ se i) σ1 := fun j hj => by rw [hE1.at 40 rfl]; exact hC j hj
    have hE1 := hE1.c rfl
    have hP1 := hP.eqc hE1
    have hT1 := hT.eqc hE1
    have hS1 := hS.eqc hE1
    have hE01 := hE.tr hE1
    refine Vj_aloadn (q := 82) dX5_narrow_81 rfl rfl rfl ?_
    refine Vj_aloadn (q := 83) dX5_narrow_82 rfl rfl rfl ?_
    refine Vj_callVi (q := 86) (qX4_isKnownTo hP1 hR (by omega)) (by decide) rfl rfl lkX5_53 viX4_isKnownTo okX4_isKnownTo dX5_narrow_83 rfl rfl (Nat.le_of_ble_eq_true rfl) ?_
    refine Vj_if_eq (q := 89) (tgt := 120) dX5_narrow_86 (by decide) rfl (fun h86 => ?_) (fun h86 => ?_)
    ·
      have hc : cdK ρ se (i + 1) = cdK ρ se i := by rw [cdK, lkS, bI_z.mp h86]; rfl
      refine Vs_iinc3 (q := 123) (z := none) dX5_narrow_120 rfl (by exact iinc_p _) (by decide) rfl ?_
      refine Vj_goto (q := 53) dX5_narrow_123 (by decide) ?_
      rw [nI_1]
      exact ih (i + 1) σ1 (by omega) hP1 hT1 hS1 (by rw [hc, f5]; exact h5) (by rw [hc]; exact hC1) hE01
    ·
      refine Vj_aloadn (q := 90) dX5_narrow_89 rfl rfl rfl ?_
      refine Vj_getR (q := 93) flX5_18 rfl rfl dX5_narrow_90 rfl ?_
      refine Vj_iloadn (q := 94) dX5_narrow_93 rfl rfl rfl ?_
      refine Vj_callSi (q := 97) (qX9_atn rfl (by decide) (j := i) (by omega)) (by decide) lkX5_43 stX9_at okX9_at dX5_narrow_94 rfl rfl (Nat.le_of_ble_eq_true rfl) ?_
      rw [(hS1.2 i hil).2.2]
      refine Vj_iconst (q := 98) (v := 1) dX5_narrow_97 rfl (by decide) ?_
      refine Vj_aloadn (q := 99) dX5_narrow_98 rfl rfl rfl ?_
      refine Vj_callVi (q := 102) (qX2_things hP1) (by decide) rfl rfl lkX5_57 viX2_things okX2_things dX5_narrow_99 rfl rfl (Nat.le_of_ble_eq_true rfl) ?_
      refine Vj_ishl (q := 103) dX5_narrow_102 rfl ?_
      rw [i_p2 _ hn5]
      refine Vj_icmp_ge (q := 106) (tgt := 120) dX5_narrow_103 (by decide) rfl (fun h103 => ?_) (fun h103 => ?_)
      ·
        have hc : cdK ρ se (i + 1) = cdK ρ se i := by rw [cdK, lkS, decide_eq_false (by have := (nI_leI (by omega) (by omega)).mp h103; omega), Bool.and_false]; rfl
        refine Vs_iinc3 (q := 123) (z := none) dX5_narrow_120 rfl (by exact iinc_p _) (by decide) rfl ?_
        refine Vj_goto (q := 53) dX5_narrow_123 (by decide) ?_
        rw [nI_1]
        exact ih (i + 1) σ1 (by omega) hP1 hT1 hS1 (by rw [hc, f5]; exact h5) (by rw [hc]; exact hC1) hE01
      ·
        refine Vj_aloadn (q := 107) dX5_narrow_106 rfl rfl rfl ?_
        refine Vj_aloadn (q := 108) dX5_narrow_107 rfl rfl rfl ?_
        refine Vj_aloadn (q := 109) dX5_narrow_108 rfl rfl rfl ?_
        refine Vj_aloadn (q := 110) dX5_narrow_109 rfl rfl rfl ?_
        refine Vj_getR (q := 113) flX5_18 rfl rfl dX5_narrow_110 rfl ?_
        refine Vj_iloadn (q := 114) dX5_narrow_113 rfl rfl rfl ?_
        refine Vj_callSi (q := 117) (qX9_atn rfl (by decide) (j := i) (by omega)) (by decide) lkX5_43 stX9_at okX9_at dX5_narrow_114 rfl rfl (Nat.le_of_ble_eq_true rfl) ?_
        rw [(hS1.2 i hil).2.2]
        refine Vj_callV (q := 120) (qX5_narrowBy hr (by omega) (bI_n.mp h86) v3 (l := cdK ρ se i) (fun j hj => (cdK_mem i (getD_mem hj)).1) (by have := cdK_len (ρ := ρ) (se := se) i; omega) hT1 hR (f5.trans h5) hC1) (by decide) rfl rfl lkX5_61 viX5_narrowBy okX5_narrowBy dX5_narrow_117 rfl rfl (Nat.le_of_ble_eq_true rfl) ?_
        rintro r2 σ2 ⟨rfl, g1, g2, g3, g4⟩
        show Vj shX 4 mX5_narrow _ 120 _ [] σ2
        have hE2 := NbP.eqc (ρ := ρ) (n := 0) (r := 0) (li := 0) (l := []) g3 g4
        have hlk : lkS ρ (se.getD i (0, 0, 0)) = true := by rw [lkS, bI_n.mp h86, decide_eq_true ((nI_ltI (by omega) (by omega)).mp (Int32.not_le.mp h103))]; rfl
        have hc : cdK ρ se (i + 1) = (cdK ρ se i).filter (sFi ρ (se.getD i (0, 0, 0))) := by rw [cdK, if_pos hlk]
        refine Vs_iinc3 (q := 123) (z := none) dX5_narrow_120 rfl (by exact iinc_p _) (by decide) rfl ?_
        refine Vj_goto (q := 53) dX5_narrow_123 (by decide) ?_
        rw [nI_1]
        exact ih (i + 1) σ2 (by omega) (hP1.eqc hE2) (hT1.eqc hE2) (hS1.eqc hE2) (by rw [hc]; exact g1) (by rw [hc]; exact g2) (hE01.tr hE2)
set_option maxRecDepth 100000 in
theorem qX5_narrow_l1 {ρ : Rm} (hr : okR ρ) {se : List (Nat × Nat × Nat)} (hv : seV se) {σ0 : Mem} : ∀ (k i : Nat) (σ : Mem), i + k = 4 ^ rN ρ → RP ρ σ → RT ρ σ → SeX se σ → σ.1 36 5 = nI (rcs ρ i).length → CdH (rcs ρ i) σ → Eqc σ0 σ → Vj shX 4 mX5_narrow (NaP ρ se σ0) 7 [some (.ref 36), some (.ref 10), some (.ref 25), some (.int (nI i))] [] σ := by
  intro k
  induction k with
  | zero =>
    intro i σ hi hP hT hS h5 hC hE
    have hp4 := p4_le hr.1
    obtain rfl : i = 4 ^ rN ρ := by omega
    refine Vj_iloadn (q := 8) dX5_narrow_7 rfl rfl rfl ?_
    refine Vj_aloadn (q := 9) dX5_narrow_8 rfl rfl rfl ?_
    refine Vj_getI (q := 12) flX5_35 rfl rfl dX5_narrow_9 rfl ?_
    rw [hT.1]
    refine Vj_icmp_ge (q := 15) (tgt := 51) dX5_narrow_12 (by decide) rfl (fun _ => ?_) (fun hz => absurd (nI_le (Nat.le_refl _) (by omega)) hz)
    refine Vj_iconst (q := 52) (v := 0) dX5_narrow_51 rfl (by decide) ?_
    refine Vs_istore3 (q := 53) dX5_narrow_52 rfl (by decide) rfl ?_
    exact qX5_narrow_l2 hr hv se.length 0 σ (by omega) hP hT hS h5 hC hE
  | succ k ih =>
    intro i σ hi hP hT hS h5 hC hE
    have hp4 := p4_le hr.1
    have hl := rcs_len (ρ := ρ) (K := i)
    refine Vj_iloadn (q := 8) dX5_narrow_7 rfl rfl rfl ?_
    refine Vj_aloadn (q := 9) dX5_narrow_8 rfl rfl rfl ?_
    refine Vj_getI (q := 12) flX5_35 rfl rfl dX5_narrow_9 rfl ?_
    rw [hT.1]
    refine Vj_icmp_ge (q := 15) (tgt := 51) dX5_narrow_12 (by decide) rfl (fun hz => absurd hz (nI_ge (by omega) (by omega))) (fun _ => ?_)
    refine Vj_aloadn (q := 16) dX5_narrow_15 rfl rfl rfl ?_
    refine Vj_iloadn (q := 17) dX5_narrow_16 rfl rfl rfl ?_
    refine Vj_callVi (q := 20) (qX2_isReal (c := i) (by omega)) (by decide) rfl rfl lkX5_39 viX2_isReal okX2_isReal dX5_narrow_17 rfl rfl (Nat.le_of_ble_eq_true rfl) ?_
    rw [rGo_real hr hT (by omega)]
    refine Vj_if_eq (q := 23) (tgt := 45) dX5_narrow_20 (by decide) rfl (fun h20 => ?_) (fun h20 => ?_)
    ·
      refine Vs_iinc3 (q := 48) (z := none) dX5_narrow_45 rfl (by exact iinc_p _) (by decide) rfl ?_
      refine Vj_goto (q := 7) dX5_narrow_48 (by decide) ?_
      have hc : rcs ρ (i + 1) = rcs ρ i := by rw [rcs_s, bI_z.mp h20, if_neg (by decide), List.append_nil]
      rw [nI_1]
      exact ih (i + 1) σ (by omega) hP hT hS (by rw [hc]; exact h5) (by rw [hc]; exact hC) hE
    ·
      refine Vj_aloadn (q := 24) dX5_narrow_23 rfl rfl rfl ?_
      refine Vj_getR (q := 27) flX5_21 rfl rfl dX5_narrow_24 rfl ?_
      refine Vj_aloadn (q := 28) dX5_narrow_27 rfl rfl rfl ?_
      refine Vj_getI (q := 31) flX5_32 rfl rfl dX5_narrow_28 rfl ?_
      rw [h5]
      refine Vj_iloadn (q := 32) dX5_narrow_31 rfl rfl rfl ?_
      refine Vj_callSv (q := 35) (qX9_putn rfl (by decide) (j := (rcs ρ i).length) (by omega) _) (by decide) lkX5_28 stX9_put okX9_put dX5_narrow_32 rfl rfl (Nat.le_of_ble_eq_true rfl) ?_
      refine Vj_aloadn (q := 36) dX5_narrow_35 rfl rfl rfl ?_
      refine Vj_dup (q := 37) dX5_narrow_36 rfl rfl ?_
      refine Vj_getI (q := 40) flX5_32 rfl rfl dX5_narrow_37 rfl ?_
      rw [uI_ne (by decide), h5]
      refine Vj_iconst (q := 41) (v := 1) dX5_narrow_40 rfl (by decide) ?_
      refine Vj_iadd (q := 42) dX5_narrow_41 rfl ?_
      rw [nI_1]
      refine Vj_putI (q := 45) flX5_32 rfl rfl dX5_narrow_42 rfl ?_
      refine Vs_iinc3 (q := 48) (z := none) dX5_narrow_45 rfl (by exact iinc_p _) (by decide) rfl ?_
      refine Vj_goto (q := 7) dX5_narrow_48 (by decide) ?_
      have hc : rcs ρ (i + 1) = rcs ρ i ++ [i] := by rw [rcs_s, bI_n.mp h20, if_pos rfl]
      have hE2 : Eqc σ (uI (uI σ 40 (rcs ρ i).length (nI i)) 36 5 (nI ((rcs ρ i).length + 1))) := (Eqc.rf.u rfl).u rfl
      rw [nI_1]
      refine ih (i + 1) _ (by omega) (hP.eqc hE2) (hT.eqc hE2) (hS.eqc hE2) (by rw [hc]; simp [uI, upd]) (fun j hj => ?_) (hE.tr hE2)
      rw [hc, List.length_append, List.length_singleton] at hj
      rw [uI_ne (by decide), uI_eq, upd, hc]
      by_cases e : j = (rcs ρ i).length
      · rw [if_pos e, e, getD_r]
      · rw [if_neg e, getD_l (by omega)]
        exact hC j (by omega)
set_option maxRecDepth 100000 in
theorem qX5_narrow {ρ : Rm} (hr : okR ρ) {se : List (Nat × Nat × Nat)} (hv : seV se) {σ : Mem} (hP : RP ρ σ) (hT : RT ρ σ) (hS : SeX se σ) : Ct shX 4 mX5_narrow [.ref 36, .ref 10, .ref 25] σ (NaP ρ se σ) := by
  refine Ct.of (by decide) (Nat.le_of_ble_eq_true rfl) (l := [some (.ref 36), some (.ref 10), some (.ref 25), none]) rfl ?_
  refine Vj_aloadn (q := 1) dX5_narrow_0 rfl rfl rfl ?_
  refine Vj_iconst (q := 2) (v := 0) dX5_narrow_1 rfl (by decide) ?_
  refine Vj_putI (q := 5) flX5_32 rfl rfl dX5_narrow_2 rfl ?_
  refine Vj_iconst (q := 6) (v := 0) dX5_narrow_5 rfl (by decide) ?_
  refine Vs_istore3 (q := 7) dX5_narrow_6 rfl (by decide) rfl ?_
  have hE2 : Eqc σ (uI σ 36 5 0) := Eqc.rf.u rfl
  exact qX5_narrow_l1 hr hv (4 ^ rN ρ) 0 _ (by omega) (hP.eqc hE2) (hT.eqc hE2) (hS.eqc hE2) (by simp [uI, upd, rcs, nI_0]) (fun j hj => by simp [rcs] at hj) hE2
/-! the row of acts -/
def pushA (ac : List (Nat × Nat × Nat)) (u : Nat × Nat × Nat) : List (Nat × Nat × Nat) := (if ac.length = 14 then ac.drop 1 else ac) ++ [u]
theorem getD_drop {ac : List (Nat × Nat × Nat)} {i : Nat} : (ac.drop 1).getD i (0, 0, 0) = ac.getD (i + 1) (0, 0, 0) := by
  rw [List.getD, List.getD, List.getElem?_drop, Nat.add_comm]
theorem pushA_len {ac : List (Nat × Nat × Nat)} {u : Nat × Nat × Nat} (h : ac.length < 15) : (pushA ac u).length = if ac.length = 14 then 14 else ac.length + 1 := by
  unfold pushA
  split
  · rename_i e; rw [List.length_append, List.length_drop, e]; rfl
  · rw [List.length_append]; rfl
/-- a row of acts without a new last one, in cells 29 to 31, and the new one stored -/
theorem AcX.push {ac : List (Nat × Nat × Nat)} {c d p : Nat} {σ : Mem} (hl : ac.length < 14) (hA : ∀ i, i < ac.length → σ.1 29 i = nI (ac.getD i (0, 0, 0)).1 ∧ σ.1 30 i = nI (ac.getD i (0, 0, 0)).2.1 ∧ σ.1 31 i = nI (ac.getD i (0, 0, 0)).2.2) (h0 : σ.1 0 11 = nI (ac.length + 1)) (hN : NwX c d p σ) : AcX (ac ++ [(c, d, p)]) (mSt 28 ac.length σ) := by
  have e0 : (mSt 28 ac.length σ).1 0 = σ.1 0 := by unfold mSt; rw [uI_ne (by decide), uI_ne (by decide), uI_ne (by decide)]
  have e1 : (mSt 28 ac.length σ).1 29 = upd (σ.1 29) ac.length (σ.1 27 0) := by unfold mSt; rw [uI_ne (by decide), uI_ne (by decide), uI_eq]
  have e2 : (mSt 28 ac.length σ).1 30 = upd (σ.1 30) ac.length (σ.1 27 1) := by unfold mSt; rw [uI_ne (by decide), uI_eq, uI_ne (by decide)]
  have e3 : (mSt 28 ac.length σ).1 31 = upd (σ.1 31) ac.length (σ.1 27 2) := by unfold mSt; rw [uI_eq, uI_ne (by decide), uI_ne (by decide)]
  refine ⟨by rw [e0, h0, List.length_append]; rfl, by rw [List.length_append, List.length_singleton]; omega, fun i hi => ?_⟩
  rw [List.length_append, List.length_singleton] at hi
  rw [e1, e2, e3, upd, upd, upd]
  by_cases e : i = ac.length
  · subst e
    simp only [if_pos, getD_r]
    exact hN
  · rw [if_neg e, if_neg e, if_neg e, getD_l (by omega)]
    exact hA i (by omega)
theorem mSt_Eqo {i : Nat} {S : List Nat} {σ σ' : Mem} (h : Eqo S σ σ') (h1 : S.contains 29 = true) (h2 : S.contains 30 = true) (h3 : S.contains 31 = true) : Eqo S σ (mSt 28 i σ') := ((h.u h1).u h2).u h3

set_option maxRecDepth 100000 in
theorem qX9_rememberAct {tx : List Nat} {ρ : Rm} {c d p : Nat} {ac : List (Nat × Nat × Nat)} {sl : Nat → Option (Nat × Nat × Nat)} {se : List (Nat × Nat × Nat)} {sd : Int64} {σ : Mem} (h : RX tx ρ c d p ac sl se sd σ) : Ct shX 2 mX9_rememberAct [.ref 0] σ (fun r σ' => r = none ∧ RX tx ρ c d p (pushA ac (c, d, p)) sl se sd σ') := by
  obtain ⟨hA0, hA1, hA2⟩ := h.2.2.2.2.2.1
  have hN := h.2.2.2.2.1
  refine Ct.of (by decide) (Nat.le_of_ble_eq_true rfl) (l := [some (.ref 0)]) rfl ?_
  refine Vj_aloadn (q := 1) dX9_rememberAct_0 rfl rfl rfl ?_
  refine Vj_getI (q := 4) flX9_121 rfl rfl dX9_rememberAct_1 rfl ?_
  rw [hA0]
  refine Vj_bipush (q := 6) (v := 14) dX9_rememberAct_4 rfl (by decide) ?_
  refine Vj_icmp_ne (q := 9) (tgt := 19) dX9_rememberAct_6 (by decide) rfl (fun h6 => ?_) (fun h6 => ?_)
  ·
    refine Vj_aloadn (q := 20) dX9_rememberAct_19 rfl rfl rfl ?_
    refine Vj_dup (q := 21) dX9_rememberAct_20 rfl rfl ?_
    refine Vj_getI (q := 24) flX9_121 rfl rfl dX9_rememberAct_21 rfl ?_
    rw [hA0]
    refine Vj_iconst (q := 25) (v := 1) dX9_rememberAct_24 rfl (by decide) ?_
    refine Vj_iadd (q := 26) dX9_rememberAct_25 rfl ?_
    have hl14 : ac.length ≠ 14 := nI_ne_of (b := 14) (by omega) (by decide) h6
    rw [nI_1]
    refine Vj_putI (q := 29) flX9_121 rfl rfl dX9_rememberAct_26 rfl ?_
    have eu : (uI σ 0 11 (nI (ac.length + 1))).1 0 11 = nI (ac.length + 1) := by simp [uI, upd]
    refine Vj_aloadn (q := 30) dX9_rememberAct_29 rfl rfl rfl ?_
    refine Vj_getR (q := 33) flX9_56 rfl rfl dX9_rememberAct_30 rfl ?_
    refine Vj_aloadn (q := 34) dX9_rememberAct_33 rfl rfl rfl ?_
    refine Vj_getI (q := 37) flX9_121 rfl rfl dX9_rememberAct_34 rfl ?_
    rw [eu]
    refine Vj_iconst (q := 38) (v := 1) dX9_rememberAct_37 rfl (by decide) ?_
    refine Vj_isub (q := 39) dX9_rememberAct_38 rfl ?_
    rw [show nI (ac.length + 1) - 1 = nI ac.length from nI_pred _]
    refine Vj_aloadn (q := 40) dX9_rememberAct_39 rfl rfl rfl ?_
    refine Vj_getR (q := 43) flX9_47 rfl rfl dX9_rememberAct_40 rfl ?_
    refine Vj_callVv (q := 46) (qX6_store SSh_28 (i := ac.length) (by omega)) (by decide) rfl rfl lkX9_288 viX6_store okX6_store dX9_rememberAct_43 rfl rfl (Nat.le_of_ble_eq_true rfl) ?_
    refine Vr_vret rfl dX9_rememberAct_46 ?_
    refine ⟨rfl, h.acts (mSt_Eqo (Eqo.rf.u rfl) rfl rfl rfl) ?_⟩
    rw [pushA, if_neg hl14]
    exact AcX.push (by omega) (fun i hi => by rw [uI_ne (by decide), uI_ne (by decide), uI_ne (by decide)]; exact hA2 i hi) eu (hN.of (uI_ne (by decide)))
  ·
    refine Vj_aloadn (q := 10) dX9_rememberAct_9 rfl rfl rfl ?_
    refine Vj_getR (q := 13) flX9_56 rfl rfl dX9_rememberAct_10 rfl ?_
    refine Vj_callV (q := 16) (qX6_forgetFirst) (by decide) rfl rfl lkX9_294 viX6_forgetFirst okX6_forgetFirst dX9_rememberAct_13 rfl rfl (Nat.le_of_ble_eq_true rfl) ?_
    rintro r1 σ1 ⟨rfl, g1, g2⟩
    show Vj shX 2 mX9_rememberAct _ 16 _ [] σ1
    have hl14 : ac.length = 14 := (nI_eq (b := 14) (by omega) (by decide)).mp h6
    refine Vj_goto (q := 29) dX9_rememberAct_16 (by decide) ?_
    have e0 : σ1.1 0 11 = nI 14 := by rw [g2.at 0 rfl, hA0, hl14]
    refine Vj_aloadn (q := 30) dX9_rememberAct_29 rfl rfl rfl ?_
    refine Vj_getR (q := 33) flX9_56 rfl rfl dX9_rememberAct_30 rfl ?_
    refine Vj_aloadn (q := 34) dX9_rememberAct_33 rfl rfl rfl ?_
    refine Vj_getI (q := 37) flX9_121 rfl rfl dX9_rememberAct_34 rfl ?_
    rw [e0]
    refine Vj_iconst (q := 38) (v := 1) dX9_rememberAct_37 rfl (by decide) ?_
    refine Vj_isub (q := 39) dX9_rememberAct_38 rfl ?_
    rw [show nI 14 - 1 = nI 13 from rfl]
    refine Vj_aloadn (q := 40) dX9_rememberAct_39 rfl rfl rfl ?_
    refine Vj_getR (q := 43) flX9_47 rfl rfl dX9_rememberAct_40 rfl ?_
    refine Vj_callVv (q := 46) (qX6_store SSh_28 (i := 13) (by decide)) (by decide) rfl rfl lkX9_288 viX6_store okX6_store dX9_rememberAct_43 rfl rfl (Nat.le_of_ble_eq_true rfl) ?_
    refine Vr_vret rfl dX9_rememberAct_46 ?_
    refine ⟨rfl, h.acts (mSt_Eqo (g2.in rfl) rfl rfl rfl) ?_⟩
    rw [pushA, if_pos hl14]
    have hl13 : (ac.drop 1).length = 13 := by rw [List.length_drop, hl14]
    have hz := AcX.push (ac := ac.drop 1) (c := c) (d := d) (p := p) (σ := σ1) (by omega) (fun i hi => ?_) (by rw [hl13]; exact e0) (hN.of (g2.at _ rfl))
    · rw [hl13] at hz; exact hz
    · rw [hl13] at hi
      rw [getD_drop, g1 29 (Or.inl rfl), g1 30 (Or.inr (Or.inl rfl)), g1 31 (Or.inr (Or.inr rfl))]
      simp only [if_pos (show i + 1 < 14 by omega)]
      exact hA2 (i + 1) (by omega)
