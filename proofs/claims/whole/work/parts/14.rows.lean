/-! a ROW of presses: figures of r, n of them -/
def dg (n r i : Nat) : Nat := r / 10 ^ (n - 1 - i) % 10
def bOk (ρ : Rm) (d : Nat) : Bool := decide (1 ≤ d ∧ d ≤ rB ρ)
def rKk (ρ : Rm) (n r : Nat) : Nat → Bool
  | 0 => true
  | k + 1 => rKk ρ n r k && bOk ρ (dg n r k)
/-- behind the first k presses -/
def rGo (ρ : Rm) (n r c : Nat) : Nat → Nat
  | 0 => c
  | k + 1 => cNx ρ (rGo ρ n r c k) (dg n r k - 1)
/-- all of the first K codes that are messes come to the target -/
def bAk (ρ : Rm) (n r to : Nat) : Nat → Bool
  | 0 => true
  | K + 1 => bAk ρ n r to K && (!cOk ρ K || rGo ρ n r K n == to)
theorem dg_lt (n r i : Nat) : dg n r i < 10 := Nat.mod_lt _ (by decide)
theorem hT_dg {ρ : Rm} (h : okR ρ) {d : Nat} (hd : d < 10) : hT (rB ρ) (nI d - 1) = bOk ρ d := by
  have hB := h.2.2.1
  unfold bOk
  cases d with
  | zero =>
    rw [decide_eq_false (by omega)]
    exact hT_n1 (by decide)
  | succ d =>
    rw [nI_pred]
    by_cases e : d < rB ρ
    · rw [decide_eq_true (by omega)]
      exact (hT_iff (by omega)).mpr ⟨d, e, rfl⟩
    · rw [decide_eq_false (by omega)]
      exact hT_n2 (nI_le (by omega) (by omega))
theorem bOk_1 {ρ : Rm} {d : Nat} (h : bOk ρ d = true) : 1 ≤ d ∧ d - 1 < rB ρ := by
  have := of_decide_eq_true h; omega
theorem rKk_at {ρ : Rm} {n r : Nat} : ∀ k, rKk ρ n r k = true → ∀ i, i < k → bOk ρ (dg n r i) = true
  | 0, _, i, hi => absurd hi (Nat.not_lt_zero i)
  | k + 1, h, i, hi => by
    rw [rKk, Bool.and_eq_true] at h
    by_cases e : i = k
    · rw [e]; exact h.2
    · exact rKk_at k h.1 i (by omega)
theorem rGo_lt {ρ : Rm} (h : okR ρ) {n r c : Nat} (hc : c < 4 ^ rN ρ) : ∀ k, rKk ρ n r k = true → rGo ρ n r c k < 4 ^ rN ρ
  | 0, _ => hc
  | k + 1, hk => by
    rw [rKk, Bool.and_eq_true] at hk
    exact cNx_lt h (rGo_lt h hc k hk.1) (bOk_1 hk.2).2
/-- what a Row holds -/
def RwH (n r : Nat) (σ : Mem) : Prop := σ.1 25 1 = nI n ∧ ∀ i, i < n → σ.1 26 i = nI (dg n r i)
def RdP (n r : Nat) (σ0 : Mem) : Option Value → Mem → Prop := fun x σ' => x = none ∧ RwH n r σ' ∧ Eqo [25, 26] σ0 σ'

set_option maxRecDepth 100000 in
theorem qX4_read_loop {n r : Nat} (hn : n < 7) (hr : r < 2 ^ 31) {σ0 : Mem} : ∀ (k : Nat) (σ : Mem), k ≤ n → σ.1 25 1 = nI n → (∀ i, k ≤ i → i < n → σ.1 26 i = nI (dg n r i)) → Eqo [25, 26] σ0 σ → Vj shX 1 mX4_read (RdP n r σ0) 12 [some (.ref 25), some (.int (nI n)), some (.int (nI r)), some (.int (nI (r / 10 ^ (n - k)))), some (.int (nI k - 1))] [] σ := by
  intro k
  induction k with
  | zero =>
    intro σ hk h1 hF hE
    refine Vj_iload (q := 14) dX4_read_12 rfl rfl ?_
    refine Vj_if_lt (q := 17) (tgt := 41) dX4_read_14 (by decide) rfl (fun _ => ?_) (fun hz => absurd (by decide) hz)
    exact Vr_vret rfl dX4_read_41 (⟨rfl, ⟨h1, fun i hi => hF i (Nat.zero_le i) hi⟩, hE⟩)
  | succ k ih =>
    intro σ hk h1 hF hE
    have hq : r / 10 ^ (n - (k + 1)) < 2 ^ 31 := Nat.lt_of_le_of_lt (Nat.div_le_self _ _) hr
    have e10 : r / 10 ^ (n - k) = r / 10 ^ (n - (k + 1)) / 10 := by rw [Nat.div_div_eq_div_mul, ← Nat.pow_succ]; congr 2; omega
    rw [nI_pred]
    refine Vj_iload (q := 14) dX4_read_12 rfl rfl ?_
    refine Vj_if_lt (q := 17) (tgt := 41) dX4_read_14 (by decide) rfl (fun hz => absurd hz (nI_pos (by omega))) (fun _ => ?_)
    refine Vj_aloadn (q := 18) dX4_read_17 rfl rfl rfl ?_
    refine Vj_getR (q := 21) flX4_9 rfl rfl dX4_read_18 rfl ?_
    refine Vj_iload (q := 23) dX4_read_21 rfl rfl ?_
    refine Vj_iloadn (q := 24) dX4_read_23 rfl rfl rfl ?_
    refine Vj_bipush (q := 26) (v := 10) dX4_read_24 rfl (by decide) ?_
    refine Vj_irem (q := 27) dX4_read_26 rfl (by decide) ?_
    rw [show (10 : Int32) = nI 10 from rfl, nI_mod hq (by decide) (by decide)]
    refine Vj_callSv (q := 30) (qX9_putn rfl (by decide) (j := k) (by omega) _) (by decide) lkX4_19 stX9_put okX9_put dX4_read_27 rfl rfl (Nat.le_of_ble_eq_true rfl) ?_
    refine Vj_iloadn (q := 31) dX4_read_30 rfl rfl rfl ?_
    refine Vj_bipush (q := 33) (v := 10) dX4_read_31 rfl (by decide) ?_
    refine Vj_idiv (q := 34) dX4_read_33 rfl (by decide) ?_
    rw [show (10 : Int32) = nI 10 from rfl, pk_div hq (by decide) (by decide), ← e10]
    refine Vs_istore3 (q := 35) dX4_read_34 rfl (by decide) rfl ?_
    refine Vs_iinc4 (q := 38) (z := none) dX4_read_35 rfl (by exact iinc_m _) (by decide) rfl ?_
    refine Vj_goto (q := 12) dX4_read_38 (by decide) ?_
    refine ih _ (by omega) (by rw [uI_ne (by decide)]; exact h1) (fun i h2 h3 => ?_) (hE.u rfl)
    rw [uI_eq, upd]
    by_cases e : i = k
    · subst e
      rw [if_pos rfl, dg, show n - 1 - i = n - (i + 1) by omega]
    · rw [if_neg e]; exact hF i (by omega) h3
set_option maxRecDepth 100000 in
theorem qX4_read {n r : Nat} (hn : n < 7) (hr : r < 2 ^ 31) {σ : Mem} : Ct shX 1 mX4_read [.ref 25, .int (nI n), .int (nI r)] σ (RdP n r σ) := by
  refine Ct.of (by decide) (Nat.le_of_ble_eq_true rfl) (l := [some (.ref 25), some (.int (nI n)), some (.int (nI r)), none, none]) rfl ?_
  refine Vj_aloadn (q := 1) dX4_read_0 rfl rfl rfl ?_
  refine Vj_iloadn (q := 2) dX4_read_1 rfl rfl rfl ?_
  refine Vj_putI (q := 5) flX4_15 rfl rfl dX4_read_2 rfl ?_
  refine Vj_iloadn (q := 6) dX4_read_5 rfl rfl rfl ?_
  refine Vs_istore3 (q := 7) dX4_read_6 rfl (by decide) rfl ?_
  refine Vj_iloadn (q := 8) dX4_read_7 rfl rfl rfl ?_
  refine Vj_iconst (q := 9) (v := 1) dX4_read_8 rfl (by decide) ?_
  refine Vj_isub (q := 10) dX4_read_9 rfl ?_
  refine Vs_istore4 (q := 12) dX4_read_10 rfl (by decide) rfl ?_
  have e : some (Value.int (nI r)) = some (Value.int (nI (r / 10 ^ (n - n)))) := by rw [Nat.sub_self, Nat.pow_zero, Nat.div_one]
  rw [show [some (Value.ref 25), some (Value.int (nI n)), some (Value.int (nI r)), some (Value.int (nI r)), some (Value.int (nI n - 1))] = [some (Value.ref 25), some (Value.int (nI n)), some (Value.int (nI r)), some (Value.int (nI (r / 10 ^ (n - n)))), some (Value.int (nI n - 1))] by rw [Nat.sub_self, Nat.pow_zero, Nat.div_one]]
  exact qX4_read_loop hn hr n _ (Nat.le_refl n) (by simp [uI, upd]) (fun i h1 h2 => absurd h1 (by omega)) (Eqo.rf.u rfl)
set_option maxRecDepth 100000 in
theorem qX4_buttonAt {σ : Mem} {n r i : Nat} (hR : RwH n r σ) (hn : n < 7) (hi : i < n) : Ct shX 1 mX4_buttonAt [.ref 25, .int (nI i)] σ (Ri (nI (dg n r i) - 1) σ) := by
  refine Ct.of (by decide) (Nat.le_of_ble_eq_true rfl) (l := [some (.ref 25), some (.int (nI i))]) rfl ?_
  refine Vj_aloadn (q := 1) dX4_buttonAt_0 rfl rfl rfl ?_
  refine Vj_getR (q := 4) flX4_9 rfl rfl dX4_buttonAt_1 rfl ?_
  refine Vj_iloadn (q := 5) dX4_buttonAt_4 rfl rfl rfl ?_
  refine Vj_callSi (q := 8) (qX9_atn rfl (by decide) (j := i) (by omega)) (by decide) lkX4_23 stX9_at okX9_at dX4_buttonAt_5 rfl rfl (Nat.le_of_ble_eq_true rfl) ?_
  rw [hR.2 i hi]
  refine Vj_iconst (q := 9) (v := 1) dX4_buttonAt_8 rfl (by decide) ?_
  refine Vj_isub (q := 10) dX4_buttonAt_9 rfl ?_
  exact Vr_iret rfl rfl dX4_buttonAt_10 (⟨rfl, rfl⟩)
set_option maxRecDepth 100000 in
theorem qX4_isKnownTo_loop {ρ : Rm} {σ : Mem} (h : RP ρ σ) {n r : Nat} (hR : RwH n r σ) (hn : n < 7) : ∀ k i : Nat, i + k = n → rKk ρ n r i = true → Vj shX 2 mX4_isKnownTo (Ri (bI (rKk ρ n r n)) σ) 2 [some (.ref 25), some (.ref 10), some (.int (nI i))] [] σ := by
  intro k
  induction k with
  | zero =>
    intro i hi hk
    obtain rfl : i = n := by omega
    refine Vj_iloadn (q := 3) dX4_isKnownTo_2 rfl rfl rfl ?_
    refine Vj_aloadn (q := 4) dX4_isKnownTo_3 rfl rfl rfl ?_
    refine Vj_getI (q := 7) flX4_15 rfl rfl dX4_isKnownTo_4 rfl ?_
    rw [hR.1]
    refine Vj_icmp_ge (q := 10) (tgt := 30) dX4_isKnownTo_7 (by decide) rfl (fun _ => ?_) (fun hz => absurd (nI_le (Nat.le_refl _) (by omega)) hz)
    refine Vj_iconst (q := 31) (v := 1) dX4_isKnownTo_30 rfl (by decide) ?_
    exact Vr_iret rfl rfl dX4_isKnownTo_31 (⟨by rw [hk]; rfl, rfl⟩)
  | succ k ih =>
    intro i hi hk
    refine Vj_iloadn (q := 3) dX4_isKnownTo_2 rfl rfl rfl ?_
    refine Vj_aloadn (q := 4) dX4_isKnownTo_3 rfl rfl rfl ?_
    refine Vj_getI (q := 7) flX4_15 rfl rfl dX4_isKnownTo_4 rfl ?_
    rw [hR.1]
    refine Vj_icmp_ge (q := 10) (tgt := 30) dX4_isKnownTo_7 (by decide) rfl (fun hz => absurd hz (nI_ge (by omega) (by omega))) (fun _ => ?_)
    refine Vj_aloadn (q := 11) dX4_isKnownTo_10 rfl rfl rfl ?_
    refine Vj_aloadn (q := 12) dX4_isKnownTo_11 rfl rfl rfl ?_
    refine Vj_iloadn (q := 13) dX4_isKnownTo_12 rfl rfl rfl ?_
    refine Vj_callVi (q := 16) (qX4_buttonAt hR hn (by omega)) (by decide) rfl rfl lkX4_27 viX4_buttonAt okX4_buttonAt dX4_isKnownTo_13 rfl rfl (Nat.le_of_ble_eq_true rfl) ?_
    refine Vj_callVi (q := 19) (qX2_hasButton h _) (by decide) rfl rfl lkX4_31 viX2_hasButton okX2_hasButton dX4_isKnownTo_16 rfl rfl (Nat.le_of_ble_eq_true rfl) ?_
    rw [hT_dg h.1 (dg_lt n r i)]
    refine Vj_if_ne (q := 22) (tgt := 24) dX4_isKnownTo_19 (by decide) rfl (fun h19 => ?_) (fun h19 => ?_)
    ·
      refine Vs_iinc2 (q := 27) (z := none) dX4_isKnownTo_24 rfl (by exact iinc_p _) (by decide) rfl ?_
      refine Vj_goto (q := 2) dX4_isKnownTo_27 (by decide) ?_
      rw [nI_1]
      exact ih (i + 1) (by omega) (by rw [rKk, hk, bI_n.mp h19]; rfl)
    ·
      refine Vj_iconst (q := 23) (v := 0) dX4_isKnownTo_22 rfl (by decide) ?_
      refine Vr_iret rfl rfl dX4_isKnownTo_23 ?_
      have hf : rKk ρ n r n = false := by
        refine Bool.eq_false_iff.mpr fun z => ?_
        have := rKk_at n z i (by omega)
        rw [bI_z.mp h19] at this; cases this
      exact ⟨by rw [hf]; rfl, rfl⟩
set_option maxRecDepth 100000 in
theorem qX4_isKnownTo {ρ : Rm} {σ : Mem} (h : RP ρ σ) {n r : Nat} (hR : RwH n r σ) (hn : n < 7) : Ct shX 2 mX4_isKnownTo [.ref 25, .ref 10] σ (Ri (bI (rKk ρ n r n)) σ) := by
  refine Ct.of (by decide) (Nat.le_of_ble_eq_true rfl) (l := [some (.ref 25), some (.ref 10), none]) rfl ?_
  refine Vj_iconst (q := 1) (v := 0) dX4_isKnownTo_0 rfl (by decide) ?_
  refine Vs_istore2 (q := 2) dX4_isKnownTo_1 rfl (by decide) rfl ?_
  exact qX4_isKnownTo_loop h hR hn n 0 (by omega) rfl
set_option maxRecDepth 100000 in
theorem qX4_behind_loop {ρ : Rm} {σ : Mem} (hr : okR ρ) (hT : RT ρ σ) {n r : Nat} (hR : RwH n r σ) (hn : n < 7) (hk : rKk ρ n r n = true) {c : Nat} (hc : c < 4 ^ rN ρ) : ∀ k i : Nat, i + k = n → Vj shX 2 mX4_behind (Ri (nI (rGo ρ n r c n)) σ) 5 [some (.ref 25), some (.ref 10), some (.int (nI c)), some (.int (nI (rGo ρ n r c i))), some (.int (nI i))] [] σ := by
  intro k
  induction k with
  | zero =>
    intro i hi
    obtain rfl : i = n := by omega
    refine Vj_iload (q := 7) dX4_behind_5 rfl rfl ?_
    refine Vj_aloadn (q := 8) dX4_behind_7 rfl rfl rfl ?_
    refine Vj_getI (q := 11) flX4_15 rfl rfl dX4_behind_8 rfl ?_
    rw [hR.1]
    refine Vj_icmp_ge (q := 14) (tgt := 32) dX4_behind_11 (by decide) rfl (fun _ => ?_) (fun hz => absurd (nI_le (Nat.le_refl _) (by omega)) hz)
    refine Vj_iloadn (q := 33) dX4_behind_32 rfl rfl rfl ?_
    exact Vr_iret rfl rfl dX4_behind_33 (⟨rfl, rfl⟩)
  | succ k ih =>
    intro i hi
    have hp4 := p4_le hr.1
    have hB := hr.2.2.1
    have hb := bOk_1 (rKk_at n hk i (by omega))
    have hkk : ∀ j, j ≤ n → rKk ρ n r j = true := by
      intro j hj
      induction j with
      | zero => rfl
      | succ j ij => rw [rKk, ij (by omega), rKk_at n hk j (by omega)]; rfl
    have hx := rGo_lt hr (n := n) (r := r) hc i (hkk i (by omega))
    refine Vj_iload (q := 7) dX4_behind_5 rfl rfl ?_
    refine Vj_aloadn (q := 8) dX4_behind_7 rfl rfl rfl ?_
    refine Vj_getI (q := 11) flX4_15 rfl rfl dX4_behind_8 rfl ?_
    rw [hR.1]
    refine Vj_icmp_ge (q := 14) (tgt := 32) dX4_behind_11 (by decide) rfl (fun hz => absurd hz (nI_ge (by omega) (by omega))) (fun _ => ?_)
    refine Vj_aloadn (q := 15) dX4_behind_14 rfl rfl rfl ?_
    refine Vj_iloadn (q := 16) dX4_behind_15 rfl rfl rfl ?_
    refine Vj_aloadn (q := 17) dX4_behind_16 rfl rfl rfl ?_
    refine Vj_iload (q := 19) dX4_behind_17 rfl rfl ?_
    refine Vj_callVi (q := 22) (qX4_buttonAt hR hn (by omega)) (by decide) rfl rfl lkX4_27 viX4_buttonAt okX4_buttonAt dX4_behind_19 rfl rfl (Nat.le_of_ble_eq_true rfl) ?_
    rw [show nI (dg n r i) - 1 = nI (dg n r i - 1) from pk_sub (b := 1) hb.1]
    refine Vj_callVi (q := 25) (qX2_behind (by omega) (by omega)) (by decide) rfl rfl lkX4_37 viX2_behind okX2_behind dX4_behind_22 rfl rfl (Nat.le_of_ble_eq_true rfl) ?_
    rw [(hT.2 _ hx).2.2 _ hb.2]
    refine Vs_istore3 (q := 26) dX4_behind_25 rfl (by decide) rfl ?_
    refine Vs_iinc4 (q := 29) (z := none) dX4_behind_26 rfl (by exact iinc_p _) (by decide) rfl ?_
    refine Vj_goto (q := 5) dX4_behind_29 (by decide) ?_
    rw [nI_1]
    exact ih (i + 1) (by omega)
set_option maxRecDepth 100000 in
theorem qX4_behind {ρ : Rm} {σ : Mem} (hr : okR ρ) (hT : RT ρ σ) {n r : Nat} (hR : RwH n r σ) (hn : n < 7) (hk : rKk ρ n r n = true) {c : Nat} (hc : c < 4 ^ rN ρ) : Ct shX 2 mX4_behind [.ref 25, .ref 10, .int (nI c)] σ (Ri (nI (rGo ρ n r c n)) σ) := by
  refine Ct.of (by decide) (Nat.le_of_ble_eq_true rfl) (l := [some (.ref 25), some (.ref 10), some (.int (nI c)), none, none]) rfl ?_
  refine Vj_iloadn (q := 1) dX4_behind_0 rfl rfl rfl ?_
  refine Vs_istore3 (q := 2) dX4_behind_1 rfl (by decide) rfl ?_
  refine Vj_iconst (q := 3) (v := 0) dX4_behind_2 rfl (by decide) ?_
  refine Vs_istore4 (q := 5) dX4_behind_3 rfl (by decide) rfl ?_
  exact qX4_behind_loop hr hT hR hn hk hc n 0 (by omega)
theorem rGo_real {ρ : Rm} {σ : Mem} (hr : okR ρ) (hT : RT ρ σ) {c : Nat} (hc : c < 4 ^ rN ρ) : decide (¬ σ.1 17 c = -1) = cOk ρ c := by
  rw [(hT.2 c hc).1]
  cases e : cOk ρ c with
  | true =>
    rw [if_pos rfl]
    refine decide_eq_true fun z => ?_
    have h1 := cDg_lt (rN ρ) c (rN ρ)
    have h2 : 10 ^ rN ρ ≤ 10 ^ 4 := Nat.pow_le_pow_right (by decide) (by have := hr.1; omega)
    have := nI_pos' (n := cDg (rN ρ) c (rN ρ)) (by omega)
    rw [z] at this
    exact absurd this (by decide)
  | false => rw [if_neg (by decide)]; rfl
theorem bAk_f {ρ : Rm} {n r to i : Nat} (h1 : cOk ρ i = true) (h2 : ¬ rGo ρ n r i n = to) : ∀ K, i < K → bAk ρ n r to K = false
  | 0, h => absurd h (Nat.not_lt_zero i)
  | K + 1, h => by
    rw [bAk]
    by_cases e : i = K
    · subst e; rw [h1, show (rGo ρ n r i n == to) = false from beq_eq_false_iff_ne.mpr h2]; simp
    · rw [bAk_f h1 h2 K (by omega)]; rfl

set_option maxRecDepth 100000 in
theorem qX4_bringsAll_loop {ρ : Rm} {σ : Mem} (hr : okR ρ) (hT : RT ρ σ) {n r : Nat} (hR : RwH n r σ) (hn : n < 7) (hk : rKk ρ n r n = true) {to : Nat} (hto : to < 4 ^ rN ρ) : ∀ k i : Nat, i + k = 4 ^ rN ρ → bAk ρ n r to i = true → Vj shX 3 mX4_bringsAll (Ri (bI (bAk ρ n r to (4 ^ rN ρ))) σ) 2 [some (.ref 25), some (.ref 10), some (.int (nI to)), some (.int (nI i))] [] σ := by
  intro k
  induction k with
  | zero =>
    intro i hi hb
    have hp4 := p4_le hr.1
    obtain rfl : i = 4 ^ rN ρ := by omega
    refine Vj_iloadn (q := 3) dX4_bringsAll_2 rfl rfl rfl ?_
    refine Vj_aloadn (q := 4) dX4_bringsAll_3 rfl rfl rfl ?_
    refine Vj_getI (q := 7) flX4_41 rfl rfl dX4_bringsAll_4 rfl ?_
    rw [hT.1]
    refine Vj_icmp_ge (q := 10) (tgt := 36) dX4_bringsAll_7 (by decide) rfl (fun _ => ?_) (fun hz => absurd (nI_le (Nat.le_refl _) (by omega)) hz)
    refine Vj_iconst (q := 37) (v := 1) dX4_bringsAll_36 rfl (by decide) ?_
    exact Vr_iret rfl rfl dX4_bringsAll_37 (⟨by rw [hb]; rfl, rfl⟩)
  | succ k ih =>
    intro i hi hb
    have hp4 := p4_le hr.1
    have hx := rGo_lt hr (n := n) (r := r) (c := i) (by omega) n hk
    refine Vj_iloadn (q := 3) dX4_bringsAll_2 rfl rfl rfl ?_
    refine Vj_aloadn (q := 4) dX4_bringsAll_3 rfl rfl rfl ?_
    refine Vj_getI (q := 7) flX4_41 rfl rfl dX4_bringsAll_4 rfl ?_
    rw [hT.1]
    refine Vj_icmp_ge (q := 10) (tgt := 36) dX4_bringsAll_7 (by decide) rfl (fun hz => absurd hz (nI_ge (by omega) (by omega))) (fun _ => ?_)
    refine Vj_aloadn (q := 11) dX4_bringsAll_10 rfl rfl rfl ?_
    refine Vj_iloadn (q := 12) dX4_bringsAll_11 rfl rfl rfl ?_
    refine Vj_callVi (q := 15) (qX2_isReal (c := i) (by omega)) (by decide) rfl rfl lkX4_44 viX2_isReal okX2_isReal dX4_bringsAll_12 rfl rfl (Nat.le_of_ble_eq_true rfl) ?_
    rw [rGo_real hr hT (by omega)]
    refine Vj_if_eq (q := 18) (tgt := 30) dX4_bringsAll_15 (by decide) rfl (fun h15 => ?_) (fun h15 => ?_)
    ·
      refine Vs_iinc3 (q := 33) (z := none) dX4_bringsAll_30 rfl (by exact iinc_p _) (by decide) rfl ?_
      refine Vj_goto (q := 2) dX4_bringsAll_33 (by decide) ?_
      rw [nI_1]
      exact ih (i + 1) (by omega) (by rw [bAk, hb, bI_z.mp h15]; rfl)
    ·
      refine Vj_aloadn (q := 19) dX4_bringsAll_18 rfl rfl rfl ?_
      refine Vj_aloadn (q := 20) dX4_bringsAll_19 rfl rfl rfl ?_
      refine Vj_iloadn (q := 21) dX4_bringsAll_20 rfl rfl rfl ?_
      refine Vj_callVi (q := 24) (qX4_behind hr hT hR hn hk (c := i) (by omega)) (by decide) rfl rfl lkX4_47 viX4_behind okX4_behind dX4_bringsAll_21 rfl rfl (Nat.le_of_ble_eq_true rfl) ?_
      refine Vj_iloadn (q := 25) dX4_bringsAll_24 rfl rfl rfl ?_
      refine Vj_icmp_eq (q := 28) (tgt := 30) dX4_bringsAll_25 (by decide) rfl (fun h25 => ?_) (fun h25 => ?_)
      ·
        refine Vs_iinc3 (q := 33) (z := none) dX4_bringsAll_30 rfl (by exact iinc_p _) (by decide) rfl ?_
        refine Vj_goto (q := 2) dX4_bringsAll_33 (by decide) ?_
        rw [nI_1]
        exact ih (i + 1) (by omega) (by rw [bAk, hb, (nI_eq (by omega) (by omega)).mp h25]; simp)
      ·
        refine Vj_iconst (q := 29) (v := 0) dX4_bringsAll_28 rfl (by decide) ?_
        exact Vr_iret rfl rfl dX4_bringsAll_29 (⟨by rw [bAk_f (bI_n.mp h15) (nI_ne_of (by omega) (by omega) h25) _ (by omega)]; rfl, rfl⟩)
set_option maxRecDepth 100000 in
theorem qX4_bringsAll {ρ : Rm} {σ : Mem} (hr : okR ρ) (hT : RT ρ σ) {n r : Nat} (hR : RwH n r σ) (hn : n < 7) (hk : rKk ρ n r n = true) {to : Nat} (hto : to < 4 ^ rN ρ) : Ct shX 3 mX4_bringsAll [.ref 25, .ref 10, .int (nI to)] σ (Ri (bI (bAk ρ n r to (4 ^ rN ρ))) σ) := by
  refine Ct.of (by decide) (Nat.le_of_ble_eq_true rfl) (l := [some (.ref 25), some (.ref 10), some (.int (nI to)), none]) rfl ?_
  refine Vj_iconst (q := 1) (v := 0) dX4_bringsAll_0 rfl (by decide) ?_
  refine Vs_istore3 (q := 2) dX4_bringsAll_1 rfl (by decide) rfl ?_
  exact qX4_bringsAll_loop hr hT hR hn hk hto (4 ^ rN ρ) 0 (by omega) rfl
/-! shelves -/
def SSh (q n : Nat) : Prop := shX[q]? = some (.inr (6, [(2, q + 1), (2, q + 2), (2, q + 3)])) ∧ shX[q + 1]? = some (.inl (0, n)) ∧ shX[q + 2]? = some (.inl (0, n)) ∧ shX[q + 3]? = some (.inl (0, n)) ∧ n < 2 ^ 31 ∧ (27 < q)
theorem SSh_28 : SSh 28 14 := ⟨rfl, rfl, rfl, rfl, by decide, by decide⟩
theorem SSh_32 : SSh 32 2 := ⟨rfl, rfl, rfl, rfl, by decide, by decide⟩
def mSt (q i : Nat) (σ : Mem) : Mem := uI (uI (uI σ (q + 1) i (σ.1 27 0)) (q + 2) i (σ.1 27 1)) (q + 3) i (σ.1 27 2)
def mFe (q i : Nat) (σ : Mem) : Mem := uI (uI (uI σ 27 0 (σ.1 (q + 1) i)) 27 1 (σ.1 (q + 2) i)) 27 2 (σ.1 (q + 3) i)

set_option maxRecDepth 100000 in
theorem qX6_store {σ : Mem} {q n i : Nat} (hq : SSh q n) (hi : i < n) : Ct shX 1 mX6_store [.ref q, .int (nI i), .ref 27] σ (Rv (mSt q i σ)) := by
  have h27 := hq.2.2.2.2.2
  refine Ct.of (by decide) (Nat.le_of_ble_eq_true rfl) (l := [some (.ref q), some (.int (nI i)), some (.ref 27)]) rfl ?_
  refine Vj_aloadn (q := 1) dX6_store_0 rfl rfl rfl ?_
  refine Vj_getR (q := 4) flX6_15 hq.1 rfl dX6_store_1 rfl ?_
  refine Vj_iloadn (q := 5) dX6_store_4 rfl rfl rfl ?_
  refine Vj_aloadn (q := 6) dX6_store_5 rfl rfl rfl ?_
  refine Vj_getI (q := 9) flX6_33 rfl rfl dX6_store_6 rfl ?_
  refine Vj_callSv (q := 12) (qX9_putn hq.2.1 hq.2.2.2.2.1 hi _) (by decide) lkX6_38 stX9_put okX9_put dX6_store_9 rfl rfl (Nat.le_of_ble_eq_true rfl) ?_
  refine Vj_aloadn (q := 13) dX6_store_12 rfl rfl rfl ?_
  refine Vj_getR (q := 16) flX6_21 hq.1 rfl dX6_store_13 rfl ?_
  refine Vj_iloadn (q := 17) dX6_store_16 rfl rfl rfl ?_
  refine Vj_aloadn (q := 18) dX6_store_17 rfl rfl rfl ?_
  refine Vj_getI (q := 21) flX6_42 rfl rfl dX6_store_18 rfl ?_
  rw [uI_ne (show 27 ≠ q + 1 by omega)]
  refine Vj_callSv (q := 24) (qX9_putn hq.2.2.1 hq.2.2.2.2.1 hi _) (by decide) lkX6_38 stX9_put okX9_put dX6_store_21 rfl rfl (Nat.le_of_ble_eq_true rfl) ?_
  refine Vj_aloadn (q := 25) dX6_store_24 rfl rfl rfl ?_
  refine Vj_getR (q := 28) flX6_24 hq.1 rfl dX6_store_25 rfl ?_
  refine Vj_iloadn (q := 29) dX6_store_28 rfl rfl rfl ?_
  refine Vj_aloadn (q := 30) dX6_store_29 rfl rfl rfl ?_
  refine Vj_getI (q := 33) flX6_44 rfl rfl dX6_store_30 rfl ?_
  rw [uI_ne (show 27 ≠ q + 2 by omega), uI_ne (show 27 ≠ q + 1 by omega)]
  refine Vj_callSv (q := 36) (qX9_putn hq.2.2.2.1 hq.2.2.2.2.1 hi _) (by decide) lkX6_38 stX9_put okX9_put dX6_store_33 rfl rfl (Nat.le_of_ble_eq_true rfl) ?_
  exact Vr_vret rfl dX6_store_36 (⟨rfl, rfl⟩)
set_option maxRecDepth 100000 in
theorem qX6_fetch {σ : Mem} {q n i : Nat} (hq : SSh q n) (hi : i < n) : Ct shX 1 mX6_fetch [.ref q, .int (nI i), .ref 27] σ (Rv (mFe q i σ)) := by
  have h27 := hq.2.2.2.2.2
  refine Ct.of (by decide) (Nat.le_of_ble_eq_true rfl) (l := [some (.ref q), some (.int (nI i)), some (.ref 27)]) rfl ?_
  refine Vj_aloadn (q := 1) dX6_fetch_0 rfl rfl rfl ?_
  refine Vj_aloadn (q := 2) dX6_fetch_1 rfl rfl rfl ?_
  refine Vj_getR (q := 5) flX6_15 hq.1 rfl dX6_fetch_2 rfl ?_
  refine Vj_iloadn (q := 6) dX6_fetch_5 rfl rfl rfl ?_
  refine Vj_callSi (q := 9) (qX9_atn hq.2.1 hq.2.2.2.2.1 hi) (by decide) lkX6_46 stX9_at okX9_at dX6_fetch_6 rfl rfl (Nat.le_of_ble_eq_true rfl) ?_
  refine Vj_putI (q := 12) flX6_33 rfl rfl dX6_fetch_9 rfl ?_
  refine Vj_aloadn (q := 13) dX6_fetch_12 rfl rfl rfl ?_
  refine Vj_aloadn (q := 14) dX6_fetch_13 rfl rfl rfl ?_
  refine Vj_getR (q := 17) flX6_21 hq.1 rfl dX6_fetch_14 rfl ?_
  refine Vj_iloadn (q := 18) dX6_fetch_17 rfl rfl rfl ?_
  refine Vj_callSi (q := 21) (qX9_atn hq.2.2.1 hq.2.2.2.2.1 hi) (by decide) lkX6_46 stX9_at okX9_at dX6_fetch_18 rfl rfl (Nat.le_of_ble_eq_true rfl) ?_
  rw [uI_ne (show q + 2 ≠ 27 by omega)]
  refine Vj_putI (q := 24) flX6_42 rfl rfl dX6_fetch_21 rfl ?_
  refine Vj_aloadn (q := 25) dX6_fetch_24 rfl rfl rfl ?_
  refine Vj_aloadn (q := 26) dX6_fetch_25 rfl rfl rfl ?_
  refine Vj_getR (q := 29) flX6_24 hq.1 rfl dX6_fetch_26 rfl ?_
  refine Vj_iloadn (q := 30) dX6_fetch_29 rfl rfl rfl ?_
  refine Vj_callSi (q := 33) (qX9_atn hq.2.2.2.1 hq.2.2.2.2.1 hi) (by decide) lkX6_46 stX9_at okX9_at dX6_fetch_30 rfl rfl (Nat.le_of_ble_eq_true rfl) ?_
  rw [uI_ne (show q + 3 ≠ 27 by omega), uI_ne (show q + 3 ≠ 27 by omega)]
  refine Vj_putI (q := 36) flX6_44 rfl rfl dX6_fetch_33 rfl ?_
  exact Vr_vret rfl dX6_fetch_36 (⟨rfl, rfl⟩)
set_option maxRecDepth 100000 in
theorem qX6_holds {σ : Mem} {i : Nat} (hi : i < 2) : Ct shX 1 mX6_holds [.ref 32, .int (nI i)] σ (Ri (bI (decide (¬ σ.1 35 i = -1))) σ) := by
  refine Ct.of (by decide) (Nat.le_of_ble_eq_true rfl) (l := [some (.ref 32), some (.int (nI i))]) rfl ?_
  refine Vj_aloadn (q := 1) dX6_holds_0 rfl rfl rfl ?_
  refine Vj_getR (q := 4) flX6_24 rfl rfl dX6_holds_1 rfl ?_
  refine Vj_iloadn (q := 5) dX6_holds_4 rfl rfl rfl ?_
  refine Vj_callSi (q := 8) (qX9_atn rfl (by decide) hi) (by decide) lkX6_46 stX9_at okX9_at dX6_holds_5 rfl rfl (Nat.le_of_ble_eq_true rfl) ?_
  refine Vj_iconst (q := 9) (v := (-1)) dX6_holds_8 rfl (by decide) ?_
  refine Vj_icmp_eq (q := 12) (tgt := 16) dX6_holds_9 (by decide) rfl (fun h9 => ?_) (fun h9 => ?_)
  ·
    refine Vj_iconst (q := 17) (v := 0) dX6_holds_16 rfl (by decide) ?_
    exact Vr_iret rfl rfl dX6_holds_17 (⟨by rw [decide_eq_false (fun z => z h9)]; rfl, rfl⟩)
  ·
    refine Vj_iconst (q := 13) (v := 1) dX6_holds_12 rfl (by decide) ?_
    refine Vj_goto (q := 17) dX6_holds_13 (by decide) ?_
    exact Vr_iret rfl rfl dX6_holds_17 (⟨by rw [decide_eq_true h9]; rfl, rfl⟩)
set_option maxRecDepth 100000 in
theorem qX6_empty {σ : Mem} : Ct shX 1 mX6_empty [.ref 32] σ (Rv (fillM σ 35 2 (-1))) := by
  refine Ct.of (by decide) (Nat.le_of_ble_eq_true rfl) (l := [some (.ref 32)]) rfl ?_
  refine Vj_aloadn (q := 1) dX6_empty_0 rfl rfl rfl ?_
  refine Vj_getR (q := 4) flX6_24 rfl rfl dX6_empty_1 rfl ?_
  refine Vj_iconst (q := 5) (v := (-1)) dX6_empty_4 rfl (by decide) ?_
  refine Vj_callSv (q := 8) (qJ7_fill_53178 rfl (by decide) (-1)) (by decide) lkX6_27 stJ7_fill_53178 okJ7_fill_53178 dX6_empty_5 rfl rfl (Nat.le_of_ble_eq_true rfl) ?_
  exact Vr_vret rfl dX6_empty_8 (⟨rfl, rfl⟩)
/-- the first one is forgotten: what stands at the places below k - 1 came from one further -/
def FgI (σ0 : Mem) (k : Nat) (σ : Mem) : Prop := (∀ q, q = 29 ∨ q = 30 ∨ q = 31 → ∀ j, σ.1 q j = if j + 1 < k then σ0.1 q (j + 1) else σ0.1 q j) ∧ Eqo [29, 30, 31] σ0 σ
def FgP (σ0 : Mem) : Option Value → Mem → Prop := fun r σ' => r = none ∧ FgI σ0 14 σ'
theorem FgI.step {σ0 σ : Mem} {k : Nat} (h : FgI σ0 k σ) (h1 : 1 ≤ k) : FgI σ0 (k + 1) (uI (uI (uI σ 29 (k - 1) (σ.1 29 k)) 30 (k - 1) (σ.1 30 k)) 31 (k - 1) (σ.1 31 k)) := by
  refine ⟨fun q hq j => ?_, ((h.2.u rfl).u rfl).u rfl⟩
  have key : ∀ q, q = 29 ∨ q = 30 ∨ q = 31 → (uI (uI (uI σ 29 (k - 1) (σ.1 29 k)) 30 (k - 1) (σ.1 30 k)) 31 (k - 1) (σ.1 31 k)).1 q = upd (σ.1 q) (k - 1) (σ.1 q k) := by
    rintro q (rfl | rfl | rfl)
    · rw [uI_ne (by decide), uI_ne (by decide), uI_eq]
    · rw [uI_ne (by decide), uI_eq, uI_ne (by decide)]
    · rw [uI_eq, uI_ne (by decide), uI_ne (by decide)]
  rw [key q hq, upd]
  by_cases e : j = k - 1
  · rw [if_pos e, if_pos (show j + 1 < k + 1 by omega), h.1 q hq k, if_neg (show ¬ k + 1 < k by omega), show j + 1 = k by omega]
  · rw [if_neg e, h.1 q hq j]
    by_cases e2 : j + 1 < k
    · rw [if_pos e2, if_pos (by omega)]
    · rw [if_neg e2, if_neg (by omega)]

set_option maxRecDepth 100000 in
theorem qX6_forgetFirst_loop {σ0 : Mem} : ∀ (n k : Nat) (σ : Mem), k + n = 14 → 1 ≤ k → FgI σ0 k σ → Vj shX 1 mX6_forgetFirst (FgP σ0) 2 [some (.ref 28), some (.int (nI k))] [] σ := by
  intro n
  induction n with
  | zero =>
    intro k σ hk h1 h
    obtain rfl : k = 14 := by omega
    refine Vj_iloadn (q := 3) dX6_forgetFirst_2 rfl rfl rfl ?_
    refine Vj_aloadn (q := 4) dX6_forgetFirst_3 rfl rfl rfl ?_
    refine Vj_getR (q := 7) flX6_24 rfl rfl dX6_forgetFirst_4 rfl ?_
    refine Vj_alen (q := 8) rfl (rfl : Int32.ofNat 14 = 14) dX6_forgetFirst_7 rfl ?_
    refine Vj_icmp_ge (q := 11) (tgt := 71) dX6_forgetFirst_8 (by decide) rfl (fun _ => ?_) (fun hz => absurd (by decide) hz)
    exact Vr_vret rfl dX6_forgetFirst_71 (⟨rfl, h⟩)
  | succ n ih =>
    intro k σ hk h1 h
    have e1 : nI k - 1 = nI (k - 1) := pk_sub (b := 1) h1
    refine Vj_iloadn (q := 3) dX6_forgetFirst_2 rfl rfl rfl ?_
    refine Vj_aloadn (q := 4) dX6_forgetFirst_3 rfl rfl rfl ?_
    refine Vj_getR (q := 7) flX6_24 rfl rfl dX6_forgetFirst_4 rfl ?_
    refine Vj_alen (q := 8) rfl (rfl : Int32.ofNat 14 = 14) dX6_forgetFirst_7 rfl ?_
    refine Vj_icmp_ge (q := 11) (tgt := 71) dX6_forgetFirst_8 (by decide) rfl (fun hz => absurd hz (nI_ge (b := 14) (show k < 14 by omega) (by decide))) (fun _ => ?_)
    refine Vj_aloadn (q := 12) dX6_forgetFirst_11 rfl rfl rfl ?_
    refine Vj_getR (q := 15) flX6_15 rfl rfl dX6_forgetFirst_12 rfl ?_
    refine Vj_iloadn (q := 16) dX6_forgetFirst_15 rfl rfl rfl ?_
    refine Vj_iconst (q := 17) (v := 1) dX6_forgetFirst_16 rfl (by decide) ?_
    refine Vj_isub (q := 18) dX6_forgetFirst_17 rfl ?_
    rw [e1]
    refine Vj_aloadn (q := 19) dX6_forgetFirst_18 rfl rfl rfl ?_
    refine Vj_getR (q := 22) flX6_15 rfl rfl dX6_forgetFirst_19 rfl ?_
    refine Vj_iloadn (q := 23) dX6_forgetFirst_22 rfl rfl rfl ?_
    refine Vj_callSi (q := 26) (qX9_atn rfl (by decide) (j := k) (by omega)) (by decide) lkX6_46 stX9_at okX9_at dX6_forgetFirst_23 rfl rfl (Nat.le_of_ble_eq_true rfl) ?_
    refine Vj_callSv (q := 29) (qX9_putn rfl (by decide) (j := k - 1) (by omega) _) (by decide) lkX6_38 stX9_put okX9_put dX6_forgetFirst_26 rfl rfl (Nat.le_of_ble_eq_true rfl) ?_
    refine Vj_aloadn (q := 30) dX6_forgetFirst_29 rfl rfl rfl ?_
    refine Vj_getR (q := 33) flX6_21 rfl rfl dX6_forgetFirst_30 rfl ?_
    refine Vj_iloadn (q := 34) dX6_forgetFirst_33 rfl rfl rfl ?_
    refine Vj_iconst (q := 35) (v := 1) dX6_forgetFirst_34 rfl (by decide) ?_
    refine Vj_isub (q := 36) dX6_forgetFirst_35 rfl ?_
    rw [e1]
    refine Vj_aloadn (q := 37) dX6_forgetFirst_36 rfl rfl rfl ?_
    refine Vj_getR (q := 40) flX6_21 rfl rfl dX6_forgetFirst_37 rfl ?_
    refine Vj_iloadn (q := 41) dX6_forgetFirst_40 rfl rfl rfl ?_
    refine Vj_callSi (q := 44) (qX9_atn rfl (by decide) (j := k) (by omega)) (by decide) lkX6_46 stX9_at okX9_at dX6_forgetFirst_41 rfl rfl (Nat.le_of_ble_eq_true rfl) ?_
    rw [uI_ne (show 30 ≠ 29 by decide)]
    refine Vj_callSv (q := 47) (qX9_putn rfl (by decide) (j := k - 1) (by omega) _) (by decide) lkX6_38 stX9_put okX9_put dX6_forgetFirst_44 rfl rfl (Nat.le_of_ble_eq_true rfl) ?_
    refine Vj_aloadn (q := 48) dX6_forgetFirst_47 rfl rfl rfl ?_
    refine Vj_getR (q := 51) flX6_24 rfl rfl dX6_forgetFirst_48 rfl ?_
    refine Vj_iloadn (q := 52) dX6_forgetFirst_51 rfl rfl rfl ?_
    refine Vj_iconst (q := 53) (v := 1) dX6_forgetFirst_52 rfl (by decide) ?_
    refine Vj_isub (q := 54) dX6_forgetFirst_53 rfl ?_
    rw [e1]
    refine Vj_aloadn (q := 55) dX6_forgetFirst_54 rfl rfl rfl ?_
    refine Vj_getR (q := 58) flX6_24 rfl rfl dX6_forgetFirst_55 rfl ?_
    refine Vj_iloadn (q := 59) dX6_forgetFirst_58 rfl rfl rfl ?_
    refine Vj_callSi (q := 62) (qX9_atn rfl (by decide) (j := k) (by omega)) (by decide) lkX6_46 stX9_at okX9_at dX6_forgetFirst_59 rfl rfl (Nat.le_of_ble_eq_true rfl) ?_
    rw [uI_ne (show 31 ≠ 30 by decide), uI_ne (show 31 ≠ 29 by decide)]
    refine Vj_callSv (q := 65) (qX9_putn rfl (by decide) (j := k - 1) (by omega) _) (by decide) lkX6_38 stX9_put okX9_put dX6_forgetFirst_62 rfl rfl (Nat.le_of_ble_eq_true rfl) ?_
    refine Vs_iinc1 (q := 68) (z := none) dX6_forgetFirst_65 rfl (by exact iinc_p _) (by decide) rfl ?_
    refine Vj_goto (q := 2) dX6_forgetFirst_68 (by decide) ?_
    rw [nI_1]
    exact ih (k + 1) _ (by omega) (by omega) (h.step h1)
set_option maxRecDepth 100000 in
theorem qX6_forgetFirst {σ : Mem} : Ct shX 1 mX6_forgetFirst [.ref 28] σ (FgP σ) := by
  refine Ct.of (by decide) (Nat.le_of_ble_eq_true rfl) (l := [some (.ref 28), none]) rfl ?_
  refine Vj_iconst (q := 1) (v := 1) dX6_forgetFirst_0 rfl (by decide) ?_
  refine Vs_istore1 (q := 2) dX6_forgetFirst_1 rfl (by decide) rfl ?_
  exact qX6_forgetFirst_loop 13 1 σ (by omega) (by decide) ⟨fun q hq j => by rw [if_neg (by omega)], Eqo.rf⟩
/-! SEEN -/
def mSe (k : Nat) (x y z : Int32) (σ : Mem) : Mem := uI (uI (uI (uI σ 37 k x) 38 k y) 39 k z) 36 4 (nI (k + 1))
/-- what is seen: (n, row, lights) -/
def SeX (se : List (Nat × Nat × Nat)) (σ : Mem) : Prop := σ.1 36 4 = nI se.length ∧ ∀ i, i < se.length → σ.1 37 i = nI (se.getD i (0, 0, 0)).1 ∧ σ.1 38 i = nI (se.getD i (0, 0, 0)).2.1 ∧ σ.1 39 i = nI (se.getD i (0, 0, 0)).2.2
def seV (se : List (Nat × Nat × Nat)) : Prop := se.length < 7 ∧ ∀ i, i < se.length → (se.getD i (0, 0, 0)).1 < 4 ∧ (se.getD i (0, 0, 0)).2.1 < 1000 ∧ (se.getD i (0, 0, 0)).2.2 < 16

set_option maxRecDepth 100000 in
theorem qX5_add {σ : Mem} {k : Nat} (hk : k < 6) (h0 : σ.1 36 4 = nI k) (x y z : Int32) : Ct shX 1 mX5_add [.ref 36, .int x, .int y, .int z] σ (Rv (mSe k x y z σ)) := by
  refine Ct.of (by decide) (Nat.le_of_ble_eq_true rfl) (l := [some (.ref 36), some (.int x), some (.int y), some (.int z)]) rfl ?_
  refine Vj_aloadn (q := 1) dX5_add_0 rfl rfl rfl ?_
  refine Vj_getR (q := 4) flX5_9 rfl rfl dX5_add_1 rfl ?_
  refine Vj_aloadn (q := 5) dX5_add_4 rfl rfl rfl ?_
  refine Vj_getI (q := 8) flX5_24 rfl rfl dX5_add_5 rfl ?_
  rw [h0]
  refine Vj_iloadn (q := 9) dX5_add_8 rfl rfl rfl ?_
  refine Vj_callSv (q := 12) (qX9_putn rfl (by decide) hk x) (by decide) lkX5_28 stX9_put okX9_put dX5_add_9 rfl rfl (Nat.le_of_ble_eq_true rfl) ?_
  refine Vj_aloadn (q := 13) dX5_add_12 rfl rfl rfl ?_
  refine Vj_getR (q := 16) flX5_15 rfl rfl dX5_add_13 rfl ?_
  refine Vj_aloadn (q := 17) dX5_add_16 rfl rfl rfl ?_
  refine Vj_getI (q := 20) flX5_24 rfl rfl dX5_add_17 rfl ?_
  rw [uI_ne (by decide), h0]
  refine Vj_iloadn (q := 21) dX5_add_20 rfl rfl rfl ?_
  refine Vj_callSv (q := 24) (qX9_putn rfl (by decide) hk y) (by decide) lkX5_28 stX9_put okX9_put dX5_add_21 rfl rfl (Nat.le_of_ble_eq_true rfl) ?_
  refine Vj_aloadn (q := 25) dX5_add_24 rfl rfl rfl ?_
  refine Vj_getR (q := 28) flX5_18 rfl rfl dX5_add_25 rfl ?_
  refine Vj_aloadn (q := 29) dX5_add_28 rfl rfl rfl ?_
  refine Vj_getI (q := 32) flX5_24 rfl rfl dX5_add_29 rfl ?_
  rw [uI_ne (by decide), uI_ne (by decide), h0]
  refine Vj_iloadn (q := 33) dX5_add_32 rfl rfl rfl ?_
  refine Vj_callSv (q := 36) (qX9_putn rfl (by decide) hk z) (by decide) lkX5_28 stX9_put okX9_put dX5_add_33 rfl rfl (Nat.le_of_ble_eq_true rfl) ?_
  refine Vj_aloadn (q := 37) dX5_add_36 rfl rfl rfl ?_
  refine Vj_dup (q := 38) dX5_add_37 rfl rfl ?_
  refine Vj_getI (q := 41) flX5_24 rfl rfl dX5_add_38 rfl ?_
  rw [uI_ne (by decide), uI_ne (by decide), uI_ne (by decide), h0]
  refine Vj_iconst (q := 42) (v := 1) dX5_add_41 rfl (by decide) ?_
  refine Vj_iadd (q := 43) dX5_add_42 rfl ?_
  rw [nI_1]
  refine Vj_putI (q := 46) flX5_24 rfl rfl dX5_add_43 rfl ?_
  exact Vr_vret rfl dX5_add_46 (⟨rfl, rfl⟩)
/-- the codes that are left, a row -/
def CdH (l : List Nat) (σ : Mem) : Prop := ∀ i, i < l.length → σ.1 40 i = nI (l.getD i 0)
theorem filt_s {l : List Nat} {p : Nat → Bool} {i : Nat} (h : i < l.length) : (l.take (i + 1)).filter p = (l.take i).filter p ++ (if p (l.getD i 0) then [l.getD i 0] else []) := by
  rw [take_s (d := 0) h, List.filter_append]
  rw [List.filter_cons, List.filter_nil]
theorem filt_le {l : List Nat} {p : Nat → Bool} {i : Nat} : ((l.take i).filter p).length ≤ i := Nat.le_trans (List.length_filter_le _ _) (by rw [List.length_take]; omega)

/-- behind narrowBy -/
def NbP (ρ : Rm) (n r li : Nat) (l : List Nat) (σ0 : Mem) : Option Value → Mem → Prop := fun x σ' => x = none ∧ σ'.1 36 5 = nI (l.filter (fun c => cLi (rN ρ) (rGo ρ n r c n) (rN ρ) == li)).length ∧ CdH (l.filter (fun c => cLi (rN ρ) (rGo ρ n r c n) (rN ρ) == li)) σ' ∧ (∀ j, j ≠ 5 → σ'.1 36 j = σ0.1 36 j) ∧ Eqo [36, 40] σ0 σ'
set_option maxRecDepth 100000 in
theorem qX5_narrowBy_loop {ρ : Rm} (hr : okR ρ) {n r li : Nat} (hn : n < 7) (hk : rKk ρ n r n = true) (hli : li < 16) {l : List Nat} (hl : ∀ i, i < l.length → l.getD i 0 < 4 ^ rN ρ) (hl2 : l.length ≤ 256) {σ0 : Mem} : ∀ (k i : Nat) (σ : Mem) (z6 : Option Value), i + k = l.length → RT ρ σ → RwH n r σ → σ.1 36 5 = nI l.length → CdH ((l.take i).filter (fun c => cLi (rN ρ) (rGo ρ n r c n) (rN ρ) == li)) σ → (∀ j, i ≤ j → j < l.length → σ.1 40 j = nI (l.getD j 0)) → Eqo [40] σ0 σ → Vj shX 3 mX5_narrowBy (NbP ρ n r li l σ0) 6 [some (.ref 36), some (.ref 10), some (.ref 25), some (.int (nI li)), some (.int (nI ((l.take i).filter (fun c => cLi (rN ρ) (rGo ρ n r c n) (rN ρ) == li)).length)), some (.int (nI i)), z6] [] σ := by
  intro k
  induction k with
  | zero =>
    intro i σ z6 hi hT hR h5 hC hF hE
    obtain rfl : i = l.length := by omega
    rw [List.take_length] at hC ⊢
    refine Vj_iload (q := 8) dX5_narrowBy_6 rfl rfl ?_
    refine Vj_aloadn (q := 9) dX5_narrowBy_8 rfl rfl rfl ?_
    refine Vj_getI (q := 12) flX5_32 rfl rfl dX5_narrowBy_9 rfl ?_
    rw [h5]
    refine Vj_icmp_ge (q := 15) (tgt := 61) dX5_narrowBy_12 (by decide) rfl (fun _ => ?_) (fun hz => absurd (nI_le (Nat.le_refl _) (by omega)) hz)
    refine Vj_aloadn (q := 62) dX5_narrowBy_61 rfl rfl rfl ?_
    refine Vj_iload (q := 64) dX5_narrowBy_62 rfl rfl ?_
    refine Vj_putI (q := 67) flX5_32 rfl rfl dX5_narrowBy_64 rfl ?_
    exact Vr_vret rfl dX5_narrowBy_67 (⟨rfl, by simp [uI, upd], fun j hj => by rw [uI_ne (by decide)]; exact hC j hj, fun j hj => by rw [uI_eq, upd, if_neg hj, hE.at 36 rfl], (hE.in (S' := [36, 40]) rfl).u rfl⟩)
  | succ k ih =>
    intro i σ z6 hi hT hR h5 hC hF hE
    have hil : i < l.length := by omega
    have hp4 := p4_le hr.1
    have hc := hl i hil
    have hx := rGo_lt hr (n := n) (r := r) hc n hk
    have hs := filt_s (p := (fun c => cLi (rN ρ) (rGo ρ n r c n) (rN ρ) == li)) hil
    have hle := filt_le (l := l) (p := (fun c => cLi (rN ρ) (rGo ρ n r c n) (rN ρ) == li)) (i := i)
    have hli2 : cLi (rN ρ) (rGo ρ n r (l.getD i 0) n) (rN ρ) < 16 := Nat.lt_of_lt_of_le (cLi_lt _ _ _) (Nat.pow_le_pow_right (by decide) (by have := hr.1; omega) : 2 ^ rN ρ ≤ 2 ^ 4)
    refine Vj_iload (q := 8) dX5_narrowBy_6 rfl rfl ?_
    refine Vj_aloadn (q := 9) dX5_narrowBy_8 rfl rfl rfl ?_
    refine Vj_getI (q := 12) flX5_32 rfl rfl dX5_narrowBy_9 rfl ?_
    rw [h5]
    refine Vj_icmp_ge (q := 15) (tgt := 61) dX5_narrowBy_12 (by decide) rfl (fun hz => absurd hz (nI_ge (by omega) (by omega))) (fun _ => ?_)
    refine Vj_aloadn (q := 16) dX5_narrowBy_15 rfl rfl rfl ?_
    refine Vj_getR (q := 19) flX5_21 rfl rfl dX5_narrowBy_16 rfl ?_
    refine Vj_iload (q := 21) dX5_narrowBy_19 rfl rfl ?_
    refine Vj_callSi (q := 24) (qX9_atn rfl (by decide) (j := i) (by omega)) (by decide) lkX5_43 stX9_at okX9_at dX5_narrowBy_21 rfl rfl (Nat.le_of_ble_eq_true rfl) ?_
    rw [hF i (Nat.le_refl _) hil]
    refine Vs_istore6 (q := 26) dX5_narrowBy_24 rfl (by decide) rfl ?_
    refine Vj_aloadn (q := 27) dX5_narrowBy_26 rfl rfl rfl ?_
    refine Vj_aloadn (q := 28) dX5_narrowBy_27 rfl rfl rfl ?_
    refine Vj_aloadn (q := 29) dX5_narrowBy_28 rfl rfl rfl ?_
    refine Vj_iload (q := 31) dX5_narrowBy_29 rfl rfl ?_
    refine Vj_callVi (q := 34) (qX4_behind hr hT hR hn hk hc) (by decide) rfl rfl lkX5_65 viX4_behind okX4_behind dX5_narrowBy_31 rfl rfl (Nat.le_of_ble_eq_true rfl) ?_
    refine Vj_callVi (q := 37) (qX2_lightsIn (by omega)) (by decide) rfl rfl lkX5_69 viX2_lightsIn okX2_lightsIn dX5_narrowBy_34 rfl rfl (Nat.le_of_ble_eq_true rfl) ?_
    rw [(hT.2 _ hx).2.1]
    refine Vj_iloadn (q := 38) dX5_narrowBy_37 rfl rfl rfl ?_
    refine Vj_icmp_ne (q := 41) (tgt := 55) dX5_narrowBy_38 (by decide) rfl (fun h38 => ?_) (fun h38 => ?_)
    ·
      refine Vs_iinc5 (q := 58) (z := none) dX5_narrowBy_55 rfl (by exact iinc_p _) (by decide) rfl ?_
      refine Vj_goto (q := 6) dX5_narrowBy_58 (by decide) ?_
      have hf : (cLi (rN ρ) (rGo ρ n r (l.getD i 0) n) (rN ρ) == li) = false := beq_eq_false_iff_ne.mpr (nI_ne_of (by omega) (by omega) h38)
      rw [hf, if_neg (by decide), List.append_nil] at hs
      rw [nI_1, ← hs]
      exact ih (i + 1) σ _ (by omega) hT hR h5 (by rw [hs]; exact hC) (fun j h1 h2 => hF j (by omega) h2) hE
    ·
      refine Vj_aloadn (q := 42) dX5_narrowBy_41 rfl rfl rfl ?_
      refine Vj_getR (q := 45) flX5_21 rfl rfl dX5_narrowBy_42 rfl ?_
      refine Vj_iload (q := 47) dX5_narrowBy_45 rfl rfl ?_
      refine Vj_iload (q := 49) dX5_narrowBy_47 rfl rfl ?_
      refine Vj_callSv (q := 52) (qX9_putn rfl (by decide) (j := ((l.take i).filter (fun c => cLi (rN ρ) (rGo ρ n r c n) (rN ρ) == li)).length) (by omega) _) (by decide) lkX5_28 stX9_put okX9_put dX5_narrowBy_49 rfl rfl (Nat.le_of_ble_eq_true rfl) ?_
      refine Vs_iinc4 (q := 55) (z := none) dX5_narrowBy_52 rfl (by exact iinc_p _) (by decide) rfl ?_
      refine Vs_iinc5 (q := 58) (z := none) dX5_narrowBy_55 rfl (by exact iinc_p _) (by decide) rfl ?_
      refine Vj_goto (q := 6) dX5_narrowBy_58 (by decide) ?_
      have hf : (cLi (rN ρ) (rGo ρ n r (l.getD i 0) n) (rN ρ) == li) = true := beq_iff_eq.mpr ((nI_eq (by omega) (by omega)).mp h38)
      rw [hf, if_pos rfl] at hs
      have hlen : ((l.take (i + 1)).filter (fun c => cLi (rN ρ) (rGo ρ n r c n) (rN ρ) == li)).length = ((l.take i).filter (fun c => cLi (rN ρ) (rGo ρ n r c n) (rN ρ) == li)).length + 1 := by rw [hs, List.length_append, List.length_singleton]
      rw [nI_1, nI_1, ← hlen]
      refine ih (i + 1) _ _ (by omega) (hT.uI rfl) ⟨by rw [uI_ne (by decide)]; exact hR.1, fun j hj => by rw [uI_ne (by decide)]; exact hR.2 j hj⟩ (by rw [uI_ne (by decide)]; exact h5) (fun j hj => ?_) (fun j h1 h2 => ?_) (hE.u rfl)
      · rw [hlen] at hj
        rw [uI_eq, upd, hs]
        by_cases e : j = ((l.take i).filter (fun c => cLi (rN ρ) (rGo ρ n r c n) (rN ρ) == li)).length
        · rw [if_pos e, e, getD_r]
        · rw [if_neg e, getD_l (by omega)]
          exact hC j (by omega)
      · rw [uI_eq, upd, if_neg (by omega)]
        exact hF j (by omega) h2
set_option maxRecDepth 100000 in
theorem qX5_narrowBy {ρ : Rm} (hr : okR ρ) {n r li : Nat} (hn : n < 7) (hk : rKk ρ n r n = true) (hli : li < 16) {l : List Nat} (hl : ∀ i, i < l.length → l.getD i 0 < 4 ^ rN ρ) (hl2 : l.length ≤ 256) {σ : Mem} (hT : RT ρ σ) (hR : RwH n r σ) (h5 : σ.1 36 5 = nI l.length) (hC : CdH l σ) : Ct shX 3 mX5_narrowBy [.ref 36, .ref 10, .ref 25, .int (nI li)] σ (NbP ρ n r li l σ) := by
  refine Ct.of (by decide) (Nat.le_of_ble_eq_true rfl) (l := [some (.ref 36), some (.ref 10), some (.ref 25), some (.int (nI li)), none, none, none]) rfl ?_
  refine Vj_iconst (q := 1) (v := 0) dX5_narrowBy_0 rfl (by decide) ?_
  refine Vs_istore4 (q := 3) dX5_narrowBy_1 rfl (by decide) rfl ?_
  refine Vj_iconst (q := 4) (v := 0) dX5_narrowBy_3 rfl (by decide) ?_
  refine Vs_istore5 (q := 6) dX5_narrowBy_4 rfl (by decide) rfl ?_
  exact qX5_narrowBy_loop hr hn hk hli hl hl2 l.length 0 σ none (by omega) hT hR h5 (fun j hj => by simp at hj) (fun j _ h2 => hC j h2) Eqo.rf
