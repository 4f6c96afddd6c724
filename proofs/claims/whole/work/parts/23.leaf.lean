/-! the reference's small methods -/
theorem bDp {p : Prop} [Decidable p] (h : p) : bI (decide p) = 1 := by rw [decide_eq_true h]; rfl
theorem bDn {p : Prop} [Decidable p] (h : ¬ p) : bI (decide p) = 0 := by rw [decide_eq_false h]; rfl
def iB (x : Int32) (a b : Int) : Bool := decide (a ≤ x.toInt ∧ x.toInt ≤ b)
theorem in_i {x : Int32} {A B : Int64} {a b : Int} (hA : A.toInt = a) (hB : B.toInt = b) : decide (A ≤ x.toInt64 ∧ x.toInt64 ≤ B) = iB x a b := by
  unfold iB
  refine decide_eq_decide.mpr ?_
  rw [Int64.le_iff_toInt_le, Int64.le_iff_toInt_le, Int32.toInt_toInt64, hA, hB]
theorem i_m1 : ∀ n, n < 7 → (nI n - 1).toInt64.toInt = (n : Int) - 1 := by decide +kernel
theorem iB_hT {n : Nat} (hn : n < 2 ^ 31) {x : Int32} : iB x 0 ((n : Int) - 1) = hT n x := by
  unfold iB hT
  refine decide_eq_decide.mpr ?_
  rw [Int32.le_iff_toInt_le, Int32.lt_iff_toInt_lt, nI_toInt hn, show (0 : Int32).toInt = 0 from rfl]
  exact ⟨fun h => ⟨h.1, by omega⟩, fun h => ⟨h.1, by omega⟩⟩
theorem i_hasb : ∀ k, k < 64 → ∀ b, b < 16 → (nI k >>> (nI b &&& 31)) &&& 1 = nI (k / 2 ^ b % 2) := by decide +kernel

set_option maxRecDepth 100000 in
theorem qX10_in {σ : Mem} (a b c : Int64) : Ct shM 0 mX10_in [.long a, .long b, .long c] σ (Ri (bI (decide (b ≤ a ∧ a ≤ c))) σ) := by
  refine Ct.of (by decide) (Nat.le_of_ble_eq_true rfl) (l := [some (.long a), none, some (.long b), none, some (.long c), none]) rfl ?_
  refine Vj_lloadn (q := 1) dX10_in_0 rfl rfl rfl ?_
  refine Vj_lloadn (q := 2) dX10_in_1 rfl rfl rfl ?_
  refine Vj_lcmp (q := 3) dX10_in_2 rfl ?_
  refine Vj_if_lt (q := 6) (tgt := 17) dX10_in_3 (by decide) rfl (fun h3 => ?_) (fun h3 => ?_)
  ·
    refine Vj_iconst (q := 18) (v := 0) dX10_in_17 rfl (by decide) ?_
    exact Vr_iret rfl rfl dX10_in_18 (⟨by rw [bDn (fun z => absurd ((lg_cmp_lt _ _).mp h3) (Int64.not_lt.mpr z.1))], rfl⟩)
  ·
    refine Vj_lloadn (q := 7) dX10_in_6 rfl rfl rfl ?_
    refine Vj_lload (q := 9) dX10_in_7 rfl rfl ?_
    refine Vj_lcmp (q := 10) dX10_in_9 rfl ?_
    refine Vj_if_gt (q := 13) (tgt := 17) dX10_in_10 (by decide) rfl (fun h10 => ?_) (fun h10 => ?_)
    ·
      refine Vj_iconst (q := 18) (v := 0) dX10_in_17 rfl (by decide) ?_
      exact Vr_iret rfl rfl dX10_in_18 (⟨by rw [bDn (fun z => absurd ((lg_cmp_gt _ _).mp h10) (Int64.not_lt.mpr z.2))], rfl⟩)
    ·
      refine Vj_iconst (q := 14) (v := 1) dX10_in_13 rfl (by decide) ?_
      refine Vj_goto (q := 18) dX10_in_14 (by decide) ?_
      exact Vr_iret rfl rfl dX10_in_18 (⟨by rw [bDp ⟨Int64.not_lt.mp (fun z => h3 ((lg_cmp_lt _ _).mpr z)), Int64.not_lt.mp (fun z => h10 ((lg_cmp_gt _ _).mpr z))⟩], rfl⟩)
set_option maxRecDepth 100000 in
theorem qX10_has {σ : Mem} {k b : Nat} (hk : k < 64) (hb : b < 16) : Ct shM 0 mX10_has [.int (nI k), .int (nI b)] σ (Ri (bI (decide (k / 2 ^ b % 2 = 1))) σ) := by
  refine Ct.of (by decide) (Nat.le_of_ble_eq_true rfl) (l := [some (.int (nI k)), some (.int (nI b))]) rfl ?_
  refine Vj_iloadn (q := 1) dX10_has_0 rfl rfl rfl ?_
  refine Vj_iloadn (q := 2) dX10_has_1 rfl rfl rfl ?_
  refine Vj_ishr (q := 3) dX10_has_2 rfl ?_
  refine Vj_iconst (q := 4) (v := 1) dX10_has_3 rfl (by decide) ?_
  refine Vj_iand (q := 5) dX10_has_4 rfl ?_
  rw [i_hasb k hk b hb]
  refine Vj_iconst (q := 6) (v := 1) dX10_has_5 rfl (by decide) ?_
  refine Vj_icmp_ne (q := 9) (tgt := 13) dX10_has_6 (by decide) rfl (fun h6 => ?_) (fun h6 => ?_)
  ·
    refine Vj_iconst (q := 14) (v := 0) dX10_has_13 rfl (by decide) ?_
    exact Vr_iret rfl rfl dX10_has_14 (⟨by rw [bDn (fun z => h6 (by rw [z]; rfl))], rfl⟩)
  ·
    refine Vj_iconst (q := 10) (v := 1) dX10_has_9 rfl (by decide) ?_
    refine Vj_goto (q := 14) dX10_has_10 (by decide) ?_
    exact Vr_iret rfl rfl dX10_has_14 (⟨by rw [bDp ((nI_eq (by omega) (by decide)).mp h6)], rfl⟩)
def popK (x : Nat) : Nat → Nat
  | 0 => 0
  | k + 1 => popK x k + x / 2 ^ k % 2
theorem popK_6 (x : Nat) : popK x 6 = pop6 x := by simp [popK, pop6]
set_option maxRecDepth 100000 in
theorem qX10_ones_loop {σ : Mem} {x : Nat} (hx : x < 64) : ∀ k t, t + k = 6 → Vj shM 0 mX10_ones (Ri (nI (pop6 x)) σ) 4 [some (.int (nI x)), some (.int (nI (popK x t))), some (.int (nI t))] [] σ := by
  intro k
  induction k with
  | zero =>
    intro t ht
    obtain rfl : t = 6 := by omega
    refine Vj_iloadn (q := 5) dX10_ones_4 rfl rfl rfl ?_
    refine Vj_bipush (q := 7) (v := 6) dX10_ones_5 rfl (by decide) ?_
    refine Vj_icmp_ge (q := 10) (tgt := 24) dX10_ones_7 (by decide) rfl (fun _ => ?_) (fun hz => absurd (by decide) hz)
    refine Vj_iloadn (q := 25) dX10_ones_24 rfl rfl rfl ?_
    exact Vr_iret rfl rfl dX10_ones_25 (⟨by rw [popK_6], rfl⟩)
  | succ k ih =>
    intro t ht
    refine Vj_iloadn (q := 5) dX10_ones_4 rfl rfl rfl ?_
    refine Vj_bipush (q := 7) (v := 6) dX10_ones_5 rfl (by decide) ?_
    refine Vj_icmp_ge (q := 10) (tgt := 24) dX10_ones_7 (by decide) rfl (fun hz => absurd hz (nI_ge (b := 6) (by omega) (by decide))) (fun _ => ?_)
    refine Vj_iloadn (q := 11) dX10_ones_10 rfl rfl rfl ?_
    refine Vj_iloadn (q := 12) dX10_ones_11 rfl rfl rfl ?_
    refine Vj_iloadn (q := 13) dX10_ones_12 rfl rfl rfl ?_
    refine Vj_ishr (q := 14) dX10_ones_13 rfl ?_
    refine Vj_iconst (q := 15) (v := 1) dX10_ones_14 rfl (by decide) ?_
    refine Vj_iand (q := 16) dX10_ones_15 rfl ?_
    rw [i_hasb x hx t (by omega)]
    refine Vj_iadd (q := 17) dX10_ones_16 rfl ?_
    rw [nI_add]
    refine Vs_istore1 (q := 18) dX10_ones_17 rfl (by decide) rfl ?_
    refine Vs_iinc2 (q := 21) (z := none) dX10_ones_18 rfl (by exact iinc_p _) (by decide) rfl ?_
    refine Vj_goto (q := 4) dX10_ones_21 (by decide) ?_
    rw [nI_1]
    exact ih (t + 1) (by omega)
set_option maxRecDepth 100000 in
theorem qX10_ones {σ : Mem} {x : Nat} (hx : x < 64) : Ct shM 0 mX10_ones [.int (nI x)] σ (Ri (nI (pop6 x)) σ) := by
  refine Ct.of (by decide) (Nat.le_of_ble_eq_true rfl) (l := [some (.int (nI x)), none, none]) rfl ?_
  refine Vj_iconst (q := 1) (v := 0) dX10_ones_0 rfl (by decide) ?_
  refine Vs_istore1 (q := 2) dX10_ones_1 rfl (by decide) rfl ?_
  refine Vj_iconst (q := 3) (v := 0) dX10_ones_2 rfl (by decide) ?_
  refine Vs_istore2 (q := 4) dX10_ones_3 rfl (by decide) rfl ?_
  exact qX10_ones_loop hx 6 0 rfl
set_option maxRecDepth 100000 in
theorem qX10_tenTo_loop {σ : Mem} {n : Nat} (hn : n < 7) : ∀ k t, t + k = n → Vj shM 0 mX10_tenTo (Ri (nI (10 ^ n)) σ) 4 [some (.int (nI n)), some (.int (nI (10 ^ t))), some (.int (nI t))] [] σ := by
  intro k
  induction k with
  | zero =>
    intro t ht
    obtain rfl : t = n := by omega
    refine Vj_iloadn (q := 5) dX10_tenTo_4 rfl rfl rfl ?_
    refine Vj_iloadn (q := 6) dX10_tenTo_5 rfl rfl rfl ?_
    refine Vj_icmp_ge (q := 9) (tgt := 20) dX10_tenTo_6 (by decide) rfl (fun _ => ?_) (fun hz => absurd (nI_le (by omega) (by omega)) hz)
    refine Vj_iloadn (q := 21) dX10_tenTo_20 rfl rfl rfl ?_
    exact Vr_iret rfl rfl dX10_tenTo_21 (⟨rfl, rfl⟩)
  | succ k ih =>
    intro t ht
    refine Vj_iloadn (q := 5) dX10_tenTo_4 rfl rfl rfl ?_
    refine Vj_iloadn (q := 6) dX10_tenTo_5 rfl rfl rfl ?_
    refine Vj_icmp_ge (q := 9) (tgt := 20) dX10_tenTo_6 (by decide) rfl (fun hz => absurd hz (nI_ge (by omega) (by omega))) (fun _ => ?_)
    refine Vj_iloadn (q := 10) dX10_tenTo_9 rfl rfl rfl ?_
    refine Vj_bipush (q := 12) (v := 10) dX10_tenTo_10 rfl (by decide) ?_
    refine Vj_imul (q := 13) dX10_tenTo_12 rfl ?_
    rw [show nI (10 ^ t) * 10 = nI (10 ^ (t + 1)) by rw [show (10 : Int32) = nI 10 from rfl, nI_mul]; rfl]
    refine Vs_istore1 (q := 14) dX10_tenTo_13 rfl (by decide) rfl ?_
    refine Vs_iinc2 (q := 17) (z := none) dX10_tenTo_14 rfl (by exact iinc_p _) (by decide) rfl ?_
    refine Vj_goto (q := 4) dX10_tenTo_17 (by decide) ?_
    rw [nI_1]
    exact ih (t + 1) (by omega)
set_option maxRecDepth 100000 in
theorem qX10_tenTo {σ : Mem} {n : Nat} (hn : n < 7) : Ct shM 0 mX10_tenTo [.int (nI n)] σ (Ri (nI (10 ^ n)) σ) := by
  refine Ct.of (by decide) (Nat.le_of_ble_eq_true rfl) (l := [some (.int (nI n)), none, none]) rfl ?_
  refine Vj_iconst (q := 1) (v := 1) dX10_tenTo_0 rfl (by decide) ?_
  refine Vs_istore1 (q := 2) dX10_tenTo_1 rfl (by decide) rfl ?_
  refine Vj_iconst (q := 3) (v := 0) dX10_tenTo_2 rfl (by decide) ?_
  refine Vs_istore2 (q := 4) dX10_tenTo_3 rfl (by decide) rfl ?_
  exact qX10_tenTo_loop hn n 0 (by omega)
set_option maxRecDepth 100000 in
theorem qX10_isThing {ρ : Rm} {σ : Mem} (h : RoM ρ σ) (x : Int32) : Ct shM 1 mX10_isThing [.ref 0, .int x] σ (Ri (bI (hT (rN ρ) x)) σ) := by
  refine Ct.of (by decide) (Nat.le_of_ble_eq_true rfl) (l := [some (.ref 0), some (.int x)]) rfl ?_
  refine Vj_iloadn (q := 1) dX10_isThing_0 rfl rfl rfl ?_
  refine Vj_i2l (q := 2) dX10_isThing_1 rfl ?_
  refine Vj_lconst (q := 3) (v := 0) dX10_isThing_2 rfl (by decide) ?_
  refine Vj_aloadn (q := 4) dX10_isThing_3 rfl rfl rfl ?_
  refine Vj_getI (q := 7) flX10_111 rfl rfl dX10_isThing_4 rfl ?_
  rw [h.2.1]
  refine Vj_iconst (q := 8) (v := 1) dX10_isThing_7 rfl (by decide) ?_
  refine Vj_isub (q := 9) dX10_isThing_8 rfl ?_
  refine Vj_i2l (q := 10) dX10_isThing_9 rfl ?_
  refine Vj_callSi (q := 13) (qX10_in _ _ _) (by decide) lkX10_74 stX10_in okX10_in dX10_isThing_10 rfl rfl (Nat.le_of_ble_eq_true rfl) ?_
  rw [in_i (a := 0) (b := ((rN ρ : Nat) : Int) - 1) rfl (i_m1 _ (by have := h.1.1; omega)), iB_hT (by have := h.1.1; omega)]
  refine Vr_iret rfl (bI_nar _) dX10_isThing_13 ?_
  refine ⟨rfl, rfl⟩
set_option maxRecDepth 100000 in
theorem qX10_isButton {ρ : Rm} {σ : Mem} (h : RoM ρ σ) (x : Int32) : Ct shM 1 mX10_isButton [.ref 0, .int x] σ (Ri (bI (hT (rB ρ) x)) σ) := by
  refine Ct.of (by decide) (Nat.le_of_ble_eq_true rfl) (l := [some (.ref 0), some (.int x)]) rfl ?_
  refine Vj_iloadn (q := 1) dX10_isButton_0 rfl rfl rfl ?_
  refine Vj_i2l (q := 2) dX10_isButton_1 rfl ?_
  refine Vj_lconst (q := 3) (v := 0) dX10_isButton_2 rfl (by decide) ?_
  refine Vj_aloadn (q := 4) dX10_isButton_3 rfl rfl rfl ?_
  refine Vj_getI (q := 7) flX10_114 rfl rfl dX10_isButton_4 rfl ?_
  rw [h.2.2.1]
  refine Vj_iconst (q := 8) (v := 1) dX10_isButton_7 rfl (by decide) ?_
  refine Vj_isub (q := 9) dX10_isButton_8 rfl ?_
  refine Vj_i2l (q := 10) dX10_isButton_9 rfl ?_
  refine Vj_callSi (q := 13) (qX10_in _ _ _) (by decide) lkX10_74 stX10_in okX10_in dX10_isButton_10 rfl rfl (Nat.le_of_ble_eq_true rfl) ?_
  rw [in_i (a := 0) (b := ((rB ρ : Nat) : Int) - 1) rfl (i_m1 _ (by have := h.1.2.2.1; omega)), iB_hT (by have := h.1.2.2.1; omega)]
  refine Vr_iret rfl (bI_nar _) dX10_isButton_13 ?_
  refine ⟨rfl, rfl⟩
set_option maxRecDepth 100000 in
theorem qX10_stateIn {ρ : Rm} {σ : Mem} (h : RoM ρ σ) {c t : Nat} (hc : cV ρ c) (ht : t < rN ρ) : Ct shM 0 mX10_stateIn [.ref 0, .int (nI (cm ρ c)), .int (nI t)] σ (Ri (nI (cS (rN ρ) c t)) σ) := by
  have hn := h.1.1
  have hu := mu_le h.1 ht
  have hs := h.1.2.1 t ht
  have e := h.2.2.2.2.1 t ht
  refine Ct.of (by decide) (Nat.le_of_ble_eq_true rfl) (l := [some (.ref 0), some (.int (nI (cm ρ c))), some (.int (nI t))]) rfl ?_
  refine Vj_iloadn (q := 1) dX10_stateIn_0 rfl rfl rfl ?_
  refine Vj_aloadn (q := 2) dX10_stateIn_1 rfl rfl rfl ?_
  refine Vj_getR (q := 5) flX10_13 rfl rfl dX10_stateIn_2 rfl ?_
  refine Vj_iloadn (q := 6) dX10_stateIn_5 rfl rfl rfl ?_
  refine Vj_iald (q := 7) rfl (vp_in_nI (by omega) (by decide)) dX10_stateIn_6 rfl ?_
  rw [nI_clamp (by omega), e.2]
  refine Vj_idiv (q := 8) dX10_stateIn_7 rfl (nI_ne0 (by omega) (by omega)) ?_
  refine Vj_aloadn (q := 9) dX10_stateIn_8 rfl rfl rfl ?_
  refine Vj_getR (q := 12) flX10_7 rfl rfl dX10_stateIn_9 rfl ?_
  refine Vj_iloadn (q := 13) dX10_stateIn_12 rfl rfl rfl ?_
  refine Vj_iald (q := 14) rfl (vp_in_nI (by omega) (by decide)) dX10_stateIn_13 rfl ?_
  rw [nI_clamp (by omega), e.1]
  refine Vj_irem (q := 15) dX10_stateIn_14 rfl (nI_ne0 (by omega) (by omega)) ?_
  rw [i_stM h.1 hc ht]
  exact Vr_iret rfl rfl dX10_stateIn_15 (⟨rfl, rfl⟩)
set_option maxRecDepth 100000 in
theorem qX10_with {ρ : Rm} {σ : Mem} (h : RoM ρ σ) {c t s : Nat} (hc : cV ρ c) (ht : t < rN ρ) (hs : s < 4) : Ct shM 1 mX10_with [.ref 0, .int (nI (cm ρ c)), .int (nI t), .int (nI s)] σ (Ri (nI (cm ρ (cW (rN ρ) c t s))) σ) := by
  have hn := h.1.1
  have e := h.2.2.2.2.1 t ht
  refine Ct.of (by decide) (Nat.le_of_ble_eq_true rfl) (l := [some (.ref 0), some (.int (nI (cm ρ c))), some (.int (nI t)), some (.int (nI s))]) rfl ?_
  refine Vj_iloadn (q := 1) dX10_with_0 rfl rfl rfl ?_
  refine Vj_iloadn (q := 2) dX10_with_1 rfl rfl rfl ?_
  refine Vj_aloadn (q := 3) dX10_with_2 rfl rfl rfl ?_
  refine Vj_iloadn (q := 4) dX10_with_3 rfl rfl rfl ?_
  refine Vj_iloadn (q := 5) dX10_with_4 rfl rfl rfl ?_
  refine Vj_callVi (q := 8) (qX10_stateIn h hc ht) (by decide) rfl rfl lkX10_133 viX10_stateIn okX10_stateIn dX10_with_5 rfl rfl (Nat.le_of_ble_eq_true rfl) ?_
  refine Vj_isub (q := 9) dX10_with_8 rfl ?_
  refine Vj_aloadn (q := 10) dX10_with_9 rfl rfl rfl ?_
  refine Vj_getR (q := 13) flX10_13 rfl rfl dX10_with_10 rfl ?_
  refine Vj_iloadn (q := 14) dX10_with_13 rfl rfl rfl ?_
  refine Vj_iald (q := 15) rfl (vp_in_nI (by omega) (by decide)) dX10_with_14 rfl ?_
  rw [nI_clamp (by omega), e.2]
  refine Vj_imul (q := 16) dX10_with_15 rfl ?_
  refine Vj_iadd (q := 17) dX10_with_16 rfl ?_
  rw [i_with h.1 hc.1 ht hs]
  exact Vr_iret rfl rfl dX10_with_17 (⟨rfl, rfl⟩)
