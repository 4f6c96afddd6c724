/-! the reference: rows of presses, told messes -/
theorem nI_s1 {a : Nat} (h : 1 ≤ a) : nI a - 1 = nI (a - 1) := pk_sub (b := 1) h
def rwB (n row : Int32) (a b : Nat) : Bool := iB n a b && isR n.toNatClampNeg row
theorem i64_n {a : Nat} (h : a < 2 ^ 31) : (nI a).toInt64.toInt = (a : Int) := by rw [Int32.toInt_toInt64, nI_toInt h]
theorem p10_lt {n : Nat} (h : n < 7) : 10 ^ n < 2 ^ 30 ∧ 0 < 10 ^ n := ⟨Nat.lt_of_le_of_lt (Nat.pow_le_pow_right (by decide) (show n ≤ 6 by omega)) (by decide), Nat.pow_pos (by decide)⟩
theorem iB_x {x : Int32} {a b : Nat} (hb : b < 2 ^ 31) (h : iB x a b = true) : ∃ k, a ≤ k ∧ k ≤ b ∧ x = nI k ∧ x.toNatClampNeg = k := by
  have h := of_decide_eq_true h
  have h0 : ¬ x < 0 := by rw [Int32.lt_iff_toInt_lt, show (0 : Int32).toInt = 0 from rfl]; omega
  obtain ⟨k, hk, rfl⟩ := nI_of h0
  rw [nI_toInt hk] at h
  exact ⟨k, by omega, by omega, rfl, nI_clamp hk⟩
theorem iB_f {x : Int32} {a b : Nat} (ha : a < 2 ^ 31) (hb : b < 2 ^ 31) : iB x a b = false ↔ (x < nI a ∨ nI b < x) := by
  unfold iB
  rw [decide_eq_false_iff_not, Int32.lt_iff_toInt_lt, Int32.lt_iff_toInt_lt, nI_toInt ha, nI_toInt hb]
  omega
theorem iB_t {x : Int32} {a b : Nat} (ha : a < 2 ^ 31) (hb : b < 2 ^ 31) : iB x a b = true ↔ ¬ (x < nI a ∨ nI b < x) := by
  rw [← iB_f ha hb]; cases iB x a b <;> decide
theorem rwB_f {n row : Int32} {a b : Nat} (ha : a < 2 ^ 31) (hb : b < 2 ^ 31) : rwB n row a b = false ↔ (n < nI a ∨ nI b < n ∨ isR n.toNatClampNeg row = false) := by
  unfold rwB
  rw [Bool.and_eq_false_iff, iB_f ha hb, or_assoc]
theorem rwB_t {n row : Int32} {a b : Nat} (hb : b < 7) (h : rwB n row a b = true) : ∃ k r, a ≤ k ∧ k ≤ b ∧ n = nI k ∧ n.toNatClampNeg = k ∧ r < 10 ^ k ∧ row = nI r ∧ row.toNatClampNeg = r := by
  have h0 := Bool.and_eq_true_iff.mp h
  obtain ⟨k, h1, h2, rfl, h3⟩ := iB_x (by omega) h0.1
  rw [h3] at h0
  obtain ⟨r, h4, rfl, h5⟩ := isR_n (by omega) h0.2
  exact ⟨k, r, h1, h2, rfl, h3, h4, rfl, h5⟩

set_option maxRecDepth 100000 in
theorem qX10_isRow {σ : Mem} (n row : Int32) {a b : Nat} (hab : a ≤ b) (hb : b < 7) : Ct shM 1 mX10_isRow [.int n, .int row, .int (nI a), .int (nI b)] σ (Ri (bI (rwB n row a b)) σ) := by
  refine Ct.of (by decide) (Nat.le_of_ble_eq_true rfl) (l := [some (.int n), some (.int row), some (.int (nI a)), some (.int (nI b))]) rfl ?_
  refine Vj_iloadn (q := 1) dX10_isRow_0 rfl rfl rfl ?_
  refine Vj_i2l (q := 2) dX10_isRow_1 rfl ?_
  refine Vj_iloadn (q := 3) dX10_isRow_2 rfl rfl rfl ?_
  refine Vj_i2l (q := 4) dX10_isRow_3 rfl ?_
  refine Vj_iloadn (q := 5) dX10_isRow_4 rfl rfl rfl ?_
  refine Vj_i2l (q := 6) dX10_isRow_5 rfl ?_
  refine Vj_callSi (q := 9) (qX10_in _ _ _) (by decide) lkX10_74 stX10_in okX10_in dX10_isRow_6 rfl rfl (Nat.le_of_ble_eq_true rfl) ?_
  rw [in_i (i64_n (by omega)) (i64_n (by omega))]
  refine Vj_if_eq (q := 12) (tgt := 32) dX10_isRow_9 (by decide) rfl (fun h9 => ?_) (fun h9 => ?_)
  ·
    refine Vj_iconst (q := 33) (v := 0) dX10_isRow_32 rfl (by decide) ?_
    exact Vr_iret rfl rfl dX10_isRow_33 (⟨by unfold rwB; rw [bI_f0 h9]; rfl, rfl⟩)
  ·
    have h9b := bI_n.mp h9
    obtain ⟨k, hk1, hk2, rfl, ecl⟩ := iB_x (by omega) h9b
    have e : rwB (nI k) row a b = isR k row := by unfold rwB; rw [h9b, ecl]; rfl
    rw [e]
    refine Vj_iloadn (q := 13) dX10_isRow_12 rfl rfl rfl ?_
    refine Vj_i2l (q := 14) dX10_isRow_13 rfl ?_
    refine Vj_lconst (q := 15) (v := 0) dX10_isRow_14 rfl (by decide) ?_
    refine Vj_iloadn (q := 16) dX10_isRow_15 rfl rfl rfl ?_
    refine Vj_callSi (q := 19) (qX10_tenTo (n := k) (by omega)) (by decide) lkX10_159 stX10_tenTo okX10_tenTo dX10_isRow_16 rfl rfl (Nat.le_of_ble_eq_true rfl) ?_
    refine Vj_iconst (q := 20) (v := 1) dX10_isRow_19 rfl (by decide) ?_
    refine Vj_isub (q := 21) dX10_isRow_20 rfl ?_
    rw [nI_s1 (p10_lt (by omega)).2]
    refine Vj_i2l (q := 22) dX10_isRow_21 rfl ?_
    refine Vj_callSi (q := 25) (qX10_in _ _ _) (by decide) lkX10_74 stX10_in okX10_in dX10_isRow_22 rfl rfl (Nat.le_of_ble_eq_true rfl) ?_
    rw [in_i (a := 0) (b := ((10 ^ k : Nat) : Int) - 1) rfl (by rw [i64_n (by have := (p10_lt (n := k) (by omega)).1; omega)]; have := (p10_lt (n := k) (by omega)).2; omega), iB_hT (by have := (p10_lt (n := k) (by omega)).1; omega)]
    refine Vj_if_eq (q := 28) (tgt := 32) dX10_isRow_25 (by decide) rfl (fun h25 => ?_) (fun h25 => ?_)
    ·
      refine Vj_iconst (q := 33) (v := 0) dX10_isRow_32 rfl (by decide) ?_
      exact Vr_iret rfl rfl dX10_isRow_33 (⟨by rw [show isR k row = false from bI_f0 h25]; rfl, rfl⟩)
    ·
      refine Vj_iconst (q := 29) (v := 1) dX10_isRow_28 rfl (by decide) ?_
      refine Vj_goto (q := 33) dX10_isRow_29 (by decide) ?_
      exact Vr_iret rfl rfl dX10_isRow_33 (⟨by rw [show isR k row = true from bI_n.mp h25]; rfl, rfl⟩)
def oM (ρ : Rm) : Option Nat → Int32
  | none => -9
  | some c => nI (cm ρ c)
set_option maxRecDepth 100000 in
theorem qX10_messOf_loop {ρ : Rm} {σ : Mem} (h : RoM ρ σ) {x : Int32} : ∀ (k : Nat) (left : Int32) (c : Nat) (z5 : Option Value), k ≤ rN ρ → c < 4 ^ rN ρ → (∀ t, t < k → cS (rN ρ) c t = 0) → Vj shM 1 mX10_messOf (Ri (oM ρ (cOf ρ k left c)) σ) 12 [some (.ref 0), some (.int x), some (.int left), some (.int (nI (cm ρ c))), some (.int (nI k - 1)), z5] [] σ := by
  intro k
  induction k with
  | zero =>
    intro left c z5 hk hc hz
    rw [cOf]
    refine Vj_iload (q := 14) dX10_messOf_12 rfl rfl ?_
    refine Vj_if_lt (q := 17) (tgt := 70) dX10_messOf_14 (by decide) rfl (fun _ => ?_) (fun hz => absurd (by decide) hz)
    refine Vj_iloadn (q := 71) dX10_messOf_70 rfl rfl rfl ?_
    refine Vj_if_ne (q := 74) (tgt := 78) dX10_messOf_71 (by decide) rfl (fun h71 => ?_) (fun h71 => ?_)
    ·
      refine Vj_bipush (q := 80) (v := (-9)) dX10_messOf_78 rfl (by decide) ?_
      exact Vr_iret rfl rfl dX10_messOf_80 (⟨by rw [if_neg h71]; rfl, rfl⟩)
    ·
      refine Vj_iloadn (q := 75) dX10_messOf_74 rfl rfl rfl ?_
      refine Vj_goto (q := 80) dX10_messOf_75 (by decide) ?_
      exact Vr_iret rfl rfl dX10_messOf_80 (⟨by rw [if_pos h71]; rfl, rfl⟩)
  | succ k ih =>
    intro left c z5 hk hc hz
    have hn := h.1.1
    have hs := h.1.2.1 k (by omega)
    have e := h.2.2.2.2.1 k (by omega)
    rw [nI_pred, cOf]
    refine Vj_iload (q := 14) dX10_messOf_12 rfl rfl ?_
    refine Vj_if_lt (q := 17) (tgt := 70) dX10_messOf_14 (by decide) rfl (fun hz => absurd hz (nI_pos (by omega))) (fun _ => ?_)
    refine Vj_iloadn (q := 18) dX10_messOf_17 rfl rfl rfl ?_
    refine Vj_bipush (q := 20) (v := 10) dX10_messOf_18 rfl (by decide) ?_
    refine Vj_irem (q := 21) dX10_messOf_20 rfl (by decide) ?_
    refine Vs_istore5 (q := 23) dX10_messOf_21 rfl (by decide) rfl ?_
    refine Vj_iload (q := 25) dX10_messOf_23 rfl rfl ?_
    refine Vj_i2l (q := 26) dX10_messOf_25 rfl ?_
    refine Vj_lconst (q := 27) (v := 0) dX10_messOf_26 rfl (by decide) ?_
    refine Vj_aloadn (q := 28) dX10_messOf_27 rfl rfl rfl ?_
    refine Vj_getR (q := 31) flX10_7 rfl rfl dX10_messOf_28 rfl ?_
    refine Vj_iload (q := 33) dX10_messOf_31 rfl rfl ?_
    refine Vj_iald (q := 34) rfl (vp_in_nI (by omega) (by decide)) dX10_messOf_33 rfl ?_
    rw [nI_clamp (by omega), e.1]
    refine Vj_iconst (q := 35) (v := 1) dX10_messOf_34 rfl (by decide) ?_
    refine Vj_isub (q := 36) dX10_messOf_35 rfl ?_
    refine Vj_i2l (q := 37) dX10_messOf_36 rfl ?_
    refine Vj_callSi (q := 40) (qX10_in _ _ _) (by decide) lkX10_74 stX10_in okX10_in dX10_messOf_37 rfl rfl (Nat.le_of_ble_eq_true rfl) ?_
    rw [in_i (a := 0) (b := ((rS ρ k : Nat) : Int) - 1) rfl (i_m1 _ (by omega)), iB_hT (by omega)]
    refine Vj_if_ne (q := 43) (tgt := 46) dX10_messOf_40 (by decide) rfl (fun h40 => ?_) (fun h40 => ?_)
    ·
      have hT1 := bI_n.mp h40
      obtain ⟨j, hj, ej, ecl⟩ := hT_x (by omega) hT1
      have hno : ¬ (left % 10 < 0 ∨ nI (rS ρ k) ≤ left % 10) := by
        have := of_decide_eq_true hT1
        rintro (z | z)
        · exact absurd z (Int32.not_lt.mpr this.1)
        · exact absurd z (Int32.not_le.mpr this.2)
      rw [if_neg hno, ecl]
      refine Vj_iloadn (q := 47) dX10_messOf_46 rfl rfl rfl ?_
      refine Vj_aloadn (q := 48) dX10_messOf_47 rfl rfl rfl ?_
      refine Vj_getR (q := 51) flX10_13 rfl rfl dX10_messOf_48 rfl ?_
      refine Vj_iload (q := 53) dX10_messOf_51 rfl rfl ?_
      refine Vj_iald (q := 54) rfl (vp_in_nI (by omega) (by decide)) dX10_messOf_53 rfl ?_
      rw [nI_clamp (by omega), e.2]
      refine Vj_iload (q := 56) dX10_messOf_54 rfl rfl ?_
      refine Vj_imul (q := 57) dX10_messOf_56 rfl ?_
      refine Vj_iadd (q := 58) dX10_messOf_57 rfl ?_
      rw [ej, nI_mul, nI_add, show cm ρ c + mu ρ k * j = cm ρ (cW (rN ρ) c k j) by have := cm_cW h.1 hc (t := k) (s := j) (by omega) (by omega); rw [hz k (by omega)] at this; rw [Nat.mul_comm (mu ρ k)]; omega]
      refine Vs_istore3 (q := 59) dX10_messOf_58 rfl (by decide) rfl ?_
      refine Vj_iloadn (q := 60) dX10_messOf_59 rfl rfl rfl ?_
      refine Vj_bipush (q := 62) (v := 10) dX10_messOf_60 rfl (by decide) ?_
      refine Vj_idiv (q := 63) dX10_messOf_62 rfl (by decide) ?_
      refine Vs_istore2 (q := 64) dX10_messOf_63 rfl (by decide) rfl ?_
      refine Vs_iinc4 (q := 67) (z := none) dX10_messOf_64 rfl (by exact iinc_m _) (by decide) rfl ?_
      refine Vj_goto (q := 12) dX10_messOf_67 (by decide) ?_
      refine ih _ _ _ (by omega) (cW_lt _ hn c hc k (by omega) j (by omega)) (fun t ht => ?_)
      rw [cS_cW _ hn c hc k (by omega) j (by omega) t (by omega), if_neg (by omega)]
      exact hz t (by omega)
    ·
      refine Vj_bipush (q := 45) (v := (-9)) dX10_messOf_43 rfl (by decide) ?_
      refine Vr_iret rfl rfl dX10_messOf_45 ?_
      refine ⟨?_, rfl⟩
      have hT1 := bI_f0 h40
      have hyes : left % 10 < 0 ∨ nI (rS ρ k) ≤ left % 10 := Decidable.byContradiction fun z => by
        rw [hT_y (fun y => z (Or.inl y)) (fun y => z (Or.inr y))] at hT1
        exact absurd hT1 (by decide)
      rw [if_pos hyes]
      rfl
theorem cm_0 : ∀ k L, lMk L 0 k = 0
  | 0, _ => rfl
  | k + 1, L => by rw [lMk, cm_0 k L, cS_0, Nat.zero_mul]
theorem cm_z {ρ : Rm} : cm ρ 0 = 0 := by rw [cm_k, cm_0]

set_option maxRecDepth 100000 in
theorem qX10_messOf {ρ : Rm} {σ : Mem} (h : RoM ρ σ) (x : Int32) : Ct shM 1 mX10_messOf [.ref 0, .int x] σ (Ri (oM ρ (cOf ρ (rN ρ) x 0)) σ) := by
  refine Ct.of (by decide) (Nat.le_of_ble_eq_true rfl) (l := [some (.ref 0), some (.int x), none, none, none, none]) rfl ?_
  refine Vj_iloadn (q := 1) dX10_messOf_0 rfl rfl rfl ?_
  refine Vs_istore2 (q := 2) dX10_messOf_1 rfl (by decide) rfl ?_
  refine Vj_iconst (q := 3) (v := 0) dX10_messOf_2 rfl (by decide) ?_
  refine Vs_istore3 (q := 4) dX10_messOf_3 rfl (by decide) rfl ?_
  refine Vj_aloadn (q := 5) dX10_messOf_4 rfl rfl rfl ?_
  refine Vj_getI (q := 8) flX10_111 rfl rfl dX10_messOf_5 rfl ?_
  rw [h.2.1]
  refine Vj_iconst (q := 9) (v := 1) dX10_messOf_8 rfl (by decide) ?_
  refine Vj_isub (q := 10) dX10_messOf_9 rfl ?_
  refine Vs_istore4 (q := 12) dX10_messOf_10 rfl (by decide) rfl ?_
  rw [show (0 : Int32) = nI (cm ρ 0) by rw [cm_z]; rfl]
  exact qX10_messOf_loop h (rN ρ) x 0 none (Nat.le_refl _) (p4_pos _) (fun t _ => cS_0)
theorem nI_nm9 {a : Nat} (h : a < 2 ^ 31) : ¬ nI a = -9 := fun e => by
  have := congrArg Int32.toInt e
  rw [nI_toInt h, show (-9 : Int32).toInt = -9 from rfl] at this
  omega
theorem oM_ne {ρ : Rm} (hr : okR ρ) {c : Nat} (hc : cV ρ c) : ¬ nI (cm ρ c) = -9 := fun e => by
  have h1 := cm_lt hr hc
  have h2 := mN_le hr
  exact nI_nm9 (by omega) e
theorem cOf_V0 {ρ : Rm} (hr : okR ρ) {x : Int32} {to : Nat} (e : cOf ρ (rN ρ) x 0 = some to) : cV ρ to := cOf_V hr _ _ _ _ (Nat.le_refl _) (p4_pos _) (fun t h1 h2 => absurd h2 (Nat.not_lt.mpr h1)) e
theorem i_dg {n r i : Nat} (hn : n < 7) (hr : r < 2 ^ 30) : nI r / nI (10 ^ (n - 1 - i)) % 10 = nI (dg n r i) := by
  have h1 := p10_lt hn
  have h2 := p10_lt (n := n - 1 - i) (by omega)
  rw [nI_div (by omega) (by omega), show (10 : Int32) = nI 10 from rfl, nI_mod (Nat.lt_of_le_of_lt (Nat.div_le_self _ _) (by omega)) (by decide) (by decide)]
  rfl
theorem cV_nxd {ρ : Rm} (hr : okR ρ) {c d : Nat} (hc : cV ρ c) (hd : bOk ρ d = true) : cV ρ (cNx ρ c (d - 1)) := ⟨cNx_lt hr hc.1 (bOk_1 hd).2, cOk_nx hr hc.1 (bOk_1 hd).2 hc.2⟩

set_option maxRecDepth 100000 in
theorem qX10_afterRow_loop {ρ : Rm} {σ : Mem} (h : RoM ρ σ) (hTa : TaM ρ σ) {n r c : Nat} (hn : n < 7) (hrr : r < 2 ^ 30) (hc : cV ρ c) : ∀ (k i : Nat) (z6 : Option Value), i + k = n → rKk ρ n r i = true → Vj shM 2 mX10_afterRow (Ri (if rKk ρ n r n = true then nI (cm ρ (rGo ρ n r c n)) else -9) σ) 6 [some (.ref 0), some (.int (nI (cm ρ c))), some (.int (nI n)), some (.int (nI r)), some (.int (nI (cm ρ (rGo ρ n r c i)))), some (.int (nI i)), z6] [] σ := by
  intro k
  induction k with
  | zero =>
    intro i z6 hi hk
    obtain rfl : i = n := by omega
    rw [if_pos hk]
    refine Vj_iload (q := 8) dX10_afterRow_6 rfl rfl ?_
    refine Vj_iloadn (q := 9) dX10_afterRow_8 rfl rfl rfl ?_
    refine Vj_icmp_ge (q := 12) (tgt := 64) dX10_afterRow_9 (by decide) rfl (fun _ => ?_) (fun hz => absurd (nI_le (by omega) (by omega)) hz)
    refine Vj_iload (q := 66) dX10_afterRow_64 rfl rfl ?_
    exact Vr_iret rfl rfl dX10_afterRow_66 (⟨rfl, rfl⟩)
  | succ k ih =>
    intro i z6 hi hk
    have hB7 := h.1.2.2.1
    have hM := mN_le h.1
    have hp10 := p10_lt (n := n - 1 - i) (by omega)
    refine Vj_iload (q := 8) dX10_afterRow_6 rfl rfl ?_
    refine Vj_iloadn (q := 9) dX10_afterRow_8 rfl rfl rfl ?_
    refine Vj_icmp_ge (q := 12) (tgt := 64) dX10_afterRow_9 (by decide) rfl (fun hz => absurd hz (nI_ge (by omega) (by omega))) (fun _ => ?_)
    refine Vj_iloadn (q := 13) dX10_afterRow_12 rfl rfl rfl ?_
    refine Vj_iloadn (q := 14) dX10_afterRow_13 rfl rfl rfl ?_
    refine Vj_iconst (q := 15) (v := 1) dX10_afterRow_14 rfl (by decide) ?_
    refine Vj_isub (q := 16) dX10_afterRow_15 rfl ?_
    rw [nI_s1 (by omega)]
    refine Vj_iload (q := 18) dX10_afterRow_16 rfl rfl ?_
    refine Vj_isub (q := 19) dX10_afterRow_18 rfl ?_
    rw [nI_sub (by omega)]
    refine Vj_callSi (q := 22) (qX10_tenTo (n := n - 1 - i) (by omega)) (by decide) lkX10_159 stX10_tenTo okX10_tenTo dX10_afterRow_19 rfl rfl (Nat.le_of_ble_eq_true rfl) ?_
    refine Vj_idiv (q := 23) dX10_afterRow_22 rfl (nI_ne0 (by omega) (by omega)) ?_
    refine Vj_bipush (q := 25) (v := 10) dX10_afterRow_23 rfl (by decide) ?_
    refine Vj_irem (q := 26) dX10_afterRow_25 rfl (by decide) ?_
    rw [i_dg hn hrr]
    refine Vj_iconst (q := 27) (v := 1) dX10_afterRow_26 rfl (by decide) ?_
    refine Vj_isub (q := 28) dX10_afterRow_27 rfl ?_
    refine Vs_istore6 (q := 30) dX10_afterRow_28 rfl (by decide) rfl ?_
    refine Vj_aloadn (q := 31) dX10_afterRow_30 rfl rfl rfl ?_
    refine Vj_iload (q := 33) dX10_afterRow_31 rfl rfl ?_
    refine Vj_callVi (q := 36) (qX10_isButton h _) (by decide) rfl rfl lkX10_147 viX10_isButton okX10_isButton dX10_afterRow_33 rfl rfl (Nat.le_of_ble_eq_true rfl) ?_
    rw [hT_dg h.1 (dg_lt _ _ _)]
    refine Vj_if_ne (q := 39) (tgt := 42) dX10_afterRow_36 (by decide) rfl (fun h36 => ?_) (fun h36 => ?_)
    ·
      have hb := bI_n.mp h36
      have hb2 := bOk_1 hb
      have hcc := rGo_ok h.1 hc i hk
      have hcl := cm_lt h.1 hcc
      refine Vj_aloadn (q := 43) dX10_afterRow_42 rfl rfl rfl ?_
      refine Vj_getR (q := 46) flX10_25 rfl rfl dX10_afterRow_43 rfl ?_
      refine Vj_sipush (q := 49) (v := 256) dX10_afterRow_46 rfl (by decide) ?_
      refine Vj_iload (q := 51) dX10_afterRow_49 rfl rfl ?_
      refine Vj_imul (q := 52) dX10_afterRow_51 rfl ?_
      rw [nI_s1 hb2.1]
      refine Vj_iload (q := 54) dX10_afterRow_52 rfl rfl ?_
      refine Vj_iadd (q := 55) dX10_afterRow_54 rfl ?_
      rw [i_256]
      refine Vj_iald (q := 56) rfl (vp_in_nI (by omega) (by decide)) dX10_afterRow_55 rfl ?_
      rw [nI_clamp (by omega), hTa _ hb2.2 _ hcc]
      refine Vs_istore4 (q := 58) dX10_afterRow_56 rfl (by decide) rfl ?_
      refine Vs_iinc5 (q := 61) (z := none) dX10_afterRow_58 rfl (by exact iinc_p _) (by decide) rfl ?_
      refine Vj_goto (q := 6) dX10_afterRow_61 (by decide) ?_
      rw [nI_1]
      exact ih (i + 1) _ (by omega) (by rw [rKk, hk, hb]; rfl)
    ·
      refine Vj_bipush (q := 41) (v := (-9)) dX10_afterRow_39 rfl (by decide) ?_
      refine Vr_iret rfl rfl dX10_afterRow_41 ?_
      refine ⟨?_, rfl⟩
      rw [if_neg]
      intro z
      have := rKk_at n z i (by omega)
      rw [bI_f0 h36] at this
      exact absurd this (by decide)
set_option maxRecDepth 100000 in
theorem qX10_afterRow {ρ : Rm} {σ : Mem} (h : RoM ρ σ) (hTa : TaM ρ σ) {n r c : Nat} (hn : n < 7) (hrr : r < 2 ^ 30) (hc : cV ρ c) : Ct shM 2 mX10_afterRow [.ref 0, .int (nI (cm ρ c)), .int (nI n), .int (nI r)] σ (Ri (if rKk ρ n r n = true then nI (cm ρ (rGo ρ n r c n)) else -9) σ) := by
  refine Ct.of (by decide) (Nat.le_of_ble_eq_true rfl) (l := [some (.ref 0), some (.int (nI (cm ρ c))), some (.int (nI n)), some (.int (nI r)), none, none, none]) rfl ?_
  refine Vj_iloadn (q := 1) dX10_afterRow_0 rfl rfl rfl ?_
  refine Vs_istore4 (q := 3) dX10_afterRow_1 rfl (by decide) rfl ?_
  refine Vj_iconst (q := 4) (v := 0) dX10_afterRow_3 rfl (by decide) ?_
  refine Vs_istore5 (q := 6) dX10_afterRow_4 rfl (by decide) rfl ?_
  exact qX10_afterRow_loop h hTa hn hrr hc n 0 none (by omega) rfl
set_option maxRecDepth 100000 in
theorem qX10_after {tx : List Nat} {ρ : Rm} {c d p : Nat} {ac : List (Nat × Nat × Nat)} {sl : Nat → Option (Nat × Nat × Nat)} {se : List (Nat × Nat × Nat)} {sd : Int64} {N : Nat} {σ : Mem} (h : RM tx ρ c d p ac sl se sd σ) (hv : okV N ρ c d p ac sl se) (n row : Int32) : Ct shM 3 mX10_after [.ref 0, .int n, .int row] σ (PM (spAfter ρ c n row) tx ρ c d p ac sl se sd) := by
  obtain ⟨hr, hc, hd, hp, hN30, ⟨hal, hav⟩, hsv, hse⟩ := hv
  obtain ⟨hTx, hP, hTa, hNw, hAc, hSl, hSe, hSd⟩ := h
  have hM := mN_le hr
  have hcM := cm_lt hr hc
  have hdM := cm_lt hr hd
  have hn5 := hr.1
  have hB7 := hr.2.2.1
  have h : RM tx ρ c d p ac sl se sd σ := ⟨hTx, hP, hTa, hNw, hAc, hSl, hSe, hSd⟩
  refine Ct.of (by decide) (Nat.le_of_ble_eq_true rfl) (l := [some (.ref 0), some (.int n), some (.int row), none]) rfl ?_
  refine Vj_iloadn (q := 1) dX10_after_0 rfl rfl rfl ?_
  refine Vj_iloadn (q := 2) dX10_after_1 rfl rfl rfl ?_
  refine Vj_iconst (q := 3) (v := 1) dX10_after_2 rfl (by decide) ?_
  refine Vj_bipush (q := 5) (v := 6) dX10_after_3 rfl (by decide) ?_
  refine Vj_callSi (q := 8) (qX10_isRow n row (a := 1) (b := 6) (by decide) (by decide)) (by decide) lkX10_162 stX10_isRow okX10_isRow dX10_after_5 rfl rfl (Nat.le_of_ble_eq_true rfl) ?_
  refine Vj_if_ne (q := 11) (tgt := 14) dX10_after_8 (by decide) rfl (fun h8 => ?_) (fun h8 => ?_)
  ·
    have h8b := bI_n.mp h8
    obtain ⟨k, r, hk1, hk2, rfl, ek, hrr, rfl, er⟩ := rwB_t (by decide) h8b
    have hno : ¬ ((nI k) < 1 ∨ 6 < nI k ∨ isR (nI k).toNatClampNeg (nI r) = false) := fun z => by
      have z2 := (rwB_f (a := 1) (b := 6) (by decide) (by decide)).mpr z
      rw [h8b] at z2
      exact absurd z2 (by decide)
    refine Vj_aloadn (q := 15) dX10_after_14 rfl rfl rfl ?_
    refine Vj_aloadn (q := 16) dX10_after_15 rfl rfl rfl ?_
    refine Vj_getI (q := 19) flX10_117 rfl rfl dX10_after_16 rfl ?_
    rw [hNw.1]
    refine Vj_iloadn (q := 20) dX10_after_19 rfl rfl rfl ?_
    refine Vj_iloadn (q := 21) dX10_after_20 rfl rfl rfl ?_
    refine Vj_callVi (q := 24) (qX10_afterRow hP hTa (n := k) (by omega) (Nat.lt_trans hrr (p10_lt (by omega)).1) hc) (by decide) rfl rfl lkX10_166 viX10_afterRow okX10_afterRow dX10_after_21 rfl rfl (Nat.le_of_ble_eq_true rfl) ?_
    refine Vs_istore3 (q := 25) dX10_after_24 rfl (by decide) rfl ?_
    refine Vj_iloadn (q := 26) dX10_after_25 rfl rfl rfl ?_
    refine Vj_bipush (q := 28) (v := (-9)) dX10_after_26 rfl (by decide) ?_
    refine Vj_icmp_ne (q := 31) (tgt := 36) dX10_after_28 (by decide) rfl (fun h28 => ?_) (fun h28 => ?_)
    ·
      have hkk : rKk ρ k r k = true := Decidable.byContradiction fun z => h28 (by rw [if_neg z])
      rw [if_pos hkk]
      refine Vj_aloadn (q := 37) dX10_after_36 rfl rfl rfl ?_
      refine Vj_iloadn (q := 38) dX10_after_37 rfl rfl rfl ?_
      refine Vj_callVi (q := 41) (qX10_figuresOf hP (rGo_ok hr hc k hkk)) (by decide) rfl rfl lkX10_156 viX10_figuresOf okX10_figuresOf dX10_after_38 rfl rfl (Nat.le_of_ble_eq_true rfl) ?_
      exact Vr_iret rfl rfl dX10_after_41 (⟨by unfold spAfter; rw [if_neg hno, ek, er, if_pos hkk], h⟩)
    ·
      have hkk : ¬ rKk ρ k r k = true := fun z => by
        rw [if_pos z] at h28
        exact oM_ne hr (rGo_ok hr hc k z) h28
      refine Vj_bipush (q := 33) (v := (-3)) dX10_after_31 rfl (by decide) ?_
      refine Vj_goto (q := 41) dX10_after_33 (by decide) ?_
      exact Vr_iret rfl rfl dX10_after_41 (⟨by unfold spAfter; rw [if_neg hno, ek, er, if_neg hkk], h⟩)
  ·
    refine Vj_bipush (q := 13) (v := (-2)) dX10_after_11 rfl (by decide) ?_
    exact Vr_iret rfl rfl dX10_after_13 (⟨by unfold spAfter; rw [if_pos (show n < 1 ∨ 6 < n ∨ isR n.toNatClampNeg row = false from (rwB_f (a := 1) (b := 6) (by decide) (by decide)).mp (bI_f0 h8))], h⟩)
set_option maxRecDepth 100000 in
theorem qX10_all_loop {tx : List Nat} {ρ : Rm} {c d p : Nat} {ac : List (Nat × Nat × Nat)} {sl : Nat → Option (Nat × Nat × Nat)} {se : List (Nat × Nat × Nat)} {sd : Int64} {N : Nat} {σ : Mem} (h : RM tx ρ c d p ac sl se sd σ) (hv : okV N ρ c d p ac sl se) : ∀ k t : Nat, t + k = rB ρ → Vj shM 2 mX10_all (PM (nI (cDg (rN ρ) (aGo ρ c (rB ρ)) (rN ρ))) tx ρ c d p ac sl se sd) 7 [some (.ref 0), some (.int (nI (cm ρ (aGo ρ c t)))), some (.int (nI t))] [] σ := by
  intro k
  obtain ⟨hr, hc, hd, hp, hN30, ⟨hal, hav⟩, hsv, hse⟩ := hv
  obtain ⟨hTx, hP, hTa, hNw, hAc, hSl, hSe, hSd⟩ := h
  have hM := mN_le hr
  have hcM := cm_lt hr hc
  have hdM := cm_lt hr hd
  have hn5 := hr.1
  have hB7 := hr.2.2.1
  have h : RM tx ρ c d p ac sl se sd σ := ⟨hTx, hP, hTa, hNw, hAc, hSl, hSe, hSd⟩
  induction k with
  | zero =>
    intro t ht
    obtain rfl : t = rB ρ := by omega
    refine Vj_iloadn (q := 8) dX10_all_7 rfl rfl rfl ?_
    refine Vj_aloadn (q := 9) dX10_all_8 rfl rfl rfl ?_
    refine Vj_getI (q := 12) flX10_114 rfl rfl dX10_all_9 rfl ?_
    rw [hP.2.2.1]
    refine Vj_icmp_ge (q := 15) (tgt := 34) dX10_all_12 (by decide) rfl (fun _ => ?_) (fun hz => absurd (nI_le (by omega) (by omega)) hz)
    refine Vj_aloadn (q := 35) dX10_all_34 rfl rfl rfl ?_
    refine Vj_iloadn (q := 36) dX10_all_35 rfl rfl rfl ?_
    refine Vj_callVi (q := 39) (qX10_figuresOf hP (aGo_lt hr hc _ (Nat.le_refl _))) (by decide) rfl rfl lkX10_156 viX10_figuresOf okX10_figuresOf dX10_all_36 rfl rfl (Nat.le_of_ble_eq_true rfl) ?_
    exact Vr_iret rfl rfl dX10_all_39 (⟨rfl, h⟩)
  | succ k ih =>
    intro t ht
    have hcc := aGo_lt hr hc t (by omega)
    have hcl := cm_lt hr hcc
    refine Vj_iloadn (q := 8) dX10_all_7 rfl rfl rfl ?_
    refine Vj_aloadn (q := 9) dX10_all_8 rfl rfl rfl ?_
    refine Vj_getI (q := 12) flX10_114 rfl rfl dX10_all_9 rfl ?_
    rw [hP.2.2.1]
    refine Vj_icmp_ge (q := 15) (tgt := 34) dX10_all_12 (by decide) rfl (fun hz => absurd hz (nI_ge (by omega) (by omega))) (fun _ => ?_)
    refine Vj_aloadn (q := 16) dX10_all_15 rfl rfl rfl ?_
    refine Vj_getR (q := 19) flX10_25 rfl rfl dX10_all_16 rfl ?_
    refine Vj_sipush (q := 22) (v := 256) dX10_all_19 rfl (by decide) ?_
    refine Vj_iloadn (q := 23) dX10_all_22 rfl rfl rfl ?_
    refine Vj_imul (q := 24) dX10_all_23 rfl ?_
    refine Vj_iloadn (q := 25) dX10_all_24 rfl rfl rfl ?_
    refine Vj_iadd (q := 26) dX10_all_25 rfl ?_
    rw [i_256]
    refine Vj_iald (q := 27) rfl (vp_in_nI (by omega) (by decide)) dX10_all_26 rfl ?_
    rw [nI_clamp (by omega), hTa t (by omega) _ hcc]
    refine Vs_istore1 (q := 28) dX10_all_27 rfl (by decide) rfl ?_
    refine Vs_iinc2 (q := 31) (z := none) dX10_all_28 rfl (by exact iinc_p _) (by decide) rfl ?_
    refine Vj_goto (q := 7) dX10_all_31 (by decide) ?_
    rw [nI_1]
    exact ih (t + 1) (by omega)
set_option maxRecDepth 100000 in
theorem qX10_all {tx : List Nat} {ρ : Rm} {c d p : Nat} {ac : List (Nat × Nat × Nat)} {sl : Nat → Option (Nat × Nat × Nat)} {se : List (Nat × Nat × Nat)} {sd : Int64} {N : Nat} {σ : Mem} (h : RM tx ρ c d p ac sl se sd σ) (hv : okV N ρ c d p ac sl se) : Ct shM 2 mX10_all [.ref 0] σ (PM (nI (cDg (rN ρ) (aGo ρ c (rB ρ)) (rN ρ))) tx ρ c d p ac sl se sd) := by
  obtain ⟨hr, hc, hd, hp, hN30, ⟨hal, hav⟩, hsv, hse⟩ := hv
  obtain ⟨hTx, hP, hTa, hNw, hAc, hSl, hSe, hSd⟩ := h
  have hM := mN_le hr
  have hcM := cm_lt hr hc
  have hdM := cm_lt hr hd
  have hn5 := hr.1
  have hB7 := hr.2.2.1
  have h : RM tx ρ c d p ac sl se sd σ := ⟨hTx, hP, hTa, hNw, hAc, hSl, hSe, hSd⟩
  refine Ct.of (by decide) (Nat.le_of_ble_eq_true rfl) (l := [some (.ref 0), none, none]) rfl ?_
  refine Vj_aloadn (q := 1) dX10_all_0 rfl rfl rfl ?_
  refine Vj_getI (q := 4) flX10_117 rfl rfl dX10_all_1 rfl ?_
  rw [hNw.1]
  refine Vs_istore1 (q := 5) dX10_all_4 rfl (by decide) rfl ?_
  refine Vj_iconst (q := 6) (v := 0) dX10_all_5 rfl (by decide) ?_
  refine Vs_istore2 (q := 7) dX10_all_6 rfl (by decide) rfl ?_
  exact qX10_all_loop h ⟨hr, hc, hd, hp, hN30, ⟨hal, hav⟩, hsv, hse⟩ (rB ρ) 0 (by omega)
set_option maxRecDepth 100000 in
theorem qX10_judge_loop {tx : List Nat} {ρ : Rm} {c d p : Nat} {ac : List (Nat × Nat × Nat)} {sl : Nat → Option (Nat × Nat × Nat)} {se : List (Nat × Nat × Nat)} {sd : Int64} {N : Nat} {σ : Mem} (h : RM tx ρ c d p ac sl se sd σ) (hv : okV N ρ c d p ac sl se) {n r : Nat} (hn : n < 7) (hrr : r < 10 ^ n) : ∀ (k i x : Nat) (z5 : Option Value), i + k = n → cV ρ x → Vj shM 2 mX10_judge (PM (fI (jdG ρ n r k i x)) tx ρ c d p ac sl se sd) 22 [some (.ref 0), some (.int (nI n)), some (.int (nI r)), some (.int (nI (cm ρ x))), some (.int (nI i)), z5] [] σ := by
  intro k
  obtain ⟨hr, hc, hd, hp, hN30, ⟨hal, hav⟩, hsv, hse⟩ := hv
  obtain ⟨hTx, hP, hTa, hNw, hAc, hSl, hSe, hSd⟩ := h
  have hM := mN_le hr
  have hcM := cm_lt hr hc
  have hdM := cm_lt hr hd
  have hn5 := hr.1
  have hB7 := hr.2.2.1
  have h : RM tx ρ c d p ac sl se sd σ := ⟨hTx, hP, hTa, hNw, hAc, hSl, hSe, hSd⟩
  induction k with
  | zero =>
    intro i x z5 hi hx
    obtain rfl : i = n := by omega
    refine Vj_iload (q := 24) dX10_judge_22 rfl rfl ?_
    refine Vj_iloadn (q := 25) dX10_judge_24 rfl rfl rfl ?_
    refine Vj_icmp_ge (q := 28) (tgt := 95) dX10_judge_25 (by decide) rfl (fun _ => ?_) (fun hz => absurd (nI_le (by omega) (by omega)) hz)
    refine Vj_bipush (q := 97) (v := (-9)) dX10_judge_95 rfl (by decide) ?_
    exact Vr_iret rfl rfl dX10_judge_97 (⟨rfl, h⟩)
  | succ k ih =>
    intro i x z5 hi hx
    have hp10 := p10_lt (n := n - 1 - i) (by omega)
    have hxl := cm_lt hr hx
    rw [jdG]
    refine Vj_iload (q := 24) dX10_judge_22 rfl rfl ?_
    refine Vj_iloadn (q := 25) dX10_judge_24 rfl rfl rfl ?_
    refine Vj_icmp_ge (q := 28) (tgt := 95) dX10_judge_25 (by decide) rfl (fun hz => absurd hz (nI_ge (by omega) (by omega))) (fun _ => ?_)
    refine Vj_iloadn (q := 29) dX10_judge_28 rfl rfl rfl ?_
    refine Vj_iloadn (q := 30) dX10_judge_29 rfl rfl rfl ?_
    refine Vj_iconst (q := 31) (v := 1) dX10_judge_30 rfl (by decide) ?_
    refine Vj_isub (q := 32) dX10_judge_31 rfl ?_
    rw [nI_s1 (by omega)]
    refine Vj_iload (q := 34) dX10_judge_32 rfl rfl ?_
    refine Vj_isub (q := 35) dX10_judge_34 rfl ?_
    rw [nI_sub (by omega)]
    refine Vj_callSi (q := 38) (qX10_tenTo (n := n - 1 - i) (by omega)) (by decide) lkX10_159 stX10_tenTo okX10_tenTo dX10_judge_35 rfl rfl (Nat.le_of_ble_eq_true rfl) ?_
    refine Vj_idiv (q := 39) dX10_judge_38 rfl (nI_ne0 (by omega) (by omega)) ?_
    refine Vj_bipush (q := 41) (v := 10) dX10_judge_39 rfl (by decide) ?_
    refine Vj_irem (q := 42) dX10_judge_41 rfl (by decide) ?_
    rw [i_dg hn (Nat.lt_trans hrr (p10_lt hn).1)]
    refine Vj_iconst (q := 43) (v := 1) dX10_judge_42 rfl (by decide) ?_
    refine Vj_isub (q := 44) dX10_judge_43 rfl ?_
    refine Vs_istore5 (q := 46) dX10_judge_44 rfl (by decide) rfl ?_
    refine Vj_aloadn (q := 47) dX10_judge_46 rfl rfl rfl ?_
    refine Vj_iload (q := 49) dX10_judge_47 rfl rfl ?_
    refine Vj_callVi (q := 52) (qX10_isButton hP _) (by decide) rfl rfl lkX10_147 viX10_isButton okX10_isButton dX10_judge_49 rfl rfl (Nat.le_of_ble_eq_true rfl) ?_
    rw [hT_dg hr (dg_lt _ _ _)]
    refine Vj_if_eq (q := 55) (tgt := 72) dX10_judge_52 (by decide) rfl (fun h52 => ?_) (fun h52 => ?_)
    ·
      refine Vj_iload (q := 74) dX10_judge_72 rfl rfl ?_
      exact Vr_iret rfl rfl dX10_judge_74 (⟨by rw [bI_f0 h52]; rfl, h⟩)
    ·
      have hb := bI_n.mp h52
      have hb2 := bOk_1 hb
      have hcn := cV_nxd hr hx hb
      have hcnl := cm_lt hr hcn
      refine Vj_aloadn (q := 56) dX10_judge_55 rfl rfl rfl ?_
      refine Vj_getR (q := 59) flX10_25 rfl rfl dX10_judge_56 rfl ?_
      refine Vj_sipush (q := 62) (v := 256) dX10_judge_59 rfl (by decide) ?_
      refine Vj_iload (q := 64) dX10_judge_62 rfl rfl ?_
      refine Vj_imul (q := 65) dX10_judge_64 rfl ?_
      rw [nI_s1 hb2.1]
      refine Vj_iloadn (q := 66) dX10_judge_65 rfl rfl rfl ?_
      refine Vj_iadd (q := 67) dX10_judge_66 rfl ?_
      rw [i_256]
      refine Vj_iald (q := 68) rfl (vp_in_nI (by omega) (by decide)) dX10_judge_67 rfl ?_
      rw [nI_clamp (by omega), hTa _ hb2.2 _ hx]
      refine Vj_iloadn (q := 69) dX10_judge_68 rfl rfl rfl ?_
      refine Vj_icmp_ne (q := 72) (tgt := 75) dX10_judge_69 (by decide) rfl (fun h69 => ?_) (fun h69 => ?_)
      ·
        have hne : (cNx ρ x (dg n r i - 1) == x) = false := by
          rw [beq_eq_false_iff_ne]
          exact fun z => h69 (by rw [z])
        rw [hb, hne]
        refine Vj_aloadn (q := 76) dX10_judge_75 rfl rfl rfl ?_
        refine Vj_getR (q := 79) flX10_25 rfl rfl dX10_judge_76 rfl ?_
        refine Vj_sipush (q := 82) (v := 256) dX10_judge_79 rfl (by decide) ?_
        refine Vj_iload (q := 84) dX10_judge_82 rfl rfl ?_
        refine Vj_imul (q := 85) dX10_judge_84 rfl ?_
        refine Vj_iloadn (q := 86) dX10_judge_85 rfl rfl rfl ?_
        refine Vj_iadd (q := 87) dX10_judge_86 rfl ?_
        rw [i_256]
        refine Vj_iald (q := 88) rfl (vp_in_nI (by omega) (by decide)) dX10_judge_87 rfl ?_
        rw [nI_clamp (by omega), hTa _ hb2.2 _ hx]
        refine Vs_istore3 (q := 89) dX10_judge_88 rfl (by decide) rfl ?_
        refine Vs_iinc4 (q := 92) (z := none) dX10_judge_89 rfl (by exact iinc_p _) (by decide) rfl ?_
        refine Vj_goto (q := 22) dX10_judge_92 (by decide) ?_
        rw [nI_1]
        exact ih (i + 1) _ _ (by omega) hcn
      ·
        refine Vj_iload (q := 74) dX10_judge_72 rfl rfl ?_
        refine Vr_iret rfl rfl dX10_judge_74 ?_
        have he : (cNx ρ x (dg n r i - 1) == x) = true := by
          rw [beq_iff_eq]
          exact (cm_inj hr hcn hx).mp ((nI_eq (by omega) (by omega)).mp h69)
        exact ⟨by rw [hb, he]; rfl, h⟩
set_option maxRecDepth 100000 in
theorem qX10_judge {tx : List Nat} {ρ : Rm} {c d p : Nat} {ac : List (Nat × Nat × Nat)} {sl : Nat → Option (Nat × Nat × Nat)} {se : List (Nat × Nat × Nat)} {sd : Int64} {N : Nat} {σ : Mem} (h : RM tx ρ c d p ac sl se sd σ) (hv : okV N ρ c d p ac sl se) (n row : Int32) : Ct shM 2 mX10_judge [.ref 0, .int n, .int row] σ (PM (spJudge ρ c n row) tx ρ c d p ac sl se sd) := by
  obtain ⟨hr, hc, hd, hp, hN30, ⟨hal, hav⟩, hsv, hse⟩ := hv
  obtain ⟨hTx, hP, hTa, hNw, hAc, hSl, hSe, hSd⟩ := h
  have hM := mN_le hr
  have hcM := cm_lt hr hc
  have hdM := cm_lt hr hd
  have hn5 := hr.1
  have hB7 := hr.2.2.1
  have h : RM tx ρ c d p ac sl se sd σ := ⟨hTx, hP, hTa, hNw, hAc, hSl, hSe, hSd⟩
  refine Ct.of (by decide) (Nat.le_of_ble_eq_true rfl) (l := [some (.ref 0), some (.int n), some (.int row), none, none, none]) rfl ?_
  refine Vj_iloadn (q := 1) dX10_judge_0 rfl rfl rfl ?_
  refine Vj_iloadn (q := 2) dX10_judge_1 rfl rfl rfl ?_
  refine Vj_iconst (q := 3) (v := 1) dX10_judge_2 rfl (by decide) ?_
  refine Vj_bipush (q := 5) (v := 6) dX10_judge_3 rfl (by decide) ?_
  refine Vj_callSi (q := 8) (qX10_isRow n row (a := 1) (b := 6) (by decide) (by decide)) (by decide) lkX10_162 stX10_isRow okX10_isRow dX10_judge_5 rfl rfl (Nat.le_of_ble_eq_true rfl) ?_
  refine Vj_if_ne (q := 11) (tgt := 14) dX10_judge_8 (by decide) rfl (fun h8 => ?_) (fun h8 => ?_)
  ·
    have h8b := bI_n.mp h8
    obtain ⟨k, r, hk1, hk2, rfl, ek, hrr, rfl, er⟩ := rwB_t (by decide) h8b
    have hno : ¬ ((nI k) < 1 ∨ 6 < nI k ∨ isR (nI k).toNatClampNeg (nI r) = false) := fun z => by
      have z2 := (rwB_f (a := 1) (b := 6) (by decide) (by decide)).mpr z
      rw [h8b] at z2
      exact absurd z2 (by decide)
    have esp : spJudge ρ c (nI k) (nI r) = fI (jdG ρ k r k 0 c) := by unfold spJudge; rw [if_neg hno, ek, er]
    rw [esp]
    refine Vj_aloadn (q := 15) dX10_judge_14 rfl rfl rfl ?_
    refine Vj_getI (q := 18) flX10_117 rfl rfl dX10_judge_15 rfl ?_
    rw [hNw.1]
    refine Vs_istore3 (q := 19) dX10_judge_18 rfl (by decide) rfl ?_
    refine Vj_iconst (q := 20) (v := 0) dX10_judge_19 rfl (by decide) ?_
    refine Vs_istore4 (q := 22) dX10_judge_20 rfl (by decide) rfl ?_
    exact qX10_judge_loop h ⟨hr, hc, hd, hp, hN30, ⟨hal, hav⟩, hsv, hse⟩ (n := k) (by omega) hrr k 0 c none (by omega) hc
  ·
    refine Vj_bipush (q := 13) (v := (-2)) dX10_judge_11 rfl (by decide) ?_
    exact Vr_iret rfl rfl dX10_judge_13 (⟨by unfold spJudge; rw [if_pos (show n < 1 ∨ 6 < n ∨ isR n.toNatClampNeg row = false from (rwB_f (a := 1) (b := 6) (by decide) (by decide)).mp (bI_f0 h8))], h⟩)
