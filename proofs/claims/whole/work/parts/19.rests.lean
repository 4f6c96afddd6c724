/-! fractions -/
def gcI : Nat → Int32 → Int32 → Int32
  | 0, g, _ => g
  | k + 1, g, l => if l = 0 then g else gcI k l (g % l)
def frS (a b up : Int32) : Int32 := if gcI 64 a b = 0 then -9 else (if up = 0 then b else a) / gcI 64 a b
/-- how many come to the target by the chosen ones -/
def cnR (ρ : Rm) (to ch : Nat) : Nat := cntN (fun c => (dst (cNx ρ) (rB ρ) ch to c).isSome) (4 ^ rN ρ)
def shA (ρ : Rm) (to b : Nat) : Nat → Int32
  | 0 => 0
  | k + 1 => if k / 2 ^ b % 2 = 0 then shA ρ to b k + (nI (cnR ρ to (k ||| 2 ^ b)) - nI (cnR ρ to k)) * (tORD (pop6 k) * tORD (rB ρ - 1 - pop6 k)) else shA ρ to b k
def spShare (ρ : Rm) (x mess up : Int32) : Int32 :=
  if hT (rB ρ) x then
    (match cOf ρ (rN ρ) mess 0 with
    | none => -2
    | some to => frS (shA ρ to x.toNatClampNeg (2 ^ rB ρ)) (tORD (rB ρ)) up)
  else -1
theorem i_own : ∀ b, b < 6 → (1 : Int32) <<< (nI b &&& 31) = nI (2 ^ b) := by decide +kernel
theorem i_has0 : ∀ k, k < 64 → ∀ b, b < 6 → nI k &&& nI (2 ^ b) = nI (k / 2 ^ b % 2 * 2 ^ b) := by decide +kernel
theorem o_lt : ∀ n, n < 7 → ∀ b, b < n → ∀ k, k < 2 ^ n → k ||| 2 ^ b < 64 := by decide +kernel
theorem p_own : ∀ n, n < 7 → ∀ b, b < n → ∀ k, k < 2 ^ n → k / 2 ^ b % 2 = 0 → pop6 k + 1 ≤ n := by decide +kernel

set_option maxRecDepth 100000 in
theorem qX9_commonDivisor_loop {σ : Mem} {a b : Int32} : ∀ (k i : Nat) (g l : Int32) (z5 : Option Value), i + k = 64 → Vj shX 0 mX9_commonDivisor (Ri (gcI k g l) σ) 7 [some (.int a), some (.int b), some (.int g), some (.int l), some (.int (nI i)), z5] [] σ := by
  intro k
  induction k with
  | zero =>
    intro i g l z5 hi
    obtain rfl : i = 64 := by omega
    refine Vj_iload (q := 9) dX9_commonDivisor_7 rfl rfl ?_
    refine Vj_bipush (q := 11) (v := 64) dX9_commonDivisor_9 rfl (by decide) ?_
    refine Vj_icmp_ge (q := 14) (tgt := 34) dX9_commonDivisor_11 (by decide) rfl (fun _ => ?_) (fun hz => absurd (by decide) hz)
    refine Vj_iloadn (q := 35) dX9_commonDivisor_34 rfl rfl rfl ?_
    exact Vr_iret rfl rfl dX9_commonDivisor_35 (⟨rfl, rfl⟩)
  | succ k ih =>
    intro i g l z5 hi
    rw [gcI]
    refine Vj_iload (q := 9) dX9_commonDivisor_7 rfl rfl ?_
    refine Vj_bipush (q := 11) (v := 64) dX9_commonDivisor_9 rfl (by decide) ?_
    refine Vj_icmp_ge (q := 14) (tgt := 34) dX9_commonDivisor_11 (by decide) rfl (fun hz => absurd hz (nI_ge (b := 64) (show i < 64 by omega) (by decide))) (fun _ => ?_)
    refine Vj_iloadn (q := 15) dX9_commonDivisor_14 rfl rfl rfl ?_
    refine Vj_if_eq (q := 18) (tgt := 34) dX9_commonDivisor_15 (by decide) rfl (fun h15 => ?_) (fun h15 => ?_)
    ·
      refine Vj_iloadn (q := 35) dX9_commonDivisor_34 rfl rfl rfl ?_
      exact Vr_iret rfl rfl dX9_commonDivisor_35 (⟨by rw [if_pos h15], rfl⟩)
    ·
      refine Vj_iloadn (q := 19) dX9_commonDivisor_18 rfl rfl rfl ?_
      refine Vj_iloadn (q := 20) dX9_commonDivisor_19 rfl rfl rfl ?_
      refine Vj_irem (q := 21) dX9_commonDivisor_20 rfl h15 ?_
      refine Vs_istore5 (q := 23) dX9_commonDivisor_21 rfl (by decide) rfl ?_
      refine Vj_iloadn (q := 24) dX9_commonDivisor_23 rfl rfl rfl ?_
      refine Vs_istore2 (q := 25) dX9_commonDivisor_24 rfl (by decide) rfl ?_
      refine Vj_iload (q := 27) dX9_commonDivisor_25 rfl rfl ?_
      refine Vs_istore3 (q := 28) dX9_commonDivisor_27 rfl (by decide) rfl ?_
      refine Vs_iinc4 (q := 31) (z := none) dX9_commonDivisor_28 rfl (by exact iinc_p _) (by decide) rfl ?_
      refine Vj_goto (q := 7) dX9_commonDivisor_31 (by decide) ?_
      rw [if_neg h15, nI_1]
      exact ih (i + 1) _ _ _ (by omega)
set_option maxRecDepth 100000 in
theorem qX9_commonDivisor {σ : Mem} (a b : Int32) : Ct shX 0 mX9_commonDivisor [.int a, .int b] σ (Ri (gcI 64 a b) σ) := by
  refine Ct.of (by decide) (Nat.le_of_ble_eq_true rfl) (l := [some (.int a), some (.int b), none, none, none, none]) rfl ?_
  refine Vj_iloadn (q := 1) dX9_commonDivisor_0 rfl rfl rfl ?_
  refine Vs_istore2 (q := 2) dX9_commonDivisor_1 rfl (by decide) rfl ?_
  refine Vj_iloadn (q := 3) dX9_commonDivisor_2 rfl rfl rfl ?_
  refine Vs_istore3 (q := 4) dX9_commonDivisor_3 rfl (by decide) rfl ?_
  refine Vj_iconst (q := 5) (v := 0) dX9_commonDivisor_4 rfl (by decide) ?_
  refine Vs_istore4 (q := 7) dX9_commonDivisor_5 rfl (by decide) rfl ?_
  exact qX9_commonDivisor_loop 64 0 a b none (by decide)
set_option maxRecDepth 100000 in
theorem qX9_fraction {σ : Mem} (a b up : Int32) : Ct shX 1 mX9_fraction [.int a, .int b, .int up] σ (Ri (frS a b up) σ) := by
  refine Ct.of (by decide) (Nat.le_of_ble_eq_true rfl) (l := [some (.int a), some (.int b), some (.int up), none]) rfl ?_
  refine Vj_iloadn (q := 1) dX9_fraction_0 rfl rfl rfl ?_
  refine Vj_iloadn (q := 2) dX9_fraction_1 rfl rfl rfl ?_
  refine Vj_callSi (q := 5) (qX9_commonDivisor a b) (by decide) lkX9_328 stX9_commonDivisor okX9_commonDivisor dX9_fraction_2 rfl rfl (Nat.le_of_ble_eq_true rfl) ?_
  refine Vs_istore3 (q := 6) dX9_fraction_5 rfl (by decide) rfl ?_
  refine Vj_iloadn (q := 7) dX9_fraction_6 rfl rfl rfl ?_
  refine Vj_if_ne (q := 10) (tgt := 13) dX9_fraction_7 (by decide) rfl (fun h7 => ?_) (fun h7 => ?_)
  ·
    refine Vj_iloadn (q := 14) dX9_fraction_13 rfl rfl rfl ?_
    refine Vj_if_eq (q := 17) (tgt := 21) dX9_fraction_14 (by decide) rfl (fun h14 => ?_) (fun h14 => ?_)
    ·
      refine Vj_iloadn (q := 22) dX9_fraction_21 rfl rfl rfl ?_
      refine Vj_iloadn (q := 23) dX9_fraction_22 rfl rfl rfl ?_
      refine Vj_idiv (q := 24) dX9_fraction_23 rfl h7 ?_
      exact Vr_iret rfl rfl dX9_fraction_24 (⟨by rw [frS, if_neg h7, if_pos h14], rfl⟩)
    ·
      refine Vj_iloadn (q := 18) dX9_fraction_17 rfl rfl rfl ?_
      refine Vj_goto (q := 22) dX9_fraction_18 (by decide) ?_
      refine Vj_iloadn (q := 23) dX9_fraction_22 rfl rfl rfl ?_
      refine Vj_idiv (q := 24) dX9_fraction_23 rfl h7 ?_
      exact Vr_iret rfl rfl dX9_fraction_24 (⟨by rw [frS, if_neg h7, if_neg h14], rfl⟩)
  ·
    refine Vj_bipush (q := 12) (v := (-9)) dX9_fraction_10 rfl (by decide) ?_
    exact Vr_iret rfl rfl dX9_fraction_12 (⟨by rw [frS, if_pos h7], rfl⟩)
set_option maxRecDepth 100000 in
theorem qX9_ordersAround {ρ : Rm} {σ : Mem} (hP : RP ρ σ) {a : Nat} (ha : a + 1 ≤ rB ρ) : Ct shX 1 mX9_ordersAround [.ref 0, .int (nI a)] σ (Ri (tORD a * tORD (rB ρ - 1 - a)) σ) := by
  have hB7 := hP.1.2.2.1
  refine Ct.of (by decide) (Nat.le_of_ble_eq_true rfl) (l := [some (.ref 0), some (.int (nI a))]) rfl ?_
  refine Vj_getsORDERS (q := 3) gsX9_255 dX9_ordersAround_0 rfl ?_
  refine Vj_iloadn (q := 4) dX9_ordersAround_3 rfl rfl rfl ?_
  refine Vj_callSi (q := 7) (qX9_atORDERSn (j := a) (by omega)) (by decide) lkX9_152 stX9_at okX9_at dX9_ordersAround_4 rfl rfl (Nat.le_of_ble_eq_true rfl) ?_
  refine Vj_getsORDERS (q := 10) gsX9_255 dX9_ordersAround_7 rfl ?_
  refine Vj_aloadn (q := 11) dX9_ordersAround_10 rfl rfl rfl ?_
  refine Vj_getR (q := 14) flX9_26 rfl rfl dX9_ordersAround_11 rfl ?_
  refine Vj_callVi (q := 17) (qX2_buttons hP) (by decide) rfl rfl lkX9_128 viX2_buttons okX2_buttons dX9_ordersAround_14 rfl rfl (Nat.le_of_ble_eq_true rfl) ?_
  refine Vj_iconst (q := 18) (v := 1) dX9_ordersAround_17 rfl (by decide) ?_
  refine Vj_isub (q := 19) dX9_ordersAround_18 rfl ?_
  refine Vj_iloadn (q := 20) dX9_ordersAround_19 rfl rfl rfl ?_
  refine Vj_isub (q := 21) dX9_ordersAround_20 rfl ?_
  rw [show nI (rB ρ) - 1 - nI a = nI (rB ρ - 1 - a) by rw [show nI (rB ρ) - 1 = nI (rB ρ - 1) from pk_sub (b := 1) (by omega), pk_sub (by omega)]]
  refine Vj_callSi (q := 24) (qX9_atORDERSn (j := rB ρ - 1 - a) (by omega)) (by decide) lkX9_152 stX9_at okX9_at dX9_ordersAround_21 rfl rfl (Nat.le_of_ble_eq_true rfl) ?_
  refine Vj_imul (q := 25) dX9_ordersAround_24 rfl ?_
  exact Vr_iret rfl rfl dX9_ordersAround_25 (⟨rfl, rfl⟩)
set_option maxRecDepth 100000 in
theorem qX9_share_loop {tx : List Nat} {ρ : Rm} {c d p : Nat} {ac : List (Nat × Nat × Nat)} {sl : Nat → Option (Nat × Nat × Nat)} {se : List (Nat × Nat × Nat)} {sd : Int64} {N : Nat} {σ : Mem} (h : RX tx ρ c d p ac sl se sd σ) (hv : okV N ρ c d p ac sl se) {x mess up : Int32} {to b : Nat} (hb : b < rB ρ) (ex : x = nI b) (ec : cOf ρ (rN ρ) mess 0 = some to) (hto : cV ρ to) : ∀ (k t : Nat) (σ1 : Mem) (z8 : Option Value), t + k = 2 ^ rB ρ → RX tx ρ c d p ac sl se sd σ1 → Vj shX 3 mX9_share (PX (spShare ρ x mess up) tx ρ c d p ac sl se sd) 43 [some (.ref 0), some (.int x), some (.int mess), some (.int up), some (.int (nI to)), some (.int (nI (2 ^ b))), some (.int (shA ρ to b t)), some (.int (nI t)), z8] [] σ1 := by
  intro k
  have hr := hv.1
  have hp4 := p4_le hr.1
  have hB7 := hr.2.2.1
  have he64 := evB_lt hr
  have h2p : 0 < 2 ^ rB ρ := Nat.pow_pos (by decide)
  unfold evB at he64
  induction k with
  | zero =>
    intro t σ1 z8 ht h1
    obtain rfl : t = 2 ^ rB ρ := by omega
    refine Vj_iload (q := 45) dX9_share_43 rfl rfl ?_
    refine Vj_aloadn (q := 46) dX9_share_45 rfl rfl rfl ?_
    refine Vj_getR (q := 49) flX9_26 rfl rfl dX9_share_46 rfl ?_
    refine Vj_callVi (q := 52) (qX2_everyButton h1.2.1) (by decide) rfl rfl lkX9_196 viX2_everyButton okX2_everyButton dX9_share_49 rfl rfl (Nat.le_of_ble_eq_true rfl) ?_
    refine Vj_icmp_gt (q := 55) (tgt := 114) dX9_share_52 (by decide) rfl (fun _ => ?_) (fun hz => absurd (nI_lt (by omega) (by omega)) hz)
    refine Vj_iload (q := 116) dX9_share_114 rfl rfl ?_
    refine Vj_getsORDERS (q := 119) gsX9_255 dX9_share_116 rfl ?_
    refine Vj_aloadn (q := 120) dX9_share_119 rfl rfl rfl ?_
    refine Vj_getR (q := 123) flX9_26 rfl rfl dX9_share_120 rfl ?_
    refine Vj_callVi (q := 126) (qX2_buttons h1.2.1) (by decide) rfl rfl lkX9_128 viX2_buttons okX2_buttons dX9_share_123 rfl rfl (Nat.le_of_ble_eq_true rfl) ?_
    refine Vj_callSi (q := 129) (qX9_atORDERSn (j := rB ρ) (by omega)) (by decide) lkX9_152 stX9_at okX9_at dX9_share_126 rfl rfl (Nat.le_of_ble_eq_true rfl) ?_
    refine Vj_iloadn (q := 130) dX9_share_129 rfl rfl rfl ?_
    refine Vj_callSi (q := 133) (qX9_fraction _ _ _) (by decide) lkX9_258 stX9_fraction okX9_fraction dX9_share_130 rfl rfl (Nat.le_of_ble_eq_true rfl) ?_
    refine Vr_iret rfl rfl dX9_share_133 ?_
    have hx : hT (rB ρ) x = true := (hT_iff (by omega)).mpr ⟨b, hb, ex⟩
    exact ⟨by rw [spShare, hx, if_pos rfl, ec]; simp only []; rw [ex, nI_clamp (by omega)], h1⟩
  | succ k ih =>
    intro t σ1 z8 ht h1
    have hol := o_lt (rB ρ) hB7 b hb t (by omega)
    have h2b : 2 ^ b < 64 := by have : 2 ^ b < 2 ^ 6 := Nat.pow_lt_pow_right (by decide) (by omega); exact this
    have hmod := Nat.mod_lt (t / 2 ^ b) (show 2 > 0 by decide)
    have hmul : t / 2 ^ b % 2 * 2 ^ b ≤ 1 * 2 ^ b := Nat.mul_le_mul_right _ (by omega)
    refine Vj_iload (q := 45) dX9_share_43 rfl rfl ?_
    refine Vj_aloadn (q := 46) dX9_share_45 rfl rfl rfl ?_
    refine Vj_getR (q := 49) flX9_26 rfl rfl dX9_share_46 rfl ?_
    refine Vj_callVi (q := 52) (qX2_everyButton h1.2.1) (by decide) rfl rfl lkX9_196 viX2_everyButton okX2_everyButton dX9_share_49 rfl rfl (Nat.le_of_ble_eq_true rfl) ?_
    refine Vj_icmp_gt (q := 55) (tgt := 114) dX9_share_52 (by decide) rfl (fun hz => absurd hz (nI_nlt (by omega) (by omega))) (fun _ => ?_)
    refine Vj_iload (q := 57) dX9_share_55 rfl rfl ?_
    refine Vj_iload (q := 59) dX9_share_57 rfl rfl ?_
    refine Vj_iand (q := 60) dX9_share_59 rfl ?_
    rw [i_has0 t (by omega) b (by omega)]
    refine Vj_if_ne (q := 63) (tgt := 108) dX9_share_60 (by decide) rfl (fun h60 => ?_) (fun h60 => ?_)
    ·
      refine Vs_iinc7 (q := 111) (z := none) dX9_share_108 rfl (by exact iinc_p _) (by decide) rfl ?_
      refine Vj_goto (q := 43) dX9_share_111 (by decide) ?_
      have hz1 : ¬ t / 2 ^ b % 2 = 0 := fun z => h60 (by rw [z, Nat.zero_mul]; rfl)
      have e1 : shA ρ to b (t + 1) = shA ρ to b t := by rw [shA, if_neg hz1]
      rw [nI_1, ← e1]
      exact ih (t + 1) σ1 _ (by omega) h1
    ·
      have hz0 : t / 2 ^ b % 2 = 0 := by
        have h0 := (nI_z (by omega)).mp h60
        rcases Nat.mul_eq_zero.mp h0 with z | z
        · exact z
        · exact absurd z (Nat.pos_iff_ne_zero.mp (Nat.pow_pos (by decide)))
      have hpo := p_own (rB ρ) hB7 b hb t (by omega) hz0
      have e1 : shA ρ to b (t + 1) = shA ρ to b t + (nI (cnR ρ to (t ||| 2 ^ b)) - nI (cnR ρ to t)) * (tORD (pop6 t) * tORD (rB ρ - 1 - pop6 t)) := by rw [shA, if_pos hz0]
      refine Vj_aloadn (q := 64) dX9_share_63 rfl rfl rfl ?_
      refine Vj_getR (q := 67) flX9_33 rfl rfl dX9_share_64 rfl ?_
      refine Vj_iload (q := 69) dX9_share_67 rfl rfl ?_
      refine Vj_iload (q := 71) dX9_share_69 rfl rfl ?_
      refine Vj_iload (q := 73) dX9_share_71 rfl rfl ?_
      refine Vj_ior (q := 74) dX9_share_73 rfl ?_
      rw [nI_or']
      refine Vj_callV (q := 77) (qX1_spread hr hol hto.1 h1.2.2.2.1) (by decide) rfl rfl lkX9_199 viX1_spread okX1_spread dX9_share_74 rfl rfl (Nat.le_of_ble_eq_true rfl) ?_
      rintro r2 σ2 ⟨rfl, hS2⟩
      show Vj shX 3 mX9_share _ 77 _ [.int (nI (cnR ρ to (t ||| 2 ^ b)))] σ2
      have h2 := h1.eqc (hS2.2.2.2.c rfl)
      refine Vj_aloadn (q := 78) dX9_share_77 rfl rfl rfl ?_
      refine Vj_getR (q := 81) flX9_33 rfl rfl dX9_share_78 rfl ?_
      refine Vj_iload (q := 83) dX9_share_81 rfl rfl ?_
      refine Vj_iload (q := 85) dX9_share_83 rfl rfl ?_
      refine Vj_callV (q := 88) (qX1_spread hr (ch := t) (by omega) hto.1 h2.2.2.2.1) (by decide) rfl rfl lkX9_199 viX1_spread okX1_spread dX9_share_85 rfl rfl (Nat.le_of_ble_eq_true rfl) ?_
      rintro r3 σ3 ⟨rfl, hS3⟩
      show Vj shX 3 mX9_share _ 88 _ [.int (nI (cnR ρ to t)), .int (nI (cnR ρ to (t ||| 2 ^ b)))] σ3
      have h3 := h2.eqc (hS3.2.2.2.c rfl)
      refine Vj_isub (q := 89) dX9_share_88 rfl ?_
      refine Vs_istore8 (q := 91) dX9_share_89 rfl (by decide) rfl ?_
      refine Vj_iload (q := 93) dX9_share_91 rfl rfl ?_
      refine Vj_iload (q := 95) dX9_share_93 rfl rfl ?_
      refine Vj_aloadn (q := 96) dX9_share_95 rfl rfl rfl ?_
      refine Vj_iload (q := 98) dX9_share_96 rfl rfl ?_
      refine Vj_callSi (q := 101) (qJ6_bitCount_0f7a4 (x := t) (by omega)) (by decide) lkX9_218 stJ6_bitCount_0f7a4 okJ6_bitCount_0f7a4 dX9_share_98 rfl rfl (Nat.le_of_ble_eq_true rfl) ?_
      refine Vj_callVi (q := 104) (qX9_ordersAround h3.2.1 hpo) (by decide) rfl rfl lkX9_252 viX9_ordersAround okX9_ordersAround dX9_share_101 rfl rfl (Nat.le_of_ble_eq_true rfl) ?_
      refine Vj_imul (q := 105) dX9_share_104 rfl ?_
      refine Vj_iadd (q := 106) dX9_share_105 rfl ?_
      refine Vs_istore6 (q := 108) dX9_share_106 rfl (by decide) rfl ?_
      refine Vs_iinc7 (q := 111) (z := none) dX9_share_108 rfl (by exact iinc_p _) (by decide) rfl ?_
      refine Vj_goto (q := 43) dX9_share_111 (by decide) ?_
      rw [nI_1, ← e1]
      exact ih (t + 1) σ3 _ (by omega) h3
set_option maxRecDepth 100000 in
theorem qX9_share {tx : List Nat} {ρ : Rm} {c d p : Nat} {ac : List (Nat × Nat × Nat)} {sl : Nat → Option (Nat × Nat × Nat)} {se : List (Nat × Nat × Nat)} {sd : Int64} {N : Nat} {σ : Mem} (h : RX tx ρ c d p ac sl se sd σ) (hv : okV N ρ c d p ac sl se) (x mess up : Int32) : Ct shX 5 mX9_share [.ref 0, .int x, .int mess, .int up] σ (PX (spShare ρ x mess up) tx ρ c d p ac sl se sd) := by
  obtain ⟨hr, ⟨hc, hco⟩, ⟨hd, hdo⟩, hp, hN30, ⟨hal, hav⟩, hsv, hse⟩ := hv
  obtain ⟨hTx, hP, hTa, hRE, hNw, hAc, hSl, hSe, hSd⟩ := h
  have hp4 := p4_le hr.1
  have hn5 := hr.1
  have hB7 := hr.2.2.1
  have h : RX tx ρ c d p ac sl se sd σ := ⟨hTx, hP, hTa, hRE, hNw, hAc, hSl, hSe, hSd⟩
  refine Ct.of (by decide) (Nat.le_of_ble_eq_true rfl) (l := [some (.ref 0), some (.int x), some (.int mess), some (.int up), none, none, none, none, none]) rfl ?_
  refine Vj_aloadn (q := 1) dX9_share_0 rfl rfl rfl ?_
  refine Vj_getR (q := 4) flX9_26 rfl rfl dX9_share_1 rfl ?_
  refine Vj_iloadn (q := 5) dX9_share_4 rfl rfl rfl ?_
  refine Vj_callVi (q := 8) (qX2_hasButton hP x) (by decide) rfl rfl lkX9_143 viX2_hasButton okX2_hasButton dX9_share_5 rfl rfl (Nat.le_of_ble_eq_true rfl) ?_
  refine Vj_if_ne (q := 11) (tgt := 13) dX9_share_8 (by decide) rfl (fun h8 => ?_) (fun h8 => ?_)
  ·
    have h8b := bI_n.mp h8
    obtain ⟨j, hj, rfl, ecl⟩ := hT_x (by omega) h8b
    refine Vj_aloadn (q := 14) dX9_share_13 rfl rfl rfl ?_
    refine Vj_getR (q := 17) flX9_26 rfl rfl dX9_share_14 rfl ?_
    refine Vj_iloadn (q := 18) dX9_share_17 rfl rfl rfl ?_
    refine Vj_callVi (q := 21) (qX2_codeOf hP mess) (by decide) rfl rfl lkX9_193 viX2_codeOf okX2_codeOf dX9_share_18 rfl rfl (Nat.le_of_ble_eq_true rfl) ?_
    rcases ec : cOf ρ (rN ρ) mess 0 with _ | to
    ·
      rw [oI_none]
      refine Vs_istore4 (q := 23) dX9_share_21 rfl (by decide) rfl ?_
      refine Vj_iload (q := 25) dX9_share_23 rfl rfl ?_
      refine Vj_iconst (q := 26) (v := (-1)) dX9_share_25 rfl (by decide) ?_
      refine Vj_icmp_ne (q := 29) (tgt := 32) dX9_share_26 (by decide) rfl (fun hz => absurd (by decide) hz) (fun _ => ?_)
      refine Vj_bipush (q := 31) (v := (-2)) dX9_share_29 rfl (by decide) ?_
      exact Vr_iret rfl rfl dX9_share_31 (⟨by rw [spShare, h8b, if_pos rfl, ec], h⟩)
    ·
      have hto := cOf_V hr (rN ρ) mess 0 to (Nat.le_refl _) (p4_pos _) (fun t h1 h2 => absurd h1 (by omega)) ec
      have hne := oI_c hr hto.1
      refine Vs_istore4 (q := 23) dX9_share_21 rfl (by decide) rfl ?_
      refine Vj_iload (q := 25) dX9_share_23 rfl rfl ?_
      refine Vj_iconst (q := 26) (v := (-1)) dX9_share_25 rfl (by decide) ?_
      refine Vj_icmp_ne (q := 29) (tgt := 32) dX9_share_26 (by decide) rfl (fun _ => ?_) (fun hz => absurd hz hne)
      rw [oI_some]
      refine Vj_iconst (q := 33) (v := 1) dX9_share_32 rfl (by decide) ?_
      refine Vj_iloadn (q := 34) dX9_share_33 rfl rfl rfl ?_
      refine Vj_ishl (q := 35) dX9_share_34 rfl ?_
      rw [i_own j (by omega)]
      refine Vs_istore5 (q := 37) dX9_share_35 rfl (by decide) rfl ?_
      refine Vj_iconst (q := 38) (v := 0) dX9_share_37 rfl (by decide) ?_
      refine Vs_istore6 (q := 40) dX9_share_38 rfl (by decide) rfl ?_
      refine Vj_iconst (q := 41) (v := 0) dX9_share_40 rfl (by decide) ?_
      refine Vs_istore7 (q := 43) dX9_share_41 rfl (by decide) rfl ?_
      exact fun d2 hd2 => qX9_share_loop h ⟨hr, ⟨hc, hco⟩, ⟨hd, hdo⟩, hp, hN30, ⟨hal, hav⟩, hsv, hse⟩ hj rfl ec hto (2 ^ rB ρ) 0 σ none (by omega) h d2 (by omega)
  ·
    refine Vj_iconst (q := 12) (v := (-1)) dX9_share_11 rfl (by decide) ?_
    exact Vr_iret rfl rfl dX9_share_12 (⟨by rw [spShare, bI_z.mp h8]; rfl, h⟩)
/-! rests -/
def absd (a b : Nat) : Nat := if a < b then b - a else a - b
def bcC (ρ : Rm) (c k : Nat) : Nat := if k = 0 then c else cNx ρ c (k - 1)
def prC (k : Nat) : Nat := if k = 0 then 0 else 1
def lsC (ρ : Rm) (c a b t w : Nat) : Nat := absd (cS (rN ρ) (bcC ρ (bcC ρ c a) b) t) w
/-- of the first k choices none is better for the first one, for the second one -/
def f1R (ρ : Rm) (c a b t w : Nat) : Nat → Bool
  | 0 => true
  | k + 1 => f1R ρ c a b t w k && decide (lsC ρ c a b t w + prC a ≤ lsC ρ c k b t w + prC k)
def f2R (ρ : Rm) (c a b t w : Nat) : Nat → Bool
  | 0 => true
  | k + 1 => f2R ρ c a b t w k && decide (lsC ρ c a b t w + prC b ≤ lsC ρ c a k t w + prC k)
def rsP (ρ : Rm) (c t v u w a b : Nat) : Bool := f1R ρ c a b t v (rB ρ + 1) && f2R ρ c a b u w (rB ρ + 1)
def rsI (ρ : Rm) (c t v u w a : Nat) : Nat → Nat × Int32 → Nat × Int32
  | 0, s => s
  | k + 1, s => if rsP ρ c t v u w a k then ((rsI ρ c t v u w a k s).1 + 1, if (rsI ρ c t v u w a k s).1 = 0 then nI (10 * a + k) else (rsI ρ c t v u w a k s).2) else rsI ρ c t v u w a k s
def rsO (ρ : Rm) (c t v u w : Nat) : Nat → Nat × Int32
  | 0 => (0, -9)
  | k + 1 => rsI ρ c t v u w k (rB ρ + 1) (rsO ρ c t v u w k)
def spRests (ρ : Rm) (c : Nat) (t v u w what : Int32) : Int32 :=
  if hT (rN ρ) t = false ∨ hT (rN ρ) u = false then -1
  else if hT (rS ρ t.toNatClampNeg) v = false ∨ hT (rS ρ u.toNatClampNeg) w = false ∨ what < 0 ∨ 1 < what then -2
  else if what = 0 then nI (rsO ρ c t.toNatClampNeg v.toNatClampNeg u.toNatClampNeg w.toNatClampNeg (rB ρ + 1)).1 else (rsO ρ c t.toNatClampNeg v.toNatClampNeg u.toNatClampNeg w.toNatClampNeg (rB ρ + 1)).2
theorem i_abs : ∀ a, a < 4 → ∀ b, b < 4 → (if 0 ≤ nI a - nI b then nI a - nI b else 0 - (nI a - nI b)) = nI (absd a b) := by decide +kernel
theorem absd_lt {a b : Nat} (ha : a < 4) (hb : b < 4) : absd a b < 4 := by unfold absd; split <;> omega
theorem bcC_lt {ρ : Rm} (hr : okR ρ) {c k : Nat} (hc : c < 4 ^ rN ρ) (hk : k ≤ rB ρ) : bcC ρ c k < 4 ^ rN ρ := by
  unfold bcC
  split
  · exact hc
  · exact cNx_lt hr hc (by omega)
theorem lsC_lt {ρ : Rm} {c a b t w : Nat} (hw : w < 4) : lsC ρ c a b t w < 4 := absd_lt (cS_lt _ _ _) hw
theorem prC_le (k : Nat) : prC k ≤ 1 := by unfold prC; split <;> omega
theorem rsI_le {ρ : Rm} {c t v u w a : Nat} : ∀ k s, (rsI ρ c t v u w a k s).1 ≤ s.1 + k
  | 0, s => Nat.le_refl _
  | k + 1, s => by
    have := rsI_le (ρ := ρ) (c := c) (t := t) (v := v) (u := u) (w := w) (a := a) k s
    rw [rsI]
    split
    · simp only; omega
    · omega
theorem rsO_le {ρ : Rm} {c t v u w : Nat} : ∀ k, (rsO ρ c t v u w k).1 ≤ k * (rB ρ + 1)
  | 0 => Nat.zero_le _
  | k + 1 => by
    have h1 := rsO_le (ρ := ρ) (c := c) (t := t) (v := v) (u := u) (w := w) k
    have h2 := rsI_le (ρ := ρ) (c := c) (t := t) (v := v) (u := u) (w := w) (a := k) (rB ρ + 1) (rsO ρ c t v u w k)
    rw [rsO, Nat.succ_mul]
    omega

set_option maxRecDepth 100000 in
theorem qX9_priceOf {σ : Mem} {k : Nat} (hk : k < 100) : Ct shX 0 mX9_priceOf [.int (nI k)] σ (Ri (nI (prC k)) σ) := by
  refine Ct.of (by decide) (Nat.le_of_ble_eq_true rfl) (l := [some (.int (nI k))]) rfl ?_
  refine Vj_iloadn (q := 1) dX9_priceOf_0 rfl rfl rfl ?_
  refine Vj_if_ne (q := 4) (tgt := 8) dX9_priceOf_1 (by decide) rfl (fun h1 => ?_) (fun h1 => ?_)
  ·
    refine Vj_iconst (q := 9) (v := 1) dX9_priceOf_8 rfl (by decide) ?_
    exact Vr_iret rfl rfl dX9_priceOf_9 (⟨by rw [prC, if_neg (fun z => h1 ((nI_z (by omega)).mpr z))]; rfl, rfl⟩)
  ·
    refine Vj_iconst (q := 5) (v := 0) dX9_priceOf_4 rfl (by decide) ?_
    refine Vj_goto (q := 9) dX9_priceOf_5 (by decide) ?_
    exact Vr_iret rfl rfl dX9_priceOf_9 (⟨by rw [prC, if_pos ((nI_z (by omega)).mp h1)]; rfl, rfl⟩)
set_option maxRecDepth 100000 in
theorem qX9_behindChoice {ρ : Rm} {σ : Mem} (hP : RP ρ σ) (hT : RT ρ σ) {c k : Nat} (hc : c < 4 ^ rN ρ) (hk : k ≤ rB ρ) : Ct shX 2 mX9_behindChoice [.ref 0, .int (nI c), .int (nI k)] σ (Ri (nI (bcC ρ c k)) σ) := by
  have hr := hP.1
  have hp4 := p4_le hr.1
  have hB7 := hr.2.2.1
  refine Ct.of (by decide) (Nat.le_of_ble_eq_true rfl) (l := [some (.ref 0), some (.int (nI c)), some (.int (nI k))]) rfl ?_
  refine Vj_iloadn (q := 1) dX9_behindChoice_0 rfl rfl rfl ?_
  refine Vj_if_ne (q := 4) (tgt := 8) dX9_behindChoice_1 (by decide) rfl (fun h1 => ?_) (fun h1 => ?_)
  ·
    have hk0 : k ≠ 0 := fun z => h1 ((nI_z (by omega)).mpr z)
    refine Vj_aloadn (q := 9) dX9_behindChoice_8 rfl rfl rfl ?_
    refine Vj_getR (q := 12) flX9_26 rfl rfl dX9_behindChoice_9 rfl ?_
    refine Vj_iloadn (q := 13) dX9_behindChoice_12 rfl rfl rfl ?_
    refine Vj_iloadn (q := 14) dX9_behindChoice_13 rfl rfl rfl ?_
    refine Vj_iconst (q := 15) (v := 1) dX9_behindChoice_14 rfl (by decide) ?_
    refine Vj_isub (q := 16) dX9_behindChoice_15 rfl ?_
    rw [show nI k - 1 = nI (k - 1) from pk_sub (b := 1) (by omega)]
    refine Vj_callVi (q := 19) (qX2_behind (c := c) (b := k - 1) (by omega) (by omega)) (by decide) rfl rfl lkX9_165 viX2_behind okX2_behind dX9_behindChoice_16 rfl rfl (Nat.le_of_ble_eq_true rfl) ?_
    rw [(hT.2 _ hc).2.2 _ (by omega)]
    exact Vr_iret rfl rfl dX9_behindChoice_19 (⟨by rw [bcC, if_neg hk0], rfl⟩)
  ·
    refine Vj_iloadn (q := 5) dX9_behindChoice_4 rfl rfl rfl ?_
    refine Vj_goto (q := 19) dX9_behindChoice_5 (by decide) ?_
    exact Vr_iret rfl rfl dX9_behindChoice_19 (⟨by rw [bcC, if_pos ((nI_z (by omega)).mp h1)], rfl⟩)
set_option maxRecDepth 100000 in
theorem qX9_lossOf {ρ : Rm} {σ : Mem} (hP : RP ρ σ) (hT : RT ρ σ) {c : Nat} (hc : c < 4 ^ rN ρ) (hN : σ.1 27 0 = nI c) {a b t w : Nat} (ha : a ≤ rB ρ) (hb : b ≤ rB ρ) (ht : t < rN ρ) (hw : w < 4) : Ct shX 3 mX9_lossOf [.ref 0, .int (nI a), .int (nI b), .int (nI t), .int (nI w)] σ (Ri (nI (lsC ρ c a b t w)) σ) := by
  have hr := hP.1
  have hp4 := p4_le hr.1
  have x1 := bcC_lt hr hc ha
  have x2 := bcC_lt hr x1 hb
  refine Ct.of (by decide) (Nat.le_of_ble_eq_true rfl) (l := [some (.ref 0), some (.int (nI a)), some (.int (nI b)), some (.int (nI t)), some (.int (nI w)), none]) rfl ?_
  refine Vj_aloadn (q := 1) dX9_lossOf_0 rfl rfl rfl ?_
  refine Vj_aloadn (q := 2) dX9_lossOf_1 rfl rfl rfl ?_
  refine Vj_aloadn (q := 3) dX9_lossOf_2 rfl rfl rfl ?_
  refine Vj_getR (q := 6) flX9_47 rfl rfl dX9_lossOf_3 rfl ?_
  refine Vj_getI (q := 9) flX9_112 rfl rfl dX9_lossOf_6 rfl ?_
  rw [hN]
  refine Vj_iloadn (q := 10) dX9_lossOf_9 rfl rfl rfl ?_
  refine Vj_callVi (q := 13) (qX9_behindChoice hP hT hc ha) (by decide) rfl rfl lkX9_322 viX9_behindChoice okX9_behindChoice dX9_lossOf_10 rfl rfl (Nat.le_of_ble_eq_true rfl) ?_
  refine Vj_iloadn (q := 14) dX9_lossOf_13 rfl rfl rfl ?_
  refine Vj_callVi (q := 17) (qX9_behindChoice hP hT x1 hb) (by decide) rfl rfl lkX9_322 viX9_behindChoice okX9_behindChoice dX9_lossOf_14 rfl rfl (Nat.le_of_ble_eq_true rfl) ?_
  refine Vs_istore5 (q := 19) dX9_lossOf_17 rfl (by decide) rfl ?_
  refine Vj_aloadn (q := 20) dX9_lossOf_19 rfl rfl rfl ?_
  refine Vj_getR (q := 23) flX9_26 rfl rfl dX9_lossOf_20 rfl ?_
  refine Vj_iload (q := 25) dX9_lossOf_23 rfl rfl ?_
  refine Vj_iloadn (q := 26) dX9_lossOf_25 rfl rfl rfl ?_
  refine Vj_callVi (q := 29) (qX2_stateIn hP (by omega) ht) (by decide) rfl rfl lkX9_139 viX2_stateIn okX2_stateIn dX9_lossOf_26 rfl rfl (Nat.le_of_ble_eq_true rfl) ?_
  refine Vj_iload (q := 31) dX9_lossOf_29 rfl rfl ?_
  refine Vj_isub (q := 32) dX9_lossOf_31 rfl ?_
  refine Vj_mabs (q := 35) lkX9_325 ini_Math (by decide) dX9_lossOf_32 rfl (Nat.le_of_ble_eq_true rfl) ?_
  rw [i_abs _ (cS_lt _ _ _) _ hw]
  exact Vr_iret rfl rfl dX9_lossOf_35 (⟨rfl, rfl⟩)
set_option maxRecDepth 100000 in
theorem qX9_firstRests_loop {ρ : Rm} {σ : Mem} (hP : RP ρ σ) (hT : RT ρ σ) {c : Nat} (hc : c < 4 ^ rN ρ) (hN : σ.1 27 0 = nI c) {a b t w : Nat} (ha : a ≤ rB ρ) (hb : b ≤ rB ρ) (ht : t < rN ρ) (hw : w < 4) : ∀ (n k1 : Nat), k1 + n = rB ρ + 1 → f1R ρ c a b t w k1 = true → Vj shX 4 mX9_firstRests (Ri (bI (f1R ρ c a b t w (rB ρ + 1))) σ) 19 [some (.ref 0), some (.int (nI a)), some (.int (nI b)), some (.int (nI t)), some (.int (nI w)), some (.int (nI (lsC ρ c a b t w + prC a))), some (.int (nI k1))] [] σ := by
  intro n
  have hr := hP.1
  have hB7 := hr.2.2.1
  have hl0 := lsC_lt (ρ := ρ) (c := c) (a := a) (b := b) (t := t) hw
  have hp0 := prC_le a
  induction n with
  | zero =>
    intro k1 hk hf
    obtain rfl : k1 = rB ρ + 1 := by omega
    refine Vj_iload (q := 21) dX9_firstRests_19 rfl rfl ?_
    refine Vj_aloadn (q := 22) dX9_firstRests_21 rfl rfl rfl ?_
    refine Vj_getR (q := 25) flX9_26 rfl rfl dX9_firstRests_22 rfl ?_
    refine Vj_callVi (q := 28) (qX2_buttons hP) (by decide) rfl rfl lkX9_128 viX2_buttons okX2_buttons dX9_firstRests_25 rfl rfl (Nat.le_of_ble_eq_true rfl) ?_
    refine Vj_icmp_gt (q := 31) (tgt := 60) dX9_firstRests_28 (by decide) rfl (fun _ => ?_) (fun hz => absurd (nI_lt (by omega) (by omega)) hz)
    refine Vj_iconst (q := 61) (v := 1) dX9_firstRests_60 rfl (by decide) ?_
    exact Vr_iret rfl rfl dX9_firstRests_61 (⟨by rw [hf]; rfl, rfl⟩)
  | succ n ih =>
    intro k1 hk hf
    have hl1 := lsC_lt (ρ := ρ) (c := c) (a := k1) (b := b) (t := t) hw
    have hp1 := prC_le k1
    have hbad : ¬ lsC ρ c a b t w + prC a ≤ lsC ρ c k1 b t w + prC k1 → f1R ρ c a b t w (rB ρ + 1) = false := by
      intro z
      have up : ∀ j, k1 + 1 ≤ j → f1R ρ c a b t w j = false := by
        intro j hj
        induction j with
        | zero => omega
        | succ j ij =>
          by_cases e : k1 = j
          · subst e; rw [f1R, decide_eq_false z, Bool.and_false]
          · rw [f1R, ij (by omega), Bool.false_and]
      exact up _ (by omega)
    refine Vj_iload (q := 21) dX9_firstRests_19 rfl rfl ?_
    refine Vj_aloadn (q := 22) dX9_firstRests_21 rfl rfl rfl ?_
    refine Vj_getR (q := 25) flX9_26 rfl rfl dX9_firstRests_22 rfl ?_
    refine Vj_callVi (q := 28) (qX2_buttons hP) (by decide) rfl rfl lkX9_128 viX2_buttons okX2_buttons dX9_firstRests_25 rfl rfl (Nat.le_of_ble_eq_true rfl) ?_
    refine Vj_icmp_gt (q := 31) (tgt := 60) dX9_firstRests_28 (by decide) rfl (fun hz => absurd hz (nI_nlt (by omega) (by omega))) (fun _ => ?_)
    refine Vj_aloadn (q := 32) dX9_firstRests_31 rfl rfl rfl ?_
    refine Vj_iload (q := 34) dX9_firstRests_32 rfl rfl ?_
    refine Vj_iloadn (q := 35) dX9_firstRests_34 rfl rfl rfl ?_
    refine Vj_iloadn (q := 36) dX9_firstRests_35 rfl rfl rfl ?_
    refine Vj_iload (q := 38) dX9_firstRests_36 rfl rfl ?_
    refine Vj_callVi (q := 41) (qX9_lossOf hP hT hc hN (a := k1) (b := b) (by omega) hb ht hw) (by decide) rfl rfl lkX9_315 viX9_lossOf okX9_lossOf dX9_firstRests_38 rfl rfl (Nat.le_of_ble_eq_true rfl) ?_
    refine Vj_iload (q := 43) dX9_firstRests_41 rfl rfl ?_
    refine Vj_callSi (q := 46) (qX9_priceOf (k := k1) (by omega)) (by decide) lkX9_319 stX9_priceOf okX9_priceOf dX9_firstRests_43 rfl rfl (Nat.le_of_ble_eq_true rfl) ?_
    refine Vj_iadd (q := 47) dX9_firstRests_46 rfl ?_
    rw [nI_add]
    refine Vj_iload (q := 49) dX9_firstRests_47 rfl rfl ?_
    refine Vj_icmp_ge (q := 52) (tgt := 54) dX9_firstRests_49 (by decide) rfl (fun h49 => ?_) (fun h49 => ?_)
    ·
      refine Vs_iinc6 (q := 57) (z := none) dX9_firstRests_54 rfl (by exact iinc_p _) (by decide) rfl ?_
      refine Vj_goto (q := 19) dX9_firstRests_57 (by decide) ?_
      rw [nI_1]
      exact ih (k1 + 1) (by omega) (by rw [f1R, hf, decide_eq_true ((nI_leI (by omega) (by omega)).mp h49)]; rfl)
    ·
      refine Vj_iconst (q := 53) (v := 0) dX9_firstRests_52 rfl (by decide) ?_
      exact Vr_iret rfl rfl dX9_firstRests_53 (⟨by rw [hbad (by have := (nI_ltI (by omega) (by omega)).mp (Int32.not_le.mp h49); omega)]; rfl, rfl⟩)
set_option maxRecDepth 100000 in
theorem qX9_firstRests {ρ : Rm} {σ : Mem} (hP : RP ρ σ) (hT : RT ρ σ) {c : Nat} (hc : c < 4 ^ rN ρ) (hN : σ.1 27 0 = nI c) {a b t w : Nat} (ha : a ≤ rB ρ) (hb : b ≤ rB ρ) (ht : t < rN ρ) (hw : w < 4) : Ct shX 4 mX9_firstRests [.ref 0, .int (nI a), .int (nI b), .int (nI t), .int (nI w)] σ (Ri (bI (f1R ρ c a b t w (rB ρ + 1))) σ) := by
  have hB7 := hP.1.2.2.1
  refine Ct.of (by decide) (Nat.le_of_ble_eq_true rfl) (l := [some (.ref 0), some (.int (nI a)), some (.int (nI b)), some (.int (nI t)), some (.int (nI w)), none, none]) rfl ?_
  refine Vj_aloadn (q := 1) dX9_firstRests_0 rfl rfl rfl ?_
  refine Vj_iloadn (q := 2) dX9_firstRests_1 rfl rfl rfl ?_
  refine Vj_iloadn (q := 3) dX9_firstRests_2 rfl rfl rfl ?_
  refine Vj_iloadn (q := 4) dX9_firstRests_3 rfl rfl rfl ?_
  refine Vj_iload (q := 6) dX9_firstRests_4 rfl rfl ?_
  refine Vj_callVi (q := 9) (qX9_lossOf hP hT hc hN ha hb ht hw) (by decide) rfl rfl lkX9_315 viX9_lossOf okX9_lossOf dX9_firstRests_6 rfl rfl (Nat.le_of_ble_eq_true rfl) ?_
  refine Vj_iloadn (q := 10) dX9_firstRests_9 rfl rfl rfl ?_
  refine Vj_callSi (q := 13) (qX9_priceOf (k := a) (by omega)) (by decide) lkX9_319 stX9_priceOf okX9_priceOf dX9_firstRests_10 rfl rfl (Nat.le_of_ble_eq_true rfl) ?_
  refine Vj_iadd (q := 14) dX9_firstRests_13 rfl ?_
  rw [nI_add]
  refine Vs_istore5 (q := 16) dX9_firstRests_14 rfl (by decide) rfl ?_
  refine Vj_iconst (q := 17) (v := 0) dX9_firstRests_16 rfl (by decide) ?_
  refine Vs_istore6 (q := 19) dX9_firstRests_17 rfl (by decide) rfl ?_
  exact qX9_firstRests_loop hP hT hc hN ha hb ht hw (rB ρ + 1) 0 (by omega) rfl
set_option maxRecDepth 100000 in
theorem qX9_secondRests_loop {ρ : Rm} {σ : Mem} (hP : RP ρ σ) (hT : RT ρ σ) {c : Nat} (hc : c < 4 ^ rN ρ) (hN : σ.1 27 0 = nI c) {a b t w : Nat} (ha : a ≤ rB ρ) (hb : b ≤ rB ρ) (ht : t < rN ρ) (hw : w < 4) : ∀ (n k1 : Nat), k1 + n = rB ρ + 1 → f2R ρ c a b t w k1 = true → Vj shX 4 mX9_secondRests (Ri (bI (f2R ρ c a b t w (rB ρ + 1))) σ) 19 [some (.ref 0), some (.int (nI a)), some (.int (nI b)), some (.int (nI t)), some (.int (nI w)), some (.int (nI (lsC ρ c a b t w + prC b))), some (.int (nI k1))] [] σ := by
  intro n
  have hr := hP.1
  have hB7 := hr.2.2.1
  have hl0 := lsC_lt (ρ := ρ) (c := c) (a := a) (b := b) (t := t) hw
  have hp0 := prC_le b
  induction n with
  | zero =>
    intro k1 hk hf
    obtain rfl : k1 = rB ρ + 1 := by omega
    refine Vj_iload (q := 21) dX9_secondRests_19 rfl rfl ?_
    refine Vj_aloadn (q := 22) dX9_secondRests_21 rfl rfl rfl ?_
    refine Vj_getR (q := 25) flX9_26 rfl rfl dX9_secondRests_22 rfl ?_
    refine Vj_callVi (q := 28) (qX2_buttons hP) (by decide) rfl rfl lkX9_128 viX2_buttons okX2_buttons dX9_secondRests_25 rfl rfl (Nat.le_of_ble_eq_true rfl) ?_
    refine Vj_icmp_gt (q := 31) (tgt := 60) dX9_secondRests_28 (by decide) rfl (fun _ => ?_) (fun hz => absurd (nI_lt (by omega) (by omega)) hz)
    refine Vj_iconst (q := 61) (v := 1) dX9_secondRests_60 rfl (by decide) ?_
    exact Vr_iret rfl rfl dX9_secondRests_61 (⟨by rw [hf]; rfl, rfl⟩)
  | succ n ih =>
    intro k1 hk hf
    have hl1 := lsC_lt (ρ := ρ) (c := c) (a := a) (b := k1) (t := t) hw
    have hp1 := prC_le k1
    have hbad : ¬ lsC ρ c a b t w + prC b ≤ lsC ρ c a k1 t w + prC k1 → f2R ρ c a b t w (rB ρ + 1) = false := by
      intro z
      have up : ∀ j, k1 + 1 ≤ j → f2R ρ c a b t w j = false := by
        intro j hj
        induction j with
        | zero => omega
        | succ j ij =>
          by_cases e : k1 = j
          · subst e; rw [f2R, decide_eq_false z, Bool.and_false]
          · rw [f2R, ij (by omega), Bool.false_and]
      exact up _ (by omega)
    refine Vj_iload (q := 21) dX9_secondRests_19 rfl rfl ?_
    refine Vj_aloadn (q := 22) dX9_secondRests_21 rfl rfl rfl ?_
    refine Vj_getR (q := 25) flX9_26 rfl rfl dX9_secondRests_22 rfl ?_
    refine Vj_callVi (q := 28) (qX2_buttons hP) (by decide) rfl rfl lkX9_128 viX2_buttons okX2_buttons dX9_secondRests_25 rfl rfl (Nat.le_of_ble_eq_true rfl) ?_
    refine Vj_icmp_gt (q := 31) (tgt := 60) dX9_secondRests_28 (by decide) rfl (fun hz => absurd hz (nI_nlt (by omega) (by omega))) (fun _ => ?_)
    refine Vj_aloadn (q := 32) dX9_secondRests_31 rfl rfl rfl ?_
    refine Vj_iloadn (q := 33) dX9_secondRests_32 rfl rfl rfl ?_
    refine Vj_iload (q := 35) dX9_secondRests_33 rfl rfl ?_
    refine Vj_iloadn (q := 36) dX9_secondRests_35 rfl rfl rfl ?_
    refine Vj_iload (q := 38) dX9_secondRests_36 rfl rfl ?_
    refine Vj_callVi (q := 41) (qX9_lossOf hP hT hc hN (a := a) (b := k1) ha (by omega) ht hw) (by decide) rfl rfl lkX9_315 viX9_lossOf okX9_lossOf dX9_secondRests_38 rfl rfl (Nat.le_of_ble_eq_true rfl) ?_
    refine Vj_iload (q := 43) dX9_secondRests_41 rfl rfl ?_
    refine Vj_callSi (q := 46) (qX9_priceOf (k := k1) (by omega)) (by decide) lkX9_319 stX9_priceOf okX9_priceOf dX9_secondRests_43 rfl rfl (Nat.le_of_ble_eq_true rfl) ?_
    refine Vj_iadd (q := 47) dX9_secondRests_46 rfl ?_
    rw [nI_add]
    refine Vj_iload (q := 49) dX9_secondRests_47 rfl rfl ?_
    refine Vj_icmp_ge (q := 52) (tgt := 54) dX9_secondRests_49 (by decide) rfl (fun h49 => ?_) (fun h49 => ?_)
    ·
      refine Vs_iinc6 (q := 57) (z := none) dX9_secondRests_54 rfl (by exact iinc_p _) (by decide) rfl ?_
      refine Vj_goto (q := 19) dX9_secondRests_57 (by decide) ?_
      rw [nI_1]
      exact ih (k1 + 1) (by omega) (by rw [f2R, hf, decide_eq_true ((nI_leI (by omega) (by omega)).mp h49)]; rfl)
    ·
      refine Vj_iconst (q := 53) (v := 0) dX9_secondRests_52 rfl (by decide) ?_
      exact Vr_iret rfl rfl dX9_secondRests_53 (⟨by rw [hbad (by have := (nI_ltI (by omega) (by omega)).mp (Int32.not_le.mp h49); omega)]; rfl, rfl⟩)
set_option maxRecDepth 100000 in
theorem qX9_secondRests {ρ : Rm} {σ : Mem} (hP : RP ρ σ) (hT : RT ρ σ) {c : Nat} (hc : c < 4 ^ rN ρ) (hN : σ.1 27 0 = nI c) {a b t w : Nat} (ha : a ≤ rB ρ) (hb : b ≤ rB ρ) (ht : t < rN ρ) (hw : w < 4) : Ct shX 4 mX9_secondRests [.ref 0, .int (nI a), .int (nI b), .int (nI t), .int (nI w)] σ (Ri (bI (f2R ρ c a b t w (rB ρ + 1))) σ) := by
  have hB7 := hP.1.2.2.1
  refine Ct.of (by decide) (Nat.le_of_ble_eq_true rfl) (l := [some (.ref 0), some (.int (nI a)), some (.int (nI b)), some (.int (nI t)), some (.int (nI w)), none, none]) rfl ?_
  refine Vj_aloadn (q := 1) dX9_secondRests_0 rfl rfl rfl ?_
  refine Vj_iloadn (q := 2) dX9_secondRests_1 rfl rfl rfl ?_
  refine Vj_iloadn (q := 3) dX9_secondRests_2 rfl rfl rfl ?_
  refine Vj_iloadn (q := 4) dX9_secondRests_3 rfl rfl rfl ?_
  refine Vj_iload (q := 6) dX9_secondRests_4 rfl rfl ?_
  refine Vj_callVi (q := 9) (qX9_lossOf hP hT hc hN ha hb ht hw) (by decide) rfl rfl lkX9_315 viX9_lossOf okX9_lossOf dX9_secondRests_6 rfl rfl (Nat.le_of_ble_eq_true rfl) ?_
  refine Vj_iloadn (q := 10) dX9_secondRests_9 rfl rfl rfl ?_
  refine Vj_callSi (q := 13) (qX9_priceOf (k := b) (by omega)) (by decide) lkX9_319 stX9_priceOf okX9_priceOf dX9_secondRests_10 rfl rfl (Nat.le_of_ble_eq_true rfl) ?_
  refine Vj_iadd (q := 14) dX9_secondRests_13 rfl ?_
  rw [nI_add]
  refine Vs_istore5 (q := 16) dX9_secondRests_14 rfl (by decide) rfl ?_
  refine Vj_iconst (q := 17) (v := 0) dX9_secondRests_16 rfl (by decide) ?_
  refine Vs_istore6 (q := 19) dX9_secondRests_17 rfl (by decide) rfl ?_
  exact qX9_secondRests_loop hP hT hc hN ha hb ht hw (rB ρ + 1) 0 (by omega) rfl
set_option maxRecDepth 100000 in
theorem qX9_rests_l2 {tx : List Nat} {ρ : Rm} {c d p : Nat} {ac : List (Nat × Nat × Nat)} {sl : Nat → Option (Nat × Nat × Nat)} {se : List (Nat × Nat × Nat)} {sd : Int64} {N : Nat} {σ : Mem} (h : RX tx ρ c d p ac sl se sd σ) (hv : okV N ρ c d p ac sl se) {t v u w : Nat} (ht : t < rN ρ) (hv4 : v < 4) (hu : u < rN ρ) (hw4 : w < 4) {what : Int32} {Post : Option Value → Mem → Prop} {a : Nat} (ha : a ≤ rB ρ) {s0 : Nat × Int32} (hs0 : s0.1 < 100) (kk : ∀ z9 : Option Value, Vj shX 5 mX9_rests Post 163 [some (.ref 0), some (.int (nI t)), some (.int (nI v)), some (.int (nI u)), some (.int (nI w)), some (.int what), some (.int (nI (rsI ρ c t v u w a (rB ρ + 1) s0).1)), some (.int (rsI ρ c t v u w a (rB ρ + 1) s0).2), some (.int (nI a)), z9] [] σ) : ∀ (n b : Nat), b + n = rB ρ + 1 → Vj shX 5 mX9_rests Post 100 [some (.ref 0), some (.int (nI t)), some (.int (nI v)), some (.int (nI u)), some (.int (nI w)), some (.int what), some (.int (nI (rsI ρ c t v u w a b s0).1)), some (.int (rsI ρ c t v u w a b s0).2), some (.int (nI a)), some (.int (nI b))] [] σ := by
  intro n
  obtain ⟨hr, ⟨hc, hco⟩, ⟨hd, hdo⟩, hp, hN30, ⟨hal, hav⟩, hsv, hse⟩ := hv
  obtain ⟨hTx, hP, hTa, hRE, hNw, hAc, hSl, hSe, hSd⟩ := h
  have hp4 := p4_le hr.1
  have hn5 := hr.1
  have hB7 := hr.2.2.1
  induction n with
  | zero =>
    intro b hb
    obtain rfl : b = rB ρ + 1 := by omega
    refine Vj_iload (q := 102) dX9_rests_100 rfl rfl ?_
    refine Vj_aloadn (q := 103) dX9_rests_102 rfl rfl rfl ?_
    refine Vj_getR (q := 106) flX9_26 rfl rfl dX9_rests_103 rfl ?_
    refine Vj_callVi (q := 109) (qX2_buttons hP) (by decide) rfl rfl lkX9_128 viX2_buttons okX2_buttons dX9_rests_106 rfl rfl (Nat.le_of_ble_eq_true rfl) ?_
    refine Vj_icmp_gt (q := 112) (tgt := 163) dX9_rests_109 (by decide) rfl (fun _ => ?_) (fun hz => absurd (nI_lt (by omega) (by omega)) hz)
    exact kk _
  | succ n ih =>
    intro b hb
    have hsl := rsI_le (ρ := ρ) (c := c) (t := t) (v := v) (u := u) (w := w) (a := a) b s0
    refine Vj_iload (q := 102) dX9_rests_100 rfl rfl ?_
    refine Vj_aloadn (q := 103) dX9_rests_102 rfl rfl rfl ?_
    refine Vj_getR (q := 106) flX9_26 rfl rfl dX9_rests_103 rfl ?_
    refine Vj_callVi (q := 109) (qX2_buttons hP) (by decide) rfl rfl lkX9_128 viX2_buttons okX2_buttons dX9_rests_106 rfl rfl (Nat.le_of_ble_eq_true rfl) ?_
    refine Vj_icmp_gt (q := 112) (tgt := 163) dX9_rests_109 (by decide) rfl (fun hz => absurd hz (nI_nlt (by omega) (by omega))) (fun _ => ?_)
    refine Vj_aloadn (q := 113) dX9_rests_112 rfl rfl rfl ?_
    refine Vj_iload (q := 115) dX9_rests_113 rfl rfl ?_
    refine Vj_iload (q := 117) dX9_rests_115 rfl rfl ?_
    refine Vj_iloadn (q := 118) dX9_rests_117 rfl rfl rfl ?_
    refine Vj_iloadn (q := 119) dX9_rests_118 rfl rfl rfl ?_
    refine Vj_callVi (q := 122) (qX9_firstRests hP hTa hc hNw.1 (a := a) (b := b) ha (by omega) ht hv4) (by decide) rfl rfl lkX9_262 viX9_firstRests okX9_firstRests dX9_rests_119 rfl rfl (Nat.le_of_ble_eq_true rfl) ?_
    refine Vj_if_eq (q := 125) (tgt := 157) dX9_rests_122 (by decide) rfl (fun h122 => ?_) (fun h122 => ?_)
    ·
      refine Vs_iinc9 (q := 160) (z := none) dX9_rests_157 rfl (by exact iinc_p _) (by decide) rfl ?_
      refine Vj_goto (q := 100) dX9_rests_160 (by decide) ?_
      rw [nI_1]
      have e : rsI ρ c t v u w a (b + 1) s0 = rsI ρ c t v u w a b s0 := by rw [rsI, rsP, bI_z.mp h122]; rfl
      rw [← e]
      exact ih (b + 1) (by omega)
    ·
      refine Vj_aloadn (q := 126) dX9_rests_125 rfl rfl rfl ?_
      refine Vj_iload (q := 128) dX9_rests_126 rfl rfl ?_
      refine Vj_iload (q := 130) dX9_rests_128 rfl rfl ?_
      refine Vj_iloadn (q := 131) dX9_rests_130 rfl rfl rfl ?_
      refine Vj_iload (q := 133) dX9_rests_131 rfl rfl ?_
      refine Vj_callVi (q := 136) (qX9_secondRests hP hTa hc hNw.1 (a := a) (b := b) ha (by omega) hu hw4) (by decide) rfl rfl lkX9_266 viX9_secondRests okX9_secondRests dX9_rests_133 rfl rfl (Nat.le_of_ble_eq_true rfl) ?_
      refine Vj_if_eq (q := 139) (tgt := 157) dX9_rests_136 (by decide) rfl (fun h136 => ?_) (fun h136 => ?_)
      ·
        refine Vs_iinc9 (q := 160) (z := none) dX9_rests_157 rfl (by exact iinc_p _) (by decide) rfl ?_
        refine Vj_goto (q := 100) dX9_rests_160 (by decide) ?_
        rw [nI_1]
        have e : rsI ρ c t v u w a (b + 1) s0 = rsI ρ c t v u w a b s0 := by rw [rsI, rsP, bI_z.mp h136, Bool.and_false]; rfl
        rw [← e]
        exact ih (b + 1) (by omega)
      ·
        refine Vj_iload (q := 141) dX9_rests_139 rfl rfl ?_
        refine Vj_if_ne (q := 144) (tgt := 154) dX9_rests_141 (by decide) rfl (fun h141 => ?_) (fun h141 => ?_)
        ·
          refine Vs_iinc6 (q := 157) (z := none) dX9_rests_154 rfl (by exact iinc_p _) (by decide) rfl ?_
          refine Vs_iinc9 (q := 160) (z := none) dX9_rests_157 rfl (by exact iinc_p _) (by decide) rfl ?_
          refine Vj_goto (q := 100) dX9_rests_160 (by decide) ?_
          rw [nI_1, nI_1]
          have e : rsI ρ c t v u w a (b + 1) s0 = ((rsI ρ c t v u w a b s0).1 + 1, (rsI ρ c t v u w a b s0).2) := by rw [rsI, rsP, bI_n.mp h122, bI_n.mp h136, Bool.and_self, if_pos rfl, if_neg (fun z => h141 ((nI_z (by omega)).mpr z))]
          have hi := ih (b + 1) (by omega)
          rw [e] at hi
          exact hi
        ·
          refine Vj_bipush (q := 146) (v := 10) dX9_rests_144 rfl (by decide) ?_
          refine Vj_iload (q := 148) dX9_rests_146 rfl rfl ?_
          refine Vj_imul (q := 149) dX9_rests_148 rfl ?_
          refine Vj_iload (q := 151) dX9_rests_149 rfl rfl ?_
          refine Vj_iadd (q := 152) dX9_rests_151 rfl ?_
          rw [show (10 : Int32) * nI a + nI b = nI (10 * a + b) by rw [show (10 : Int32) = nI 10 from rfl, pk_mul, nI_add]]
          refine Vs_istore7 (q := 154) dX9_rests_152 rfl (by decide) rfl ?_
          refine Vs_iinc6 (q := 157) (z := none) dX9_rests_154 rfl (by exact iinc_p _) (by decide) rfl ?_
          refine Vs_iinc9 (q := 160) (z := none) dX9_rests_157 rfl (by exact iinc_p _) (by decide) rfl ?_
          refine Vj_goto (q := 100) dX9_rests_160 (by decide) ?_
          rw [nI_1, nI_1]
          have e : rsI ρ c t v u w a (b + 1) s0 = ((rsI ρ c t v u w a b s0).1 + 1, nI (10 * a + b)) := by rw [rsI, rsP, bI_n.mp h122, bI_n.mp h136, Bool.and_self, if_pos rfl, if_pos ((nI_z (by omega)).mp h141)]
          have hi := ih (b + 1) (by omega)
          rw [e] at hi
          exact hi
set_option maxRecDepth 100000 in
theorem qX9_rests_l1 {tx : List Nat} {ρ : Rm} {c d p : Nat} {ac : List (Nat × Nat × Nat)} {sl : Nat → Option (Nat × Nat × Nat)} {se : List (Nat × Nat × Nat)} {sd : Int64} {N : Nat} {σ : Mem} (h : RX tx ρ c d p ac sl se sd σ) (hv : okV N ρ c d p ac sl se) {t v u w : Nat} (ht : t < rN ρ) (hv4 : v < 4) (hu : u < rN ρ) (hw4 : w < 4) {what : Int32} : ∀ (n a : Nat) (z9 : Option Value), a + n = rB ρ + 1 → Vj shX 5 mX9_rests (Ri (if what = 0 then nI (rsO ρ c t v u w (rB ρ + 1)).1 else (rsO ρ c t v u w (rB ρ + 1)).2) σ) 85 [some (.ref 0), some (.int (nI t)), some (.int (nI v)), some (.int (nI u)), some (.int (nI w)), some (.int what), some (.int (nI (rsO ρ c t v u w a).1)), some (.int (rsO ρ c t v u w a).2), some (.int (nI a)), z9] [] σ := by
  intro n
  obtain ⟨hr, ⟨hc, hco⟩, ⟨hd, hdo⟩, hp, hN30, ⟨hal, hav⟩, hsv, hse⟩ := hv
  obtain ⟨hTx, hP, hTa, hRE, hNw, hAc, hSl, hSe, hSd⟩ := h
  have hp4 := p4_le hr.1
  have hn5 := hr.1
  have hB7 := hr.2.2.1
  have h : RX tx ρ c d p ac sl se sd σ := ⟨hTx, hP, hTa, hRE, hNw, hAc, hSl, hSe, hSd⟩
  induction n with
  | zero =>
    intro a z9 ha
    obtain rfl : a = rB ρ + 1 := by omega
    refine Vj_iload (q := 87) dX9_rests_85 rfl rfl ?_
    refine Vj_aloadn (q := 88) dX9_rests_87 rfl rfl rfl ?_
    refine Vj_getR (q := 91) flX9_26 rfl rfl dX9_rests_88 rfl ?_
    refine Vj_callVi (q := 94) (qX2_buttons hP) (by decide) rfl rfl lkX9_128 viX2_buttons okX2_buttons dX9_rests_91 rfl rfl (Nat.le_of_ble_eq_true rfl) ?_
    refine Vj_icmp_gt (q := 97) (tgt := 169) dX9_rests_94 (by decide) rfl (fun _ => ?_) (fun hz => absurd (nI_lt (by omega) (by omega)) hz)
    refine Vj_iload (q := 171) dX9_rests_169 rfl rfl ?_
    refine Vj_if_ne (q := 174) (tgt := 179) dX9_rests_171 (by decide) rfl (fun h171 => ?_) (fun h171 => ?_)
    ·
      refine Vj_iload (q := 181) dX9_rests_179 rfl rfl ?_
      exact Vr_iret rfl rfl dX9_rests_181 (⟨by rw [if_neg h171], rfl⟩)
    ·
      refine Vj_iload (q := 176) dX9_rests_174 rfl rfl ?_
      refine Vj_goto (q := 181) dX9_rests_176 (by decide) ?_
      exact Vr_iret rfl rfl dX9_rests_181 (⟨by rw [if_pos h171], rfl⟩)
  | succ n ih =>
    intro a z9 ha
    have hol := rsO_le (ρ := ρ) (c := c) (t := t) (v := v) (u := u) (w := w) a
    have hol2 : a * (rB ρ + 1) ≤ 6 * 7 := Nat.mul_le_mul (by omega) (by omega)
    refine Vj_iload (q := 87) dX9_rests_85 rfl rfl ?_
    refine Vj_aloadn (q := 88) dX9_rests_87 rfl rfl rfl ?_
    refine Vj_getR (q := 91) flX9_26 rfl rfl dX9_rests_88 rfl ?_
    refine Vj_callVi (q := 94) (qX2_buttons hP) (by decide) rfl rfl lkX9_128 viX2_buttons okX2_buttons dX9_rests_91 rfl rfl (Nat.le_of_ble_eq_true rfl) ?_
    refine Vj_icmp_gt (q := 97) (tgt := 169) dX9_rests_94 (by decide) rfl (fun hz => absurd hz (nI_nlt (by omega) (by omega))) (fun _ => ?_)
    refine Vj_iconst (q := 98) (v := 0) dX9_rests_97 rfl (by decide) ?_
    refine Vs_istore9 (q := 100) dX9_rests_98 rfl (by decide) rfl ?_
    refine qX9_rests_l2 h ⟨hr, ⟨hc, hco⟩, ⟨hd, hdo⟩, hp, hN30, ⟨hal, hav⟩, hsv, hse⟩ ht hv4 hu hw4 (a := a) (by omega) (s0 := rsO ρ c t v u w a) (by omega) (fun y9 => ?_) (rB ρ + 1) 0 (by omega)
    refine Vs_iinc8 (q := 166) (z := none) dX9_rests_163 rfl (by exact iinc_p _) (by decide) rfl ?_
    refine Vj_goto (q := 85) dX9_rests_166 (by decide) ?_
    rw [nI_1]
    exact ih (a + 1) y9 (by omega)
/-- a weaker end -/
theorem Vj_conv {sh : Shp} {k k' : Nat} {M : MI} {P Q : Option Value → Mem → Prop} {pc : Nat} {l : List (Option Value)} {st : List Value} {σ : Mem} (h : Vj sh k M P pc l st σ) (hPQ : ∀ r s, P r s → Q r s) (hk : k ≤ k' := by decide) : Vj sh k' M Q pc l st σ := by
  intro d hd E p la e s m args below meth c H locs ls hC hH hL T hT X
  obtain ⟨t, a1, o, b1, b2, b3, b4⟩ := h d (Nat.le_trans hk hd) E p la e s m args below meth c H locs ls hC hH hL T hT X
  refine ⟨t, a1, o, b1, b2, ?_, b4⟩
  obtain ⟨⟨r, s', c1, c2, c3⟩, c4⟩ := b3
  exact ⟨⟨r, s', c1, hPQ r s' c2, c3⟩, c4⟩
set_option maxRecDepth 100000 in
theorem qX9_rests {tx : List Nat} {ρ : Rm} {c d p : Nat} {ac : List (Nat × Nat × Nat)} {sl : Nat → Option (Nat × Nat × Nat)} {se : List (Nat × Nat × Nat)} {sd : Int64} {N : Nat} {σ : Mem} (h : RX tx ρ c d p ac sl se sd σ) (hv : okV N ρ c d p ac sl se) (t v u w what : Int32) : Ct shX 6 mX9_rests [.ref 0, .int t, .int v, .int u, .int w, .int what] σ (PX (spRests ρ c t v u w what) tx ρ c d p ac sl se sd) := by
  obtain ⟨hr, ⟨hc, hco⟩, ⟨hd, hdo⟩, hp, hN30, ⟨hal, hav⟩, hsv, hse⟩ := hv
  obtain ⟨hTx, hP, hTa, hRE, hNw, hAc, hSl, hSe, hSd⟩ := h
  have hp4 := p4_le hr.1
  have hn5 := hr.1
  have hB7 := hr.2.2.1
  have h : RX tx ρ c d p ac sl se sd σ := ⟨hTx, hP, hTa, hRE, hNw, hAc, hSl, hSe, hSd⟩
  refine Ct.of (by decide) (Nat.le_of_ble_eq_true rfl) (l := [some (.ref 0), some (.int t), some (.int v), some (.int u), some (.int w), some (.int what), none, none, none, none]) rfl ?_
  refine Vj_aloadn (q := 1) dX9_rests_0 rfl rfl rfl ?_
  refine Vj_getR (q := 4) flX9_26 rfl rfl dX9_rests_1 rfl ?_
  refine Vj_iloadn (q := 5) dX9_rests_4 rfl rfl rfl ?_
  refine Vj_callVi (q := 8) (qX2_hasThing hP t) (by decide) rfl rfl lkX9_131 viX2_hasThing okX2_hasThing dX9_rests_5 rfl rfl (Nat.le_of_ble_eq_true rfl) ?_
  refine Vj_if_eq (q := 11) (tgt := 22) dX9_rests_8 (by decide) rfl (fun h8 => ?_) (fun h8 => ?_)
  ·
    refine Vj_iconst (q := 23) (v := (-1)) dX9_rests_22 rfl (by decide) ?_
    exact Vr_iret rfl rfl dX9_rests_23 (⟨by rw [spRests, if_pos (Or.inl (bI_z.mp h8))], h⟩)
  ·
    refine Vj_aloadn (q := 12) dX9_rests_11 rfl rfl rfl ?_
    refine Vj_getR (q := 15) flX9_26 rfl rfl dX9_rests_12 rfl ?_
    refine Vj_iloadn (q := 16) dX9_rests_15 rfl rfl rfl ?_
    refine Vj_callVi (q := 19) (qX2_hasThing hP u) (by decide) rfl rfl lkX9_131 viX2_hasThing okX2_hasThing dX9_rests_16 rfl rfl (Nat.le_of_ble_eq_true rfl) ?_
    refine Vj_if_ne (q := 22) (tgt := 24) dX9_rests_19 (by decide) rfl (fun h19 => ?_) (fun h19 => ?_)
    ·
      have n1 := bI_n.mp h8
      have n2 := bI_n.mp h19
      have hno : ¬ (hT (rN ρ) t = false ∨ hT (rN ρ) u = false) := by rw [n1, n2]; simp
      obtain ⟨j1, hj1, rfl, ecl1⟩ := hT_x (by omega) n1
      obtain ⟨j2, hj2, rfl, ecl2⟩ := hT_x (by omega) n2
      have z1 := (hr.2.1 j1 hj1).2
      have z2 := (hr.2.1 j2 hj2).2
      refine Vj_iloadn (q := 25) dX9_rests_24 rfl rfl rfl ?_
      refine Vj_if_lt (q := 28) (tgt := 58) dX9_rests_25 (by decide) rfl (fun h25 => ?_) (fun h25 => ?_)
      ·
        refine Vj_bipush (q := 60) (v := (-2)) dX9_rests_58 rfl (by decide) ?_
        exact Vr_iret rfl rfl dX9_rests_60 (⟨by rw [spRests, if_neg hno, if_pos (Or.inl (by rw [ecl1]; exact hT_n1 h25))], h⟩)
      ·
        refine Vj_iloadn (q := 29) dX9_rests_28 rfl rfl rfl ?_
        refine Vj_aloadn (q := 30) dX9_rests_29 rfl rfl rfl ?_
        refine Vj_getR (q := 33) flX9_26 rfl rfl dX9_rests_30 rfl ?_
        refine Vj_iloadn (q := 34) dX9_rests_33 rfl rfl rfl ?_
        refine Vj_callVi (q := 37) (qX2_statesOf hP hj1) (by decide) rfl rfl lkX9_135 viX2_statesOf okX2_statesOf dX9_rests_34 rfl rfl (Nat.le_of_ble_eq_true rfl) ?_
        refine Vj_icmp_ge (q := 40) (tgt := 58) dX9_rests_37 (by decide) rfl (fun h37 => ?_) (fun h37 => ?_)
        ·
          refine Vj_bipush (q := 60) (v := (-2)) dX9_rests_58 rfl (by decide) ?_
          exact Vr_iret rfl rfl dX9_rests_60 (⟨by rw [spRests, if_neg hno, if_pos (Or.inl (by rw [ecl1]; exact hT_n2 h37))], h⟩)
        ·
          refine Vj_iload (q := 42) dX9_rests_40 rfl rfl ?_
          refine Vj_if_lt (q := 45) (tgt := 58) dX9_rests_42 (by decide) rfl (fun h42 => ?_) (fun h42 => ?_)
          ·
            refine Vj_bipush (q := 60) (v := (-2)) dX9_rests_58 rfl (by decide) ?_
            exact Vr_iret rfl rfl dX9_rests_60 (⟨by rw [spRests, if_neg hno, if_pos (Or.inr (Or.inl (by rw [ecl2]; exact hT_n1 h42)))], h⟩)
          ·
            refine Vj_iload (q := 47) dX9_rests_45 rfl rfl ?_
            refine Vj_aloadn (q := 48) dX9_rests_47 rfl rfl rfl ?_
            refine Vj_getR (q := 51) flX9_26 rfl rfl dX9_rests_48 rfl ?_
            refine Vj_iloadn (q := 52) dX9_rests_51 rfl rfl rfl ?_
            refine Vj_callVi (q := 55) (qX2_statesOf hP hj2) (by decide) rfl rfl lkX9_135 viX2_statesOf okX2_statesOf dX9_rests_52 rfl rfl (Nat.le_of_ble_eq_true rfl) ?_
            refine Vj_icmp_lt (q := 58) (tgt := 61) dX9_rests_55 (by decide) rfl (fun h55 => ?_) (fun h55 => ?_)
            ·
              have nv := hT_y h25 h37
              have nw := hT_y h42 (fun z => Int32.not_le.mpr h55 z)
              refine Vj_iload (q := 63) dX9_rests_61 rfl rfl ?_
              refine Vj_if_lt (q := 66) (tgt := 72) dX9_rests_63 (by decide) rfl (fun h63 => ?_) (fun h63 => ?_)
              ·
                refine Vj_bipush (q := 74) (v := (-2)) dX9_rests_72 rfl (by decide) ?_
                exact Vr_iret rfl rfl dX9_rests_74 (⟨by rw [spRests, if_neg hno, if_pos (Or.inr (Or.inr (Or.inl h63)))], h⟩)
              ·
                refine Vj_iload (q := 68) dX9_rests_66 rfl rfl ?_
                refine Vj_iconst (q := 69) (v := 1) dX9_rests_68 rfl (by decide) ?_
                refine Vj_icmp_le (q := 72) (tgt := 75) dX9_rests_69 (by decide) rfl (fun h69 => ?_) (fun h69 => ?_)
                ·
                  have hno2 : ¬ (hT (rS ρ (nI j1).toNatClampNeg) v = false ∨ hT (rS ρ (nI j2).toNatClampNeg) w = false ∨ what < 0 ∨ 1 < what) := by
                    rw [ecl1, ecl2, nv, nw]
                    rintro (z | z | z | z)
                    · cases z
                    · cases z
                    · exact h63 z
                    · exact Int32.not_le.mpr z h69
                  obtain ⟨jv, hjv, rfl, eclv⟩ := hT_x (by omega) nv
                  obtain ⟨jw, hjw, rfl, eclw⟩ := hT_x (by omega) nw
                  refine Vj_iconst (q := 76) (v := 0) dX9_rests_75 rfl (by decide) ?_
                  refine Vs_istore6 (q := 78) dX9_rests_76 rfl (by decide) rfl ?_
                  refine Vj_bipush (q := 80) (v := (-9)) dX9_rests_78 rfl (by decide) ?_
                  refine Vs_istore7 (q := 82) dX9_rests_80 rfl (by decide) rfl ?_
                  refine Vj_iconst (q := 83) (v := 0) dX9_rests_82 rfl (by decide) ?_
                  refine Vs_istore8 (q := 85) dX9_rests_83 rfl (by decide) rfl ?_
                  have hz := qX9_rests_l1 h ⟨hr, ⟨hc, hco⟩, ⟨hd, hdo⟩, hp, hN30, ⟨hal, hav⟩, hsv, hse⟩ hj1 (show jv < 4 by omega) hj2 (show jw < 4 by omega) (what := what) (rB ρ + 1) 0 none (by omega)
                  rw [show (rsO ρ c j1 jv j2 jw 0) = (0, -9) from rfl] at hz
                  rw [spRests, if_neg hno, if_neg hno2, ecl1, ecl2, eclv, eclw]
                  exact Vj_conv hz (fun r s hh => ⟨hh.1, by rw [hh.2]; exact h⟩)
                ·
                  refine Vj_bipush (q := 74) (v := (-2)) dX9_rests_72 rfl (by decide) ?_
                  exact Vr_iret rfl rfl dX9_rests_74 (⟨by rw [spRests, if_neg hno, if_pos (Or.inr (Or.inr (Or.inr (Int32.not_le.mp h69))))], h⟩)
            ·
              refine Vj_bipush (q := 60) (v := (-2)) dX9_rests_58 rfl (by decide) ?_
              exact Vr_iret rfl rfl dX9_rests_60 (⟨by rw [spRests, if_neg hno, if_pos (Or.inr (Or.inl (by rw [ecl2]; exact hT_n2 (Int32.not_lt.mp h55))))], h⟩)
    ·
      refine Vj_iconst (q := 23) (v := (-1)) dX9_rests_22 rfl (by decide) ?_
      exact Vr_iret rfl rfl dX9_rests_23 (⟨by rw [spRests, if_pos (Or.inr (bI_z.mp h19))], h⟩)
