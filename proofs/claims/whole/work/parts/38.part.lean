/-! the reference: factorials, divisors, shares -/
theorem ord_s : ∀ i, i < 7 → 1 ≤ i → tORD (i - 1) * nI i = tORD i := by decide +kernel

set_option maxRecDepth 100000 in
theorem qX10_factorial_loop {σ : Mem} {n : Nat} (hn : n < 7) : ∀ k t : Nat, t + k = n + 1 → 1 ≤ t → Vj shM 0 mX10_factorial (Ri (tORD n) σ) 4 [some (.int (nI n)), some (.int (tORD (t - 1))), some (.int (nI t))] [] σ := by
  intro k
  induction k with
  | zero =>
    intro t ht h1
    obtain rfl : t = n + 1 := by omega
    refine Vj_iloadn (q := 5) dX10_factorial_4 rfl rfl rfl ?_
    refine Vj_iloadn (q := 6) dX10_factorial_5 rfl rfl rfl ?_
    refine Vj_icmp_gt (q := 9) (tgt := 19) dX10_factorial_6 (by decide) rfl (fun _ => ?_) (fun hz => absurd (nI_lt (by omega) (by omega)) hz)
    refine Vj_iloadn (q := 20) dX10_factorial_19 rfl rfl rfl ?_
    exact Vr_iret rfl rfl dX10_factorial_20 (⟨rfl, rfl⟩)
  | succ k ih =>
    intro t ht h1
    refine Vj_iloadn (q := 5) dX10_factorial_4 rfl rfl rfl ?_
    refine Vj_iloadn (q := 6) dX10_factorial_5 rfl rfl rfl ?_
    refine Vj_icmp_gt (q := 9) (tgt := 19) dX10_factorial_6 (by decide) rfl (fun hz => absurd hz (Int32.not_lt.mpr (nI_le (by omega) (by omega)))) (fun _ => ?_)
    refine Vj_iloadn (q := 10) dX10_factorial_9 rfl rfl rfl ?_
    refine Vj_iloadn (q := 11) dX10_factorial_10 rfl rfl rfl ?_
    refine Vj_imul (q := 12) dX10_factorial_11 rfl ?_
    rw [ord_s t (by omega) h1]
    refine Vs_istore1 (q := 13) dX10_factorial_12 rfl (by decide) rfl ?_
    refine Vs_iinc2 (q := 16) (z := none) dX10_factorial_13 rfl (by exact iinc_p _) (by decide) rfl ?_
    refine Vj_goto (q := 4) dX10_factorial_16 (by decide) ?_
    rw [nI_1]
    exact ih (t + 1) (by omega) (by omega)
set_option maxRecDepth 100000 in
theorem qX10_factorial {σ : Mem} {n : Nat} (hn : n < 7) : Ct shM 0 mX10_factorial [.int (nI n)] σ (Ri (tORD n) σ) := by
  refine Ct.of (by decide) (Nat.le_of_ble_eq_true rfl) (l := [some (.int (nI n)), none, none]) rfl ?_
  refine Vj_iconst (q := 1) (v := 1) dX10_factorial_0 rfl (by decide) ?_
  refine Vs_istore1 (q := 2) dX10_factorial_1 rfl (by decide) rfl ?_
  refine Vj_iconst (q := 3) (v := 2) dX10_factorial_2 rfl (by decide) ?_
  refine Vs_istore2 (q := 4) dX10_factorial_3 rfl (by decide) rfl ?_
  by_cases e : n = 0
  · subst e
    refine Vj_iloadn (q := 5) dX10_factorial_4 rfl rfl rfl ?_
    refine Vj_iloadn (q := 6) dX10_factorial_5 rfl rfl rfl ?_
    refine Vj_icmp_gt (q := 9) (tgt := 19) dX10_factorial_6 (by decide) rfl (fun _ => ?_) (fun hz => absurd (by decide) hz)
    refine Vj_iloadn (q := 20) dX10_factorial_19 rfl rfl rfl ?_
    exact Vr_iret rfl rfl dX10_factorial_20 (⟨rfl, rfl⟩)
  · exact qX10_factorial_loop hn (n - 1) 2 (by omega) (by decide)
theorem gcI_g : ∀ m g l, g < 2 ^ 31 → l < 2 ^ m → l < 2 ^ 31 → gcI (2 * m) (nI g) (nI l) = nI (Nat.gcd g l)
  | 0, g, l, hg, hl, _ => by
    obtain rfl : l = 0 := by rw [Nat.pow_zero] at hl; omega
    rw [Nat.gcd_zero_right]; rfl
  | m + 1, g, l, hg, hl, hl2 => by
    rw [show 2 * (m + 1) = 2 * m + 1 + 1 from rfl, gcI]
    by_cases e : l = 0
    · subst e
      rw [if_pos (show nI 0 = 0 from rfl), Nat.gcd_zero_right]
    · rw [if_neg (fun z => e ((nI_z hl2).mp z)), nI_mod hg (by omega) hl2, gcI]
      have h1 := Nat.mod_lt g (Nat.pos_of_ne_zero e)
      have e2 : Nat.gcd g l = Nat.gcd l (g % l) := by rw [Nat.gcd_comm g l, Nat.gcd_rec l g, Nat.gcd_comm]
      by_cases e1 : g % l = 0
      · rw [e2, e1, if_pos (show nI 0 = 0 from rfl), Nat.gcd_zero_right]
      · have h2 := Nat.mod_lt l (Nat.pos_of_ne_zero e1)
        have h3 : l % (g % l) < 2 ^ m := by
          rw [Nat.pow_succ] at hl
          by_cases e3 : 2 * (g % l) ≤ l
          · omega
          · have : l % (g % l) = l - g % l := by
              rw [Nat.mod_eq_sub_mod (by omega), Nat.mod_eq_of_lt (by omega)]
            omega
        have e4 : Nat.gcd l (g % l) = Nat.gcd (g % l) (l % (g % l)) := by rw [Nat.gcd_comm l, Nat.gcd_rec (g % l) l, Nat.gcd_comm]
        rw [if_neg (fun z => e1 ((nI_z (by omega)).mp z)), nI_mod hl2 (by omega) (by omega), e2, e4]
        exact gcI_g m (g % l) (l % (g % l)) (by omega) h3 (by omega)

set_option maxRecDepth 100000 in
theorem qX10_common_loop {σ : Mem} {a b : Int32} : ∀ (l g : Nat) (z4 : Option Value), g < 2 ^ 31 → l < 2 ^ 31 → Vj shM 0 mX10_common (Ri (nI (Nat.gcd g l)) σ) 13 [some (.int a), some (.int b), some (.int (nI g)), some (.int (nI l)), z4] [] σ := by
  intro l
  induction l using Nat.strongRecOn with
  | ind l ih =>
    intro g z4 hg hl
    by_cases e : l = 0
    · subst e
      rw [Nat.gcd_zero_right]
      refine Vj_iloadn (q := 14) dX10_common_13 rfl rfl rfl ?_
      refine Vj_if_eq (q := 17) (tgt := 30) dX10_common_14 (by decide) rfl (fun _ => ?_) (fun hz => absurd rfl hz)
      refine Vj_iloadn (q := 31) dX10_common_30 rfl rfl rfl ?_
      exact Vr_iret rfl rfl dX10_common_31 (⟨rfl, rfl⟩)
    · have h1 := Nat.mod_lt g (Nat.pos_of_ne_zero e)
      have e2 : Nat.gcd g l = Nat.gcd l (g % l) := by rw [Nat.gcd_comm g l, Nat.gcd_rec l g, Nat.gcd_comm]
      rw [e2]
      refine Vj_iloadn (q := 14) dX10_common_13 rfl rfl rfl ?_
      refine Vj_if_eq (q := 17) (tgt := 30) dX10_common_14 (by decide) rfl (fun hz => absurd hz (fun z => e ((nI_z hl).mp z))) (fun _ => ?_)
      refine Vj_iloadn (q := 18) dX10_common_17 rfl rfl rfl ?_
      refine Vj_iloadn (q := 19) dX10_common_18 rfl rfl rfl ?_
      refine Vj_irem (q := 20) dX10_common_19 rfl (nI_ne0 (by omega) (by omega)) ?_
      rw [nI_mod hg (by omega) hl]
      refine Vs_istore4 (q := 22) dX10_common_20 rfl (by decide) rfl ?_
      refine Vj_iloadn (q := 23) dX10_common_22 rfl rfl rfl ?_
      refine Vs_istore2 (q := 24) dX10_common_23 rfl (by decide) rfl ?_
      refine Vj_iload (q := 26) dX10_common_24 rfl rfl ?_
      refine Vs_istore3 (q := 27) dX10_common_26 rfl (by decide) rfl ?_
      refine Vj_goto (q := 13) dX10_common_27 (by decide) ?_
      exact ih _ h1 l _ hl (by omega)
set_option maxRecDepth 100000 in
theorem qX10_common {σ : Mem} {a b : Nat} (ha : a < 2 ^ 31) (hb : b < 2 ^ 31) : Ct shM 0 mX10_common [.int (nI a), .int (nI b)] σ (Ri (nI (Nat.gcd a b)) σ) := by
  refine Ct.of (by decide) (Nat.le_of_ble_eq_true rfl) (l := [some (.int (nI a)), some (.int (nI b)), none, none, none]) rfl ?_
  refine Vj_iloadn (q := 1) dX10_common_0 rfl rfl rfl ?_
  refine Vj_if_ge (q := 4) (tgt := 9) dX10_common_1 (by decide) rfl (fun _ => ?_) (fun hz => absurd (nI_pos' ha) hz)
  refine Vj_iloadn (q := 10) dX10_common_9 rfl rfl rfl ?_
  refine Vs_istore2 (q := 11) dX10_common_10 rfl (by decide) rfl ?_
  refine Vj_iloadn (q := 12) dX10_common_11 rfl rfl rfl ?_
  refine Vs_istore3 (q := 13) dX10_common_12 rfl (by decide) rfl ?_
  exact qX10_common_loop b a none ha hb
theorem frS_e {a b : Nat} (ha : a < 2 ^ 31) (hb : b < 2 ^ 31) (h0 : 0 < b) {up : Int32} : frS (nI a) (nI b) up = (if up = 0 then nI b else nI a) / nI (Nat.gcd a b) ∧ ¬ nI (Nat.gcd a b) = 0 := by
  have e := gcI_g 32 a b ha (by omega) hb
  have hg : Nat.gcd a b ≤ b := Nat.gcd_le_right a h0
  have hp := Nat.gcd_pos_of_pos_right a h0
  have hne : ¬ nI (Nat.gcd a b) = 0 := fun z => by have := (nI_z (by omega)).mp z; omega
  refine ⟨?_, hne⟩
  unfold frS
  rw [show gcI 64 (nI a) (nI b) = nI (Nat.gcd a b) from e, if_neg hne]
/-! shares as numbers -/
def fct : Nat → Nat
  | 0 => 1
  | n + 1 => (n + 1) * fct n
theorem ord_f : ∀ n, n < 7 → tORD n = nI (fct n) ∧ 0 < fct n ∧ fct n ≤ 720 := by decide +kernel
theorem fct_2 : ∀ n, n < 7 → ∀ p, p < n → fct p * fct (n - 1 - p) ≤ 120 := by decide +kernel
theorem chB_or : ∀ k, k < 64 → ∀ b, b < 6 → ∀ b', b' < 6 → chB k b' = true → chB (k ||| 2 ^ b) b' = true := by decide +kernel
theorem wi_ch {nx : Nat → Nat → Nat} {nb ch ch' to : Nat} (h : ∀ b, b < nb → chB ch b = true → chB ch' b = true) : ∀ k c, wi nx nb ch to k c = true → wi nx nb ch' to k c = true
  | 0, _, hw => hw
  | k + 1, c, hw => by
    rcases wi_s.mp hw with z | ⟨b, h1, h2, h3⟩
    · exact wi_s.mpr (Or.inl (wi_ch h k c z))
    · exact wi_s.mpr (Or.inr ⟨b, h1, h b h1 h2, wi_ch h k _ h3⟩)
theorem dst_ch {nx : Nat → Nat → Nat} {nb ch ch' to c : Nat} (h : ∀ b, b < nb → chB ch b = true → chB ch' b = true) (hs : (dst nx nb ch to c).isSome = true) : (dst nx nb ch' to c).isSome = true := by
  cases e : dst nx nb ch' to c with
  | some k => rfl
  | none =>
    obtain ⟨k, ek⟩ := Option.isSome_iff_exists.mp hs
    have h1 := (fstN_some _).mp ek
    have h2 := (fstN_none _).mp e k h1.1
    rw [wi_ch h k c h1.2.1] at h2; cases h2
theorem cnR_up {ρ : Rm} (hr : okR ρ) {to k b : Nat} (hk : k < 64) (hb : b < rB ρ) : cnR ρ to k ≤ cnR ρ to (k ||| 2 ^ b) := by
  have hB7 := hr.2.2.1
  unfold cnR
  exact (cntN_lt (p := fun c => (dst (cNx ρ) (rB ρ) (k ||| 2 ^ b) to c).isSome) (q := fun c => (dst (cNx ρ) (rB ρ) k to c).isSome) (fun c hc => dst_ch (fun b' hb' hz => chB_or k hk b (by omega) b' (by omega) hz) hc) _).1
theorem cnR_le {ρ : Rm} (hr : okR ρ) {to k : Nat} : cnR ρ to k ≤ 256 := Nat.le_trans (cntN_le _ _) (p4_le hr.1)
def shN (ρ : Rm) (to b : Nat) : Nat → Nat
  | 0 => 0
  | k + 1 => if k / 2 ^ b % 2 = 0 then shN ρ to b k + (cnR ρ to (k ||| 2 ^ b) - cnR ρ to k) * (fct (pop6 k) * fct (rB ρ - 1 - pop6 k)) else shN ρ to b k
theorem shN_e {ρ : Rm} (hr : okR ρ) {to b : Nat} (hb : b < rB ρ) : ∀ k, k ≤ 2 ^ rB ρ → shA ρ to b k = nI (shN ρ to b k) ∧ shN ρ to b k ≤ k * 30720
  | 0, _ => ⟨rfl, Nat.le_refl _⟩
  | k + 1, hk => by
    obtain ⟨h1, h2⟩ := shN_e hr (to := to) hb k (by omega)
    have hB7 := hr.2.2.1
    have h64 : 2 ^ rB ρ ≤ 64 := (Nat.pow_le_pow_right (by decide) (by omega) : 2 ^ rB ρ ≤ 2 ^ 6)
    rw [shA, shN]
    by_cases e : k / 2 ^ b % 2 = 0
    · rw [if_pos e, if_pos e]
      have hp := p_own _ hB7 b hb k (by omega) e
      have hu := cnR_up hr (to := to) (k := k) (by omega) hb
      have hl := cnR_le hr (to := to) (k := k ||| 2 ^ b)
      have f1 := ord_f (pop6 k) (by omega)
      have f2 := ord_f (rB ρ - 1 - pop6 k) (by omega)
      have f3 := fct_2 _ hB7 (pop6 k) (by omega)
      refine ⟨?_, ?_⟩
      · rw [h1, f1.1, f2.1, nI_sub hu, nI_mul, nI_mul, nI_add]
      · have := Nat.mul_le_mul (show cnR ρ to (k ||| 2 ^ b) - cnR ρ to k ≤ 256 by omega) f3
        omega
    · rw [if_neg e, if_neg e]
      exact ⟨h1, Nat.le_trans h2 (Nat.mul_le_mul_right _ (Nat.le_succ k))⟩

set_option maxRecDepth 100000 in
theorem qX10_share_s {tx : List Nat} {ρ : Rm} {c d p : Nat} {ac : List (Nat × Nat × Nat)} {sl : Nat → Option (Nat × Nat × Nat)} {se : List (Nat × Nat × Nat)} {sd : Int64} {N : Nat} {σ : Mem} (h : RM tx ρ c d p ac sl se sd σ) (hv : okV N ρ c d p ac sl se) {b to : Nat} (hb : b < rB ρ) (hto : cV ρ to) {x up : Int32} (ec : cOf ρ (rN ρ) x 0 = some to) (hR : ∀ s, s < 2 ^ rB ρ → σ.1 17 s = nI (cnR ρ to s)) : ∀ (k t : Nat) (z7 : Option Value), t + k = 2 ^ rB ρ → Vj shM 3 mX10_share (PM (spShare ρ (nI b) x up) tx ρ c d p ac sl se sd) 66 [some (.ref 0), some (.int (nI b)), some (.int x), some (.int up), some (.int (nI (cm ρ to))), some (.int (shA ρ to b t)), some (.int (nI t)), z7] [] σ := by
  intro k
  obtain ⟨hr, hc, hd, hp, hN30, ⟨hal, hav⟩, hsv, hse⟩ := hv
  obtain ⟨hTx, hP, hTa, hNw, hAc, hSl, hSe, hSd⟩ := h
  have hM := mN_le hr
  have hcM := cm_lt hr hc
  have hdM := cm_lt hr hd
  have hn5 := hr.1
  have hB7 := hr.2.2.1
  have h : RM tx ρ c d p ac sl se sd σ := ⟨hTx, hP, hTa, hNw, hAc, hSl, hSe, hSd⟩
  have hev := evB_lt hr
  have e2 : evB ρ + 1 = 2 ^ rB ρ := by have : 0 < 2 ^ rB ρ := Nat.pow_pos (by decide); unfold evB; omega
  have h64 : 2 ^ rB ρ ≤ 64 := (Nat.pow_le_pow_right (by decide) (by omega) : 2 ^ rB ρ ≤ 2 ^ 6)
  induction k with
  | zero =>
    intro t z7 ht
    obtain rfl : t = 2 ^ rB ρ := by omega
    obtain ⟨g1, g2⟩ := shN_e hr (to := to) hb (2 ^ rB ρ) (Nat.le_refl _)
    have g3 := Nat.mul_le_mul_right 30720 h64
    obtain ⟨f1, f2, f3⟩ := ord_f _ hB7
    obtain ⟨e3, e4⟩ := frS_e (a := shN ρ to b (2 ^ rB ρ)) (b := fct (rB ρ)) (by omega) (by omega) f2 (up := up)
    have esp : spShare ρ (nI b) x up = frS (nI (shN ρ to b (2 ^ rB ρ))) (nI (fct (rB ρ))) up := by
      unfold spShare
      rw [(hT_iff (by omega)).mpr ⟨b, hb, rfl⟩, if_pos rfl, ec]
      simp only []
      rw [nI_clamp (by omega), g1, f1]
    rw [esp, e3, g1]
    refine Vj_iload (q := 68) dX10_share_66 rfl rfl ?_
    refine Vj_aloadn (q := 69) dX10_share_68 rfl rfl rfl ?_
    refine Vj_callVi (q := 72) (qX10_every hP) (by decide) rfl rfl lkX10_172 viX10_every okX10_every dX10_share_69 rfl rfl (Nat.le_of_ble_eq_true rfl) ?_
    refine Vj_icmp_gt (q := 75) (tgt := 143) dX10_share_72 (by decide) rfl (fun _ => ?_) (fun hz => absurd (nI_lt (by omega) (by omega)) hz)
    refine Vj_iload (q := 145) dX10_share_143 rfl rfl ?_
    refine Vj_aloadn (q := 146) dX10_share_145 rfl rfl rfl ?_
    refine Vj_getI (q := 149) flX10_114 rfl rfl dX10_share_146 rfl ?_
    rw [hP.2.2.1]
    refine Vj_callSi (q := 152) (qX10_factorial hB7) (by decide) lkX10_204 stX10_factorial okX10_factorial dX10_share_149 rfl rfl (Nat.le_of_ble_eq_true rfl) ?_
    rw [f1]
    refine Vj_callSi (q := 155) (qX10_common (a := shN ρ to b (2 ^ rB ρ)) (b := fct (rB ρ)) (by omega) (by omega)) (by decide) lkX10_207 stX10_common okX10_common dX10_share_152 rfl rfl (Nat.le_of_ble_eq_true rfl) ?_
    refine Vs_istore6 (q := 157) dX10_share_155 rfl (by decide) rfl ?_
    refine Vj_iloadn (q := 158) dX10_share_157 rfl rfl rfl ?_
    refine Vj_if_eq (q := 161) (tgt := 169) dX10_share_158 (by decide) rfl (fun h158 => ?_) (fun h158 => ?_)
    ·
      refine Vj_aloadn (q := 170) dX10_share_169 rfl rfl rfl ?_
      refine Vj_getI (q := 173) flX10_114 rfl rfl dX10_share_170 rfl ?_
      rw [hP.2.2.1]
      refine Vj_callSi (q := 176) (qX10_factorial hB7) (by decide) lkX10_204 stX10_factorial okX10_factorial dX10_share_173 rfl rfl (Nat.le_of_ble_eq_true rfl) ?_
      rw [f1]
      refine Vj_iload (q := 178) dX10_share_176 rfl rfl ?_
      refine Vj_idiv (q := 179) dX10_share_178 rfl e4 ?_
      exact Vr_iret rfl rfl dX10_share_179 (⟨by rw [if_pos h158], h⟩)
    ·
      refine Vj_iload (q := 163) dX10_share_161 rfl rfl ?_
      refine Vj_iload (q := 165) dX10_share_163 rfl rfl ?_
      refine Vj_idiv (q := 166) dX10_share_165 rfl e4 ?_
      refine Vj_goto (q := 179) dX10_share_166 (by decide) ?_
      exact Vr_iret rfl rfl dX10_share_179 (⟨by rw [if_neg h158], h⟩)
  | succ k ih =>
    intro t z7 ht
    have hor : t ||| 2 ^ b < 2 ^ rB ρ := Nat.or_lt_two_pow (by omega) (Nat.pow_lt_pow_right (by decide) hb)
    refine Vj_iload (q := 68) dX10_share_66 rfl rfl ?_
    refine Vj_aloadn (q := 69) dX10_share_68 rfl rfl rfl ?_
    refine Vj_callVi (q := 72) (qX10_every hP) (by decide) rfl rfl lkX10_172 viX10_every okX10_every dX10_share_69 rfl rfl (Nat.le_of_ble_eq_true rfl) ?_
    refine Vj_icmp_gt (q := 75) (tgt := 143) dX10_share_72 (by decide) rfl (fun hz => absurd hz (Int32.not_lt.mpr (nI_le (by omega) (by omega)))) (fun _ => ?_)
    refine Vj_iload (q := 77) dX10_share_75 rfl rfl ?_
    refine Vj_iloadn (q := 78) dX10_share_77 rfl rfl rfl ?_
    refine Vj_callSi (q := 81) (qX10_has (k := t) (b := b) (by omega) (by omega)) (by decide) lkX10_89 stX10_has okX10_has dX10_share_78 rfl rfl (Nat.le_of_ble_eq_true rfl) ?_
    refine Vj_if_ne (q := 84) (tgt := 137) dX10_share_81 (by decide) rfl (fun h81 => ?_) (fun h81 => ?_)
    ·
      refine Vs_iinc6 (q := 140) (z := none) dX10_share_137 rfl (by exact iinc_p _) (by decide) rfl ?_
      refine Vj_goto (q := 66) dX10_share_140 (by decide) ?_
      rw [nI_1]
      have eb : ¬ t / 2 ^ b % 2 = 0 := by
        have := of_decide_eq_true (bI_n.mp h81)
        omega
      have ih := ih (t + 1) z7 (by omega)
      rw [shA, if_neg eb] at ih
      exact ih
    ·
      have eb : t / 2 ^ b % 2 = 0 := by
        have := of_decide_eq_false (bI_z.mp h81)
        omega
      have hp := p_own _ hB7 b hb t (by omega) eb
      refine Vj_iload (q := 86) dX10_share_84 rfl rfl ?_
      refine Vj_callSi (q := 89) (qX10_ones (x := t) (by omega)) (by decide) lkX10_185 stX10_ones okX10_ones dX10_share_86 rfl rfl (Nat.le_of_ble_eq_true rfl) ?_
      refine Vj_callSi (q := 92) (qX10_factorial (n := pop6 t) (by omega)) (by decide) lkX10_204 stX10_factorial okX10_factorial dX10_share_89 rfl rfl (Nat.le_of_ble_eq_true rfl) ?_
      refine Vj_aloadn (q := 93) dX10_share_92 rfl rfl rfl ?_
      refine Vj_getI (q := 96) flX10_114 rfl rfl dX10_share_93 rfl ?_
      rw [hP.2.2.1]
      refine Vj_iconst (q := 97) (v := 1) dX10_share_96 rfl (by decide) ?_
      refine Vj_isub (q := 98) dX10_share_97 rfl ?_
      rw [nI_s1 (by omega)]
      refine Vj_iload (q := 100) dX10_share_98 rfl rfl ?_
      refine Vj_callSi (q := 103) (qX10_ones (x := t) (by omega)) (by decide) lkX10_185 stX10_ones okX10_ones dX10_share_100 rfl rfl (Nat.le_of_ble_eq_true rfl) ?_
      refine Vj_isub (q := 104) dX10_share_103 rfl ?_
      rw [nI_sub (by omega)]
      refine Vj_callSi (q := 107) (qX10_factorial (n := rB ρ - 1 - pop6 t) (by omega)) (by decide) lkX10_204 stX10_factorial okX10_factorial dX10_share_104 rfl rfl (Nat.le_of_ble_eq_true rfl) ?_
      refine Vj_imul (q := 108) dX10_share_107 rfl ?_
      refine Vs_istore7 (q := 110) dX10_share_108 rfl (by decide) rfl ?_
      refine Vj_iload (q := 112) dX10_share_110 rfl rfl ?_
      refine Vj_iload (q := 114) dX10_share_112 rfl rfl ?_
      refine Vj_aloadn (q := 115) dX10_share_114 rfl rfl rfl ?_
      refine Vj_getR (q := 118) flX10_58 rfl rfl dX10_share_115 rfl ?_
      refine Vj_iload (q := 120) dX10_share_118 rfl rfl ?_
      refine Vj_iconst (q := 121) (v := 1) dX10_share_120 rfl (by decide) ?_
      refine Vj_iloadn (q := 122) dX10_share_121 rfl rfl rfl ?_
      refine Vj_ishl (q := 123) dX10_share_122 rfl ?_
      rw [i_own b (by omega)]
      refine Vj_ior (q := 124) dX10_share_123 rfl ?_
      rw [nI_or']
      refine Vj_iald (q := 125) rfl (vp_in_nI (by omega) (by decide)) dX10_share_124 rfl ?_
      rw [nI_clamp (by omega), hR _ hor]
      refine Vj_aloadn (q := 126) dX10_share_125 rfl rfl rfl ?_
      refine Vj_getR (q := 129) flX10_58 rfl rfl dX10_share_126 rfl ?_
      refine Vj_iload (q := 131) dX10_share_129 rfl rfl ?_
      refine Vj_iald (q := 132) rfl (vp_in_nI (by omega) (by decide)) dX10_share_131 rfl ?_
      rw [nI_clamp (by omega), hR _ (by omega)]
      refine Vj_isub (q := 133) dX10_share_132 rfl ?_
      refine Vj_imul (q := 134) dX10_share_133 rfl ?_
      refine Vj_iadd (q := 135) dX10_share_134 rfl ?_
      rw [show shA ρ to b t + tORD (pop6 t) * tORD (rB ρ - 1 - pop6 t) * (nI (cnR ρ to (t ||| 2 ^ b)) - nI (cnR ρ to t)) = shA ρ to b (t + 1) by rw [shA, if_pos eb, Int32.mul_comm (nI (cnR ρ to (t ||| 2 ^ b)) - nI (cnR ρ to t))]]
      refine Vs_istore5 (q := 137) dX10_share_135 rfl (by decide) rfl ?_
      refine Vs_iinc6 (q := 140) (z := none) dX10_share_137 rfl (by exact iinc_p _) (by decide) rfl ?_
      refine Vj_goto (q := 66) dX10_share_140 (by decide) ?_
      rw [nI_1]
      exact ih (t + 1) _ (by omega)
set_option maxRecDepth 100000 in
theorem qX10_share_r {tx : List Nat} {ρ : Rm} {c d p : Nat} {ac : List (Nat × Nat × Nat)} {sl : Nat → Option (Nat × Nat × Nat)} {se : List (Nat × Nat × Nat)} {sd : Int64} {N : Nat} (hv : okV N ρ c d p ac sl se) {b to : Nat} (hb : b < rB ρ) (hto : cV ρ to) {x up : Int32} (ec : cOf ρ (rN ρ) x 0 = some to) : ∀ (k t : Nat) (σ : Mem), t + k = 2 ^ rB ρ → RM tx ρ c d p ac sl se sd σ → (∀ s, s < t → σ.1 17 s = nI (cnR ρ to s)) → Vj shM 3 mX10_share (PM (spShare ρ (nI b) x up) tx ρ c d p ac sl se sd) 30 [some (.ref 0), some (.int (nI b)), some (.int x), some (.int up), some (.int (nI (cm ρ to))), some (.int (nI t)), none, none] [] σ := by
  have hr := hv.1
  have hB7 := hr.2.2.1
  have hev := evB_lt hr
  have e2 : evB ρ + 1 = 2 ^ rB ρ := by have : 0 < 2 ^ rB ρ := Nat.pow_pos (by decide); unfold evB; omega
  have h64 : 2 ^ rB ρ ≤ 64 := (Nat.pow_le_pow_right (by decide) (by omega) : 2 ^ rB ρ ≤ 2 ^ 6)
  intro k
  induction k with
  | zero =>
    intro t σ ht h hR
    obtain ⟨hr, hc, hd, hp, hN30, ⟨hal, hav⟩, hsv, hse⟩ := hv
    obtain ⟨hTx, hP, hTa, hNw, hAc, hSl, hSe, hSd⟩ := h
    have hM := mN_le hr
    have hcM := cm_lt hr hc
    have hdM := cm_lt hr hd
    have hn5 := hr.1
    have hB7 := hr.2.2.1
    have h : RM tx ρ c d p ac sl se sd σ := ⟨hTx, hP, hTa, hNw, hAc, hSl, hSe, hSd⟩
    obtain rfl : t = 2 ^ rB ρ := by omega
    refine Vj_iload (q := 32) dX10_share_30 rfl rfl ?_
    refine Vj_aloadn (q := 33) dX10_share_32 rfl rfl rfl ?_
    refine Vj_callVi (q := 36) (qX10_every hP) (by decide) rfl rfl lkX10_172 viX10_every okX10_every dX10_share_33 rfl rfl (Nat.le_of_ble_eq_true rfl) ?_
    refine Vj_icmp_gt (q := 39) (tgt := 60) dX10_share_36 (by decide) rfl (fun _ => ?_) (fun hz => absurd (nI_lt (by omega) (by omega)) hz)
    refine Vj_iconst (q := 61) (v := 0) dX10_share_60 rfl (by decide) ?_
    refine Vs_istore5 (q := 63) dX10_share_61 rfl (by decide) rfl ?_
    refine Vj_iconst (q := 64) (v := 0) dX10_share_63 rfl (by decide) ?_
    refine Vs_istore6 (q := 66) dX10_share_64 rfl (by decide) rfl ?_
    exact qX10_share_s h ⟨hr, hc, hd, hp, hN30, ⟨hal, hav⟩, hsv, hse⟩ hb hto ec hR (2 ^ rB ρ) 0 none (by omega)
  | succ k ih =>
    intro t σ ht h hR
    obtain ⟨hr, hc, hd, hp, hN30, ⟨hal, hav⟩, hsv, hse⟩ := hv
    obtain ⟨hTx, hP, hTa, hNw, hAc, hSl, hSe, hSd⟩ := h
    have hM := mN_le hr
    have hcM := cm_lt hr hc
    have hdM := cm_lt hr hd
    have hn5 := hr.1
    have hB7 := hr.2.2.1
    have h : RM tx ρ c d p ac sl se sd σ := ⟨hTx, hP, hTa, hNw, hAc, hSl, hSe, hSd⟩
    refine Vj_iload (q := 32) dX10_share_30 rfl rfl ?_
    refine Vj_aloadn (q := 33) dX10_share_32 rfl rfl rfl ?_
    refine Vj_callVi (q := 36) (qX10_every hP) (by decide) rfl rfl lkX10_172 viX10_every okX10_every dX10_share_33 rfl rfl (Nat.le_of_ble_eq_true rfl) ?_
    refine Vj_icmp_gt (q := 39) (tgt := 60) dX10_share_36 (by decide) rfl (fun hz => absurd hz (Int32.not_lt.mpr (nI_le (by omega) (by omega)))) (fun _ => ?_)
    refine Vj_aloadn (q := 40) dX10_share_39 rfl rfl rfl ?_
    refine Vj_getR (q := 43) flX10_58 rfl rfl dX10_share_40 rfl ?_
    refine Vj_iload (q := 45) dX10_share_43 rfl rfl ?_
    refine Vj_aloadn (q := 46) dX10_share_45 rfl rfl rfl ?_
    refine Vj_iload (q := 48) dX10_share_46 rfl rfl ?_
    refine Vj_iload (q := 50) dX10_share_48 rfl rfl ?_
    refine Vj_callV (q := 53) (qX10_reached hP hTa (ch := t) (by omega) hto) (by decide) rfl rfl lkX10_178 viX10_reached okX10_reached dX10_share_50 rfl rfl (Nat.le_of_ble_eq_true rfl) ?_
    rintro r1 σ1 ⟨rfl, hE⟩
    show Vj shM 3 mX10_share _ 53 _ [.int _, .int _, .ref _] σ1
    refine Vj_iast (q := 54) rfl (vp_in_nI (by omega) (by decide)) dX10_share_53 rfl ?_
    rw [nI_clamp (by omega)]
    refine Vs_iinc5 (q := 57) (z := none) dX10_share_54 rfl (by exact iinc_p _) (by decide) rfl ?_
    refine Vj_goto (q := 30) dX10_share_57 (by decide) ?_
    rw [nI_1]
    refine ih (t + 1) _ (by omega) (h.eqo ((hE.in (S' := [12, 17]) rfl).u (q := 17) rfl) rfl) fun s hs => ?_
    rw [uI_eq, upd]
    by_cases e : s = t
    · rw [if_pos e, e]
    · rw [if_neg e, hE.at 17 rfl]; exact hR s (by omega)
set_option maxRecDepth 100000 in
theorem qX10_share {tx : List Nat} {ρ : Rm} {c d p : Nat} {ac : List (Nat × Nat × Nat)} {sl : Nat → Option (Nat × Nat × Nat)} {se : List (Nat × Nat × Nat)} {sd : Int64} {N : Nat} {σ : Mem} (h : RM tx ρ c d p ac sl se sd σ) (hv : okV N ρ c d p ac sl se) (bb x up : Int32) : Ct shM 3 mX10_share [.ref 0, .int bb, .int x, .int up] σ (PM (spShare ρ bb x up) tx ρ c d p ac sl se sd) := by
  obtain ⟨hr, hc, hd, hp, hN30, ⟨hal, hav⟩, hsv, hse⟩ := hv
  obtain ⟨hTx, hP, hTa, hNw, hAc, hSl, hSe, hSd⟩ := h
  have hM := mN_le hr
  have hcM := cm_lt hr hc
  have hdM := cm_lt hr hd
  have hn5 := hr.1
  have hB7 := hr.2.2.1
  have h : RM tx ρ c d p ac sl se sd σ := ⟨hTx, hP, hTa, hNw, hAc, hSl, hSe, hSd⟩
  refine Ct.of (by decide) (Nat.le_of_ble_eq_true rfl) (l := [some (.ref 0), some (.int bb), some (.int x), some (.int up), none, none, none, none]) rfl ?_
  refine Vj_aloadn (q := 1) dX10_share_0 rfl rfl rfl ?_
  refine Vj_iloadn (q := 2) dX10_share_1 rfl rfl rfl ?_
  refine Vj_callVi (q := 5) (qX10_isButton hP _) (by decide) rfl rfl lkX10_147 viX10_isButton okX10_isButton dX10_share_2 rfl rfl (Nat.le_of_ble_eq_true rfl) ?_
  refine Vj_if_ne (q := 8) (tgt := 10) dX10_share_5 (by decide) rfl (fun h5 => ?_) (fun h5 => ?_)
  ·
    have h5b := bI_n.mp h5
    obtain ⟨b, hb, rfl, ecl⟩ := hT_x (by omega) h5b
    refine Vj_aloadn (q := 11) dX10_share_10 rfl rfl rfl ?_
    refine Vj_iloadn (q := 12) dX10_share_11 rfl rfl rfl ?_
    refine Vj_callVi (q := 15) (qX10_messOf hP x) (by decide) rfl rfl lkX10_169 viX10_messOf okX10_messOf dX10_share_12 rfl rfl (Nat.le_of_ble_eq_true rfl) ?_
    rcases ec : cOf ρ (rN ρ) x 0 with _ | to
    ·
      refine Vs_istore4 (q := 17) dX10_share_15 rfl (by decide) rfl ?_
      refine Vj_iload (q := 19) dX10_share_17 rfl rfl ?_
      refine Vj_bipush (q := 21) (v := (-9)) dX10_share_19 rfl (by decide) ?_
      refine Vj_icmp_ne (q := 24) (tgt := 27) dX10_share_21 (by decide) rfl (fun hz => absurd rfl hz) (fun _ => ?_)
      refine Vj_bipush (q := 26) (v := (-2)) dX10_share_24 rfl (by decide) ?_
      exact Vr_iret rfl rfl dX10_share_26 (⟨by unfold spShare; rw [h5b, if_pos rfl, ec], h⟩)
    ·
      have hto := cOf_V0 hr ec
      rw [oM_s]
      refine Vs_istore4 (q := 17) dX10_share_15 rfl (by decide) rfl ?_
      refine Vj_iload (q := 19) dX10_share_17 rfl rfl ?_
      refine Vj_bipush (q := 21) (v := (-9)) dX10_share_19 rfl (by decide) ?_
      refine Vj_icmp_ne (q := 24) (tgt := 27) dX10_share_21 (by decide) rfl (fun _ => ?_) (fun hz => absurd hz (oM_ne hr hto))
      refine Vj_iconst (q := 28) (v := 0) dX10_share_27 rfl (by decide) ?_
      refine Vs_istore5 (q := 30) dX10_share_28 rfl (by decide) rfl ?_
      exact qX10_share_r ⟨hr, hc, hd, hp, hN30, ⟨hal, hav⟩, hsv, hse⟩ hb hto ec (2 ^ rB ρ) 0 σ (by omega) h (fun s hs => absurd hs (Nat.not_lt_zero s))
  ·
    refine Vj_iconst (q := 9) (v := (-1)) dX10_share_8 rfl (by decide) ?_
    exact Vr_iret rfl rfl dX10_share_9 (⟨by unfold spShare; rw [bI_f0 h5]; rfl, h⟩)
