/-! the reference: weak -/
def wtN (x s : Nat) : Nat → Nat
  | 0 => 1
  | k + 1 => wtN x s k * (if s / 2 ^ k % 2 = 1 then 10 - x else x)
/-- the weights of the first S sets whose presses are as P says -/
def smN (x n : Nat) (P : Nat → Bool) : Nat → Nat
  | 0 => 0
  | S + 1 => smN x n P S + (if P (popK S n) then wtN x S n else 0)
def chN (x n : Nat) : Nat → Nat → Nat
  | 0, j => if j = 0 then 1 else 0
  | k + 1, j => if j ≤ n then chN x n k j * x + (if j = 0 then 0 else chN x n k (j - 1) * (10 - x)) else chN x n k j
theorem chT_e {x n : Nat} (hx : x ≤ 10) : ∀ k j, chT (nI x) n k j = nI (chN x n k j)
  | 0, j => by rw [chT, chN]; split <;> rfl
  | k + 1, j => by
    rw [chT, chN]
    by_cases h1 : j ≤ n
    · rw [if_pos h1, if_pos h1, chT_e hx k j, nI_mul]
      by_cases h2 : j = 0
      · rw [if_pos h2, if_pos h2]; exact Int32.add_zero _
      · rw [if_neg h2, if_neg h2, chT_e hx k (j - 1), show (10 : Int32) - nI x = nI (10 - x) from nI_sub (a := 10) hx, nI_mul, nI_add]
    · rw [if_neg h1, if_neg h1, chT_e hx k j]
theorem ch_sm : ∀ n, n < 7 → ∀ x, x < 11 → (List.range (n + 1)).all (fun j => Nat.beq (chN x n n j) (smN x n (fun i => Nat.beq i j) (2 ^ n))) = true := by decide +kernel
theorem sm_all : ∀ n, n < 7 → ∀ x, x < 11 → smN x n (fun _ => true) (2 ^ n) = 10 ^ n := by decide +kernel
theorem sm_le {x n : Nat} {P : Nat → Bool} : ∀ S, smN x n P S ≤ smN x n (fun _ => true) S
  | 0 => Nat.le_refl _
  | S + 1 => by
    have := sm_le (x := x) (n := n) (P := P) S
    rw [smN, smN, if_pos rfl]
    split <;> omega
theorem popK_le (s : Nat) : ∀ k, popK s k ≤ k
  | 0 => Nat.le_refl _
  | k + 1 => by
    have := popK_le s k
    have h2 := Nat.mod_lt (s / 2 ^ k) (show 2 > 0 by decide)
    rw [popK]; omega
theorem sumN_g {f g : Nat → Nat} : ∀ m, (∀ j, j < m → f j = g j) → sumN f m = sumN g m
  | 0, _ => rfl
  | m + 1, h => by rw [sumN, sumN, sumN_g m (fun j hj => h j (by omega)), h m (Nat.lt_succ_self m)]
theorem sumN_1 {f g : Nat → Nat} {i v : Nat} (h : ∀ j, f j = g j + if j = i then v else 0) : ∀ m, sumN f m = sumN g m + if i < m then v else 0
  | 0 => rfl
  | m + 1 => by
    rw [sumN, sumN, sumN_1 h m, h m]
    by_cases e : m = i
    · subst e; rw [if_pos rfl, if_neg (Nat.lt_irrefl m), if_pos (Nat.lt_succ_self m)]; omega
    · rw [if_neg e]
      by_cases e2 : i < m
      · rw [if_pos e2, if_pos (show i < m + 1 by omega)]; omega
      · rw [if_neg e2, if_neg (show ¬ i < m + 1 by omega)]; omega
theorem sm_grp {x n : Nat} {P : Nat → Bool} : ∀ S, smN x n P S = sumN (fun j => if P j then smN x n (fun i => Nat.beq i j) S else 0) (n + 1)
  | 0 => by
    rw [sumN_g (g := fun _ => 0) (n + 1) (fun j _ => by rw [smN]; split <;> rfl)]
    have : ∀ m, sumN (fun _ => 0) m = 0 := fun m => by induction m with
      | zero => rfl
      | succ m ih => rw [sumN, ih]
    rw [this]; rfl
  | S + 1 => by
    have hp := popK_le S n
    have key : ∀ j, (if P j then smN x n (fun i => Nat.beq i j) (S + 1) else 0) = (if P j then smN x n (fun i => Nat.beq i j) S else 0) + if j = popK S n then (if P (popK S n) then wtN x S n else 0) else 0 := by
      intro j
      by_cases e : j = popK S n
      · subst e
        rw [if_pos rfl, smN, if_pos (Nat.beq_refl _)]
        by_cases e2 : P (popK S n) = true
        · rw [if_pos e2, if_pos e2, if_pos e2]
        · rw [if_neg e2, if_neg e2, if_neg e2]
      · rw [if_neg e, smN, if_neg (fun z => e (Nat.eq_of_beq_eq_true z).symm)]
        by_cases e2 : P j = true
        · rw [if_pos e2, if_pos e2]
        · rw [if_neg e2, if_neg e2]
    rw [sumN_1 key (n + 1), if_pos (by omega), smN, sm_grp S]
theorem wk_e {ρ : Rm} {b c to x n : Nat} (hn : n < 7) (hx : x < 11) : ∀ k, k ≤ n + 1 → wkS ρ b c to (chT (nI x) n n) k = nI (sumN (fun j => if (wGo ρ b c j == to) then smN x n (fun i => Nat.beq i j) (2 ^ n) else 0) k)
  | 0, _ => rfl
  | k + 1, hk => by
    have ih := wk_e (ρ := ρ) (b := b) (c := c) (to := to) hn hx k (by omega)
    have h1 := Nat.eq_of_beq_eq_true (List.all_eq_true.mp (ch_sm n hn x hx) k (List.mem_range.mpr hk))
    rw [wkS, sumN, ih, chT_e (by omega), h1]
    by_cases e : wGo ρ b c k = to
    · rw [if_pos e, if_pos (beq_iff_eq.mpr e), nI_add]
    · rw [if_neg e, if_neg (fun z => e (beq_iff_eq.mp z))]; rfl
theorem wk_s {ρ : Rm} {b c to x n : Nat} (hn : n < 7) (hx : x < 11) : wkS ρ b c to (chT (nI x) n n) (n + 1) = nI (smN x n (fun j => wGo ρ b c j == to) (2 ^ n)) := by
  rw [wk_e hn hx _ (Nat.le_refl _), ← sm_grp]
theorem i_own7 : ∀ n, n < 7 → (1 : Int32) <<< (nI n &&& 31) = nI (2 ^ n) := by decide +kernel
theorem wGo_V {ρ : Rm} (hr : okR ρ) {b c : Nat} (hb : b < rB ρ) (hc : cV ρ c) : ∀ k, cV ρ (wGo ρ b c k)
  | 0 => hc
  | k + 1 => cV_nx hr (wGo_V hr hb hc k) hb

set_option maxRecDepth 100000 in
theorem qX10_weak_k {tx : List Nat} {ρ : Rm} {c d p : Nat} {ac : List (Nat × Nat × Nat)} {sl : Nat → Option (Nat × Nat × Nat)} {se : List (Nat × Nat × Nat)} {sd : Int64} {N : Nat} {σ : Mem} (h : RM tx ρ c d p ac sl se sd σ) (hv : okV N ρ c d p ac sl se) {b n x to : Nat} {y up : Int32} (hb : b < rB ρ) (hn : n < 7) (hn1 : 1 ≤ n) (hx : x < 11) (hto : cV ρ to) (ec : cOf ρ (rN ρ) y 0 = some to) {s : Nat} (hs : s < 2 ^ n) (kk : Vj shM 2 mX10_weak (PM (spWeak ρ c (nI b) (nI n) y (nI x) up) tx ρ c d p ac sl se sd) 148 [some (.ref 0), some (.int (nI b)), some (.int (nI n)), some (.int y), some (.int (nI x)), some (.int up), some (.int (nI (cm ρ to))), some (.int (nI (smN x n (fun j => wGo ρ b c j == to) s))), some (.int (nI (smN x n (fun _ => true) s))), some (.int (nI s)), some (.int (nI (wtN x s n))), some (.int (nI (cm ρ (wGo ρ b c (popK s n))))), some (.int (nI n))] [] σ) : ∀ j k : Nat, k + j = n → Vj shM 2 mX10_weak (PM (spWeak ρ c (nI b) (nI n) y (nI x) up) tx ρ c d p ac sl se sd) 81 [some (.ref 0), some (.int (nI b)), some (.int (nI n)), some (.int y), some (.int (nI x)), some (.int up), some (.int (nI (cm ρ to))), some (.int (nI (smN x n (fun j => wGo ρ b c j == to) s))), some (.int (nI (smN x n (fun _ => true) s))), some (.int (nI s)), some (.int (nI (wtN x s k))), some (.int (nI (cm ρ (wGo ρ b c (popK s k))))), some (.int (nI k))] [] σ := by
  intro j
  obtain ⟨hr, hc, hd, hp, hN30, ⟨hal, hav⟩, hsv, hse⟩ := hv
  obtain ⟨hTx, hP, hTa, hNw, hAc, hSl, hSe, hSd⟩ := h
  have hM := mN_le hr
  have hcM := cm_lt hr hc
  have hdM := cm_lt hr hd
  have hn5 := hr.1
  have hB7 := hr.2.2.1
  have h : RM tx ρ c d p ac sl se sd σ := ⟨hTx, hP, hTa, hNw, hAc, hSl, hSe, hSd⟩
  have h64 : 2 ^ n ≤ 64 := (Nat.pow_le_pow_right (by decide) (by omega) : 2 ^ n ≤ 2 ^ 6)
  induction j with
  | zero =>
    intro k hk
    obtain rfl : k = n := by omega
    refine Vj_iload (q := 83) dX10_weak_81 rfl rfl ?_
    refine Vj_iloadn (q := 84) dX10_weak_83 rfl rfl rfl ?_
    refine Vj_icmp_ge (q := 87) (tgt := 148) dX10_weak_84 (by decide) rfl (fun _ => ?_) (fun hz => absurd (nI_le (by omega) (by omega)) hz)
    exact kk
  | succ j ih =>
    intro k hk
    have hg := wGo_V hr hb hc (popK s k)
    have hgl := cm_lt hr hg
    have ih := ih (k + 1) (by omega)
    refine Vj_iload (q := 83) dX10_weak_81 rfl rfl ?_
    refine Vj_iloadn (q := 84) dX10_weak_83 rfl rfl rfl ?_
    refine Vj_icmp_ge (q := 87) (tgt := 148) dX10_weak_84 (by decide) rfl (fun hz => absurd hz (nI_ge (by omega) (by omega))) (fun _ => ?_)
    by_cases eb : s / 2 ^ k % 2 = 1
    ·
      rw [wtN, popK, eb, if_pos rfl, wGo] at ih
      refine Vj_iload (q := 89) dX10_weak_87 rfl rfl ?_
      refine Vj_iload (q := 91) dX10_weak_89 rfl rfl ?_
      refine Vj_iload (q := 93) dX10_weak_91 rfl rfl ?_
      refine Vj_callSi (q := 96) (qX10_has (k := s) (b := k) (by omega) (by omega)) (by decide) lkX10_89 stX10_has okX10_has dX10_weak_93 rfl rfl (Nat.le_of_ble_eq_true rfl) ?_
      refine Vj_if_eq (q := 99) (tgt := 107) dX10_weak_96 (by decide) rfl (fun hz => absurd hz (by rw [bDp eb]; decide)) (fun _ => ?_)
      refine Vj_bipush (q := 101) (v := 10) dX10_weak_99 rfl (by decide) ?_
      refine Vj_iload (q := 103) dX10_weak_101 rfl rfl ?_
      refine Vj_isub (q := 104) dX10_weak_103 rfl ?_
      rw [show (10 : Int32) - nI x = nI (10 - x) from nI_sub (a := 10) (by omega)]
      refine Vj_goto (q := 109) dX10_weak_104 (by decide) ?_
      refine Vj_imul (q := 110) dX10_weak_109 rfl ?_
      rw [nI_mul]
      refine Vs_istore10 (q := 112) dX10_weak_110 rfl (by decide) rfl ?_
      refine Vj_iload (q := 114) dX10_weak_112 rfl rfl ?_
      refine Vj_iload (q := 116) dX10_weak_114 rfl rfl ?_
      refine Vj_callSi (q := 119) (qX10_has (k := s) (b := k) (by omega) (by omega)) (by decide) lkX10_89 stX10_has okX10_has dX10_weak_116 rfl rfl (Nat.le_of_ble_eq_true rfl) ?_
      refine Vj_if_eq (q := 122) (tgt := 138) dX10_weak_119 (by decide) rfl (fun hz => absurd hz (by rw [bDp eb]; decide)) (fun _ => ?_)
      refine Vj_aloadn (q := 123) dX10_weak_122 rfl rfl rfl ?_
      refine Vj_getR (q := 126) flX10_25 rfl rfl dX10_weak_123 rfl ?_
      refine Vj_sipush (q := 129) (v := 256) dX10_weak_126 rfl (by decide) ?_
      refine Vj_iloadn (q := 130) dX10_weak_129 rfl rfl rfl ?_
      refine Vj_imul (q := 131) dX10_weak_130 rfl ?_
      refine Vj_iload (q := 133) dX10_weak_131 rfl rfl ?_
      refine Vj_iadd (q := 134) dX10_weak_133 rfl ?_
      rw [i_256]
      refine Vj_iald (q := 135) rfl (vp_in_nI (by omega) (by decide)) dX10_weak_134 rfl ?_
      rw [nI_clamp (by omega), hTa b hb _ hg]
      refine Vj_goto (q := 140) dX10_weak_135 (by decide) ?_
      refine Vs_istore11 (q := 142) dX10_weak_140 rfl (by decide) rfl ?_
      refine Vs_iinc12 (q := 145) (z := none) dX10_weak_142 rfl (by exact iinc_p _) (by decide) rfl ?_
      refine Vj_goto (q := 81) dX10_weak_145 (by decide) ?_
      rw [nI_1]
      exact ih
    ·
      rw [wtN, popK, show s / 2 ^ k % 2 = 0 by omega, if_neg (by decide), Nat.add_zero] at ih
      refine Vj_iload (q := 89) dX10_weak_87 rfl rfl ?_
      refine Vj_iload (q := 91) dX10_weak_89 rfl rfl ?_
      refine Vj_iload (q := 93) dX10_weak_91 rfl rfl ?_
      refine Vj_callSi (q := 96) (qX10_has (k := s) (b := k) (by omega) (by omega)) (by decide) lkX10_89 stX10_has okX10_has dX10_weak_93 rfl rfl (Nat.le_of_ble_eq_true rfl) ?_
      refine Vj_if_eq (q := 99) (tgt := 107) dX10_weak_96 (by decide) rfl (fun _ => ?_) (fun hz => absurd (bDn eb) hz)
      refine Vj_iload (q := 109) dX10_weak_107 rfl rfl ?_
      refine Vj_imul (q := 110) dX10_weak_109 rfl ?_
      rw [nI_mul]
      refine Vs_istore10 (q := 112) dX10_weak_110 rfl (by decide) rfl ?_
      refine Vj_iload (q := 114) dX10_weak_112 rfl rfl ?_
      refine Vj_iload (q := 116) dX10_weak_114 rfl rfl ?_
      refine Vj_callSi (q := 119) (qX10_has (k := s) (b := k) (by omega) (by omega)) (by decide) lkX10_89 stX10_has okX10_has dX10_weak_116 rfl rfl (Nat.le_of_ble_eq_true rfl) ?_
      refine Vj_if_eq (q := 122) (tgt := 138) dX10_weak_119 (by decide) rfl (fun _ => ?_) (fun hz => absurd (bDn eb) hz)
      refine Vj_iload (q := 140) dX10_weak_138 rfl rfl ?_
      refine Vs_istore11 (q := 142) dX10_weak_140 rfl (by decide) rfl ?_
      refine Vs_iinc12 (q := 145) (z := none) dX10_weak_142 rfl (by exact iinc_p _) (by decide) rfl ?_
      refine Vj_goto (q := 81) dX10_weak_145 (by decide) ?_
      rw [nI_1]
      exact ih
set_option maxRecDepth 100000 in
theorem qX10_weak_s {tx : List Nat} {ρ : Rm} {c d p : Nat} {ac : List (Nat × Nat × Nat)} {sl : Nat → Option (Nat × Nat × Nat)} {se : List (Nat × Nat × Nat)} {sd : Int64} {N : Nat} {σ : Mem} (h : RM tx ρ c d p ac sl se sd σ) (hv : okV N ρ c d p ac sl se) {b n x to : Nat} {y up : Int32} (hb : b < rB ρ) (hn : n < 7) (hn1 : 1 ≤ n) (hx : x < 11) (hto : cV ρ to) (ec : cOf ρ (rN ρ) y 0 = some to) : ∀ (j s : Nat) (z1 z2 z3 : Option Value), s + j = 2 ^ n → Vj shM 2 mX10_weak (PM (spWeak ρ c (nI b) (nI n) y (nI x) up) tx ρ c d p ac sl se sd) 61 [some (.ref 0), some (.int (nI b)), some (.int (nI n)), some (.int y), some (.int (nI x)), some (.int up), some (.int (nI (cm ρ to))), some (.int (nI (smN x n (fun j => wGo ρ b c j == to) s))), some (.int (nI (smN x n (fun _ => true) s))), some (.int (nI s)), z1, z2, z3] [] σ := by
  intro j
  obtain ⟨hr, hc, hd, hp, hN30, ⟨hal, hav⟩, hsv, hse⟩ := hv
  obtain ⟨hTx, hP, hTa, hNw, hAc, hSl, hSe, hSd⟩ := h
  have hM := mN_le hr
  have hcM := cm_lt hr hc
  have hdM := cm_lt hr hd
  have hn5 := hr.1
  have hB7 := hr.2.2.1
  have h : RM tx ρ c d p ac sl se sd σ := ⟨hTx, hP, hTa, hNw, hAc, hSl, hSe, hSd⟩
  have h64 : 2 ^ n ≤ 64 := (Nat.pow_le_pow_right (by decide) (by omega) : 2 ^ n ≤ 2 ^ 6)
  induction j with
  | zero =>
    intro s z1 z2 z3 hs
    obtain rfl : s = 2 ^ n := by omega
    have hle := sm_le (x := x) (n := n) (P := fun j => wGo ρ b c j == to) (2 ^ n)
    rw [sm_all n hn x hx] at hle ⊢
    obtain ⟨q1, q2⟩ := p10_lt hn
    obtain ⟨e3, e4⟩ := frS_e (a := smN x n (fun j => wGo ρ b c j == to) (2 ^ n)) (b := 10 ^ n) (by omega) (by omega) q2 (up := up)
    have esp : spWeak ρ c (nI b) (nI n) y (nI x) up = frS (nI (smN x n (fun j => wGo ρ b c j == to) (2 ^ n))) (nI (10 ^ n)) up := by
      unfold spWeak
      rw [(hT_iff (by omega)).mpr ⟨b, hb, rfl⟩, if_pos rfl, ec]
      simp only []
      have hno : ¬ (nI n < 1 ∨ 6 < nI n ∨ nI x < 0 ∨ 10 < nI x) := by
        rintro (z | z | z | z)
        · have := (nI_ltI (b := 1) (by omega) (by decide)).mp z; omega
        · have := (nI_ltI (a := 6) (by decide) (by omega)).mp z; omega
        · exact nI_pos (by omega) z
        · have := (nI_ltI (a := 10) (by decide) (by omega)).mp z; omega
      rw [if_neg hno, nI_clamp (show b < 2 ^ 31 by omega), nI_clamp (show n < 2 ^ 31 by omega), wk_s hn hx, tens_at n hn]
    rw [esp, e3]
    refine Vj_iload (q := 63) dX10_weak_61 rfl rfl ?_
    refine Vj_iconst (q := 64) (v := 1) dX10_weak_63 rfl (by decide) ?_
    refine Vj_iloadn (q := 65) dX10_weak_64 rfl rfl rfl ?_
    refine Vj_ishl (q := 66) dX10_weak_65 rfl ?_
    rw [i_own7 n hn]
    refine Vj_icmp_ge (q := 69) (tgt := 179) dX10_weak_66 (by decide) rfl (fun _ => ?_) (fun hz => absurd (nI_le (by omega) (by omega)) hz)
    refine Vj_iload (q := 181) dX10_weak_179 rfl rfl ?_
    refine Vj_iload (q := 183) dX10_weak_181 rfl rfl ?_
    refine Vj_callSi (q := 186) (qX10_common (a := smN x n (fun j => wGo ρ b c j == to) (2 ^ n)) (b := 10 ^ n) (by omega) (by omega)) (by decide) lkX10_207 stX10_common okX10_common dX10_weak_183 rfl rfl (Nat.le_of_ble_eq_true rfl) ?_
    refine Vs_istore9 (q := 188) dX10_weak_186 rfl (by decide) rfl ?_
    refine Vj_iload (q := 190) dX10_weak_188 rfl rfl ?_
    refine Vj_if_eq (q := 193) (tgt := 201) dX10_weak_190 (by decide) rfl (fun h190 => ?_) (fun h190 => ?_)
    ·
      refine Vj_iload (q := 203) dX10_weak_201 rfl rfl ?_
      refine Vj_iload (q := 205) dX10_weak_203 rfl rfl ?_
      refine Vj_idiv (q := 206) dX10_weak_205 rfl e4 ?_
      exact Vr_iret rfl rfl dX10_weak_206 (⟨by rw [if_pos h190], h⟩)
    ·
      refine Vj_iload (q := 195) dX10_weak_193 rfl rfl ?_
      refine Vj_iload (q := 197) dX10_weak_195 rfl rfl ?_
      refine Vj_idiv (q := 198) dX10_weak_197 rfl e4 ?_
      refine Vj_goto (q := 206) dX10_weak_198 (by decide) ?_
      exact Vr_iret rfl rfl dX10_weak_206 (⟨by rw [if_neg h190], h⟩)
  | succ j ih =>
    intro s z1 z2 z3 hs
    have hgn := wGo_V hr hb hc (popK s n)
    have hgl := cm_lt hr hgn
    have htl := cm_lt hr hto
    have ih := fun z1 z2 z3 => ih (s + 1) z1 z2 z3 (by omega)
    refine Vj_iload (q := 63) dX10_weak_61 rfl rfl ?_
    refine Vj_iconst (q := 64) (v := 1) dX10_weak_63 rfl (by decide) ?_
    refine Vj_iloadn (q := 65) dX10_weak_64 rfl rfl rfl ?_
    refine Vj_ishl (q := 66) dX10_weak_65 rfl ?_
    rw [i_own7 n hn]
    refine Vj_icmp_ge (q := 69) (tgt := 179) dX10_weak_66 (by decide) rfl (fun hz => absurd hz (nI_ge (by omega) (by omega))) (fun _ => ?_)
    refine Vj_iconst (q := 70) (v := 1) dX10_weak_69 rfl (by decide) ?_
    refine Vs_istore10 (q := 72) dX10_weak_70 rfl (by decide) rfl ?_
    refine Vj_aloadn (q := 73) dX10_weak_72 rfl rfl rfl ?_
    refine Vj_getI (q := 76) flX10_117 rfl rfl dX10_weak_73 rfl ?_
    rw [hNw.1]
    refine Vs_istore11 (q := 78) dX10_weak_76 rfl (by decide) rfl ?_
    refine Vj_iconst (q := 79) (v := 0) dX10_weak_78 rfl (by decide) ?_
    refine Vs_istore12 (q := 81) dX10_weak_79 rfl (by decide) rfl ?_
    refine qX10_weak_k h ⟨hr, hc, hd, hp, hN30, ⟨hal, hav⟩, hsv, hse⟩ hb hn hn1 hx hto ec (s := s) (by omega) ?_ n 0 (by omega)
    refine Vj_iload (q := 150) dX10_weak_148 rfl rfl ?_
    refine Vj_iload (q := 152) dX10_weak_150 rfl rfl ?_
    refine Vj_iadd (q := 153) dX10_weak_152 rfl ?_
    rw [nI_add]
    refine Vs_istore8 (q := 155) dX10_weak_153 rfl (by decide) rfl ?_
    refine Vj_iload (q := 157) dX10_weak_155 rfl rfl ?_
    refine Vj_iload (q := 159) dX10_weak_157 rfl rfl ?_
    refine Vj_iload (q := 161) dX10_weak_159 rfl rfl ?_
    refine Vj_icmp_ne (q := 164) (tgt := 169) dX10_weak_161 (by decide) rfl (fun h161 => ?_) (fun h161 => ?_)
    ·
      refine Vj_iconst (q := 170) (v := 0) dX10_weak_169 rfl (by decide) ?_
      refine Vj_iadd (q := 171) dX10_weak_170 rfl ?_
      rw [Int32.add_zero]
      refine Vs_istore7 (q := 173) dX10_weak_171 rfl (by decide) rfl ?_
      refine Vs_iinc9 (q := 176) (z := none) dX10_weak_173 rfl (by exact iinc_p _) (by decide) rfl ?_
      refine Vj_goto (q := 61) dX10_weak_176 (by decide) ?_
      have e : ¬ (wGo ρ b c (popK s n) == to) = true := fun z => h161 (by rw [beq_iff_eq.mp z])
      rw [nI_1]
      rw [smN, smN, if_neg e, if_pos rfl] at ih
      exact ih _ _ _
    ·
      refine Vj_iload (q := 166) dX10_weak_164 rfl rfl ?_
      refine Vj_goto (q := 170) dX10_weak_166 (by decide) ?_
      refine Vj_iadd (q := 171) dX10_weak_170 rfl ?_
      rw [nI_add]
      refine Vs_istore7 (q := 173) dX10_weak_171 rfl (by decide) rfl ?_
      refine Vs_iinc9 (q := 176) (z := none) dX10_weak_173 rfl (by exact iinc_p _) (by decide) rfl ?_
      refine Vj_goto (q := 61) dX10_weak_176 (by decide) ?_
      have e : (wGo ρ b c (popK s n) == to) = true := beq_iff_eq.mpr ((cm_inj hr hgn hto).mp ((nI_eq (by omega) (by omega)).mp h161))
      rw [nI_1]
      rw [smN, smN, if_pos e, if_pos rfl] at ih
      exact ih _ _ _
set_option maxRecDepth 100000 in
theorem qX10_weak {tx : List Nat} {ρ : Rm} {c d p : Nat} {ac : List (Nat × Nat × Nat)} {sl : Nat → Option (Nat × Nat × Nat)} {se : List (Nat × Nat × Nat)} {sd : Int64} {N : Nat} {σ : Mem} (h : RM tx ρ c d p ac sl se sd σ) (hv : okV N ρ c d p ac sl se) (bb n y x up : Int32) : Ct shM 2 mX10_weak [.ref 0, .int bb, .int n, .int y, .int x, .int up] σ (PM (spWeak ρ c bb n y x up) tx ρ c d p ac sl se sd) := by
  obtain ⟨hr, hc, hd, hp, hN30, ⟨hal, hav⟩, hsv, hse⟩ := hv
  obtain ⟨hTx, hP, hTa, hNw, hAc, hSl, hSe, hSd⟩ := h
  have hM := mN_le hr
  have hcM := cm_lt hr hc
  have hdM := cm_lt hr hd
  have hn5 := hr.1
  have hB7 := hr.2.2.1
  have h : RM tx ρ c d p ac sl se sd σ := ⟨hTx, hP, hTa, hNw, hAc, hSl, hSe, hSd⟩
  refine Ct.of (by decide) (Nat.le_of_ble_eq_true rfl) (l := [some (.ref 0), some (.int bb), some (.int n), some (.int y), some (.int x), some (.int up), none, none, none, none, none, none, none]) rfl ?_
  refine Vj_aloadn (q := 1) dX10_weak_0 rfl rfl rfl ?_
  refine Vj_iloadn (q := 2) dX10_weak_1 rfl rfl rfl ?_
  refine Vj_callVi (q := 5) (qX10_isButton hP _) (by decide) rfl rfl lkX10_147 viX10_isButton okX10_isButton dX10_weak_2 rfl rfl (Nat.le_of_ble_eq_true rfl) ?_
  refine Vj_if_ne (q := 8) (tgt := 10) dX10_weak_5 (by decide) rfl (fun h5 => ?_) (fun h5 => ?_)
  ·
    have h5b := bI_n.mp h5
    obtain ⟨b, hb, rfl, ecl⟩ := hT_x (by omega) h5b
    refine Vj_aloadn (q := 11) dX10_weak_10 rfl rfl rfl ?_
    refine Vj_iloadn (q := 12) dX10_weak_11 rfl rfl rfl ?_
    refine Vj_callVi (q := 15) (qX10_messOf hP y) (by decide) rfl rfl lkX10_169 viX10_messOf okX10_messOf dX10_weak_12 rfl rfl (Nat.le_of_ble_eq_true rfl) ?_
    rcases ec : cOf ρ (rN ρ) y 0 with _ | to
    ·
      refine Vs_istore6 (q := 17) dX10_weak_15 rfl (by decide) rfl ?_
      refine Vj_iloadn (q := 18) dX10_weak_17 rfl rfl rfl ?_
      refine Vj_i2l (q := 19) dX10_weak_18 rfl ?_
      refine Vj_lconst (q := 20) (v := 1) dX10_weak_19 rfl (by decide) ?_
      refine Vj_ldc2 (q := 23) dX10_weak_20 rfl kcX10_221 ?_
      refine Vj_callSi (q := 26) (qX10_in _ _ _) (by decide) lkX10_74 stX10_in okX10_in dX10_weak_23 rfl rfl (Nat.le_of_ble_eq_true rfl) ?_
      rw [in_i (a := ((1 : Nat) : Int)) (b := ((6 : Nat) : Int)) rfl rfl]
      refine Vj_if_eq (q := 29) (tgt := 49) dX10_weak_26 (by decide) rfl (fun h26 => ?_) (fun h26 => ?_)
      ·
        refine Vj_bipush (q := 51) (v := (-2)) dX10_weak_49 rfl (by decide) ?_
        exact Vr_iret rfl rfl dX10_weak_51 (⟨by unfold spWeak; rw [h5b, if_pos rfl, ec], h⟩)
      ·
        refine Vj_iload (q := 31) dX10_weak_29 rfl rfl ?_
        refine Vj_bipush (q := 33) (v := (-9)) dX10_weak_31 rfl (by decide) ?_
        refine Vj_icmp_eq (q := 36) (tgt := 49) dX10_weak_33 (by decide) rfl (fun _ => ?_) (fun hz => absurd rfl hz)
        refine Vj_bipush (q := 51) (v := (-2)) dX10_weak_49 rfl (by decide) ?_
        exact Vr_iret rfl rfl dX10_weak_51 (⟨by unfold spWeak; rw [h5b, if_pos rfl, ec], h⟩)
    ·
      have hto := cOf_V0 hr ec
      rw [oM_s]
      refine Vs_istore6 (q := 17) dX10_weak_15 rfl (by decide) rfl ?_
      refine Vj_iloadn (q := 18) dX10_weak_17 rfl rfl rfl ?_
      refine Vj_i2l (q := 19) dX10_weak_18 rfl ?_
      refine Vj_lconst (q := 20) (v := 1) dX10_weak_19 rfl (by decide) ?_
      refine Vj_ldc2 (q := 23) dX10_weak_20 rfl kcX10_221 ?_
      refine Vj_callSi (q := 26) (qX10_in _ _ _) (by decide) lkX10_74 stX10_in okX10_in dX10_weak_23 rfl rfl (Nat.le_of_ble_eq_true rfl) ?_
      rw [in_i (a := ((1 : Nat) : Int)) (b := ((6 : Nat) : Int)) rfl rfl]
      refine Vj_if_eq (q := 29) (tgt := 49) dX10_weak_26 (by decide) rfl (fun h26 => ?_) (fun h26 => ?_)
      ·
        refine Vj_bipush (q := 51) (v := (-2)) dX10_weak_49 rfl (by decide) ?_
        refine Vr_iret rfl rfl dX10_weak_51 ?_
        have hbad : n < 1 ∨ 6 < n ∨ x < 0 ∨ 10 < x := by
          rcases (iB_f (x := n) (a := 1) (b := 6) (by decide) (by decide)).mp (bI_f0 h26) with z | z
          · exact Or.inl z
          · exact Or.inr (Or.inl z)
        exact ⟨by unfold spWeak; rw [h5b, if_pos rfl, ec]; simp only []; rw [if_pos hbad], h⟩
      ·
        refine Vj_iload (q := 31) dX10_weak_29 rfl rfl ?_
        refine Vj_bipush (q := 33) (v := (-9)) dX10_weak_31 rfl (by decide) ?_
        refine Vj_icmp_eq (q := 36) (tgt := 49) dX10_weak_33 (by decide) rfl (fun hz => absurd hz (oM_ne hr hto)) (fun _ => ?_)
        refine Vj_iload (q := 38) dX10_weak_36 rfl rfl ?_
        refine Vj_i2l (q := 39) dX10_weak_38 rfl ?_
        refine Vj_lconst (q := 40) (v := 0) dX10_weak_39 rfl (by decide) ?_
        refine Vj_ldc2 (q := 43) dX10_weak_40 rfl kcX10_223 ?_
        refine Vj_callSi (q := 46) (qX10_in _ _ _) (by decide) lkX10_74 stX10_in okX10_in dX10_weak_43 rfl rfl (Nat.le_of_ble_eq_true rfl) ?_
        rw [in_i (a := ((0 : Nat) : Int)) (b := ((10 : Nat) : Int)) rfl rfl]
        refine Vj_if_ne (q := 49) (tgt := 52) dX10_weak_46 (by decide) rfl (fun h46 => ?_) (fun h46 => ?_)
        ·
          obtain ⟨k, hk1, hk2, rfl, -⟩ := iB_x (by decide) (bI_n.mp h26)
          obtain ⟨j, hj1, hj2, rfl, -⟩ := iB_x (by decide) (bI_n.mp h46)
          refine Vj_iconst (q := 53) (v := 0) dX10_weak_52 rfl (by decide) ?_
          refine Vs_istore7 (q := 55) dX10_weak_53 rfl (by decide) rfl ?_
          refine Vj_iconst (q := 56) (v := 0) dX10_weak_55 rfl (by decide) ?_
          refine Vs_istore8 (q := 58) dX10_weak_56 rfl (by decide) rfl ?_
          refine Vj_iconst (q := 59) (v := 0) dX10_weak_58 rfl (by decide) ?_
          refine Vs_istore9 (q := 61) dX10_weak_59 rfl (by decide) rfl ?_
          exact qX10_weak_s h ⟨hr, hc, hd, hp, hN30, ⟨hal, hav⟩, hsv, hse⟩ (n := k) (x := j) hb (by omega) hk1 (by omega) hto ec (2 ^ k) 0 none none none (by omega)
        ·
          refine Vj_bipush (q := 51) (v := (-2)) dX10_weak_49 rfl (by decide) ?_
          refine Vr_iret rfl rfl dX10_weak_51 ?_
          have hbad : n < 1 ∨ 6 < n ∨ x < 0 ∨ 10 < x := Or.inr (Or.inr ((iB_f (x := x) (a := 0) (b := 10) (by decide) (by decide)).mp (bI_f0 h46)))
          exact ⟨by unfold spWeak; rw [h5b, if_pos rfl, ec]; simp only []; rw [if_pos hbad], h⟩
  ·
    refine Vj_iconst (q := 9) (v := (-1)) dX10_weak_8 rfl (by decide) ?_
    exact Vr_iret rfl rfl dX10_weak_9 (⟨by unfold spWeak; rw [bI_f0 h5]; rfl, h⟩)
/-! the reference: evenings -/
theorem RM.seed {tx : List Nat} {ρ : Rm} {c d p : Nat} {ac : List (Nat × Nat × Nat)} {sl : Nat → Option (Nat × Nat × Nat)} {se : List (Nat × Nat × Nat)} {sd v : Int64} {σ : Mem} (h : RM tx ρ c d p ac sl se sd σ) : RM tx ρ c d p ac sl se v (uL σ 0 31 v) := by
  obtain ⟨hTx, hP, hTa, hNw, hAc, hSl, hSe, hSd⟩ := h
  exact ⟨hTx.of rfl rfl, hP.of rfl rfl rfl rfl rfl rfl rfl rfl, hTa.of rfl, hNw.of rfl rfl rfl, hAc.of rfl rfl rfl, hSl.of rfl rfl, hSe.of rfl rfl rfl rfl, by simp [uL, vp_updL]⟩

set_option maxRecDepth 100000 in
theorem qX10_evenings_loop {tx : List Nat} {ρ : Rm} {c d p : Nat} {ac : List (Nat × Nat × Nat)} {sl : Nat → Option (Nat × Nat × Nat)} {se : List (Nat × Nat × Nat)} {sd : Int64} {N : Nat} {σ : Mem} (h : RM tx ρ c d p ac sl se sd σ) (hv : okV N ρ c d p ac sl se) {n : Nat} (hn : n < 31) : ∀ (k t : Nat) (σ1 : Mem) (z5 : Option Value), t + k = n → RM tx ρ c d p ac sl se (evK ρ sd c t).1 σ1 → Vj shM 2 mX10_evenings (PM (nI (evK ρ sd c n).2.2) tx ρ c d p ac sl se (evK ρ sd c n).1) 25 [some (.ref 0), some (.int (nI n)), some (.int (nI (cm ρ (evK ρ sd c t).2.1))), some (.int (nI (evK ρ sd c t).2.2)), some (.int (nI t)), z5] [] σ1 := by
  intro k
  have hr := hv.1
  have hc := hv.2.1
  have hM := mN_le hr
  have hB7 := hr.2.2.1
  induction k with
  | zero =>
    intro t σ1 z5 ht h1
    obtain rfl : t = n := by omega
    refine Vj_iload (q := 27) dX10_evenings_25 rfl rfl ?_
    refine Vj_iloadn (q := 28) dX10_evenings_27 rfl rfl rfl ?_
    refine Vj_icmp_ge (q := 31) (tgt := 105) dX10_evenings_28 (by decide) rfl (fun _ => ?_) (fun hz => absurd (nI_le (Nat.le_refl _) (by omega)) hz)
    refine Vj_iloadn (q := 106) dX10_evenings_105 rfl rfl rfl ?_
    exact Vr_iret rfl rfl dX10_evenings_106 (⟨rfl, h1⟩)
  | succ k ih =>
    intro t σ1 z5 ht h1
    have hcv := evK_V hr (sd := sd) hc t
    have hcl := cm_lt hr hcv
    have hsd := h1.2.2.2.2.2.2.2
    have h2 := h1.seed (v := evS (evK ρ sd c t).1)
    have hP2 := h2.2.1
    have hT2 := h2.2.2.1
    refine Vj_iload (q := 27) dX10_evenings_25 rfl rfl ?_
    refine Vj_iloadn (q := 28) dX10_evenings_27 rfl rfl rfl ?_
    refine Vj_icmp_ge (q := 31) (tgt := 105) dX10_evenings_28 (by decide) rfl (fun hz => absurd hz (nI_ge (by omega) (by omega))) (fun _ => ?_)
    refine Vj_aloadn (q := 32) dX10_evenings_31 rfl rfl rfl ?_
    refine Vj_aloadn (q := 33) dX10_evenings_32 rfl rfl rfl ?_
    refine Vj_getL (q := 36) flX10_225 rfl rfl dX10_evenings_33 rfl ?_
    rw [hsd]
    refine Vj_ldc2 (q := 39) dX10_evenings_36 rfl kcX10_231 ?_
    refine Vj_lmul (q := 40) dX10_evenings_39 rfl ?_
    refine Vj_ldc2 (q := 43) dX10_evenings_40 rfl kcX10_233 ?_
    refine Vj_ladd (q := 44) dX10_evenings_43 rfl ?_
    rw [show (evK ρ sd c t).1 * 6364136223846793005 + 1442695040888963407 = evS (evK ρ sd c t).1 from rfl]
    refine Vj_putL (q := 47) flX10_225 rfl rfl dX10_evenings_44 rfl ?_
    refine Vj_aloadn (q := 48) dX10_evenings_47 rfl rfl rfl ?_
    refine Vj_getL (q := 51) flX10_225 rfl rfl dX10_evenings_48 rfl ?_
    rw [show (uL σ1 0 31 (evS (evK ρ sd c t).1)).2 0 31 = evS (evK ρ sd c t).1 by simp [uL, vp_updL]]
    refine Vj_bipush (q := 53) (v := 33) dX10_evenings_51 rfl (by decide) ?_
    refine Vj_lushr (q := 54) dX10_evenings_53 rfl ?_
    refine Vj_ldc2 (q := 57) dX10_evenings_54 rfl kcX10_235 ?_
    refine Vj_lrem (q := 58) dX10_evenings_57 rfl (by decide) ?_
    refine Vj_l2i (q := 59) dX10_evenings_58 rfl ?_
    refine Vj_top (y := evI (evS (evK ρ sd c t).1)) rfl ?_
    refine Vs_istore5 (q := 61) dX10_evenings_59 rfl (by decide) rfl ?_
    refine Vj_aloadn (q := 62) dX10_evenings_61 rfl rfl rfl ?_
    refine Vj_iload (q := 64) dX10_evenings_62 rfl rfl ?_
    refine Vj_callVi (q := 67) (qX10_isButton hP2 _) (by decide) rfl rfl lkX10_147 viX10_isButton okX10_isButton dX10_evenings_64 rfl rfl (Nat.le_of_ble_eq_true rfl) ?_
    refine Vj_if_eq (q := 70) (tgt := 86) dX10_evenings_67 (by decide) rfl (fun h67 => ?_) (fun h67 => ?_)
    ·
      refine Vj_iloadn (q := 87) dX10_evenings_86 rfl rfl rfl ?_
      have hbt := bI_z.mp h67
      have ec1 : (evK ρ sd c (t + 1)).2.1 = (evK ρ sd c t).2.1 := by rw [evK]; simp only; rw [hbt]; rfl
      have ec2 : (evK ρ sd c (t + 1)).2.2 = (evK ρ sd c t).2.2 + pop6 (cLi (rN ρ) (evK ρ sd c t).2.1 (rN ρ)) := by rw [evK]; simp only; rw [hbt]; rfl
      refine Vs_istore2 (q := 88) dX10_evenings_87 rfl (by decide) rfl ?_
      refine Vj_iloadn (q := 89) dX10_evenings_88 rfl rfl rfl ?_
      refine Vj_aloadn (q := 90) dX10_evenings_89 rfl rfl rfl ?_
      refine Vj_iloadn (q := 91) dX10_evenings_90 rfl rfl rfl ?_
      refine Vj_callVi (q := 94) (qX10_lightsOf hP2 hcv) (by decide) rfl rfl lkX10_193 viX10_lightsOf okX10_lightsOf dX10_evenings_91 rfl rfl (Nat.le_of_ble_eq_true rfl) ?_
      refine Vj_callSi (q := 97) (qX10_ones (Nat.lt_of_lt_of_le (li16 hr _) (by decide))) (by decide) lkX10_185 stX10_ones okX10_ones dX10_evenings_94 rfl rfl (Nat.le_of_ble_eq_true rfl) ?_
      refine Vj_iadd (q := 98) dX10_evenings_97 rfl ?_
      rw [nI_add, ← ec2]
      refine Vs_istore3 (q := 99) dX10_evenings_98 rfl (by decide) rfl ?_
      refine Vs_iinc4 (q := 102) (z := none) dX10_evenings_99 rfl (by exact iinc_p _) (by decide) rfl ?_
      refine Vj_goto (q := 25) dX10_evenings_102 (by decide) ?_
      rw [nI_1]
      have hi := ih (t + 1) _ (some (.int (evI (evS (evK ρ sd c t).1)))) (by omega) (show RM tx ρ c d p ac sl se (evK ρ sd c (t + 1)).1 _ from h2)
      rw [ec1] at hi
      exact hi
    ·
      have hbt := bI_n.mp h67
      obtain ⟨jb, hjb, ejb, eclb⟩ := hT_x (by omega) hbt
      rw [ejb]
      have ec1 : (evK ρ sd c (t + 1)).2.1 = cNx ρ (evK ρ sd c t).2.1 jb := by rw [evK]; simp only; rw [if_pos hbt, eclb]
      have ec2 : (evK ρ sd c (t + 1)).2.2 = (evK ρ sd c t).2.2 + pop6 (cLi (rN ρ) (cNx ρ (evK ρ sd c t).2.1 jb) (rN ρ)) := by rw [evK]; simp only; rw [if_pos hbt, eclb]
      have hx := cV_nx hr hcv hjb
      refine Vj_aloadn (q := 71) dX10_evenings_70 rfl rfl rfl ?_
      refine Vj_getR (q := 74) flX10_25 rfl rfl dX10_evenings_71 rfl ?_
      refine Vj_sipush (q := 77) (v := 256) dX10_evenings_74 rfl (by decide) ?_
      refine Vj_iload (q := 79) dX10_evenings_77 rfl rfl ?_
      refine Vj_imul (q := 80) dX10_evenings_79 rfl ?_
      refine Vj_iloadn (q := 81) dX10_evenings_80 rfl rfl rfl ?_
      refine Vj_iadd (q := 82) dX10_evenings_81 rfl ?_
      rw [i_256]
      refine Vj_iald (q := 83) rfl (vp_in_nI (by omega) (by decide)) dX10_evenings_82 rfl ?_
      rw [nI_clamp (by omega), hT2 jb hjb _ hcv]
      refine Vj_goto (q := 87) dX10_evenings_83 (by decide) ?_
      refine Vs_istore2 (q := 88) dX10_evenings_87 rfl (by decide) rfl ?_
      refine Vj_iloadn (q := 89) dX10_evenings_88 rfl rfl rfl ?_
      refine Vj_aloadn (q := 90) dX10_evenings_89 rfl rfl rfl ?_
      refine Vj_iloadn (q := 91) dX10_evenings_90 rfl rfl rfl ?_
      refine Vj_callVi (q := 94) (qX10_lightsOf hP2 hx) (by decide) rfl rfl lkX10_193 viX10_lightsOf okX10_lightsOf dX10_evenings_91 rfl rfl (Nat.le_of_ble_eq_true rfl) ?_
      refine Vj_callSi (q := 97) (qX10_ones (Nat.lt_of_lt_of_le (li16 hr _) (by decide))) (by decide) lkX10_185 stX10_ones okX10_ones dX10_evenings_94 rfl rfl (Nat.le_of_ble_eq_true rfl) ?_
      refine Vj_iadd (q := 98) dX10_evenings_97 rfl ?_
      rw [nI_add, ← ec2]
      refine Vs_istore3 (q := 99) dX10_evenings_98 rfl (by decide) rfl ?_
      refine Vs_iinc4 (q := 102) (z := none) dX10_evenings_99 rfl (by exact iinc_p _) (by decide) rfl ?_
      refine Vj_goto (q := 25) dX10_evenings_102 (by decide) ?_
      rw [nI_1]
      have hi := ih (t + 1) _ (some (.int (nI jb))) (by omega) (show RM tx ρ c d p ac sl se (evK ρ sd c (t + 1)).1 _ from h2)
      rw [ec1] at hi
      exact hi
set_option maxRecDepth 100000 in
theorem qX10_evenings {tx : List Nat} {ρ : Rm} {c d p : Nat} {ac : List (Nat × Nat × Nat)} {sl : Nat → Option (Nat × Nat × Nat)} {se : List (Nat × Nat × Nat)} {sd : Int64} {N : Nat} {σ : Mem} (h : RM tx ρ c d p ac sl se sd σ) (hv : okV N ρ c d p ac sl se) (k : Int32) : Ct shM 2 mX10_evenings [.ref 0, .int k] σ (PM ((spEven ρ sd c k).1) tx ρ c d p ac sl se (spEven ρ sd c k).2) := by
  obtain ⟨hr, hc, hd, hp, hN30, ⟨hal, hav⟩, hsv, hse⟩ := hv
  obtain ⟨hTx, hP, hTa, hNw, hAc, hSl, hSe, hSd⟩ := h
  have hM := mN_le hr
  have hcM := cm_lt hr hc
  have hdM := cm_lt hr hd
  have hn5 := hr.1
  have hB7 := hr.2.2.1
  have h : RM tx ρ c d p ac sl se sd σ := ⟨hTx, hP, hTa, hNw, hAc, hSl, hSe, hSd⟩
  refine Ct.of (by decide) (Nat.le_of_ble_eq_true rfl) (l := [some (.ref 0), some (.int k), none, none, none, none]) rfl ?_
  refine Vj_iloadn (q := 1) dX10_evenings_0 rfl rfl rfl ?_
  refine Vj_i2l (q := 2) dX10_evenings_1 rfl ?_
  refine Vj_lconst (q := 3) (v := 1) dX10_evenings_2 rfl (by decide) ?_
  refine Vj_ldc2 (q := 6) dX10_evenings_3 rfl kcX10_229 ?_
  refine Vj_callSi (q := 9) (qX10_in _ _ _) (by decide) lkX10_74 stX10_in okX10_in dX10_evenings_6 rfl rfl (Nat.le_of_ble_eq_true rfl) ?_
  rw [in_i (a := ((1 : Nat) : Int)) (b := ((30 : Nat) : Int)) rfl rfl]
  refine Vj_if_ne (q := 12) (tgt := 15) dX10_evenings_9 (by decide) rfl (fun h9 => ?_) (fun h9 => ?_)
  ·
    have h9b := bI_n.mp h9
    obtain ⟨n, hn1, hn2, rfl, enc⟩ := iB_x (by decide) h9b
    have hno : ¬ (nI n < 1 ∨ 30 < nI n) := (iB_t (x := nI n) (a := 1) (b := 30) (by decide) (by decide)).mp h9b
    have e : spEven ρ sd c (nI n) = (nI (evK ρ sd c n).2.2, (evK ρ sd c n).1) := by rw [spEven, if_neg hno, enc]
    rw [e]
    refine Vj_aloadn (q := 16) dX10_evenings_15 rfl rfl rfl ?_
    refine Vj_getI (q := 19) flX10_117 rfl rfl dX10_evenings_16 rfl ?_
    rw [hNw.1]
    refine Vs_istore2 (q := 20) dX10_evenings_19 rfl (by decide) rfl ?_
    refine Vj_iconst (q := 21) (v := 0) dX10_evenings_20 rfl (by decide) ?_
    refine Vs_istore3 (q := 22) dX10_evenings_21 rfl (by decide) rfl ?_
    refine Vj_iconst (q := 23) (v := 0) dX10_evenings_22 rfl (by decide) ?_
    refine Vs_istore4 (q := 25) dX10_evenings_23 rfl (by decide) rfl ?_
    exact qX10_evenings_loop h ⟨hr, hc, hd, hp, hN30, ⟨hal, hav⟩, hsv, hse⟩ (n := n) (by omega) n 0 σ none (by omega) h
  ·
    refine Vj_bipush (q := 14) (v := (-2)) dX10_evenings_12 rfl (by decide) ?_
    refine Vr_iret rfl rfl dX10_evenings_14 ?_
    have hbad : k < 1 ∨ 30 < k := (iB_f (x := k) (a := 1) (b := 30) (by decide) (by decide)).mp (bI_f0 h9)
    have e : spEven ρ sd c k = (-2, sd) := by rw [spEven, if_pos hbad]
    rw [e]
    exact ⟨rfl, h⟩
