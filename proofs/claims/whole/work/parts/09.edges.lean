/-! edges into a code: how many, and where they stand -/
def sumN (f : Nat → Nat) : Nat → Nat
  | 0 => 0
  | m + 1 => sumN f m + f m
theorem sumN_add (f g : Nat → Nat) : ∀ m, sumN (fun y => f y + g y) m = sumN f m + sumN g m
  | 0 => rfl
  | m + 1 => by simp only [sumN, sumN_add f g m]; omega
theorem sumN_mono {f : Nat → Nat} {a b : Nat} (h : a ≤ b) : sumN f a ≤ sumN f b := by
  induction b with
  | zero => rw [Nat.le_zero.mp h]; exact Nat.le_refl _
  | succ b ih =>
    by_cases e : a = b + 1
    · rw [e]; exact Nat.le_refl _
    · have := ih (by omega); rw [sumN]; omega
theorem sumN_one (v : Nat) (p : Nat → Prop) [DecidablePred p] : ∀ m, sumN (fun y => if v = y ∧ p y then 1 else 0) m ≤ (if v < m then 1 else 0)
  | 0 => by simp [sumN]
  | m + 1 => by
    have h := sumN_one v p m
    rw [sumN]
    by_cases e : v = m
    · subst e
      rw [if_neg (Nat.lt_irrefl v)] at h
      have e3 : (if v < v + 1 then 1 else 0) = 1 := if_pos (Nat.lt_succ_self v)
      rw [e3]
      split <;> omega
    · rw [if_neg (fun z => e z.1)]
      by_cases e2 : v < m
      · rw [if_pos e2] at h; rw [if_pos (by omega)]; omega
      · rw [if_neg e2] at h; omega
theorem sumN_zero : ∀ m, sumN (fun _ => 0) m = 0
  | 0 => rfl
  | m + 1 => by rw [sumN, sumN_zero m]
def eIn (ρ : Rm) (c x : Nat) : Nat → Nat
  | 0 => 0
  | k + 1 => eIn ρ c x k + (if cNx ρ c k = x ∧ x ≠ c then 1 else 0)
def eAll (ρ : Rm) (x : Nat) : Nat → Nat
  | 0 => 0
  | K + 1 => eAll ρ x K + eIn ρ K x (rB ρ)
def eP (ρ : Rm) (c b x : Nat) : Nat := eAll ρ x c + eIn ρ c x b
def eS (ρ : Rm) (x : Nat) : Nat := sumN (fun y => eAll ρ y (4 ^ rN ρ)) x
theorem eIn_mono {ρ : Rm} {c x a b : Nat} (h : a ≤ b) : eIn ρ c x a ≤ eIn ρ c x b := by
  induction b with
  | zero => rw [Nat.le_zero.mp h]; exact Nat.le_refl _
  | succ b ih =>
    by_cases e : a = b + 1
    · rw [e]; exact Nat.le_refl _
    · have := ih (by omega); rw [eIn]; omega
theorem eAll_mono {ρ : Rm} {x a b : Nat} (h : a ≤ b) : eAll ρ x a ≤ eAll ρ x b := by
  induction b with
  | zero => rw [Nat.le_zero.mp h]; exact Nat.le_refl _
  | succ b ih =>
    by_cases e : a = b + 1
    · rw [e]; exact Nat.le_refl _
    · have := ih (by omega); rw [eAll]; omega
theorem eP_le {ρ : Rm} {c b x : Nat} (hc : c < 4 ^ rN ρ) (hb : b ≤ rB ρ) : eP ρ c b x ≤ eAll ρ x (4 ^ rN ρ) := by
  have h1 := eIn_mono (ρ := ρ) (c := c) (x := x) hb
  have h2 := eAll_mono (ρ := ρ) (x := x) (show c + 1 ≤ 4 ^ rN ρ from hc)
  rw [eAll] at h2
  unfold eP
  omega
theorem eP_s {ρ : Rm} {c b x : Nat} : eP ρ c (b + 1) x = eP ρ c b x + (if cNx ρ c b = x ∧ x ≠ c then 1 else 0) := by
  unfold eP; rw [eIn]; omega
theorem eP_c {ρ : Rm} {c x : Nat} : eP ρ (c + 1) 0 x = eP ρ c (rB ρ) x := by
  unfold eP; rw [eAll, eIn]; omega
theorem eP_0 {ρ : Rm} {x : Nat} : eP ρ 0 0 x = 0 := rfl
theorem eP_N {ρ : Rm} {x : Nat} : eP ρ (4 ^ rN ρ) 0 x = eAll ρ x (4 ^ rN ρ) := rfl
theorem eIn_sum {ρ : Rm} {c : Nat} (m : Nat) : ∀ k, sumN (fun y => eIn ρ c y k) m ≤ k
  | 0 => by simp only [eIn, sumN_zero]; exact Nat.le_refl _
  | k + 1 => by
    have h := eIn_sum (ρ := ρ) (c := c) m k
    have h1 := sumN_one (cNx ρ c k) (fun y => y ≠ c) m
    simp only [eIn, sumN_add]
    split at h1 <;> omega
theorem eAll_sum {ρ : Rm} (m : Nat) : ∀ K, sumN (fun y => eAll ρ y K) m ≤ K * rB ρ
  | 0 => by simp only [eAll, sumN_zero]; omega
  | K + 1 => by
    have h := eAll_sum (ρ := ρ) m K
    have h1 := eIn_sum (ρ := ρ) (c := K) m (rB ρ)
    simp only [eAll, sumN_add]
    rw [Nat.succ_mul]
    omega
theorem eS_le {ρ : Rm} (h : okR ρ) (x : Nat) : eS ρ x ≤ 1536 := by
  have h1 := eAll_sum (ρ := ρ) x (4 ^ rN ρ)
  have h2 := p4_le h.1
  have h3 := h.2.2.1
  have h4 : 4 ^ rN ρ * rB ρ ≤ 256 * 6 := Nat.mul_le_mul h2 (by omega)
  unfold eS
  omega
theorem eS_s {ρ : Rm} {x : Nat} : eS ρ (x + 1) = eS ρ x + eAll ρ x (4 ^ rN ρ) := rfl
theorem eS_mono {ρ : Rm} {a b : Nat} (h : a ≤ b) : eS ρ a ≤ eS ρ b := sumN_mono h
/-- while the edges are filled in from the ends -/
def FI (ρ : Rm) (c b : Nat) (σ : Mem) : Prop :=
  (∀ x, x < 257 → σ.1 21 x = nI (eS ρ (x + 1) - eP ρ c b x)) ∧
  (∀ x, x < 257 → ∀ i, eS ρ (x + 1) - eP ρ c b x ≤ i → i < eS ρ (x + 1) → ∃ c' b', c' < 4 ^ rN ρ ∧ b' < rB ρ ∧ cNx ρ c' b' = x ∧ x ≠ c' ∧ σ.1 22 i = nI (c' * 6 + b')) ∧
  ∀ c' b', c' < 4 ^ rN ρ → b' < rB ρ → (c' < c ∨ (c' = c ∧ b' < b)) → cNx ρ c' b' ≠ c' → ∃ i, eS ρ (cNx ρ c' b' + 1) - eP ρ c b (cNx ρ c' b') ≤ i ∧ i < eS ρ (cNx ρ c' b' + 1) ∧ σ.1 22 i = nI (c' * 6 + b')
theorem FI.skip {ρ : Rm} {c b : Nat} {σ : Mem} (h : FI ρ c b σ) (he : cNx ρ c b = c) : FI ρ c (b + 1) σ := by
  have e : ∀ x, eP ρ c (b + 1) x = eP ρ c b x := fun x => by
    rw [eP_s, if_neg (by rintro ⟨h1, h2⟩; exact h2 (h1.symm.trans he))]; rfl
  refine ⟨fun x hx => by rw [e]; exact h.1 x hx, fun x hx i => by rw [e]; exact h.2.1 x hx i, fun c' b' hc hb hp hn => ?_⟩
  rw [e]
  refine h.2.2 c' b' hc hb ?_ hn
  rcases hp with hp | ⟨rfl, hp⟩
  · exact Or.inl hp
  · by_cases z : b' = b
    · subst z; exact absurd he hn
    · exact Or.inr ⟨rfl, by omega⟩
theorem FI.turn {ρ : Rm} {c : Nat} {σ : Mem} (h : FI ρ c (rB ρ) σ) : FI ρ (c + 1) 0 σ := by
  refine ⟨fun x hx => by rw [eP_c]; exact h.1 x hx, fun x hx i => by rw [eP_c]; exact h.2.1 x hx i, fun c' b' hc hb hp hn => ?_⟩
  rw [eP_c]
  exact h.2.2 c' b' hc hb (by omega) hn
theorem FI.put {ρ : Rm} (hr : okR ρ) {c b y P : Nat} {σ : Mem} (hc : c < 4 ^ rN ρ) (hb : b < rB ρ) (h : FI ρ c b σ) (hy : cNx ρ c b = y) (hn : y ≠ c) (hP : P = eS ρ (y + 1) - eP ρ c b y - 1) :
    FI ρ c (b + 1) (uI (uI σ 21 y (nI P)) 22 P (nI (c * 6 + b))) ∧ eP ρ c b y + 1 ≤ eS ρ (y + 1) ∧ P < 1536 := by
  have hle := eP_le (x := y) hc (show b + 1 ≤ rB ρ from hb)
  rw [eP_s, if_pos ⟨hy, hn⟩] at hle
  have hS := eS_s (ρ := ρ) (x := y)
  have hL := eS_le hr (y + 1)
  have ey : eP ρ c (b + 1) y = eP ρ c b y + 1 := by rw [eP_s, if_pos ⟨hy, hn⟩]
  have ex : ∀ x, x ≠ y → eP ρ c (b + 1) x = eP ρ c b x := fun x hx => by
    rw [eP_s, if_neg (by rintro ⟨h1, h2⟩; exact hx (h1.symm.trans hy))]; rfl
  have hd : ∀ x i, x ≠ y → eS ρ (x + 1) - eP ρ c b x ≤ i → i < eS ρ (x + 1) → i ≠ P := by
    intro x i hx h1 h2 e
    have hx1 := eP_le (x := x) hc (show b ≤ rB ρ by omega)
    have hx2 := eS_s (ρ := ρ) (x := x)
    rcases Nat.lt_or_gt_of_ne hx with z | z
    · have := eS_mono (ρ := ρ) (show x + 1 ≤ y from z)
      omega
    · have := eS_mono (ρ := ρ) (show y + 1 ≤ x from z)
      omega
  have e1 : (uI (uI σ 21 y (nI P)) 22 P (nI (c * 6 + b))).1 21 = upd (σ.1 21) y (nI P) := by rw [uI_ne (by decide), uI_eq]
  have e2 : (uI (uI σ 21 y (nI P)) 22 P (nI (c * 6 + b))).1 22 = upd (σ.1 22) P (nI (c * 6 + b)) := by rw [uI_eq, uI_ne (by decide)]
  refine ⟨⟨fun x hx => ?_, fun x hx i h1 h2 => ?_, fun c' b' hc' hb' hp hn' => ?_⟩, by omega, by omega⟩
  · rw [e1, upd]
    by_cases e : x = y
    · subst e
      rw [if_pos rfl, ey, hP, Nat.sub_sub]
    · rw [if_neg e, ex x e]
      exact h.1 x hx
  · rw [e2, upd]
    by_cases e : x = y
    · subst e
      rw [ey] at h1
      by_cases ei : i = P
      · exact ⟨c, b, hc, hb, hy, hn, by rw [if_pos ei]⟩
      · rw [if_neg ei]
        exact h.2.1 x hx i (by omega) h2
    · rw [ex x e] at h1
      rw [if_neg (hd x i e h1 h2)]
      exact h.2.1 x hx i h1 h2
  · rw [e2]
    by_cases en : c' = c ∧ b' = b
    · obtain ⟨rfl, rfl⟩ := en
      rw [hy, ey]
      exact ⟨P, by omega, by omega, by rw [upd, if_pos rfl]⟩
    · obtain ⟨i, h1, h2, h3⟩ := h.2.2 c' b' hc' hb' (by omega) hn'
      by_cases e : cNx ρ c' b' = y
      · rw [e] at h1 h2
        rw [e, ey]
        exact ⟨i, by omega, h2, by rw [upd, if_neg (by omega)]; exact h3⟩
      · rw [ex _ e]
        exact ⟨i, h1, h2, by rw [upd, if_neg (hd _ i e h1 h2)]; exact h3⟩
/-- what Paths tells -/
def RE (ρ : Rm) (σ : Mem) : Prop := ∀ x, x < 4 ^ rN ρ → σ.1 21 x = nI (eS ρ x) ∧ σ.1 21 (x + 1) = nI (eS ρ (x + 1)) ∧
  (∀ i, eS ρ x ≤ i → i < eS ρ (x + 1) → ∃ c' b', c' < 4 ^ rN ρ ∧ b' < rB ρ ∧ cNx ρ c' b' = x ∧ x ≠ c' ∧ σ.1 22 i = nI (c' * 6 + b')) ∧
  ∀ c' b', c' < 4 ^ rN ρ → b' < rB ρ → cNx ρ c' b' = x → x ≠ c' → ∃ i, eS ρ x ≤ i ∧ i < eS ρ (x + 1) ∧ σ.1 22 i = nI (c' * 6 + b')
theorem RE.of {ρ : Rm} {σ σ' : Mem} (h : RE ρ σ) (h1 : σ'.1 21 = σ.1 21) (h2 : σ'.1 22 = σ.1 22) : RE ρ σ' := by
  intro x hx
  rw [h1, h2]
  exact h x hx
theorem FI.done {ρ : Rm} (hr : okR ρ) {σ : Mem} (h : FI ρ (4 ^ rN ρ) 0 σ) : RE ρ σ := by
  have hp4 := p4_le hr.1
  have key : ∀ x, eS ρ (x + 1) - eP ρ (4 ^ rN ρ) 0 x = eS ρ x := fun x => by rw [eP_N, eS_s]; omega
  intro x hx
  refine ⟨by rw [h.1 x (by omega), key], ?_, fun i h1 h2 => h.2.1 x (by omega) i (by rw [key]; exact h1) h2, fun c' b' hc hb he hn => ?_⟩
  · rw [h.1 (x + 1) (by omega), key]
  · obtain ⟨i, h1, h2, h3⟩ := h.2.2 c' b' hc hb (Or.inl hc) (by rw [he]; exact hn)
    rw [he] at h1 h2
    rw [key] at h1
    exact ⟨i, h1, h2, h3⟩
theorem RT.uI {ρ : Rm} {q j : Nat} {x : Int32} {σ : Mem} (h : RT ρ σ) (hq : (q == 10 || q == 17 || q == 18 || q == 19) = false) : RT ρ (uI σ q j x) := by
  simp only [Bool.or_eq_false_iff, beq_eq_false_iff_ne] at hq
  exact h.of (uI_ne (by omega)) (uI_ne (by omega)) (uI_ne (by omega)) (uI_ne (by omega))
theorem RP.fill {ρ : Rm} {q n : Nat} {x : Int32} {σ : Mem} (h : RP ρ σ) (hq : (q == 11 || q == 12 || q == 14 || q == 15 || q == 16) = false) : RP ρ (fillM σ q n x) := by
  simp only [Bool.or_eq_false_iff, beq_eq_false_iff_ne] at hq
  exact h.of (fillM_ne (by omega)) (fillM_ne (by omega)) (fillM_ne (by omega)) (fillM_ne (by omega)) (fillM_ne (by omega))
theorem RT.fill {ρ : Rm} {q n : Nat} {x : Int32} {σ : Mem} (h : RT ρ σ) (hq : (q == 10 || q == 17 || q == 18 || q == 19) = false) : RT ρ (fillM σ q n x) := by
  simp only [Bool.or_eq_false_iff, beq_eq_false_iff_ne] at hq
  exact h.of (fillM_ne (by omega)) (fillM_ne (by omega)) (fillM_ne (by omega)) (fillM_ne (by omega))
theorem nI_ne_of {a b : Nat} (ha : a < 2 ^ 31) (hb : b < 2 ^ 31) (h : ¬ nI a = nI b) : a ≠ b := fun e => h ((nI_eq ha hb).mpr e)
/-- behind Paths.make -/
def PmP (ρ : Rm) (σ0 : Mem) : Option Value → Mem → Prop := fun r σ' => r = none ∧ RE ρ σ' ∧ Eqo [21, 22] σ0 σ'

set_option maxRecDepth 100000 in
theorem qX1_fillFromTheEnds_l2 {ρ : Rm} {σ0 : Mem} {c : Nat} (hc : c < 4 ^ rN ρ) {Post : Option Value → Mem → Prop} (kk : ∀ (σ : Mem) (z3 z4 z5 : Option Value), RP ρ σ → RT ρ σ → FI ρ c (rB ρ) σ → Eqo [21, 22] σ0 σ → Vj shX 2 mX1_fillFromTheEnds Post 79 [some (.ref 20), some (.ref 10), some (.int (nI c)), z3, z4, z5] [] σ) :
    ∀ (k b : Nat) (σ : Mem) (z4 z5 : Option Value), b + k = rB ρ → RP ρ σ → RT ρ σ → FI ρ c b σ → Eqo [21, 22] σ0 σ → Vj shX 2 mX1_fillFromTheEnds Post 12 [some (.ref 20), some (.ref 10), some (.int (nI c)), some (.int (nI b)), z4, z5] [] σ := by
  intro k
  induction k with
  | zero =>
    intro b σ z4 z5 hb h hT hF hE
    have hB := h.1.2.2.1
    obtain rfl : b = rB ρ := by omega
    refine Vj_iloadn (q := 13) dX1_fillFromTheEnds_12 rfl rfl rfl ?_
    refine Vj_aloadn (q := 14) dX1_fillFromTheEnds_13 rfl rfl rfl ?_
    refine Vj_callVi (q := 17) (qX2_buttons h) (by decide) rfl rfl lkX1_36 viX2_buttons okX2_buttons dX1_fillFromTheEnds_14 rfl rfl (Nat.le_of_ble_eq_true rfl) ?_
    refine Vj_icmp_ge (q := 20) (tgt := 79) dX1_fillFromTheEnds_17 (by decide) rfl (fun _ => ?_) (fun hz => absurd (nI_le (Nat.le_refl _) (by omega)) hz)
    exact kk σ _ _ _ h hT hF hE
  | succ k ih =>
    intro b σ z4 z5 hb h hT hF hE
    have hB := h.1.2.2.1
    have hp4 := p4_le h.1.1
    have hx := cNx_lt h.1 hc (show b < rB ρ by omega)
    refine Vj_iloadn (q := 13) dX1_fillFromTheEnds_12 rfl rfl rfl ?_
    refine Vj_aloadn (q := 14) dX1_fillFromTheEnds_13 rfl rfl rfl ?_
    refine Vj_callVi (q := 17) (qX2_buttons h) (by decide) rfl rfl lkX1_36 viX2_buttons okX2_buttons dX1_fillFromTheEnds_14 rfl rfl (Nat.le_of_ble_eq_true rfl) ?_
    refine Vj_icmp_ge (q := 20) (tgt := 79) dX1_fillFromTheEnds_17 (by decide) rfl (fun hz => absurd hz (nI_ge (by omega) (by omega))) (fun _ => ?_)
    refine Vj_aloadn (q := 21) dX1_fillFromTheEnds_20 rfl rfl rfl ?_
    refine Vj_iloadn (q := 22) dX1_fillFromTheEnds_21 rfl rfl rfl ?_
    refine Vj_iloadn (q := 23) dX1_fillFromTheEnds_22 rfl rfl rfl ?_
    refine Vj_callVi (q := 26) (qX2_behind (c := c) (b := b) (by omega) (by omega)) (by decide) rfl rfl lkX1_40 viX2_behind okX2_behind dX1_fillFromTheEnds_23 rfl rfl (Nat.le_of_ble_eq_true rfl) ?_
    rw [(hT.2 c hc).2.2 b (by omega)]
    refine Vs_istore4 (q := 28) dX1_fillFromTheEnds_26 rfl (by decide) rfl ?_
    refine Vj_iload (q := 30) dX1_fillFromTheEnds_28 rfl rfl ?_
    refine Vj_iloadn (q := 31) dX1_fillFromTheEnds_30 rfl rfl rfl ?_
    refine Vj_icmp_eq (q := 34) (tgt := 73) dX1_fillFromTheEnds_31 (by decide) rfl (fun h31 => ?_) (fun h31 => ?_)
    ·
      refine Vs_iinc3 (q := 76) (z := none) dX1_fillFromTheEnds_73 rfl (by exact iinc_p _) (by decide) rfl ?_
      refine Vj_goto (q := 12) dX1_fillFromTheEnds_76 (by decide) ?_
      rw [nI_1]
      exact ih (b + 1) σ _ _ (by omega) h hT (hF.skip ((nI_eq (by omega) (by omega)).mp h31)) hE
    ·
      refine Vj_aloadn (q := 35) dX1_fillFromTheEnds_34 rfl rfl rfl ?_
      refine Vj_getR (q := 38) flX1_9 rfl rfl dX1_fillFromTheEnds_35 rfl ?_
      refine Vj_iload (q := 40) dX1_fillFromTheEnds_38 rfl rfl ?_
      refine Vj_callSi (q := 43) (qX9_atn rfl (by decide) (j := cNx ρ c b) (by omega)) (by decide) lkX1_44 stX9_at okX9_at dX1_fillFromTheEnds_40 rfl rfl (Nat.le_of_ble_eq_true rfl) ?_
      have hne := nI_ne_of (by omega) (by omega) h31
      obtain ⟨g1, g2, g3⟩ := FI.put h.1 hc (show b < rB ρ by omega) hF rfl hne rfl
      have hL := eS_le h.1 (cNx ρ c b + 1)
      rw [hF.1 _ (by omega)]
      refine Vj_iconst (q := 44) (v := 1) dX1_fillFromTheEnds_43 rfl (by decide) ?_
      refine Vj_isub (q := 45) dX1_fillFromTheEnds_44 rfl ?_
      rw [show (1 : Int32) = nI 1 from rfl, pk_sub (show 1 ≤ eS ρ (cNx ρ c b + 1) - eP ρ c b (cNx ρ c b) by omega)]
      refine Vs_istore5 (q := 47) dX1_fillFromTheEnds_45 rfl (by decide) rfl ?_
      refine Vj_aloadn (q := 48) dX1_fillFromTheEnds_47 rfl rfl rfl ?_
      refine Vj_getR (q := 51) flX1_9 rfl rfl dX1_fillFromTheEnds_48 rfl ?_
      refine Vj_iload (q := 53) dX1_fillFromTheEnds_51 rfl rfl ?_
      refine Vj_iload (q := 55) dX1_fillFromTheEnds_53 rfl rfl ?_
      refine Vj_callSv (q := 58) (qX9_putn rfl (by decide) (j := cNx ρ c b) (by omega) _) (by decide) lkX1_48 stX9_put okX9_put dX1_fillFromTheEnds_55 rfl rfl (Nat.le_of_ble_eq_true rfl) ?_
      refine Vj_aloadn (q := 59) dX1_fillFromTheEnds_58 rfl rfl rfl ?_
      refine Vj_getR (q := 62) flX1_15 rfl rfl dX1_fillFromTheEnds_59 rfl ?_
      refine Vj_iload (q := 64) dX1_fillFromTheEnds_62 rfl rfl ?_
      refine Vj_iloadn (q := 65) dX1_fillFromTheEnds_64 rfl rfl rfl ?_
      refine Vj_bipush (q := 67) (v := 6) dX1_fillFromTheEnds_65 rfl (by decide) ?_
      refine Vj_imul (q := 68) dX1_fillFromTheEnds_67 rfl ?_
      refine Vj_iloadn (q := 69) dX1_fillFromTheEnds_68 rfl rfl rfl ?_
      refine Vj_iadd (q := 70) dX1_fillFromTheEnds_69 rfl ?_
      rw [show nI c * 6 + nI b = nI (c * 6 + b) by rw [show (6 : Int32) = nI 6 from rfl, pk_mul, nI_add]]
      refine Vj_callSv (q := 73) (qX9_putn rfl (by decide) (j := eS ρ (cNx ρ c b + 1) - eP ρ c b (cNx ρ c b) - 1) (by omega) _) (by decide) lkX1_48 stX9_put okX9_put dX1_fillFromTheEnds_70 rfl rfl (Nat.le_of_ble_eq_true rfl) ?_
      refine Vs_iinc3 (q := 76) (z := none) dX1_fillFromTheEnds_73 rfl (by exact iinc_p _) (by decide) rfl ?_
      refine Vj_goto (q := 12) dX1_fillFromTheEnds_76 (by decide) ?_
      rw [nI_1]
      exact ih (b + 1) _ _ _ (by omega) ((h.uI rfl).uI rfl) ((hT.uI rfl).uI rfl) g1 ((hE.u rfl).u rfl)
set_option maxRecDepth 100000 in
theorem qX1_fillFromTheEnds_l1 {ρ : Rm} {σ0 : Mem} : ∀ (k c : Nat) (σ : Mem) (z3 z4 z5 : Option Value), c + k = 4 ^ rN ρ → RP ρ σ → RT ρ σ → FI ρ c 0 σ → Eqo [21, 22] σ0 σ → Vj shX 2 mX1_fillFromTheEnds (fun r σ' => r = none ∧ RE ρ σ' ∧ Eqo [21, 22] σ0 σ') 2 [some (.ref 20), some (.ref 10), some (.int (nI c)), z3, z4, z5] [] σ := by
  intro k
  induction k with
  | zero =>
    intro c σ z3 z4 z5 hc h hT hF hE
    have hp4 := p4_le h.1.1
    obtain rfl : c = 4 ^ rN ρ := by omega
    refine Vj_iloadn (q := 3) dX1_fillFromTheEnds_2 rfl rfl rfl ?_
    refine Vj_aloadn (q := 4) dX1_fillFromTheEnds_3 rfl rfl rfl ?_
    refine Vj_getI (q := 7) flX1_30 rfl rfl dX1_fillFromTheEnds_4 rfl ?_
    rw [hT.1]
    refine Vj_icmp_ge (q := 10) (tgt := 85) dX1_fillFromTheEnds_7 (by decide) rfl (fun _ => ?_) (fun hz => absurd (nI_le (Nat.le_refl _) (by omega)) hz)
    exact Vr_vret rfl dX1_fillFromTheEnds_85 (⟨rfl, hF.done h.1, hE⟩)
  | succ k ih =>
    intro c σ z3 z4 z5 hc h hT hF hE
    have hp4 := p4_le h.1.1
    refine Vj_iloadn (q := 3) dX1_fillFromTheEnds_2 rfl rfl rfl ?_
    refine Vj_aloadn (q := 4) dX1_fillFromTheEnds_3 rfl rfl rfl ?_
    refine Vj_getI (q := 7) flX1_30 rfl rfl dX1_fillFromTheEnds_4 rfl ?_
    rw [hT.1]
    refine Vj_icmp_ge (q := 10) (tgt := 85) dX1_fillFromTheEnds_7 (by decide) rfl (fun hz => absurd hz (nI_ge (by omega) (by omega))) (fun _ => ?_)
    refine Vj_iconst (q := 11) (v := 0) dX1_fillFromTheEnds_10 rfl (by decide) ?_
    refine Vs_istore3 (q := 12) dX1_fillFromTheEnds_11 rfl (by decide) rfl ?_
    refine qX1_fillFromTheEnds_l2 (c := c) (by omega) (fun σ2 y3 y4 y5 h2 hT2 hF2 hE2 => ?_) (rB ρ) 0 σ _ _ (by omega) h hT hF hE
    refine Vs_iinc2 (q := 82) (z := none) dX1_fillFromTheEnds_79 rfl (by exact iinc_p _) (by decide) rfl ?_
    refine Vj_goto (q := 2) dX1_fillFromTheEnds_82 (by decide) ?_
    rw [nI_1]
    exact ih (c + 1) σ2 _ _ _ (by omega) h2 hT2 hF2.turn hE2
set_option maxRecDepth 100000 in
theorem qX1_fillFromTheEnds {ρ : Rm} {σ : Mem} (h : RP ρ σ) (hT : RT ρ σ) (hF : FI ρ 0 0 σ) : Ct shX 2 mX1_fillFromTheEnds [.ref 20, .ref 10] σ (fun r σ' => r = none ∧ RE ρ σ' ∧ Eqo [21, 22] σ σ') := by
  refine Ct.of (by decide) (Nat.le_of_ble_eq_true rfl) (l := [some (.ref 20), some (.ref 10), none, none, none, none]) rfl ?_
  refine Vj_iconst (q := 1) (v := 0) dX1_fillFromTheEnds_0 rfl (by decide) ?_
  refine Vs_istore2 (q := 2) dX1_fillFromTheEnds_1 rfl (by decide) rfl ?_
  exact qX1_fillFromTheEnds_l1 (4 ^ rN ρ) 0 σ _ _ _ (by omega) h hT hF Eqo.rf
set_option maxRecDepth 100000 in
theorem qX1_make_p2 {ρ : Rm} {σ0 : Mem} {z3 z4 : Option Value} : ∀ (k c : Nat) (σ : Mem), c + k = 257 → 1 ≤ c → RP ρ σ → RT ρ σ → (∀ x, x < 257 → σ.1 21 x = if x < c then nI (eS ρ (x + 1)) else nI (eAll ρ x (4 ^ rN ρ))) → Eqo [21, 22] σ0 σ → Vj shX 3 mX1_make (PmP ρ σ0) 76 [some (.ref 20), some (.ref 10), some (.int (nI c)), z3, z4] [] σ := by
  intro k
  induction k with
  | zero =>
    intro c σ hc h1 h hT hF hE
    obtain rfl : c = 257 := by omega
    have hFI : FI ρ 0 0 σ := by
      refine ⟨fun x hx => ?_, fun x hx i g1 g2 => ?_, fun c' b' g1 g2 g3 => ?_⟩
      · rw [hF x hx, if_pos hx, eP_0, Nat.sub_zero]
      · rw [eP_0] at g1; omega
      · omega
    refine Vj_iloadn (q := 77) dX1_make_76 rfl rfl rfl ?_
    refine Vj_sipush (q := 80) (v := 256) dX1_make_77 rfl (by decide) ?_
    refine Vj_icmp_gt (q := 83) (tgt := 116) dX1_make_80 (by decide) rfl (fun _ => ?_) (fun hz => absurd (by decide) hz)
    refine Vj_aloadn (q := 117) dX1_make_116 rfl rfl rfl ?_
    refine Vj_aloadn (q := 118) dX1_make_117 rfl rfl rfl ?_
    refine Vj_callV (q := 121) (qX1_fillFromTheEnds h hT hFI) (by decide) rfl rfl lkX1_52 viX1_fillFromTheEnds okX1_fillFromTheEnds dX1_make_118 rfl rfl (Nat.le_of_ble_eq_true rfl) ?_
    rintro r σ1 ⟨rfl, g1, g2⟩
    show Vj shX 3 mX1_make _ 121 _ [] σ1
    exact Vr_vret rfl dX1_make_121 (⟨rfl, g1, (hE.tr g2).in rfl⟩)
  | succ k ih =>
    intro c σ hc h1 h hT hF hE
    refine Vj_iloadn (q := 77) dX1_make_76 rfl rfl rfl ?_
    refine Vj_sipush (q := 80) (v := 256) dX1_make_77 rfl (by decide) ?_
    refine Vj_icmp_gt (q := 83) (tgt := 116) dX1_make_80 (by decide) rfl (fun hz => absurd hz (nI_nlt (show c ≤ 256 by omega) (by decide))) (fun _ => ?_)
    refine Vj_aloadn (q := 84) dX1_make_83 rfl rfl rfl ?_
    refine Vj_getR (q := 87) flX1_9 rfl rfl dX1_make_84 rfl ?_
    refine Vj_iloadn (q := 88) dX1_make_87 rfl rfl rfl ?_
    refine Vj_aloadn (q := 89) dX1_make_88 rfl rfl rfl ?_
    refine Vj_getR (q := 92) flX1_9 rfl rfl dX1_make_89 rfl ?_
    refine Vj_iloadn (q := 93) dX1_make_92 rfl rfl rfl ?_
    refine Vj_callSi (q := 96) (qX9_atn rfl (by decide) (j := c) (by omega)) (by decide) lkX1_44 stX9_at okX9_at dX1_make_93 rfl rfl (Nat.le_of_ble_eq_true rfl) ?_
    rw [hF c (by omega), if_neg (Nat.lt_irrefl c)]
    refine Vj_aloadn (q := 97) dX1_make_96 rfl rfl rfl ?_
    refine Vj_getR (q := 100) flX1_9 rfl rfl dX1_make_97 rfl ?_
    refine Vj_iloadn (q := 101) dX1_make_100 rfl rfl rfl ?_
    refine Vj_iconst (q := 102) (v := 1) dX1_make_101 rfl (by decide) ?_
    refine Vj_isub (q := 103) dX1_make_102 rfl ?_
    rw [show (1 : Int32) = nI 1 from rfl, pk_sub h1]
    refine Vj_callSi (q := 106) (qX9_atn rfl (by decide) (j := c - 1) (by omega)) (by decide) lkX1_44 stX9_at okX9_at dX1_make_103 rfl rfl (Nat.le_of_ble_eq_true rfl) ?_
    rw [hF (c - 1) (by omega), if_pos (by omega), Nat.sub_add_cancel h1]
    refine Vj_iadd (q := 107) dX1_make_106 rfl ?_
    rw [nI_add, Nat.add_comm, ← eS_s]
    refine Vj_callSv (q := 110) (qX9_putn rfl (by decide) (j := c) (by omega) _) (by decide) lkX1_48 stX9_put okX9_put dX1_make_107 rfl rfl (Nat.le_of_ble_eq_true rfl) ?_
    refine Vs_iinc2 (q := 113) (z := none) dX1_make_110 rfl (by exact iinc_p _) (by decide) rfl ?_
    refine Vj_goto (q := 76) dX1_make_113 (by decide) ?_
    rw [nI_1]
    refine ih (c + 1) _ (by omega) (by omega) (h.uI rfl) (hT.uI rfl) (fun x hx => ?_) (hE.u rfl)
    rw [uI_eq, upd]
    by_cases e : x = c
    · rw [if_pos e, if_pos (by omega), e]
    · rw [if_neg e, hF x hx]
      by_cases e2 : x < c
      · rw [if_pos e2, if_pos (by omega)]
      · rw [if_neg e2, if_neg (by omega)]
set_option maxRecDepth 100000 in
theorem qX1_make_p1b {ρ : Rm} {σ0 : Mem} {c : Nat} (hc : c < 4 ^ rN ρ) {Post : Option Value → Mem → Prop} (kk : ∀ (σ : Mem) (z3 z4 : Option Value), RP ρ σ → RT ρ σ → (∀ x, x < 257 → σ.1 21 x = nI (eP ρ c (rB ρ) x)) → Eqo [21, 22] σ0 σ → Vj shX 3 mX1_make Post 68 [some (.ref 20), some (.ref 10), some (.int (nI c)), z3, z4] [] σ) :
    ∀ (k b : Nat) (σ : Mem) (z4 : Option Value), b + k = rB ρ → RP ρ σ → RT ρ σ → (∀ x, x < 257 → σ.1 21 x = nI (eP ρ c b x)) → Eqo [21, 22] σ0 σ → Vj shX 3 mX1_make Post 20 [some (.ref 20), some (.ref 10), some (.int (nI c)), some (.int (nI b)), z4] [] σ := by
  intro k
  induction k with
  | zero =>
    intro b σ z4 hb h hT hF hE
    have hB := h.1.2.2.1
    obtain rfl : b = rB ρ := by omega
    refine Vj_iloadn (q := 21) dX1_make_20 rfl rfl rfl ?_
    refine Vj_aloadn (q := 22) dX1_make_21 rfl rfl rfl ?_
    refine Vj_callVi (q := 25) (qX2_buttons h) (by decide) rfl rfl lkX1_36 viX2_buttons okX2_buttons dX1_make_22 rfl rfl (Nat.le_of_ble_eq_true rfl) ?_
    refine Vj_icmp_ge (q := 28) (tgt := 68) dX1_make_25 (by decide) rfl (fun _ => ?_) (fun hz => absurd (nI_le (Nat.le_refl _) (by omega)) hz)
    exact kk σ _ _ h hT hF hE
  | succ k ih =>
    intro b σ z4 hb h hT hF hE
    have hB := h.1.2.2.1
    have hp4 := p4_le h.1.1
    have hx := cNx_lt h.1 hc (show b < rB ρ by omega)
    refine Vj_iloadn (q := 21) dX1_make_20 rfl rfl rfl ?_
    refine Vj_aloadn (q := 22) dX1_make_21 rfl rfl rfl ?_
    refine Vj_callVi (q := 25) (qX2_buttons h) (by decide) rfl rfl lkX1_36 viX2_buttons okX2_buttons dX1_make_22 rfl rfl (Nat.le_of_ble_eq_true rfl) ?_
    refine Vj_icmp_ge (q := 28) (tgt := 68) dX1_make_25 (by decide) rfl (fun hz => absurd hz (nI_ge (by omega) (by omega))) (fun _ => ?_)
    refine Vj_aloadn (q := 29) dX1_make_28 rfl rfl rfl ?_
    refine Vj_iloadn (q := 30) dX1_make_29 rfl rfl rfl ?_
    refine Vj_iloadn (q := 31) dX1_make_30 rfl rfl rfl ?_
    refine Vj_callVi (q := 34) (qX2_behind (c := c) (b := b) (by omega) (by omega)) (by decide) rfl rfl lkX1_40 viX2_behind okX2_behind dX1_make_31 rfl rfl (Nat.le_of_ble_eq_true rfl) ?_
    rw [(hT.2 c hc).2.2 b (by omega)]
    refine Vs_istore4 (q := 36) dX1_make_34 rfl (by decide) rfl ?_
    refine Vj_iload (q := 38) dX1_make_36 rfl rfl ?_
    refine Vj_iloadn (q := 39) dX1_make_38 rfl rfl rfl ?_
    refine Vj_icmp_eq (q := 42) (tgt := 62) dX1_make_39 (by decide) rfl (fun h39 => ?_) (fun h39 => ?_)
    ·
      refine Vs_iinc3 (q := 65) (z := none) dX1_make_62 rfl (by exact iinc_p _) (by decide) rfl ?_
      refine Vj_goto (q := 20) dX1_make_65 (by decide) ?_
      rw [nI_1]
      have e := (nI_eq (by omega) (by omega)).mp h39
      exact ih (b + 1) σ _ (by omega) h hT (fun x hx => by rw [eP_s, if_neg (by rintro ⟨h1, h2⟩; exact h2 (h1.symm.trans e)), hF x hx]; rfl) hE
    ·
      refine Vj_aloadn (q := 43) dX1_make_42 rfl rfl rfl ?_
      refine Vj_getR (q := 46) flX1_9 rfl rfl dX1_make_43 rfl ?_
      refine Vj_iload (q := 48) dX1_make_46 rfl rfl ?_
      refine Vj_aloadn (q := 49) dX1_make_48 rfl rfl rfl ?_
      refine Vj_getR (q := 52) flX1_9 rfl rfl dX1_make_49 rfl ?_
      refine Vj_iload (q := 54) dX1_make_52 rfl rfl ?_
      refine Vj_callSi (q := 57) (qX9_atn rfl (by decide) (j := cNx ρ c b) (by omega)) (by decide) lkX1_44 stX9_at okX9_at dX1_make_54 rfl rfl (Nat.le_of_ble_eq_true rfl) ?_
      rw [hF _ (by omega)]
      refine Vj_iconst (q := 58) (v := 1) dX1_make_57 rfl (by decide) ?_
      refine Vj_iadd (q := 59) dX1_make_58 rfl ?_
      rw [nI_1]
      refine Vj_callSv (q := 62) (qX9_putn rfl (by decide) (j := cNx ρ c b) (by omega) _) (by decide) lkX1_48 stX9_put okX9_put dX1_make_59 rfl rfl (Nat.le_of_ble_eq_true rfl) ?_
      refine Vs_iinc3 (q := 65) (z := none) dX1_make_62 rfl (by exact iinc_p _) (by decide) rfl ?_
      refine Vj_goto (q := 20) dX1_make_65 (by decide) ?_
      rw [nI_1]
      have hne := nI_ne_of (by omega) (by omega) h39
      refine ih (b + 1) _ _ (by omega) (h.uI rfl) (hT.uI rfl) (fun x hx => ?_) (hE.u rfl)
      rw [uI_eq, upd, eP_s]
      by_cases e : x = cNx ρ c b
      · subst e
        rw [if_pos rfl, if_pos ⟨rfl, hne⟩]
      · rw [if_neg e, if_neg (fun z => e z.1.symm), hF x hx]
        rfl
set_option maxRecDepth 100000 in
theorem qX1_make_p1 {ρ : Rm} {σ0 : Mem} : ∀ (k c : Nat) (σ : Mem) (z3 z4 : Option Value), c + k = 4 ^ rN ρ → RP ρ σ → RT ρ σ → (∀ x, x < 257 → σ.1 21 x = nI (eP ρ c 0 x)) → Eqo [21, 22] σ0 σ → Vj shX 3 mX1_make (PmP ρ σ0) 10 [some (.ref 20), some (.ref 10), some (.int (nI c)), z3, z4] [] σ := by
  intro k
  induction k with
  | zero =>
    intro c σ z3 z4 hc h hT hF hE
    have hp4 := p4_le h.1.1
    obtain rfl : c = 4 ^ rN ρ := by omega
    refine Vj_iloadn (q := 11) dX1_make_10 rfl rfl rfl ?_
    refine Vj_aloadn (q := 12) dX1_make_11 rfl rfl rfl ?_
    refine Vj_getI (q := 15) flX1_30 rfl rfl dX1_make_12 rfl ?_
    rw [hT.1]
    refine Vj_icmp_ge (q := 18) (tgt := 74) dX1_make_15 (by decide) rfl (fun _ => ?_) (fun hz => absurd (nI_le (Nat.le_refl _) (by omega)) hz)
    refine Vj_iconst (q := 75) (v := 1) dX1_make_74 rfl (by decide) ?_
    refine Vs_istore2 (q := 76) dX1_make_75 rfl (by decide) rfl ?_
    refine qX1_make_p2 256 1 σ (by omega) (by omega) h hT (fun x hx => ?_) hE
    rw [hF x hx, eP_N]
    by_cases e : x < 1
    · obtain rfl : x = 0 := by omega
      rw [if_pos e, eS_s]
      have : eS ρ 0 = 0 := rfl
      rw [this, Nat.zero_add]
    · rw [if_neg e]
  | succ k ih =>
    intro c σ z3 z4 hc h hT hF hE
    have hp4 := p4_le h.1.1
    refine Vj_iloadn (q := 11) dX1_make_10 rfl rfl rfl ?_
    refine Vj_aloadn (q := 12) dX1_make_11 rfl rfl rfl ?_
    refine Vj_getI (q := 15) flX1_30 rfl rfl dX1_make_12 rfl ?_
    rw [hT.1]
    refine Vj_icmp_ge (q := 18) (tgt := 74) dX1_make_15 (by decide) rfl (fun hz => absurd hz (nI_ge (by omega) (by omega))) (fun _ => ?_)
    refine Vj_iconst (q := 19) (v := 0) dX1_make_18 rfl (by decide) ?_
    refine Vs_istore3 (q := 20) dX1_make_19 rfl (by decide) rfl ?_
    refine qX1_make_p1b (c := c) (by omega) (fun σ2 y3 y4 h2 hT2 hF2 hE2 => ?_) (rB ρ) 0 σ _ (by omega) h hT hF hE
    refine Vs_iinc2 (q := 71) (z := none) dX1_make_68 rfl (by exact iinc_p _) (by decide) rfl ?_
    refine Vj_goto (q := 10) dX1_make_71 (by decide) ?_
    rw [nI_1]
    exact ih (c + 1) σ2 _ _ (by omega) h2 hT2 (fun x hx => by rw [eP_c]; exact hF2 x hx) hE2
set_option maxRecDepth 100000 in
theorem qX1_make {ρ : Rm} {σ : Mem} (h : RP ρ σ) (hT : RT ρ σ) : Ct shX 3 mX1_make [.ref 20, .ref 10] σ (PmP ρ σ) := by
  refine Ct.of (by decide) (Nat.le_of_ble_eq_true rfl) (l := [some (.ref 20), some (.ref 10), none, none, none]) rfl ?_
  refine Vj_aloadn (q := 1) dX1_make_0 rfl rfl rfl ?_
  refine Vj_getR (q := 4) flX1_9 rfl rfl dX1_make_1 rfl ?_
  refine Vj_iconst (q := 5) (v := 0) dX1_make_4 rfl (by decide) ?_
  refine Vj_callSv (q := 8) (qJ7_fill_53178 rfl (by decide) 0) (by decide) lkX1_24 stJ7_fill_53178 okJ7_fill_53178 dX1_make_5 rfl rfl (Nat.le_of_ble_eq_true rfl) ?_
  refine Vj_iconst (q := 9) (v := 0) dX1_make_8 rfl (by decide) ?_
  refine Vs_istore2 (q := 10) dX1_make_9 rfl (by decide) rfl ?_
  refine qX1_make_p1 (4 ^ rN ρ) 0 _ _ _ (by omega) (h.fill rfl) (hT.fill rfl) (fun x hx => ?_) (Eqo.rf.fill rfl)
  rw [fillM_eq]
  simp only []
  rw [if_pos hx, eP_0]
  rfl
