/-! the room in numbers: sizes of the things; buttons (thing, kind, a); a code has two bits for each thing, the first one uppermost -/
abbrev Rm : Type := List Nat × List (Nat × Nat × Nat)
def rN (ρ : Rm) : Nat := ρ.1.length
def rS (ρ : Rm) (t : Nat) : Nat := ρ.1.getD t 0
def rB (ρ : Rm) : Nat := ρ.2.length
def rT (ρ : Rm) (b : Nat) : Nat := (ρ.2.getD b (0, 0, 0)).1
def rK (ρ : Rm) (b : Nat) : Nat := (ρ.2.getD b (0, 0, 0)).2.1
def rA (ρ : Rm) (b : Nat) : Nat := (ρ.2.getD b (0, 0, 0)).2.2
def okR (ρ : Rm) : Prop := rN ρ < 5 ∧ (∀ t, t < rN ρ → 2 ≤ rS ρ t ∧ rS ρ t ≤ 4) ∧ rB ρ < 7 ∧ ∀ b, b < rB ρ → rT ρ b < rN ρ ∧ rK ρ b < 4 ∧ (rK ρ b = 1 → rA ρ b < rS ρ (rT ρ b)) ∧ (rK ρ b = 3 → rA ρ b < rN ρ ∧ rA ρ b ≠ rT ρ b) ∧ rA ρ b < 10
def bI (b : Bool) : Int32 := if b then 1 else 0
theorem bI_t : bI true = 1 := rfl
theorem bI_f : bI false = 0 := rfl
theorem bI_nar (b : Bool) : narrow .boolean (.int (bI b)) = .int (bI b) := by cases b <;> decide
def cS (n c t : Nat) : Nat := c / 4 ^ (n - 1 - t) % 4
def cW (n c t s : Nat) : Nat := c - cS n c t * 4 ^ (n - 1 - t) + s * 4 ^ (n - 1 - t)
theorem cS_lt (n c t : Nat) : cS n c t < 4 := Nat.mod_lt _ (by decide)
set_option maxRecDepth 100000 in
theorem cW_lt : ∀ n, n < 5 → ∀ c, c < 4 ^ n → ∀ t, t < n → ∀ s, s < 4 → cW n c t s < 4 ^ n := by decide +kernel
set_option maxRecDepth 100000 in
theorem cS_cW : ∀ n, n < 5 → ∀ c, c < 4 ^ n → ∀ t, t < n → ∀ s, s < 4 → ∀ u, u < n → cS n (cW n c t s) u = if u = t then s else cS n c u := by decide +kernel
theorem p4_le {n : Nat} (h : n < 5) : 4 ^ n ≤ 256 := (by decide : ∀ n, n < 5 → 4 ^ n ≤ 256) n h
theorem p4_pos (n : Nat) : 0 < 4 ^ n := Nat.pow_pos (by decide)
set_option maxRecDepth 100000 in
theorem i_sh : ∀ n, n < 5 → ∀ t, t < n → (2 : Int32) * (nI n - 1 - nI t) = nI (2 * (n - 1 - t)) := by decide +kernel
set_option maxRecDepth 100000 in
theorem i_st0 : ∀ k, k < 4 → ∀ c, c < 256 → (nI c >>> (nI (2 * k) &&& 31)) &&& 3 = nI (c / 4 ^ k % 4) := by decide +kernel
set_option maxRecDepth 100000 in
theorem i_wi0 : ∀ k, k < 4 → ∀ c, c < 256 → ∀ s, s < 4 → (nI c &&& (((3 : Int32) <<< (nI (2 * k) &&& 31)) ^^^ (-1))) ||| (nI s <<< (nI (2 * k) &&& 31)) = nI (c - c / 4 ^ k % 4 * 4 ^ k + s * 4 ^ k) := by decide +kernel
theorem i_st {n c t : Nat} (hn : n < 5) (ht : t < n) (hc : c < 256) : (nI c >>> (nI (2 * (n - 1 - t)) &&& 31)) &&& 3 = nI (cS n c t) := i_st0 (n - 1 - t) (by omega) c hc
theorem i_wi {n c t s : Nat} (hn : n < 5) (ht : t < n) (hc : c < 256) (hs : s < 4) : (nI c &&& (((3 : Int32) <<< (nI (2 * (n - 1 - t)) &&& 31)) ^^^ (-1))) ||| (nI s <<< (nI (2 * (n - 1 - t)) &&& 31)) = nI (cW n c t s) := i_wi0 (n - 1 - t) (by omega) c hc s hs
theorem i_p4 : ∀ n, n < 5 → (1 : Int32) <<< (((2 : Int32) * nI n) &&& 31) = nI (4 ^ n) := by decide +kernel
theorem i_ev : ∀ n, n < 7 → (1 : Int32) <<< (nI n &&& 31) - 1 = nI (2 ^ n - 1) := by decide +kernel
theorem nI_lit (n : Nat) : (OfNat.ofNat n : Int32) = nI n := rfl
/-- a code that is a mess -/
def cOk (ρ : Rm) (c : Nat) : Bool := (List.range (rN ρ)).all (fun t => decide (cS (rN ρ) c t < rS ρ t))
def cStp (ρ : Rm) (c t : Nat) : Nat := cW (rN ρ) c t (if cS (rN ρ) c t + 1 < rS ρ t then cS (rN ρ) c t + 1 else 0)
/-- the things from t on switched, by what c0 holds -/
def cSwi (n c0 : Nat) : Nat → Nat → Nat → Nat
  | 0, _, c => c
  | k + 1, t, c => cSwi n c0 k (t + 1) (cW n c t (if cS n c0 t = 0 then 1 else 0))
def cDo (ρ : Rm) (c b : Nat) : Nat :=
  if rK ρ b = 1 then cW (rN ρ) c (rT ρ b) (rA ρ b)
  else if rK ρ b = 2 then cSwi (rN ρ) c (rN ρ - rT ρ b) (rT ρ b) c
  else if rK ρ b = 3 then (if cS (rN ρ) c (rA ρ b) = 0 then c else cStp ρ c (rT ρ b))
  else cStp ρ c (rT ρ b)
def cNx (ρ : Rm) (c b : Nat) : Nat := if cOk ρ c then cDo ρ c b else c
/-- the figures of the first k things -/
def cDg (n c : Nat) : Nat → Nat
  | 0 => 0
  | k + 1 => cDg n c k * 10 + cS n c k
/-- the lights of the first k things -/
def cLi (n c : Nat) : Nat → Nat
  | 0 => 0
  | k + 1 => if cS n c k = 0 then cLi n c k else cLi n c k ||| 1 <<< k
theorem cOk_iff {ρ : Rm} {c : Nat} : cOk ρ c = true ↔ ∀ t, t < rN ρ → cS (rN ρ) c t < rS ρ t := by
  simp [cOk, List.all_eq_true]
theorem cDg_lt (n c : Nat) : ∀ k, cDg n c k < 10 ^ k
  | 0 => by simp [cDg]
  | k + 1 => by
    have h := cDg_lt n c k
    have h2 := cS_lt n c k
    rw [cDg, Nat.pow_succ]
    omega
theorem cLi_lt (n c : Nat) : ∀ k, cLi n c k < 2 ^ k
  | 0 => by simp [cLi]
  | k + 1 => by
    have h := cLi_lt n c k
    rw [cLi]
    split
    · rw [Nat.pow_succ]; omega
    · have : 1 <<< k < 2 ^ (k + 1) := by rw [Nat.one_shiftLeft]; exact Nat.pow_lt_pow_right (by decide) (by omega)
      exact Nat.or_lt_two_pow (by rw [Nat.pow_succ]; omega) this
theorem cStp_lt {ρ : Rm} (h : okR ρ) {c t : Nat} (hc : c < 4 ^ rN ρ) (ht : t < rN ρ) : cStp ρ c t < 4 ^ rN ρ := by
  refine cW_lt _ h.1 c hc t ht _ ?_
  have := (h.2.1 t ht).2
  split <;> omega
theorem cSwi_lt {n : Nat} (hn : n < 5) (c0 : Nat) : ∀ k t c, c < 4 ^ n → t + k ≤ n → cSwi n c0 k t c < 4 ^ n
  | 0, _, _, hc, _ => hc
  | k + 1, t, c, hc, h => cSwi_lt hn c0 k (t + 1) _ (cW_lt n hn c hc t (by omega) _ (by split <;> omega)) (by omega)
theorem cDo_lt {ρ : Rm} (h : okR ρ) {c b : Nat} (hc : c < 4 ^ rN ρ) (hb : b < rB ρ) : cDo ρ c b < 4 ^ rN ρ := by
  obtain ⟨h1, h2, h3, h4, -⟩ := h.2.2.2 b hb
  unfold cDo
  split
  · exact cW_lt _ h.1 c hc _ h1 _ (by have := h3 (by assumption); have := (h.2.1 _ h1).2; omega)
  · split
    · exact cSwi_lt h.1 c _ _ c hc (by omega)
    · split
      · split
        · exact hc
        · exact cStp_lt h hc h1
      · exact cStp_lt h hc h1
theorem cNx_lt {ρ : Rm} (h : okR ρ) {c b : Nat} (hc : c < 4 ^ rN ρ) (hb : b < rB ρ) : cNx ρ c b < 4 ^ rN ρ := by
  unfold cNx
  split
  · exact cDo_lt h hc hb
  · exact hc
theorem cOk_cW {ρ : Rm} (h : okR ρ) {c t s : Nat} (hc : c < 4 ^ rN ρ) (ht : t < rN ρ) (hs : s < rS ρ t) (ho : cOk ρ c = true) : cOk ρ (cW (rN ρ) c t s) = true := by
  rw [cOk_iff] at ho ⊢
  intro u hu
  rw [cS_cW _ h.1 c hc t ht s (by have := (h.2.1 t ht).2; omega) u hu]
  split
  · subst u; exact hs
  · exact ho u hu
theorem cOk_stp {ρ : Rm} (h : okR ρ) {c t : Nat} (hc : c < 4 ^ rN ρ) (ht : t < rN ρ) (ho : cOk ρ c = true) : cOk ρ (cStp ρ c t) = true := by
  refine cOk_cW h hc ht ?_ ho
  have := (h.2.1 t ht).1
  split <;> omega
theorem cOk_swi {ρ : Rm} (h : okR ρ) (c0 : Nat) : ∀ k t c, c < 4 ^ rN ρ → t + k ≤ rN ρ → cOk ρ c = true → cOk ρ (cSwi (rN ρ) c0 k t c) = true
  | 0, _, _, _, _, ho => ho
  | k + 1, t, c, hc, hk, ho => by
    refine cOk_swi h c0 k (t + 1) _ (cW_lt _ h.1 c hc t (by omega) _ (by split <;> omega)) (by omega) (cOk_cW h hc (by omega) ?_ ho)
    have := (h.2.1 t (by omega)).1
    split <;> omega
theorem cOk_do {ρ : Rm} (h : okR ρ) {c b : Nat} (hc : c < 4 ^ rN ρ) (hb : b < rB ρ) (ho : cOk ρ c = true) : cOk ρ (cDo ρ c b) = true := by
  obtain ⟨h1, h2, h3, h4, -⟩ := h.2.2.2 b hb
  unfold cDo
  split
  · exact cOk_cW h hc h1 (h3 (by assumption)) ho
  · split
    · exact cOk_swi h c _ _ c hc (by omega) ho
    · split
      · split
        · exact ho
        · exact cOk_stp h hc h1 ho
      · exact cOk_stp h hc h1 ho
theorem cOk_nx {ρ : Rm} (h : okR ρ) {c b : Nat} (hc : c < 4 ^ rN ρ) (hb : b < rB ρ) (ho : cOk ρ c = true) : cOk ρ (cNx ρ c b) = true := by
  unfold cNx
  rw [if_pos ho]
  exact cOk_do h hc hb ho
