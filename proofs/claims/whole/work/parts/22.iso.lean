/-! the reference's numbers of a room -/
def mN (ρ : Rm) : Nat := lP ρ.1
def mu (ρ : Rm) (t : Nat) : Nat := lU ρ.1 t
def mc (ρ : Rm) (k : Nat) : Nat := lC ρ.1 k
def cm (ρ : Rm) (c : Nat) : Nat := lM ρ.1 c
theorem ck_and {ρ : Rm} (hr : okR ρ) : rcs ρ (4 ^ rN ρ) = (List.range (mN ρ)).map (mc ρ) ∧ mN ρ ≤ 256 ∧ (∀ t, t < rN ρ → 1 ≤ mu ρ t ∧ mu ρ t ≤ 64) ∧ ∀ k, k < mN ρ → cm ρ (mc ρ k) = k ∧ ∀ t, t < rN ρ → cS (rN ρ) (mc ρ k) t = lS ρ.1 k t := by
  have h := ck_at hr
  simp only [ckL, Bool.and_eq_true, decide_eq_true_eq] at h
  obtain ⟨⟨⟨h1, h2⟩, h3⟩, h4⟩ := h
  refine ⟨h1, Nat.le_of_ble_eq_true h2, fun t ht => ?_, fun k hk => ?_⟩
  · have := List.all_eq_true.mp h3 t (List.mem_range.mpr ht)
    rw [Bool.and_eq_true] at this
    exact ⟨Nat.le_of_ble_eq_true this.1, Nat.le_of_ble_eq_true this.2⟩
  · have := List.all_eq_true.mp h4 k (List.mem_range.mpr hk)
    rw [frc_e] at this
    simp only [ckS, Bool.and_eq_true] at this
    exact ⟨Nat.eq_of_beq_eq_true this.1, fun t ht => Nat.eq_of_beq_eq_true (List.all_eq_true.mp this.2 t (List.mem_range.mpr ht))⟩
theorem mN_le {ρ : Rm} (hr : okR ρ) : mN ρ ≤ 256 := (ck_and hr).2.1
theorem mu_le {ρ : Rm} (hr : okR ρ) {t : Nat} (ht : t < rN ρ) : 1 ≤ mu ρ t ∧ mu ρ t ≤ 64 := (ck_and hr).2.2.1 t ht
theorem rcs_mc {ρ : Rm} (hr : okR ρ) : rcs ρ (4 ^ rN ρ) = (List.range (mN ρ)).map (mc ρ) := (ck_and hr).1
theorem cm_mc {ρ : Rm} (hr : okR ρ) {k : Nat} (hk : k < mN ρ) : cm ρ (mc ρ k) = k := ((ck_and hr).2.2.2 k hk).1
theorem rcs_m {ρ : Rm} {K c : Nat} : c ∈ rcs ρ K ↔ c < K ∧ cOk ρ c = true := by unfold rcs; rw [List.mem_filter, List.mem_range]
theorem mc_cV {ρ : Rm} (hr : okR ρ) {k : Nat} (hk : k < mN ρ) : cV ρ (mc ρ k) := by
  have : mc ρ k ∈ rcs ρ (4 ^ rN ρ) := by rw [rcs_mc hr]; exact List.mem_map.mpr ⟨k, List.mem_range.mpr hk, rfl⟩
  exact rcs_m.mp this
theorem cV_ex {ρ : Rm} (hr : okR ρ) {c : Nat} (hc : cV ρ c) : ∃ k, k < mN ρ ∧ mc ρ k = c := by
  have : c ∈ rcs ρ (4 ^ rN ρ) := rcs_m.mpr hc
  rw [rcs_mc hr] at this
  obtain ⟨k, hk, e⟩ := List.mem_map.mp this
  exact ⟨k, List.mem_range.mp hk, e⟩
theorem cm_lt {ρ : Rm} (hr : okR ρ) {c : Nat} (hc : cV ρ c) : cm ρ c < mN ρ := by
  obtain ⟨k, hk, rfl⟩ := cV_ex hr hc
  rw [cm_mc hr hk]; exact hk
theorem mc_cm {ρ : Rm} (hr : okR ρ) {c : Nat} (hc : cV ρ c) : mc ρ (cm ρ c) = c := by
  obtain ⟨k, hk, rfl⟩ := cV_ex hr hc
  rw [cm_mc hr hk]
theorem cm_inj {ρ : Rm} (hr : okR ρ) {c c' : Nat} (hc : cV ρ c) (hc' : cV ρ c') : cm ρ c = cm ρ c' ↔ c = c' := ⟨fun e => by rw [← mc_cm hr hc, e, mc_cm hr hc'], fun e => by rw [e]⟩
/-- the state of a thing in a mess -/
theorem lS_cm {ρ : Rm} (hr : okR ρ) {c t : Nat} (hc : cV ρ c) (ht : t < rN ρ) : cm ρ c / mu ρ t % rS ρ t = cS (rN ρ) c t := by
  obtain ⟨k, hk, rfl⟩ := cV_ex hr hc
  rw [cm_mc hr hk, ((ck_and hr).2.2.2 k hk).2 t ht]
  rfl
theorem lM_k (L : List Nat) (c : Nat) : ∀ k, (List.range k).foldl (fun a t => a + cS L.length c t * lU L t) 0 = lMk L c k
  | 0 => rfl
  | k + 1 => by rw [List.range_succ, List.foldl_append, lM_k L c k]; rfl
theorem cm_k {ρ : Rm} {c : Nat} : cm ρ c = lMk ρ.1 c (rN ρ) := lM_k _ _ _
theorem lMk_cW {ρ : Rm} (hr : okR ρ) {c t s : Nat} (hc : c < 4 ^ rN ρ) (ht : t < rN ρ) (hs : s < 4) : ∀ k, k ≤ rN ρ → lMk ρ.1 (cW (rN ρ) c t s) k + (if t < k then cS (rN ρ) c t * mu ρ t else 0) = lMk ρ.1 c k + (if t < k then s * mu ρ t else 0)
  | 0, _ => rfl
  | k + 1, h => by
    have ih := lMk_cW hr hc ht hs k (by omega)
    have e := cS_cW (rN ρ) hr.1 c hc t ht s hs k h
    rw [lMk, lMk]
    rw [show ρ.1.length = rN ρ from rfl, e]
    by_cases e1 : k = t
    · subst e1
      rw [if_pos rfl, if_pos (Nat.lt_succ_self k), if_pos (Nat.lt_succ_self k)]
      rw [if_neg (Nat.lt_irrefl k), if_neg (Nat.lt_irrefl k)] at ih
      show lMk ρ.1 _ k + s * mu ρ k + cS (rN ρ) c k * mu ρ k = _ + cS (rN ρ) c k * mu ρ k + s * mu ρ k
      omega
    · rw [if_neg e1]
      by_cases e2 : t < k
      · rw [if_pos e2, if_pos e2] at ih
        rw [if_pos (by omega), if_pos (by omega)]
        omega
      · rw [if_neg e2, if_neg e2] at ih
        rw [if_neg (by omega), if_neg (by omega)]
        omega
theorem cm_cW {ρ : Rm} (hr : okR ρ) {c t s : Nat} (hc : c < 4 ^ rN ρ) (ht : t < rN ρ) (hs : s < 4) : cm ρ (cW (rN ρ) c t s) + cS (rN ρ) c t * mu ρ t = cm ρ c + s * mu ρ t := by
  have := lMk_cW hr hc ht hs (rN ρ) (Nat.le_refl _)
  rw [if_pos ht, if_pos ht, ← cm_k, ← cm_k] at this
  exact this
theorem nI_mul (a b : Nat) : nI a * nI b = nI (a * b) := (Int32.ofNat_mul a b).symm
theorem nI_sub {a b : Nat} (h : b ≤ a) : nI a - nI b = nI (a - b) := by
  have e : nI a = nI (a - b) + nI b := by rw [nI_add]; congr 1; omega
  rw [e, Int32.add_sub_cancel]
theorem i_with {ρ : Rm} (hr : okR ρ) {c t s : Nat} (hc : c < 4 ^ rN ρ) (ht : t < rN ρ) (hs : s < 4) : nI (cm ρ c) + (nI s - nI (cS (rN ρ) c t)) * nI (mu ρ t) = nI (cm ρ (cW (rN ρ) c t s)) := by
  have e : nI (cm ρ (cW (rN ρ) c t s)) + nI (cS (rN ρ) c t) * nI (mu ρ t) = nI (cm ρ c) + nI s * nI (mu ρ t) := by
    rw [nI_mul, nI_mul, nI_add, nI_add, cm_cW hr hc ht hs]
  generalize nI (cm ρ (cW (rN ρ) c t s)) = a at *
  generalize nI (cm ρ c) = b at *
  generalize nI s = x at *
  generalize nI (cS (rN ρ) c t) = y at *
  generalize nI (mu ρ t) = z at *
  grind
theorem nI_div {a d : Nat} (ha : a < 2 ^ 31) (hd : d < 2 ^ 31) : nI a / nI d = nI (a / d) := by
  refine Int32.toInt_inj.mp ?_
  rw [Int32.toInt_div_of_ne_left _ _ (fun e => ?_), nI_toInt ha, nI_toInt hd, nI_toInt (Nat.lt_of_le_of_lt (Nat.div_le_self _ _) ha), Int.ofNat_tdiv]
  have := congrArg Int32.toInt e
  rw [nI_toInt ha] at this
  simp at this
theorem i_stM {ρ : Rm} (hr : okR ρ) {c t : Nat} (hc : cV ρ c) (ht : t < rN ρ) : (nI (cm ρ c) / nI (mu ρ t)) % nI (rS ρ t) = nI (cS (rN ρ) c t) := by
  have h1 := cm_lt hr hc
  have h2 := mN_le hr
  have h3 := mu_le hr ht
  have h4 := hr.2.1 t ht
  rw [nI_div (by omega) (by omega), nI_mod (Nat.lt_of_le_of_lt (Nat.div_le_self _ _) (by omega)) (by omega) (by omega), lS_cm hr hc ht]
/-! what the reference holds -/
def TxM (tx : List Nat) (σ : Mem) : Prop := σ.1 0 18 = nI tx.length ∧ tx.length ≤ 44 ∧ ∀ i, i < tx.length → σ.1 10 i = nI (tx.getD i 0) ∧ tx.getD i 0 < 256
def RoM (ρ : Rm) (σ : Mem) : Prop := okR ρ ∧ σ.1 0 0 = nI (rN ρ) ∧ σ.1 0 1 = nI (rB ρ) ∧ σ.1 0 2 = nI (mN ρ) ∧ (∀ t, t < rN ρ → σ.1 1 t = nI (rS ρ t) ∧ σ.1 2 t = nI (mu ρ t)) ∧ ∀ b, b < rB ρ → σ.1 3 b = nI (rT ρ b) ∧ σ.1 4 b = nI (rK ρ b) ∧ σ.1 5 b = nI (rA ρ b)
def TaM (ρ : Rm) (σ : Mem) : Prop := ∀ b, b < rB ρ → ∀ c, cV ρ c → σ.1 6 (256 * b + cm ρ c) = nI (cm ρ (cNx ρ c b))
def NwM (ρ : Rm) (c d p : Nat) (σ : Mem) : Prop := σ.1 0 9 = nI (cm ρ c) ∧ σ.1 0 10 = nI (cm ρ d) ∧ σ.1 0 11 = nI p
def AcM (ρ : Rm) (ac : List (Nat × Nat × Nat)) (σ : Mem) : Prop := σ.1 0 21 = nI ac.length ∧ ac.length < 15 ∧ ∃ nx, nx < 14 ∧ σ.1 0 22 = nI nx ∧ ∀ i, i < ac.length → σ.1 11 (3 * ((nx + 14 - ac.length + i) % 14)) = nI (cm ρ (ac.getD i (0, 0, 0)).1) ∧ σ.1 11 (3 * ((nx + 14 - ac.length + i) % 14) + 1) = nI (cm ρ (ac.getD i (0, 0, 0)).2.1) ∧ σ.1 11 (3 * ((nx + 14 - ac.length + i) % 14) + 2) = nI (ac.getD i (0, 0, 0)).2.2
def SlM (ρ : Rm) (sl : Nat → Option (Nat × Nat × Nat)) (σ : Mem) : Prop := ∀ i, i < 2 → (∀ u, sl i = some u → σ.1 18 i = 1 ∧ σ.1 19 (3 * i) = nI (cm ρ u.1) ∧ σ.1 19 (3 * i + 1) = nI (cm ρ u.2.1) ∧ σ.1 19 (3 * i + 2) = nI u.2.2) ∧ (sl i = none → σ.1 18 i = 0)
def SeM (se : List (Nat × Nat × Nat)) (σ : Mem) : Prop := σ.1 0 25 = nI se.length ∧ ∀ i, i < se.length → σ.1 13 i = nI (se.getD i (0, 0, 0)).1 ∧ σ.1 14 i = nI (se.getD i (0, 0, 0)).2.1 ∧ σ.1 15 i = nI (se.getD i (0, 0, 0)).2.2
def RM (tx : List Nat) (ρ : Rm) (c d p : Nat) (ac : List (Nat × Nat × Nat)) (sl : Nat → Option (Nat × Nat × Nat)) (se : List (Nat × Nat × Nat)) (sd : Int64) (σ : Mem) : Prop :=
  TxM tx σ ∧ RoM ρ σ ∧ TaM ρ σ ∧ NwM ρ c d p σ ∧ AcM ρ ac σ ∧ SlM ρ sl σ ∧ SeM se σ ∧ σ.2 0 31 = sd
def PM (v : Int32) (tx : List Nat) (ρ : Rm) (c d p : Nat) (ac : List (Nat × Nat × Nat)) (sl : Nat → Option (Nat × Nat × Nat)) (se : List (Nat × Nat × Nat)) (sd : Int64) : Option Value → Mem → Prop := fun r σ' => r = some (.int v) ∧ RM tx ρ c d p ac sl se sd σ'

