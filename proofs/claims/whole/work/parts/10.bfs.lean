/-! distances in a graph: by the definition, and what a search must keep -/
def chB (ch b : Nat) : Bool := decide (ch / 2 ^ b % 2 = 1)
/-- c comes to the target by at most k presses of the chosen ones -/
def wi (nx : Nat → Nat → Nat) (nb ch to : Nat) : Nat → Nat → Bool
  | 0, c => c == to
  | k + 1, c => wi nx nb ch to k c || (List.range nb).any (fun b => chB ch b && wi nx nb ch to k (nx c b))
/-- the least k below n with p k -/
def fstN (p : Nat → Bool) : Nat → Option Nat
  | 0 => none
  | n + 1 => match fstN p n with
    | some k => some k
    | none => if p n then some n else none
theorem fstN_none {p : Nat → Bool} : ∀ n, fstN p n = none ↔ ∀ j, j < n → p j = false
  | 0 => by simp [fstN]
  | n + 1 => by
    have ih := fstN_none (p := p) n
    rw [fstN]
    cases h : fstN p n with
    | some k =>
      rw [h] at ih
      constructor
      · intro z; cases z
      · intro z
        have := ih.mpr (fun j hj => z j (by omega))
        cases this
    | none =>
      have ih := ih.mp h
      by_cases e : p n = true
      · rw [if_pos e]
        constructor
        · intro z; cases z
        · intro z; rw [z n (by omega)] at e; cases e
      · rw [if_neg e]
        refine ⟨fun _ j hj => ?_, fun _ => rfl⟩
        by_cases ej : j = n
        · subst ej; exact Bool.eq_false_iff.mpr e
        · exact ih j (by omega)
theorem fstN_some {p : Nat → Bool} {k : Nat} : ∀ n, fstN p n = some k ↔ k < n ∧ p k = true ∧ ∀ j, j < k → p j = false
  | 0 => by simp [fstN]
  | n + 1 => by
    have ih := fstN_some (p := p) (k := k) n
    have i0 := fstN_none (p := p) n
    rw [fstN]
    cases h : fstN p n with
    | some k' =>
      rw [h] at ih i0
      constructor
      · intro z
        obtain ⟨h1, h2, h3⟩ := ih.mp z
        exact ⟨by omega, h2, h3⟩
      · rintro ⟨h1, h2, h3⟩
        by_cases e : k = n
        · subst e
          have := i0.mpr h3
          cases this
        · exact ih.mpr ⟨by omega, h2, h3⟩
    | none =>
      have i0 := i0.mp h
      by_cases e : p n = true
      · rw [if_pos e]
        constructor
        · intro z
          cases z
          exact ⟨by omega, e, i0⟩
        · rintro ⟨h1, h2, h3⟩
          by_cases ek : k = n
          · rw [ek]
          · rw [i0 k (by omega)] at h2; cases h2
      · rw [if_neg e]
        constructor
        · intro z; cases z
        · rintro ⟨h1, h2, h3⟩
          by_cases ek : k = n
          · subst ek; exact absurd h2 e
          · rw [i0 k (by omega)] at h2; cases h2
def dst (nx : Nat → Nat → Nat) (nb ch to c : Nat) : Option Nat := fstN (fun k => wi nx nb ch to k c) 256
/-- how many below n have p -/
def cntN (p : Nat → Bool) : Nat → Nat
  | 0 => 0
  | n + 1 => cntN p n + if p n then 1 else 0
theorem cntN_le (p : Nat → Bool) : ∀ n, cntN p n ≤ n
  | 0 => Nat.le_refl _
  | n + 1 => by have := cntN_le p n; rw [cntN]; split <;> omega
theorem cntN_congr {p q : Nat → Bool} : ∀ n, (∀ j, j < n → p j = q j) → cntN p n = cntN q n
  | 0, _ => rfl
  | n + 1, h => by rw [cntN, cntN, cntN_congr n (fun j hj => h j (by omega)), h n (by omega)]
theorem cntN_set {p q : Nat → Bool} {f : Nat} (hp : p f = false) (hq : q f = true) (h : ∀ j, j ≠ f → q j = p j) : ∀ n, cntN q n = cntN p n + if f < n then 1 else 0
  | 0 => rfl
  | n + 1 => by
    rw [cntN, cntN, cntN_set hp hq h n]
    by_cases e : n = f
    · subst e
      rw [hq, hp, if_neg (Nat.lt_irrefl n), if_pos (Nat.lt_succ_self n)]
      simp
    · rw [h n e]
      by_cases e2 : f < n
      · rw [if_pos e2, if_pos (show f < n + 1 by omega)]; omega
      · rw [if_neg e2, if_neg (show ¬ f < n + 1 by omega)]; omega
theorem cntN_one {p : Nat → Bool} {f : Nat} (h : ∀ j, p j = true ↔ j = f) : ∀ n, cntN p n = if f < n then 1 else 0
  | 0 => rfl
  | n + 1 => by
    rw [cntN, cntN_one h n]
    by_cases e : n = f
    · subst e
      rw [(h n).mpr rfl, if_neg (Nat.lt_irrefl n), if_pos (Nat.lt_succ_self n)]
      rfl
    · have hf : p n = false := Bool.eq_false_iff.mpr fun z => e ((h n).mp z)
      rw [hf]
      by_cases e2 : f < n
      · rw [if_pos e2, if_pos (show f < n + 1 by omega)]; rfl
      · rw [if_neg e2, if_neg (show ¬ f < n + 1 by omega)]; rfl
theorem cntN_pos {p : Nat → Bool} {f : Nat} (h : p f = true) : ∀ n, f < n → 0 < cntN p n
  | 0, hn => absurd hn (Nat.not_lt_zero _)
  | n + 1, hn => by
    rw [cntN]
    by_cases e : f = n
    · subst e; rw [h]; simp
    · have := cntN_pos h n (by omega); omega
/-- D is closed: what a finished search has -/
def Dcl (nx : Nat → Nat → Nat) (nb ch to N : Nat) (D : Nat → Option Nat) : Prop :=
  (∀ c, c < N → (D c = some 0 ↔ c = to)) ∧ (∀ c, c < N → ∀ k, D c = some (k + 1) → ∃ b, b < nb ∧ chB ch b = true ∧ D (nx c b) = some k) ∧
  ∀ x, x < N → ∀ k, D x = some k → ∀ c, c < N → ∀ b, b < nb → chB ch b = true → nx c b = x → ∃ k', D c = some k' ∧ k' ≤ k + 1
theorem wi_s {nx : Nat → Nat → Nat} {nb ch to k c : Nat} : wi nx nb ch to (k + 1) c = true ↔ wi nx nb ch to k c = true ∨ ∃ b, b < nb ∧ chB ch b = true ∧ wi nx nb ch to k (nx c b) = true := by
  rw [wi, Bool.or_eq_true, List.any_eq_true]
  constructor
  · rintro (h | ⟨b, h1, h2⟩)
    · exact Or.inl h
    · rw [Bool.and_eq_true] at h2
      exact Or.inr ⟨b, List.mem_range.mp h1, h2.1, h2.2⟩
  · rintro (h | ⟨b, h1, h2, h3⟩)
    · exact Or.inl h
    · exact Or.inr ⟨b, List.mem_range.mpr h1, by rw [h2, h3]; rfl⟩
theorem wi_mono {nx : Nat → Nat → Nat} {nb ch to c : Nat} {a b : Nat} (h : a ≤ b) (hw : wi nx nb ch to a c = true) : wi nx nb ch to b c = true := by
  induction b with
  | zero => rw [Nat.le_zero.mp h] at hw; exact hw
  | succ b ih =>
    by_cases e : a = b + 1
    · rw [← e]; exact hw
    · exact wi_s.mpr (Or.inl (ih (by omega)))
theorem Dcl.wi {nx : Nat → Nat → Nat} {nb ch to N : Nat} {D : Nat → Option Nat} (hN : ∀ c, c < N → ∀ b, b < nb → nx c b < N) (h : Dcl nx nb ch to N D) : ∀ k c, c < N → (wi nx nb ch to k c = true ↔ ∃ k', k' ≤ k ∧ D c = some k') := by
  intro k
  induction k with
  | zero =>
    intro c hc
    rw [Jvm.Pilot.CFiveRemotesLaw_law_r6148_70d490.wi, beq_iff_eq, ← h.1 c hc]
    constructor
    · intro z; exact ⟨0, Nat.le_refl _, z⟩
    · rintro ⟨k', h1, h2⟩; rw [Nat.le_zero.mp h1] at h2; exact h2
  | succ k ih =>
    intro c hc
    rw [wi_s]
    constructor
    · rintro (z | ⟨b, h1, h2, h3⟩)
      · obtain ⟨k', g1, g2⟩ := (ih c hc).mp z
        exact ⟨k', by omega, g2⟩
      · obtain ⟨k', g1, g2⟩ := (ih _ (hN c hc b h1)).mp h3
        obtain ⟨k2, g3, g4⟩ := h.2.2 _ (hN c hc b h1) k' g2 c hc b h1 h2 rfl
        exact ⟨k2, by omega, g3⟩
    · rintro ⟨k', h1, h2⟩
      by_cases e : k' ≤ k
      · exact Or.inl ((ih c hc).mpr ⟨k', e, h2⟩)
      · obtain rfl : k' = k + 1 := by omega
        obtain ⟨b, g1, g2, g3⟩ := h.2.1 c hc k h2
        exact Or.inr ⟨b, g1, g2, (ih _ (hN c hc b g1)).mpr ⟨k, Nat.le_refl _, g3⟩⟩
theorem Dcl.dst {nx : Nat → Nat → Nat} {nb ch to N : Nat} {D : Nat → Option Nat} (hN : ∀ c, c < N → ∀ b, b < nb → nx c b < N) (h : Dcl nx nb ch to N D) (hb : ∀ c, c < N → ∀ k, D c = some k → k < 256) : ∀ c, c < N → dst nx nb ch to c = D c := by
  intro c hc
  unfold Jvm.Pilot.CFiveRemotesLaw_law_r6148_70d490.dst
  cases e : D c with
  | none =>
    rw [fstN_none]
    intro j _
    refine Bool.eq_false_iff.mpr fun z => ?_
    obtain ⟨k', -, h2⟩ := (h.wi hN j c hc).mp z
    rw [e] at h2; cases h2
  | some k =>
    rw [fstN_some]
    refine ⟨hb c hc k e, (h.wi hN k c hc).mpr ⟨k, Nat.le_refl _, e⟩, fun j hj => Bool.eq_false_iff.mpr fun z => ?_⟩
    obtain ⟨k', h1, h2⟩ := (h.wi hN j c hc).mp z
    rw [e] at h2; cases h2
    omega
/-! a search by a row of codes -/
/-- i codes of the row Q of m are done -/
def BI (nx : Nat → Nat → Nat) (nb ch to N i : Nat) (D : Nat → Option Nat) (Q : Nat → Nat) (m : Nat) : Prop :=
  m = cntN (fun c => (D c).isSome) N ∧ (∀ j, j < m → Q j < N ∧ ∃ k, k ≤ j ∧ D (Q j) = some k) ∧ (∀ c, c < N → (D c).isSome = true → ∃ j, j < m ∧ Q j = c) ∧
  (∀ j j', j ≤ j' → j' < m → ∀ k k', D (Q j) = some k → D (Q j') = some k' → k ≤ k') ∧
  (i < m → ∀ j, j < m → ∀ k k', D (Q i) = some k → D (Q j) = some k' → k' ≤ k + 1) ∧
  (∀ c, c < N → (D c = some 0 ↔ c = to)) ∧ (∀ c, c < N → ∀ k, D c = some (k + 1) → ∃ b, b < nb ∧ chB ch b = true ∧ D (nx c b) = some k) ∧
  ∀ j, j < i → j < m → ∀ k, D (Q j) = some k → ∀ c, c < N → ∀ b, b < nb → chB ch b = true → nx c b = Q j → ∃ k', D c = some k' ∧ k' ≤ k + 1
theorem BI.start {nx : Nat → Nat → Nat} {nb ch to N : Nat} (ht : to < N) : BI nx nb ch to N 0 (fun c => if c = to then some 0 else none) (fun _ => to) 1 := by
  refine ⟨?_, fun j hj => ⟨ht, 0, Nat.zero_le _, by simp⟩, fun c hc h => ⟨0, by decide, ?_⟩, fun j j' _ _ k k' h1 h2 => ?_, fun _ j hj k k' h1 h2 => ?_, fun c hc => ?_, fun c hc k h => ?_, fun j hj => absurd hj (Nat.not_lt_zero _)⟩
  · rw [cntN_one (f := to) (fun j => by by_cases e : j = to <;> simp [e]) N, if_pos ht]
  · by_cases e : c = to
    · exact e.symm
    · simp [e] at h
  · simp at h1 h2; omega
  · simp at h1 h2; omega
  · by_cases e : c = to <;> simp [e]
  · by_cases e : c = to
    · simp [e] at h
    · simp [e] at h
/-- a new code f is found from x = Q i -/
theorem BI.find {nx : Nat → Nat → Nat} {nb ch to N i : Nat} {D : Nat → Option Nat} {Q : Nat → Nat} {m k0 f b : Nat} (h : BI nx nb ch to N i D Q m) (hi : i < m) (hk : D (Q i) = some k0) (hf : f < N) (hn : D f = none) (hb : b < nb) (hc : chB ch b = true) (hx : nx f b = Q i) :
    BI nx nb ch to N i (fun c => if c = f then some (k0 + 1) else D c) (fun j => if j = m then f else Q j) (m + 1) ∧ m < N := by
  obtain ⟨h1, h2, h3, h4, h5, h6, h7, h8⟩ := h
  have hQ : ∀ j, j < m → Q j ≠ f := fun j hj e => by
    obtain ⟨k, -, z⟩ := (h2 j hj).2
    rw [e, hn] at z; cases z
  have hk0 : k0 ≤ i := by
    obtain ⟨k, z1, z2⟩ := (h2 i hi).2
    rw [hk] at z2; cases z2; exact z1
  have hDQ : ∀ j, j < m → (if Q j = f then some (k0 + 1) else D (Q j)) = D (Q j) := fun j hj => if_neg (hQ j hj)
  have hcnt := cntN_set (p := fun c => (D c).isSome) (q := fun c => (if c = f then some (k0 + 1) else D c).isSome) (f := f) (by simp [hn]) (by simp) (fun j hj => by simp [hj]) N
  rw [if_pos hf] at hcnt
  have hmN := cntN_le (fun c => (if c = f then some (k0 + 1) else D c).isSome) N
  have hto : f ≠ to := fun e => by rw [(h6 f hf).mpr e] at hn; cases hn
  refine ⟨⟨by rw [hcnt, h1], fun j hj => ?_, fun c hc' hs => ?_, fun j j' hjj hj k k' e1 e2 => ?_, fun _ j hj k k' e1 e2 => ?_, fun c hc' => ?_, fun c hc' k e => ?_, fun j hji hj k e c hc' b' hb' hch hnx => ?_⟩, by omega⟩
  · by_cases e : j = m
    · simp only [e, if_pos]
      exact ⟨hf, k0 + 1, by omega, rfl⟩
    · simp only [if_neg e, hDQ j (by omega)]
      exact h2 j (by omega)
  · by_cases e : c = f
    · exact ⟨m, by omega, by simp [e]⟩
    · simp only [if_neg e] at hs
      obtain ⟨j, z1, z2⟩ := h3 c hc' hs
      exact ⟨j, by omega, by simp only [if_neg (show j ≠ m by omega)]; exact z2⟩
  · by_cases ej' : j' = m
    · by_cases ej : j = m
      · rw [ej] at e1; rw [ej'] at e2
        rw [e1] at e2; cases e2; exact Nat.le_refl _
      · simp only [if_neg ej, hDQ j (by omega)] at e1
        simp only [ej', if_pos] at e2
        cases e2
        exact h5 hi j (by omega) k0 k hk e1
    · have ej : j ≠ m := by omega
      simp only [if_neg ej, hDQ j (by omega)] at e1
      simp only [if_neg ej', hDQ j' (by omega)] at e2
      exact h4 j j' hjj (by omega) k k' e1 e2
  · have ei : i ≠ m := by omega
    simp only [if_neg ei, hDQ i hi] at e1
    rw [hk] at e1; cases e1
    by_cases ej : j = m
    · simp only [ej, if_pos] at e2
      cases e2; exact Nat.le_refl _
    · simp only [if_neg ej, hDQ j (by omega)] at e2
      exact h5 hi j (by omega) _ k' hk e2
  · by_cases e : c = f
    · subst e
      simp only [if_pos]
      constructor
      · intro z; cases z
      · intro z; exact absurd z hto
    · simp only [if_neg e]
      exact h6 c hc'
  · by_cases ec : c = f
    · subst ec
      simp only [if_pos] at e
      cases e
      refine ⟨b, hb, hc, ?_⟩
      simp only [hx]
      rw [hDQ i hi]
      exact hk
    · simp only [if_neg ec] at e
      obtain ⟨b', z1, z2, z3⟩ := h7 c hc' k e
      refine ⟨b', z1, z2, ?_⟩
      have : nx c b' ≠ f := fun z => by rw [z, hn] at z3; cases z3
      simp only [if_neg this]
      exact z3
  · have ej : j ≠ m := by omega
    simp only [if_neg ej] at hnx
    simp only [if_neg ej, hDQ j (by omega)] at e
    by_cases ec : c = f
    · subst ec
      obtain ⟨k', z1, z2⟩ := h8 j hji (by omega) k e c hc' b' hb' hch hnx
      rw [hn] at z1; cases z1
    · simp only [if_neg ec]
      exact h8 j hji (by omega) k e c hc' b' hb' hch hnx
/-- Q i is done -/
theorem BI.step {nx : Nat → Nat → Nat} {nb ch to N i : Nat} {D : Nat → Option Nat} {Q : Nat → Nat} {m k0 : Nat} (h : BI nx nb ch to N i D Q m) (hi : i < m) (hk : D (Q i) = some k0)
    (hd : ∀ c, c < N → ∀ b, b < nb → chB ch b = true → nx c b = Q i → ∃ k', D c = some k' ∧ k' ≤ k0 + 1) : BI nx nb ch to N (i + 1) D Q m := by
  obtain ⟨h1, h2, h3, h4, h5, h6, h7, h8⟩ := h
  refine ⟨h1, h2, h3, h4, fun hi' j hj k k' e1 e2 => ?_, h6, h7, fun j hji hj k e c hc' b' hb' hch hnx => ?_⟩
  · have z1 := h5 hi j hj k0 k' hk e2
    have z2 := h4 i (i + 1) (by omega) hi' k0 k hk e1
    omega
  · by_cases ej : j = i
    · subst ej
      rw [hk] at e; cases e
      exact hd c hc' b' hb' hch hnx
    · exact h8 j (by omega) hj k e c hc' b' hb' hch hnx
/-- all is done -/
theorem BI.done {nx : Nat → Nat → Nat} {nb ch to N i : Nat} {D : Nat → Option Nat} {Q : Nat → Nat} {m : Nat} (h : BI nx nb ch to N i D Q m) (hi : m ≤ i) : Dcl nx nb ch to N D := by
  obtain ⟨h1, h2, h3, h4, h5, h6, h7, h8⟩ := h
  refine ⟨h6, h7, fun x hx k e c hc b hb hch hnx => ?_⟩
  obtain ⟨j, z1, z2⟩ := h3 x hx (by rw [e]; rfl)
  exact h8 j (by omega) z1 k (by rw [z2]; exact e) c hc b hb hch (by rw [z2]; exact hnx)
theorem BI.k_lt {nx : Nat → Nat → Nat} {nb ch to N i : Nat} {D : Nat → Option Nat} {Q : Nat → Nat} {m : Nat} (h : BI nx nb ch to N i D Q m) (hN : N ≤ 256) : m ≤ 256 ∧ ∀ c, c < N → ∀ k, D c = some k → k < 256 := by
  obtain ⟨h1, h2, h3, h4, h5, h6, h7, h8⟩ := h
  have hm : m ≤ 256 := by have := cntN_le (fun c => (D c).isSome) N; omega
  refine ⟨hm, fun c hc k e => ?_⟩
  obtain ⟨j, z1, z2⟩ := h3 c hc (by rw [e]; rfl)
  obtain ⟨k', z3, z4⟩ := (h2 j z1).2
  rw [z2, e] at z4; cases z4
  omega
theorem oI_m1 {o : Option Nat} (h : ∀ k, o = some k → k < 2 ^ 31) : oI o = -1 ↔ o = none := by
  cases o with
  | none => simp [oI]
  | some k =>
    have hk := h k rfl
    simp only [oI]
    constructor
    · intro z
      have := nI_pos' hk
      rw [z] at this
      exact absurd this (by decide)
    · intro z; cases z
theorem nI_mod {a d : Nat} (ha : a < 2 ^ 31) (h0 : 0 < d) (hd : d < 2 ^ 31) : nI a % nI d = nI (a % d) := by
  rw [← irem_eq_mod, pk_rem ha h0 hd]
theorem i_chb : ∀ ch, ch < 64 → ∀ b, b < 6 → (nI ch >>> (nI b &&& 31)) &&& 1 = nI (ch / 2 ^ b % 2) := by decide +kernel
theorem chB_t {ch b : Nat} (h : nI (ch / 2 ^ b % 2) = 1) : chB ch b = true := by
  have h2 := Nat.mod_lt (ch / 2 ^ b) (show 2 > 0 by decide)
  exact decide_eq_true ((nI_eq (by omega) (by decide)).mp (show nI (ch / 2 ^ b % 2) = nI 1 from h))
theorem chB_f {ch b : Nat} (h : ¬ nI (ch / 2 ^ b % 2) = 1) : chB ch b = false := decide_eq_false fun z => h (by rw [z]; rfl)
