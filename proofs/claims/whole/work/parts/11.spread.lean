/-! Paths: a search -/
/-- what the search's cells hold -/
def BS (ρ : Rm) (D : Nat → Option Nat) (Q : Nat → Nat) (m : Nat) (σ : Mem) : Prop := (∀ c, c < 4 ^ rN ρ → σ.1 23 c = oI (D c)) ∧ (∀ j, j < m → σ.1 24 j = nI (Q j)) ∧ σ.1 20 4 = nI m
def RfP (ρ : Rm) (ch to i : Nat) (σ0 : Mem) : Option Value → Mem → Prop := fun r σ' => r = none ∧ (∃ D Q m, i < m ∧ BS ρ D Q m σ' ∧ BI (cNx ρ) (rB ρ) ch to (4 ^ rN ρ) (i + 1) D Q m) ∧ Eqo [20, 23, 24] σ0 σ'
theorem RP.eqo {ρ : Rm} {σ σ' : Mem} {S : List Nat} (h : RP ρ σ) (hE : Eqo S σ σ') (hS : (S.contains 11 || S.contains 12 || S.contains 14 || S.contains 15 || S.contains 16) = false) : RP ρ σ' := by
  simp only [Bool.or_eq_false_iff] at hS
  exact h.of (hE.at _ hS.1.1.1.1) (hE.at _ hS.1.1.1.2) (hE.at _ hS.1.1.2) (hE.at _ hS.1.2) (hE.at _ hS.2)
theorem RT.eqo {ρ : Rm} {σ σ' : Mem} {S : List Nat} (h : RT ρ σ) (hE : Eqo S σ σ') (hS : (S.contains 10 || S.contains 17 || S.contains 18 || S.contains 19) = false) : RT ρ σ' := by
  simp only [Bool.or_eq_false_iff] at hS
  exact h.of (hE.at _ hS.1.1.1) (hE.at _ hS.1.1.2) (hE.at _ hS.1.2) (hE.at _ hS.2)
theorem RE.eqo {ρ : Rm} {σ σ' : Mem} {S : List Nat} (h : RE ρ σ) (hE : Eqo S σ σ') (hS : (S.contains 21 || S.contains 22) = false) : RE ρ σ' := by
  simp only [Bool.or_eq_false_iff] at hS
  exact h.of (hE.at _ hS.1) (hE.at _ hS.2)
theorem BS.find {ρ : Rm} {D : Nat → Option Nat} {Q : Nat → Nat} {m f k : Nat} {σ : Mem} (h : BS ρ D Q m σ) : BS ρ (fun c => if c = f then some (k + 1) else D c) (fun j => if j = m then f else Q j) (m + 1) (uI (uI (uI σ 23 f (nI (k + 1))) 24 m (nI f)) 20 4 (nI (m + 1))) := by
  refine ⟨fun c hc => ?_, fun j hj => ?_, by simp [uI, upd]⟩
  · rw [uI_ne (by decide), uI_ne (by decide), uI_eq, upd]
    by_cases e : c = f
    · simp only [e, if_pos]; rfl
    · simp only [if_neg e]; exact h.1 c hc
  · rw [uI_ne (by decide), uI_eq, upd, uI_ne (by decide)]
    by_cases e : j = m
    · simp only [e, if_pos]
    · simp only [if_neg e]; exact h.2.1 j (by omega)
theorem p_div6 {f b : Nat} (hf : f < 256) (hb : b < 6) : nI (f * 6 + b) / 6 = nI f := by
  rw [show (6 : Int32) = nI 6 from rfl, pk_div (by omega) (by decide) (by decide)]
  congr 1; omega
theorem p_mod6 {f b : Nat} (hf : f < 256) (hb : b < 6) : nI (f * 6 + b) % 6 = nI b := by
  rw [show (6 : Int32) = nI 6 from rfl, nI_mod (by omega) (by decide) (by decide)]
  congr 1; omega

set_option maxRecDepth 100000 in
theorem qX1_reachFrom_loop {ρ : Rm} (hr : okR ρ) {ch to i x : Nat} (hch : ch < 64) {σ0 : Mem} (hRE : RE ρ σ0) (hx : x < 4 ^ rN ρ) : ∀ (n e : Nat) (σ : Mem) (D : Nat → Option Nat) (Q : Nat → Nat) (m k0 : Nat) (z5 z6 z7 : Option Value), e + n = eS ρ (x + 1) → eS ρ x ≤ e → Q i = x → i < m → D (Q i) = some k0 → BS ρ D Q m σ → BI (cNx ρ) (rB ρ) ch to (4 ^ rN ρ) i D Q m →
    (∀ idx, eS ρ x ≤ idx → idx < e → ∀ f b, f < 4 ^ rN ρ → b < rB ρ → σ.1 22 idx = nI (f * 6 + b) → chB ch b = true → ∃ k', D f = some k' ∧ k' ≤ k0 + 1) → Eqo [20, 23, 24] σ0 σ →
    Vj shX 1 mX1_reachFrom (RfP ρ ch to i σ0) 21 [some (.ref 20), some (.int (nI x)), some (.int (nI ch)), some (.int (nI (eS ρ (x + 1)))), some (.int (nI e)), z5, z6, z7] [] σ := by
  intro n
  induction n with
  | zero =>
    intro e σ D Q m k0 z5 z6 z7 he hge hQ hi hk hB hI hp hE
    have hp4 := p4_le hr.1
    have hL := eS_le hr (x + 1)
    have hE22 : σ.1 22 = σ0.1 22 := hE.at 22 rfl
    obtain rfl : e = eS ρ (x + 1) := by omega
    refine Vj_iload (q := 23) dX1_reachFrom_21 rfl rfl ?_
    refine Vj_iloadn (q := 24) dX1_reachFrom_23 rfl rfl rfl ?_
    refine Vj_icmp_ge (q := 27) (tgt := 123) dX1_reachFrom_24 (by decide) rfl (fun _ => ?_) (fun hz => absurd (nI_le (Nat.le_refl _) (by omega)) hz)
    refine Vr_vret rfl dX1_reachFrom_123 ?_
    refine ⟨rfl, ⟨D, Q, m, hi, hB, hI.step hi hk ?_⟩, hE⟩
    intro c hc b hb hcb hnx
    rw [hQ] at hnx
    by_cases ec : x = c
    · subst ec; rw [hQ] at hk; exact ⟨k0, hk, by omega⟩
    · obtain ⟨idx, g1, g2, g3⟩ := (hRE x hx).2.2.2 c b hc hb hnx ec
      exact hp idx g1 (by omega) c b hc hb (by rw [hE22, g3]) hcb
  | succ n ih =>
    intro e σ D Q m k0 z5 z6 z7 he hge hQ hi hk hB hI hp hE
    have hp4 := p4_le hr.1
    have hL := eS_le hr (x + 1)
    have hB6 := hr.2.2.1
    have hE22 : σ.1 22 = σ0.1 22 := hE.at 22 rfl
    obtain ⟨hm, hkl⟩ := hI.k_lt hp4
    obtain ⟨f, b, hf, hb, hfx, hxf, hed⟩ := (hRE x hx).2.2.1 e hge (by omega)
    have hk256 := hkl (Q i) (by rw [hQ]; exact hx) k0 hk
    -- the edge is known: which f, b an index holds
    have huniq : ∀ f' b', f' < 4 ^ rN ρ → b' < rB ρ → nI (f * 6 + b) = nI (f' * 6 + b') → f' = f ∧ b' = b := by
      intro f' b' h1 h2 h3
      have := (nI_eq (by omega) (by omega)).mp h3
      omega
    refine Vj_iload (q := 23) dX1_reachFrom_21 rfl rfl ?_
    refine Vj_iloadn (q := 24) dX1_reachFrom_23 rfl rfl rfl ?_
    refine Vj_icmp_ge (q := 27) (tgt := 123) dX1_reachFrom_24 (by decide) rfl (fun hz => absurd hz (nI_ge (by omega) (by omega))) (fun _ => ?_)
    refine Vj_aloadn (q := 28) dX1_reachFrom_27 rfl rfl rfl ?_
    refine Vj_getR (q := 31) flX1_15 rfl rfl dX1_reachFrom_28 rfl ?_
    refine Vj_iload (q := 33) dX1_reachFrom_31 rfl rfl ?_
    refine Vj_callSi (q := 36) (qX9_atn rfl (by decide) (j := e) (by omega)) (by decide) lkX1_44 stX9_at okX9_at dX1_reachFrom_33 rfl rfl (Nat.le_of_ble_eq_true rfl) ?_
    rw [hE22, hed]
    refine Vs_istore5 (q := 38) dX1_reachFrom_36 rfl (by decide) rfl ?_
    refine Vj_iload (q := 40) dX1_reachFrom_38 rfl rfl ?_
    refine Vj_bipush (q := 42) (v := 6) dX1_reachFrom_40 rfl (by decide) ?_
    refine Vj_idiv (q := 43) dX1_reachFrom_42 rfl (by decide) ?_
    rw [p_div6 (by omega) (by omega)]
    refine Vs_istore6 (q := 45) dX1_reachFrom_43 rfl (by decide) rfl ?_
    refine Vj_iload (q := 47) dX1_reachFrom_45 rfl rfl ?_
    refine Vj_bipush (q := 49) (v := 6) dX1_reachFrom_47 rfl (by decide) ?_
    refine Vj_irem (q := 50) dX1_reachFrom_49 rfl (by decide) ?_
    rw [p_mod6 (by omega) (by omega)]
    refine Vs_istore7 (q := 52) dX1_reachFrom_50 rfl (by decide) rfl ?_
    refine Vj_iloadn (q := 53) dX1_reachFrom_52 rfl rfl rfl ?_
    refine Vj_iload (q := 55) dX1_reachFrom_53 rfl rfl ?_
    refine Vj_ishr (q := 56) dX1_reachFrom_55 rfl ?_
    refine Vj_iconst (q := 57) (v := 1) dX1_reachFrom_56 rfl (by decide) ?_
    refine Vj_iand (q := 58) dX1_reachFrom_57 rfl ?_
    rw [i_chb _ hch _ (by omega)]
    refine Vj_iconst (q := 59) (v := 1) dX1_reachFrom_58 rfl (by decide) ?_
    refine Vj_icmp_ne (q := 62) (tgt := 117) dX1_reachFrom_59 (by decide) rfl (fun h59 => ?_) (fun h59 => ?_)
    ·
      refine Vs_iinc4 (q := 120) (z := none) dX1_reachFrom_117 rfl (by exact iinc_p _) (by decide) rfl ?_
      refine Vj_goto (q := 21) dX1_reachFrom_120 (by decide) ?_
      rw [nI_1]
      refine ih (e + 1) σ D Q m k0 _ _ _ (by omega) (by omega) hQ hi hk hB hI (fun idx g1 g2 f' b' g3 g4 g5 g6 => ?_) hE
      by_cases ei : idx = e
      · subst ei
        rw [hE22, hed] at g5
        obtain ⟨rfl, rfl⟩ := huniq f' b' g3 g4 g5
        rw [chB_f h59] at g6; cases g6
      · exact hp idx g1 (by omega) f' b' g3 g4 g5 g6
    ·
      refine Vj_aloadn (q := 63) dX1_reachFrom_62 rfl rfl rfl ?_
      refine Vj_getR (q := 66) flX1_18 rfl rfl dX1_reachFrom_63 rfl ?_
      refine Vj_iload (q := 68) dX1_reachFrom_66 rfl rfl ?_
      refine Vj_callSi (q := 71) (qX9_atn rfl (by decide) (j := f) (by omega)) (by decide) lkX1_44 stX9_at okX9_at dX1_reachFrom_68 rfl rfl (Nat.le_of_ble_eq_true rfl) ?_
      rw [hB.1 f hf]
      refine Vj_iconst (q := 72) (v := (-1)) dX1_reachFrom_71 rfl (by decide) ?_
      refine Vj_icmp_ne (q := 75) (tgt := 117) dX1_reachFrom_72 (by decide) rfl (fun h72 => ?_) (fun h72 => ?_)
      ·
        refine Vs_iinc4 (q := 120) (z := none) dX1_reachFrom_117 rfl (by exact iinc_p _) (by decide) rfl ?_
        refine Vj_goto (q := 21) dX1_reachFrom_120 (by decide) ?_
        rw [nI_1]
        refine ih (e + 1) σ D Q m k0 _ _ _ (by omega) (by omega) hQ hi hk hB hI (fun idx g1 g2 f' b' g3 g4 g5 g6 => ?_) hE
        by_cases ei : idx = e
        · subst ei
          rw [hE22, hed] at g5
          obtain ⟨rfl, rfl⟩ := huniq f' b' g3 g4 g5
          cases hDf : D f' with
          | none => rw [hDf] at h72; exact absurd rfl h72
          | some kf =>
            refine ⟨kf, rfl, ?_⟩
            obtain ⟨z1, z2, z3, z4, z5', z6', z7', z8⟩ := hI
            obtain ⟨jf, y1, y2⟩ := z3 f' hf (by rw [hDf]; rfl)
            exact z5' hi jf y1 k0 kf hk (by rw [y2]; exact hDf)
        · exact hp idx g1 (by omega) f' b' g3 g4 g5 g6
      ·
        have hcb := chB_t h59
        have hDf := (oI_m1 (fun k z => by have := hkl f hf k z; omega)).mp h72
        obtain ⟨hI2, hmN⟩ := hI.find hi hk hf hDf hb hcb (by rw [hQ]; exact hfx)
        refine Vj_aloadn (q := 76) dX1_reachFrom_75 rfl rfl rfl ?_
        refine Vj_getR (q := 79) flX1_18 rfl rfl dX1_reachFrom_76 rfl ?_
        refine Vj_iload (q := 81) dX1_reachFrom_79 rfl rfl ?_
        refine Vj_aloadn (q := 82) dX1_reachFrom_81 rfl rfl rfl ?_
        refine Vj_getR (q := 85) flX1_18 rfl rfl dX1_reachFrom_82 rfl ?_
        refine Vj_iloadn (q := 86) dX1_reachFrom_85 rfl rfl rfl ?_
        refine Vj_callSi (q := 89) (qX9_atn rfl (by decide) (j := x) (by omega)) (by decide) lkX1_44 stX9_at okX9_at dX1_reachFrom_86 rfl rfl (Nat.le_of_ble_eq_true rfl) ?_
        rw [hB.1 x hx, show D x = some k0 by rw [← hQ]; exact hk]
        refine Vj_iconst (q := 90) (v := 1) dX1_reachFrom_89 rfl (by decide) ?_
        refine Vj_iadd (q := 91) dX1_reachFrom_90 rfl ?_
        rw [show oI (some k0) + 1 = nI (k0 + 1) from nI_1 k0]
        refine Vj_callSv (q := 94) (qX9_putn rfl (by decide) (j := f) (by omega) _) (by decide) lkX1_48 stX9_put okX9_put dX1_reachFrom_91 rfl rfl (Nat.le_of_ble_eq_true rfl) ?_
        refine Vj_aloadn (q := 95) dX1_reachFrom_94 rfl rfl rfl ?_
        refine Vj_getR (q := 98) flX1_21 rfl rfl dX1_reachFrom_95 rfl ?_
        refine Vj_aloadn (q := 99) dX1_reachFrom_98 rfl rfl rfl ?_
        refine Vj_getI (q := 102) flX1_56 rfl rfl dX1_reachFrom_99 rfl ?_
        rw [uI_ne (by decide), hB.2.2]
        refine Vj_iload (q := 104) dX1_reachFrom_102 rfl rfl ?_
        refine Vj_callSv (q := 107) (qX9_putn rfl (by decide) (j := m) (by omega) _) (by decide) lkX1_48 stX9_put okX9_put dX1_reachFrom_104 rfl rfl (Nat.le_of_ble_eq_true rfl) ?_
        refine Vj_aloadn (q := 108) dX1_reachFrom_107 rfl rfl rfl ?_
        refine Vj_dup (q := 109) dX1_reachFrom_108 rfl rfl ?_
        refine Vj_getI (q := 112) flX1_56 rfl rfl dX1_reachFrom_109 rfl ?_
        rw [uI_ne (by decide), uI_ne (by decide), hB.2.2]
        refine Vj_iconst (q := 113) (v := 1) dX1_reachFrom_112 rfl (by decide) ?_
        refine Vj_iadd (q := 114) dX1_reachFrom_113 rfl ?_
        rw [nI_1]
        refine Vj_putI (q := 117) flX1_56 rfl rfl dX1_reachFrom_114 rfl ?_
        refine Vs_iinc4 (q := 120) (z := none) dX1_reachFrom_117 rfl (by exact iinc_p _) (by decide) rfl ?_
        refine Vj_goto (q := 21) dX1_reachFrom_120 (by decide) ?_
        rw [nI_1]
        have hQf : ∀ j, j < m → Q j ≠ f := fun j hj e => by
          obtain ⟨k, -, z⟩ := (hI.2.1 j hj).2
          rw [e, hDf] at z; cases z
        refine ih (e + 1) _ _ _ (m + 1) k0 _ _ _ (by omega) (by omega) ?_ (by omega) ?_ hB.find hI2 (fun idx g1 g2 f' b' g3 g4 g5 g6 => ?_) (((hE.u rfl).u rfl).u rfl)
        · rw [if_neg (show i ≠ m by omega)]; exact hQ
        · simp only [if_neg (show i ≠ m by omega), if_neg (hQf i hi)]; exact hk
        · rw [uI_ne (by decide), uI_ne (by decide), uI_ne (by decide)] at g5
          by_cases ef : f' = f
          · exact ⟨k0 + 1, by simp [ef], Nat.le_refl _⟩
          · simp only [if_neg ef]
            by_cases ei : idx = e
            · subst ei
              rw [hE22, hed] at g5
              exact absurd (huniq f' b' g3 g4 g5).1 ef
            · exact hp idx g1 (by omega) f' b' g3 g4 g5 g6
set_option maxRecDepth 100000 in
theorem qX1_reachFrom {ρ : Rm} (hr : okR ρ) {ch to i : Nat} (hch : ch < 64) {D : Nat → Option Nat} {Q : Nat → Nat} {m : Nat} {σ : Mem} (hRE : RE ρ σ) (hi : i < m) (hB : BS ρ D Q m σ) (hI : BI (cNx ρ) (rB ρ) ch to (4 ^ rN ρ) i D Q m) : Ct shX 1 mX1_reachFrom [.ref 20, .int (nI (Q i)), .int (nI ch)] σ (RfP ρ ch to i σ) := by
  have hp4 := p4_le hr.1
  have hx := (hI.2.1 i hi).1
  obtain ⟨k0, -, hk⟩ := (hI.2.1 i hi).2
  obtain ⟨e1, e2, -, -⟩ := hRE (Q i) hx
  refine Ct.of (by decide) (Nat.le_of_ble_eq_true rfl) (l := [some (.ref 20), some (.int (nI (Q i))), some (.int (nI ch)), none, none, none, none, none]) rfl ?_
  refine Vj_aloadn (q := 1) dX1_reachFrom_0 rfl rfl rfl ?_
  refine Vj_getR (q := 4) flX1_9 rfl rfl dX1_reachFrom_1 rfl ?_
  refine Vj_iloadn (q := 5) dX1_reachFrom_4 rfl rfl rfl ?_
  refine Vj_iconst (q := 6) (v := 1) dX1_reachFrom_5 rfl (by decide) ?_
  refine Vj_iadd (q := 7) dX1_reachFrom_6 rfl ?_
  rw [nI_1]
  refine Vj_callSi (q := 10) (qX9_atn rfl (by decide) (j := Q i + 1) (by omega)) (by decide) lkX1_44 stX9_at okX9_at dX1_reachFrom_7 rfl rfl (Nat.le_of_ble_eq_true rfl) ?_
  rw [e2]
  refine Vs_istore3 (q := 11) dX1_reachFrom_10 rfl (by decide) rfl ?_
  refine Vj_aloadn (q := 12) dX1_reachFrom_11 rfl rfl rfl ?_
  refine Vj_getR (q := 15) flX1_9 rfl rfl dX1_reachFrom_12 rfl ?_
  refine Vj_iloadn (q := 16) dX1_reachFrom_15 rfl rfl rfl ?_
  refine Vj_callSi (q := 19) (qX9_atn rfl (by decide) (j := Q i) (by omega)) (by decide) lkX1_44 stX9_at okX9_at dX1_reachFrom_16 rfl rfl (Nat.le_of_ble_eq_true rfl) ?_
  rw [e1]
  refine Vs_istore4 (q := 21) dX1_reachFrom_19 rfl (by decide) rfl ?_
  exact qX1_reachFrom_loop hr hch hRE hx (eS ρ (Q i + 1) - eS ρ (Q i)) (eS ρ (Q i)) σ D Q m k0 _ _ _ (by have := eS_mono (ρ := ρ) (show Q i ≤ Q i + 1 by omega); omega) (Nat.le_refl _) rfl hi hk hB hI (fun idx g1 g2 => absurd g1 (by omega)) Eqo.rf
/-- behind a search: distances, how many, the last one is the furthest -/
def SpR (ρ : Rm) (ch to : Nat) (σ0 σ' : Mem) : Prop := (∀ c, c < 4 ^ rN ρ → σ'.1 23 c = oI (dst (cNx ρ) (rB ρ) ch to c)) ∧ σ'.1 20 4 = nI (cntN (fun c => (dst (cNx ρ) (rB ρ) ch to c).isSome) (4 ^ rN ρ)) ∧
  (∃ z k, z < 4 ^ rN ρ ∧ σ'.1 24 (cntN (fun c => (dst (cNx ρ) (rB ρ) ch to c).isSome) (4 ^ rN ρ) - 1) = nI z ∧ dst (cNx ρ) (rB ρ) ch to z = some k ∧ ∀ c, c < 4 ^ rN ρ → ∀ k', dst (cNx ρ) (rB ρ) ch to c = some k' → k' ≤ k) ∧ Eqo [20, 23, 24] σ0 σ'
def SpP (ρ : Rm) (ch to : Nat) (σ0 : Mem) : Option Value → Mem → Prop := fun r σ' => r = some (.int (nI (cntN (fun c => (dst (cNx ρ) (rB ρ) ch to c).isSome) (4 ^ rN ρ)))) ∧ SpR ρ ch to σ0 σ'
theorem SpR.of {ρ : Rm} (hr : okR ρ) {ch to : Nat} {σ0 σ : Mem} {D : Nat → Option Nat} {Q : Nat → Nat} {m i : Nat} (hB : BS ρ D Q m σ) (hI : BI (cNx ρ) (rB ρ) ch to (4 ^ rN ρ) i D Q m) (h0 : 0 < m) (hi : m ≤ i) (hE : Eqo [20, 23, 24] σ0 σ) : m = cntN (fun c => (dst (cNx ρ) (rB ρ) ch to c).isSome) (4 ^ rN ρ) ∧ SpR ρ ch to σ0 σ := by
  have hd := (hI.done hi).dst (fun c hc b hb => cNx_lt hr hc hb) (hI.k_lt (p4_le hr.1)).2
  have hc : cntN (fun c => (dst (cNx ρ) (rB ρ) ch to c).isSome) (4 ^ rN ρ) = m := by
    rw [hI.1]
    exact cntN_congr _ (fun j hj => by rw [hd j hj])
  refine ⟨hc.symm, fun c hc => by rw [hd c hc]; exact hB.1 c hc, by rw [hc]; exact hB.2.2, ?_, hE⟩
  obtain ⟨z1, k, -, z3⟩ := hI.2.1 (m - 1) (by omega)
  refine ⟨Q (m - 1), k, z1, by rw [hc]; exact hB.2.1 _ (by omega), by rw [hd _ z1]; exact z3, fun c hc k' e => ?_⟩
  rw [hd c hc] at e
  obtain ⟨j, y1, y2⟩ := hI.2.2.1 c hc (by rw [e]; rfl)
  exact hI.2.2.2.1 j (m - 1) (by omega) (by omega) k' k (by rw [y2]; exact e) z3

set_option maxRecDepth 100000 in
theorem qX1_spread_loop {ρ : Rm} (hr : okR ρ) {ch to : Nat} (hch : ch < 64) {σ0 : Mem} (hRE : RE ρ σ0) : ∀ (n i : Nat) (σ : Mem) (D : Nat → Option Nat) (Q : Nat → Nat) (m : Nat), i + n = 256 → i ≤ m → 0 < m → BS ρ D Q m σ → BI (cNx ρ) (rB ρ) ch to (4 ^ rN ρ) i D Q m → Eqo [20, 23, 24] σ0 σ → Vj shX 2 mX1_spread (SpP ρ ch to σ0) 33 [some (.ref 20), some (.int (nI to)), some (.int (nI ch)), some (.int (nI i))] [] σ := by
  intro n
  induction n with
  | zero =>
    intro i σ D Q m hn him h0 hB hI hE
    obtain rfl : i = 256 := by omega
    have hm := (hI.k_lt (p4_le hr.1)).1
    obtain ⟨hc, hS⟩ := SpR.of hr hB hI h0 (by omega) hE
    refine Vj_iloadn (q := 34) dX1_spread_33 rfl rfl rfl ?_
    refine Vj_sipush (q := 37) (v := 256) dX1_spread_34 rfl (by decide) ?_
    refine Vj_icmp_ge (q := 40) (tgt := 67) dX1_spread_37 (by decide) rfl (fun _ => ?_) (fun hz => absurd (by decide) hz)
    refine Vj_aloadn (q := 68) dX1_spread_67 rfl rfl rfl ?_
    refine Vj_getI (q := 71) flX1_56 rfl rfl dX1_spread_68 rfl ?_
    rw [hB.2.2]
    exact Vr_iret rfl rfl dX1_spread_71 (⟨by rw [hc], hS⟩)
  | succ n ih =>
    intro i σ D Q m hn him h0 hB hI hE
    have hm := (hI.k_lt (p4_le hr.1)).1
    have hRE' := hRE.eqo hE rfl
    refine Vj_iloadn (q := 34) dX1_spread_33 rfl rfl rfl ?_
    refine Vj_sipush (q := 37) (v := 256) dX1_spread_34 rfl (by decide) ?_
    refine Vj_icmp_ge (q := 40) (tgt := 67) dX1_spread_37 (by decide) rfl (fun hz => absurd hz (nI_ge (show i < 256 by omega) (by decide))) (fun _ => ?_)
    refine Vj_iloadn (q := 41) dX1_spread_40 rfl rfl rfl ?_
    refine Vj_aloadn (q := 42) dX1_spread_41 rfl rfl rfl ?_
    refine Vj_getI (q := 45) flX1_56 rfl rfl dX1_spread_42 rfl ?_
    rw [hB.2.2]
    refine Vj_icmp_ge (q := 48) (tgt := 67) dX1_spread_45 (by decide) rfl (fun h45 => ?_) (fun h45 => ?_)
    ·
      have him2 : m ≤ i := (nI_leI (by omega) (by omega)).mp h45
      obtain ⟨hc, hS⟩ := SpR.of hr hB hI h0 him2 hE
      refine Vj_aloadn (q := 68) dX1_spread_67 rfl rfl rfl ?_
      refine Vj_getI (q := 71) flX1_56 rfl rfl dX1_spread_68 rfl ?_
      rw [hB.2.2]
      exact Vr_iret rfl rfl dX1_spread_71 (⟨by rw [hc], hS⟩)
    ·
      refine Vj_aloadn (q := 49) dX1_spread_48 rfl rfl rfl ?_
      refine Vj_aloadn (q := 50) dX1_spread_49 rfl rfl rfl ?_
      refine Vj_getR (q := 53) flX1_21 rfl rfl dX1_spread_50 rfl ?_
      refine Vj_iloadn (q := 54) dX1_spread_53 rfl rfl rfl ?_
      refine Vj_callSi (q := 57) (qX9_atn rfl (by decide) (j := i) (by omega)) (by decide) lkX1_44 stX9_at okX9_at dX1_spread_54 rfl rfl (Nat.le_of_ble_eq_true rfl) ?_
      have him2 : i < m := (nI_ltI (by omega) (by omega)).mp (Int32.not_le.mp h45)
      rw [hB.2.1 i him2]
      refine Vj_iloadn (q := 58) dX1_spread_57 rfl rfl rfl ?_
      refine Vj_callV (q := 61) (qX1_reachFrom hr hch hRE' him2 hB hI) (by decide) rfl rfl lkX1_59 viX1_reachFrom okX1_reachFrom dX1_spread_58 rfl rfl (Nat.le_of_ble_eq_true rfl) ?_
      rintro r σ1 ⟨rfl, ⟨D', Q', m', g1, g2, g3⟩, g4⟩
      show Vj shX 2 mX1_spread _ 61 _ [] σ1
      refine Vs_iinc3 (q := 64) (z := none) dX1_spread_61 rfl (by exact iinc_p _) (by decide) rfl ?_
      refine Vj_goto (q := 33) dX1_spread_64 (by decide) ?_
      rw [nI_1]
      exact ih (i + 1) σ1 D' Q' m' (by omega) g1 (by omega) g2 g3 ((hE.tr g4).in rfl)
set_option maxRecDepth 100000 in
theorem qX1_spread {ρ : Rm} (hr : okR ρ) {ch to : Nat} (hch : ch < 64) (hto : to < 4 ^ rN ρ) {σ : Mem} (hRE : RE ρ σ) : Ct shX 2 mX1_spread [.ref 20, .int (nI to), .int (nI ch)] σ (SpP ρ ch to σ) := by
  have hp4 := p4_le hr.1
  refine Ct.of (by decide) (Nat.le_of_ble_eq_true rfl) (l := [some (.ref 20), some (.int (nI to)), some (.int (nI ch)), none]) rfl ?_
  refine Vj_aloadn (q := 1) dX1_spread_0 rfl rfl rfl ?_
  refine Vj_getR (q := 4) flX1_18 rfl rfl dX1_spread_1 rfl ?_
  refine Vj_iconst (q := 5) (v := (-1)) dX1_spread_4 rfl (by decide) ?_
  refine Vj_callSv (q := 8) (qJ7_fill_53178 rfl (by decide) (-1)) (by decide) lkX1_24 stJ7_fill_53178 okJ7_fill_53178 dX1_spread_5 rfl rfl (Nat.le_of_ble_eq_true rfl) ?_
  refine Vj_aloadn (q := 9) dX1_spread_8 rfl rfl rfl ?_
  refine Vj_getR (q := 12) flX1_18 rfl rfl dX1_spread_9 rfl ?_
  refine Vj_iloadn (q := 13) dX1_spread_12 rfl rfl rfl ?_
  refine Vj_iconst (q := 14) (v := 0) dX1_spread_13 rfl (by decide) ?_
  refine Vj_callSv (q := 17) (qX9_putn rfl (by decide) (j := to) (by omega) (nI 0)) (by decide) lkX1_48 stX9_put okX9_put dX1_spread_14 rfl rfl (Nat.le_of_ble_eq_true rfl) ?_
  refine Vj_aloadn (q := 18) dX1_spread_17 rfl rfl rfl ?_
  refine Vj_getR (q := 21) flX1_21 rfl rfl dX1_spread_18 rfl ?_
  refine Vj_iconst (q := 22) (v := 0) dX1_spread_21 rfl (by decide) ?_
  refine Vj_iloadn (q := 23) dX1_spread_22 rfl rfl rfl ?_
  refine Vj_callSv (q := 26) (qX9_putn rfl (by decide) (j := 0) (by decide) (nI to)) (by decide) lkX1_48 stX9_put okX9_put dX1_spread_23 rfl rfl (Nat.le_of_ble_eq_true rfl) ?_
  refine Vj_aloadn (q := 27) dX1_spread_26 rfl rfl rfl ?_
  refine Vj_iconst (q := 28) (v := 1) dX1_spread_27 rfl (by decide) ?_
  refine Vj_putI (q := 31) flX1_56 rfl rfl dX1_spread_28 rfl ?_
  refine Vj_iconst (q := 32) (v := 0) dX1_spread_31 rfl (by decide) ?_
  refine Vs_istore3 (q := 33) dX1_spread_32 rfl (by decide) rfl ?_
  refine qX1_spread_loop hr hch hRE 256 0 _ (fun c => if c = to then some 0 else none) (fun _ => to) 1 (by omega) (by omega) (by omega) ⟨fun c hc => ?_, fun j hj => ?_, by simp [uI, upd, nI]⟩ (BI.start hto) ((((Eqo.rf.fill rfl).u rfl).u rfl).u rfl)
  · rw [uI_ne (by decide), uI_ne (by decide), uI_eq, upd, fillM_eq]
    by_cases e : c = to
    · simp only [e, if_pos]; rfl
    · simp only [if_neg e]; rw [if_pos (show c < 256 by omega)]; rfl
  · obtain rfl : j = 0 := by omega
    rw [uI_ne (by decide), uI_eq, upd, if_pos rfl]
set_option maxRecDepth 100000 in
theorem qX1_distanceOf {σ : Mem} {c : Nat} (hc : c < 256) : Ct shX 1 mX1_distanceOf [.ref 20, .int (nI c)] σ (Ri (σ.1 23 c) σ) := by
  refine Ct.of (by decide) (Nat.le_of_ble_eq_true rfl) (l := [some (.ref 20), some (.int (nI c))]) rfl ?_
  refine Vj_aloadn (q := 1) dX1_distanceOf_0 rfl rfl rfl ?_
  refine Vj_getR (q := 4) flX1_18 rfl rfl dX1_distanceOf_1 rfl ?_
  refine Vj_iloadn (q := 5) dX1_distanceOf_4 rfl rfl rfl ?_
  refine Vj_callSi (q := 8) (qX9_atn rfl (by decide) (j := c) hc) (by decide) lkX1_44 stX9_at okX9_at dX1_distanceOf_5 rfl rfl (Nat.le_of_ble_eq_true rfl) ?_
  exact Vr_iret rfl rfl dX1_distanceOf_8 (⟨rfl, rfl⟩)
set_option maxRecDepth 100000 in
theorem qX1_greatestDistance {σ : Mem} {m z : Nat} (hm : σ.1 20 4 = nI m) (h0 : 0 < m) (hm2 : m ≤ 256) (hz : σ.1 24 (m - 1) = nI z) (hz2 : z < 256) : Ct shX 1 mX1_greatestDistance [.ref 20] σ (Ri (σ.1 23 z) σ) := by
  refine Ct.of (by decide) (Nat.le_of_ble_eq_true rfl) (l := [some (.ref 20)]) rfl ?_
  refine Vj_aloadn (q := 1) dX1_greatestDistance_0 rfl rfl rfl ?_
  refine Vj_getR (q := 4) flX1_18 rfl rfl dX1_greatestDistance_1 rfl ?_
  refine Vj_aloadn (q := 5) dX1_greatestDistance_4 rfl rfl rfl ?_
  refine Vj_getR (q := 8) flX1_21 rfl rfl dX1_greatestDistance_5 rfl ?_
  refine Vj_aloadn (q := 9) dX1_greatestDistance_8 rfl rfl rfl ?_
  refine Vj_getI (q := 12) flX1_56 rfl rfl dX1_greatestDistance_9 rfl ?_
  rw [hm]
  refine Vj_iconst (q := 13) (v := 1) dX1_greatestDistance_12 rfl (by decide) ?_
  refine Vj_isub (q := 14) dX1_greatestDistance_13 rfl ?_
  rw [show (1 : Int32) = nI 1 from rfl, pk_sub h0]
  refine Vj_callSi (q := 17) (qX9_atn rfl (by decide) (j := m - 1) (by omega)) (by decide) lkX1_44 stX9_at okX9_at dX1_greatestDistance_14 rfl rfl (Nat.le_of_ble_eq_true rfl) ?_
  rw [hz]
  refine Vj_callSi (q := 20) (qX9_atn rfl (by decide) (j := z) hz2) (by decide) lkX1_44 stX9_at okX9_at dX1_greatestDistance_17 rfl rfl (Nat.le_of_ble_eq_true rfl) ?_
  exact Vr_iret rfl rfl dX1_greatestDistance_20 (⟨rfl, rfl⟩)
