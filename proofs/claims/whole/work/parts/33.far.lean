/-! the reference: distances by sweeps -/
/-- distances up to d -/
def gd (ρ : Rm) (ch to d c : Nat) : Option Nat := fstN (fun k => wi (cNx ρ) (rB ρ) ch to k c) (d + 1)
def o9 : Option Nat → Int32
  | none => -9
  | some k => nI k
theorem o9_n {o : Option Nat} (h : ∀ k, o = some k → k < 2 ^ 31) : o9 o = -9 ↔ o = none := by
  cases o with
  | none => exact ⟨fun _ => rfl, fun _ => rfl⟩
  | some k => exact ⟨fun z => absurd z (nI_nm9 (h k rfl)), fun z => by cases z⟩
theorem o9_s {o : Option Nat} {d : Nat} (hd : d < 2 ^ 31) (h : ∀ k, o = some k → k < 2 ^ 31) : o9 o = nI d ↔ o = some d := by
  cases o with
  | none => exact ⟨fun z => absurd z.symm (nI_nm9 hd), fun z => by cases z⟩
  | some k =>
    constructor
    · intro z
      rw [(nI_eq (h k rfl) hd).mp z]
    · intro z; cases z; rfl
theorem gd_lt {ρ : Rm} {ch to d c k : Nat} (h : gd ρ ch to d c = some k) : k ≤ d := by
  have := ((fstN_some _).mp h).1
  omega
theorem gd_0 {ρ : Rm} {ch to c : Nat} : gd ρ ch to 0 c = if c = to then some 0 else none := by
  show (if wi _ _ _ _ 0 c then some 0 else none) = _
  rw [wi]
  by_cases e : c = to
  · rw [if_pos e, if_pos (by rw [e]; exact beq_self_eq_true to)]
  · rw [if_neg e, if_neg (by rw [beq_iff_eq]; exact e)]
theorem gd_s {ρ : Rm} {ch to d c : Nat} : gd ρ ch to (d + 1) c = match gd ρ ch to d c with
    | some k => some k
    | none => if wi (cNx ρ) (rB ρ) ch to (d + 1) c then some (d + 1) else none := rfl
theorem gd_w {ρ : Rm} {ch to d c : Nat} (h : gd ρ ch to d c = none) : wi (cNx ρ) (rB ρ) ch to (d + 1) c = true ↔ ∃ b, b < rB ρ ∧ chB ch b = true ∧ gd ρ ch to d (cNx ρ c b) = some d := by
  have hn := (fstN_none _).mp h
  rw [wi_s]
  constructor
  · rintro (z | ⟨b, h1, h2, h3⟩)
    · rw [hn d (Nat.lt_succ_self d)] at z; cases z
    · refine ⟨b, h1, h2, ?_⟩
      cases e : gd ρ ch to d (cNx ρ c b) with
      | none =>
        have := (fstN_none _).mp e d (Nat.lt_succ_self d)
        rw [h3] at this; cases this
      | some k =>
        have hk := (fstN_some _).mp e
        by_cases ek : k = d
        · rw [ek]
        · have := hn (k + 1) (by have := hk.1; omega)
          rw [wi_s.mpr (Or.inr ⟨b, h1, h2, hk.2.1⟩)] at this
          cases this
  · rintro ⟨b, h1, h2, h3⟩
    exact Or.inr ⟨b, h1, h2, ((fstN_some _).mp h3).2.1⟩
theorem gd_d {ρ : Rm} {ch to d c : Nat} : gd ρ ch to (d + 1) c = some d ↔ gd ρ ch to d c = some d := by
  rw [gd_s]
  cases e : gd ρ ch to d c with
  | some k => exact Iff.rfl
  | none =>
    constructor
    · intro z
      by_cases e2 : wi (cNx ρ) (rB ρ) ch to (d + 1) c = true
      · simp only [e2, if_true] at z; cases z
      · simp only [e2] at z; cases z
    · intro z; cases z
theorem gd_up {ρ : Rm} {ch to d c k : Nat} (h : gd ρ ch to d c = some k) : gd ρ ch to (d + 1) c = some k := by rw [gd_s, h]
theorem gd_st {ρ : Rm} (hr : okR ρ) {ch to d : Nat} (hd : d < 256) (h : ∀ c, cV ρ c → gd ρ ch to (d + 1) c = gd ρ ch to d c) : ∀ c, cV ρ c → dst (cNx ρ) (rB ρ) ch to c = gd ρ ch to d c := by
  have key : ∀ j c, cV ρ c → wi (cNx ρ) (rB ρ) ch to (d + j) c = true → wi (cNx ρ) (rB ρ) ch to d c = true := by
    intro j
    induction j with
    | zero => intro c _ z; exact z
    | succ j ih =>
      intro c hc z
      rcases wi_s.mp z with z | ⟨b, h1, h2, h3⟩
      · exact ih c hc z
      · have z2 := ih _ (cV_nx hr hc h1) h3
        have z3 := wi_s.mpr (Or.inr ⟨b, h1, h2, z2⟩)
        cases e : gd ρ ch to d c with
        | some k =>
          have hk := (fstN_some _).mp e
          exact wi_mono (by have := hk.1; omega) hk.2.1
        | none =>
          have e2 := h c hc
          rw [e] at e2
          have := (fstN_none _).mp e2 (d + 1) (by omega)
          rw [z3] at this; cases this
  intro c hc
  unfold dst
  cases e : gd ρ ch to d c with
  | some k =>
    have hk := (fstN_some _).mp e
    exact (fstN_some _).mpr ⟨by omega, hk.2.1, hk.2.2⟩
  | none =>
    have hn := (fstN_none _).mp e
    refine (fstN_none _).mpr fun j _ => Bool.eq_false_iff.mpr fun z => ?_
    by_cases ej : j ≤ d
    · rw [hn j (by omega)] at z; cases z
    · have z2 := key (j - d) c hc (by rw [show d + (j - d) = j by omega]; exact z)
      rw [hn d (by omega)] at z2; cases z2
theorem wi_inv {ρ : Rm} {ch to c : Nat} (hc : cOk ρ c = false) : ∀ k, wi (cNx ρ) (rB ρ) ch to k c = (c == to)
  | 0 => rfl
  | k + 1 => by
    have e : ∀ b, cNx ρ c b = c := fun b => by unfold cNx; rw [hc]; rfl
    have ih := wi_inv (ch := ch) (to := to) hc k
    cases e2 : (c == to) with
    | true => exact wi_s.mpr (Or.inl (by rw [ih]; exact e2))
    | false =>
      refine Bool.eq_false_iff.mpr fun z => ?_
      rcases wi_s.mp z with z | ⟨b, -, -, z⟩
      · rw [ih, e2] at z; cases z
      · rw [e, ih, e2] at z; cases z
theorem dst_inv {ρ : Rm} {ch to c : Nat} (ht : cV ρ to) (hc : ¬ cV ρ c) (hl : c < 4 ^ rN ρ) : dst (cNx ρ) (rB ρ) ch to c = none := by
  have hf : cOk ρ c = false := Bool.eq_false_iff.mpr fun z => hc ⟨hl, z⟩
  refine (fstN_none _).mpr fun j _ => ?_
  rw [wi_inv hf, beq_eq_false_iff_ne]
  rintro rfl
  exact hc ht
theorem mxD_q {D : Nat → Option Nat} {d : Nat} : ∀ n, (∀ c, c < n → (D c).getD 0 ≤ d) → mxD D n ≤ d ∧ ((∃ c, c < n ∧ D c = some d) → mxD D n = d)
  | 0, _ => ⟨Nat.zero_le _, fun ⟨c, hc, _⟩ => absurd hc (Nat.not_lt_zero c)⟩
  | n + 1, h => by
    have ih := mxD_q n (fun c hc => h c (by omega))
    have h1 := h n (Nat.lt_succ_self n)
    rw [mxD]
    refine ⟨by omega, ?_⟩
    rintro ⟨c, hc, e⟩
    by_cases ec : c = n
    · rw [ec] at e
      rw [e]
      show max _ d = d
      omega
    · have := ih.2 ⟨c, by omega, e⟩
      omega
theorem cntN_fl (p : Nat → Bool) : ∀ n, cntN p n = ((List.range n).filter p).length
  | 0 => rfl
  | n + 1 => by
    rw [cntN, List.range_succ, List.filter_append, List.length_append, cntN_fl p n]
    by_cases e : p n = true
    · rw [if_pos e, List.filter_cons_of_pos e]; rfl
    · rw [if_neg e, List.filter_cons_of_neg e]; rfl
theorem cntN_mc {ρ : Rm} (hr : okR ρ) {p : Nat → Bool} (hp : ∀ c, c < 4 ^ rN ρ → p c = true → cOk ρ c = true) : cntN p (4 ^ rN ρ) = cntN (fun m => p (mc ρ m)) (mN ρ) := by
  rw [cntN_fl, cntN_fl]
  have e : (List.range (4 ^ rN ρ)).filter p = ((List.range (mN ρ)).map (mc ρ)).filter p := by
    rw [← rcs_mc hr, rcs, List.filter_filter]
    refine List.filter_congr fun c hc => ?_
    have := hp c (List.mem_range.mp hc)
    cases e : p c with
    | false => rfl
    | true => rw [this e]; rfl
  rw [e, List.filter_map, List.length_map]
  rfl
theorem cntN_lt {p q : Nat → Bool} (h : ∀ j, q j = true → p j = true) : ∀ n, cntN q n ≤ cntN p n ∧ ((∃ f, f < n ∧ p f = true ∧ q f = false) → cntN q n < cntN p n)
  | 0 => ⟨Nat.le_refl _, fun ⟨f, hf, _⟩ => absurd hf (Nat.not_lt_zero f)⟩
  | n + 1 => by
    have ih := cntN_lt h n
    have hn := h n
    have e : cntN q n + (if q n = true then 1 else 0) ≤ cntN p n + (if p n = true then 1 else 0) := by
      cases e1 : q n with
      | true => rw [hn e1]; have := ih.1; simp; omega
      | false => have := ih.1; simp; omega
    rw [cntN, cntN]
    refine ⟨e, ?_⟩
    rintro ⟨f, hf, h1, h2⟩
    by_cases ef : f = n
    · subst ef
      rw [h1, h2]
      have := ih.1
      simp; omega
    · have := ih.2 ⟨f, by omega, h1, h2⟩
      cases e1 : q n with
      | true => rw [hn e1]; simp; omega
      | false => simp; omega
/-- a new one among the first i messes -/
def nwK (ρ : Rm) (ch to d : Nat) : Nat → Bool
  | 0 => false
  | i + 1 => nwK ρ ch to d i || ((gd ρ ch to d (mc ρ i)).isNone && (gd ρ ch to (d + 1) (mc ρ i)).isSome)
theorem nwK_f {ρ : Rm} {ch to d : Nat} : ∀ n, nwK ρ ch to d n = false → ∀ i, i < n → gd ρ ch to (d + 1) (mc ρ i) = gd ρ ch to d (mc ρ i)
  | 0, _, i, hi => absurd hi (Nat.not_lt_zero i)
  | n + 1, h, i, hi => by
    rw [nwK, Bool.or_eq_false_iff] at h
    by_cases e : i = n
    · subst e
      cases e1 : gd ρ ch to d (mc ρ i) with
      | some k => rw [gd_up e1]
      | none =>
        have h2 := h.2
        rw [e1] at h2
        cases e2 : gd ρ ch to (d + 1) (mc ρ i) with
        | none => rfl
        | some k => rw [e2] at h2; cases h2
    · exact nwK_f n h.1 i (by omega)
theorem nwK_t {ρ : Rm} {ch to d : Nat} : ∀ n, nwK ρ ch to d n = true → ∃ i, i < n ∧ gd ρ ch to d (mc ρ i) = none ∧ gd ρ ch to (d + 1) (mc ρ i) = some (d + 1)
  | 0, h => by cases h
  | n + 1, h => by
    rw [nwK, Bool.or_eq_true] at h
    rcases h with h | h
    · obtain ⟨i, h1, h2⟩ := nwK_t n h
      exact ⟨i, by omega, h2⟩
    · rw [Bool.and_eq_true, Option.isNone_iff_eq_none] at h
      refine ⟨n, Nat.lt_succ_self n, h.1, ?_⟩
      have h2 := h.2
      rw [gd_s, h.1] at h2 ⊢
      by_cases e : wi (cNx ρ) (rB ρ) ch to (d + 1) (mc ρ n) = true
      · simp only [e, if_true]
      · simp only [e] at h2; cases h2
def nnK (ρ : Rm) (ch to d : Nat) : Nat := cntN (fun m => (gd ρ ch to d (mc ρ m)).isNone) (mN ρ)
theorem nnK_lt {ρ : Rm} {ch to d : Nat} (h : nwK ρ ch to d (mN ρ) = true) : nnK ρ ch to (d + 1) < nnK ρ ch to d := by
  obtain ⟨i, h1, h2, h3⟩ := nwK_t _ h
  refine (cntN_lt (fun j hj => ?_) (mN ρ)).2 ⟨i, h1, by rw [h2]; rfl, by rw [h3]; rfl⟩
  cases e : gd ρ ch to d (mc ρ j) with
  | none => rfl
  | some k => rw [gd_up e] at hj; cases hj
/-- what the sweep d has behind i messes -/
def FM (ρ : Rm) (ch to d i : Nat) (σ : Mem) : Prop := ∀ c, cV ρ c → σ.1 12 (cm ρ c) = o9 (if cm ρ c < i then gd ρ ch to (d + 1) c else gd ρ ch to d c)
def LfM (ρ : Rm) (ch to : Nat) (σ : Mem) : Prop := ∀ c, cV ρ c → σ.1 12 (cm ρ c) = o9 (dst (cNx ρ) (rB ρ) ch to c)
theorem RoM.far {ρ : Rm} {σ σ' : Mem} (h : RoM ρ σ) (hE : Eqo [12] σ σ') : RoM ρ σ' := h.of (by rw [hE.at 0 rfl]) (by rw [hE.at 0 rfl]) (by rw [hE.at 0 rfl]) (hE.at 1 rfl) (hE.at 2 rfl) (hE.at 3 rfl) (hE.at 4 rfl) (hE.at 5 rfl)
theorem TaM.far {ρ : Rm} {σ σ' : Mem} (h : TaM ρ σ) (hE : Eqo [12] σ σ') : TaM ρ σ' := h.of (hE.at 6 rfl)
theorem o9_g {ρ : Rm} {ch to d c k : Nat} (hd : d < 256) (h : gd ρ ch to d c = some k) : k < 2 ^ 31 := by have := gd_lt h; omega

set_option maxRecDepth 100000 in
/-- the buttons of one mess -/
theorem qX10_layFar_b {ρ : Rm} {σ0 : Mem} (h : RoM ρ σ0) (hTa : TaM ρ σ0) {ch to : Nat} (hch : ch < 64) {d i : Nat} (hd : d < 256) (hi : i < mN ρ) {Post : Option Value → Mem → Prop} {mo : Bool}
    (kk : ∀ (σ : Mem) (z6 : Option Value), FM ρ ch to d (i + 1) σ → Eqo [12] σ0 σ → Vj shM 1 mX10_layFar Post 133 [some (.ref 0), some (.int (nI (cm ρ to))), some (.int (nI ch)), some (.int (nI d)), some (.int (bI (mo || ((gd ρ ch to d (mc ρ i)).isNone && (gd ρ ch to (d + 1) (mc ρ i)).isSome)))), some (.int (nI i)), z6] [] σ) :
    ∀ (k b : Nat) (σ : Mem), b + k = rB ρ → gd ρ ch to d (mc ρ i) = none → (∀ b', b' < b → chB ch b' = true → gd ρ ch to d (cNx ρ (mc ρ i) b') ≠ some d) → FM ρ ch to d i σ → Eqo [12] σ0 σ → Vj shM 1 mX10_layFar Post 61 [some (.ref 0), some (.int (nI (cm ρ to))), some (.int (nI ch)), some (.int (nI d)), some (.int (bI mo)), some (.int (nI i)), some (.int (nI b))] [] σ := by
  have hr := h.1
  have hci := mc_cV hr hi
  have ecm := cm_mc hr hi
  have hM := mN_le hr
  have hB7 := hr.2.2.1
  have fmn : ∀ {σ : Mem}, FM ρ ch to d i σ → gd ρ ch to (d + 1) (mc ρ i) = gd ρ ch to d (mc ρ i) → FM ρ ch to d (i + 1) σ := by
    intro σ hF e c hc
    have := hF c hc
    rw [this]
    by_cases e1 : cm ρ c = i
    · have : c = mc ρ i := by rw [← e1, mc_cm hr hc]
      subst this
      rw [if_neg (by omega), if_pos (by omega), e]
    · by_cases e2 : cm ρ c < i
      · rw [if_pos e2, if_pos (by omega)]
      · rw [if_neg e2, if_neg (by omega)]
  intro k
  induction k with
  | zero =>
    intro b σ hb hn hall hF hE
    obtain rfl : b = rB ρ := by omega
    have hP := h.far hE
    have e1 : gd ρ ch to (d + 1) (mc ρ i) = none := by
      rw [gd_s, hn]
      refine if_neg fun z => ?_
      obtain ⟨b, h1, h2, h3⟩ := (gd_w hn).mp z
      exact hall b h1 h2 h3
    refine Vj_iload (q := 63) dX10_layFar_61 rfl rfl ?_
    refine Vj_aloadn (q := 64) dX10_layFar_63 rfl rfl rfl ?_
    refine Vj_getI (q := 67) flX10_114 rfl rfl dX10_layFar_64 rfl ?_
    rw [hP.2.2.1]
    refine Vj_icmp_ge (q := 70) (tgt := 133) dX10_layFar_67 (by decide) rfl (fun _ => ?_) (fun hz => absurd (nI_le (by omega) (by omega)) hz)
    have kk := kk σ (some (.int (nI (rB ρ)))) (fmn hF (by rw [e1, hn])) hE
    rw [hn, e1, show (mo || ((none : Option Nat).isNone && (none : Option Nat).isSome)) = mo by cases mo <;> rfl] at kk
    exact kk
  | succ k ih =>
    intro b σ hb hn hall hF hE
    have hP := h.far hE
    have hT := hTa.far hE
    have hcn := cV_nx hr hci (b := b) (by omega)
    have hcl := cm_lt hr hcn
    have e9 : σ.1 12 i = -9 := by
      have := hF _ hci
      rw [ecm, if_neg (Nat.lt_irrefl i), hn] at this
      exact this
    have eT : σ.1 6 (256 * b + i) = nI (cm ρ (cNx ρ (mc ρ i) b)) := by
      have := hT b (by omega) _ hci
      rw [ecm] at this
      exact this
    have eF : σ.1 12 (cm ρ (cNx ρ (mc ρ i) b)) = nI d ↔ gd ρ ch to d (cNx ρ (mc ρ i) b) = some d := by
      rw [hF _ hcn]
      by_cases e : cm ρ (cNx ρ (mc ρ i) b) < i
      · rw [if_pos e, o9_s (by omega) (fun k hk => by have := gd_lt hk; omega), gd_d]
      · rw [if_neg e, o9_s (by omega) (fun k hk => o9_g hd hk)]
    refine Vj_iload (q := 63) dX10_layFar_61 rfl rfl ?_
    refine Vj_aloadn (q := 64) dX10_layFar_63 rfl rfl rfl ?_
    refine Vj_getI (q := 67) flX10_114 rfl rfl dX10_layFar_64 rfl ?_
    rw [hP.2.2.1]
    refine Vj_icmp_ge (q := 70) (tgt := 133) dX10_layFar_67 (by decide) rfl (fun hz => absurd hz (nI_ge (by omega) (by omega))) (fun _ => ?_)
    refine Vj_aloadn (q := 71) dX10_layFar_70 rfl rfl rfl ?_
    refine Vj_getR (q := 74) flX10_43 rfl rfl dX10_layFar_71 rfl ?_
    refine Vj_iload (q := 76) dX10_layFar_74 rfl rfl ?_
    refine Vj_iald (q := 77) rfl (vp_in_nI (by omega) (by decide)) dX10_layFar_76 rfl ?_
    rw [nI_clamp (by omega), e9]
    refine Vj_bipush (q := 79) (v := (-9)) dX10_layFar_77 rfl (by decide) ?_
    refine Vj_icmp_ne (q := 82) (tgt := 133) dX10_layFar_79 (by decide) rfl (fun hz => absurd rfl hz) (fun _ => ?_)
    refine Vj_iloadn (q := 83) dX10_layFar_82 rfl rfl rfl ?_
    refine Vj_iload (q := 85) dX10_layFar_83 rfl rfl ?_
    refine Vj_callSi (q := 88) (qX10_has (k := ch) (b := b) hch (by omega)) (by decide) lkX10_89 stX10_has okX10_has dX10_layFar_85 rfl rfl (Nat.le_of_ble_eq_true rfl) ?_
    refine Vj_if_eq (q := 91) (tgt := 127) dX10_layFar_88 (by decide) rfl (fun h88 => ?_) (fun h88 => ?_)
    ·
      refine Vs_iinc6 (q := 130) (z := none) dX10_layFar_127 rfl (by exact iinc_p _) (by decide) rfl ?_
      refine Vj_goto (q := 61) dX10_layFar_130 (by decide) ?_
      rw [nI_1]
      refine ih (b + 1) σ (by omega) hn (fun b' hb' hc' => ?_) hF hE
      by_cases e : b' = b
      · subst e
        exact absurd hc' (by rw [show chB ch b' = false from bI_f0 h88]; decide)
      · exact hall b' (by omega) hc'
    ·
      refine Vj_aloadn (q := 92) dX10_layFar_91 rfl rfl rfl ?_
      refine Vj_getR (q := 95) flX10_43 rfl rfl dX10_layFar_92 rfl ?_
      refine Vj_aloadn (q := 96) dX10_layFar_95 rfl rfl rfl ?_
      refine Vj_getR (q := 99) flX10_25 rfl rfl dX10_layFar_96 rfl ?_
      refine Vj_sipush (q := 102) (v := 256) dX10_layFar_99 rfl (by decide) ?_
      refine Vj_iload (q := 104) dX10_layFar_102 rfl rfl ?_
      refine Vj_imul (q := 105) dX10_layFar_104 rfl ?_
      refine Vj_iload (q := 107) dX10_layFar_105 rfl rfl ?_
      refine Vj_iadd (q := 108) dX10_layFar_107 rfl ?_
      rw [i_256]
      refine Vj_iald (q := 109) rfl (vp_in_nI (by omega) (by decide)) dX10_layFar_108 rfl ?_
      rw [nI_clamp (by omega), eT]
      refine Vj_iald (q := 110) rfl (vp_in_nI (by omega) (by decide)) dX10_layFar_109 rfl ?_
      rw [nI_clamp (by omega)]
      refine Vj_iloadn (q := 111) dX10_layFar_110 rfl rfl rfl ?_
      refine Vj_icmp_ne (q := 114) (tgt := 127) dX10_layFar_111 (by decide) rfl (fun h111 => ?_) (fun h111 => ?_)
      ·
        refine Vs_iinc6 (q := 130) (z := none) dX10_layFar_127 rfl (by exact iinc_p _) (by decide) rfl ?_
        refine Vj_goto (q := 61) dX10_layFar_130 (by decide) ?_
        rw [nI_1]
        refine ih (b + 1) σ (by omega) hn (fun b' hb' hc' => ?_) hF hE
        by_cases e : b' = b
        · subst e
          exact fun z => h111 (eF.mpr z)
        · exact hall b' (by omega) hc'
      ·
        refine Vj_aloadn (q := 115) dX10_layFar_114 rfl rfl rfl ?_
        refine Vj_getR (q := 118) flX10_43 rfl rfl dX10_layFar_115 rfl ?_
        refine Vj_iload (q := 120) dX10_layFar_118 rfl rfl ?_
        refine Vj_iloadn (q := 121) dX10_layFar_120 rfl rfl rfl ?_
        refine Vj_iconst (q := 122) (v := 1) dX10_layFar_121 rfl (by decide) ?_
        refine Vj_iadd (q := 123) dX10_layFar_122 rfl ?_
        rw [nI_1]
        refine Vj_iast (q := 124) rfl (vp_in_nI (by omega) (by decide)) dX10_layFar_123 rfl ?_
        rw [nI_clamp (by omega)]
        refine Vj_iconst (q := 125) (v := 1) dX10_layFar_124 rfl (by decide) ?_
        refine Vs_istore4 (q := 127) dX10_layFar_125 rfl (by decide) rfl ?_
        have hf := eF.mp h111
        have e1 : gd ρ ch to (d + 1) (mc ρ i) = some (d + 1) := by
          rw [gd_s, hn]
          exact if_pos ((gd_w hn).mpr ⟨b, by omega, bI_n.mp h88, hf⟩)
        have hF2 : FM ρ ch to d (i + 1) (uI σ 12 i (nI (d + 1))) := by
          intro c hc
          rw [uI_eq, upd]
          by_cases e2 : cm ρ c = i
          · have : c = mc ρ i := by rw [← e2, mc_cm hr hc]
            subst this
            rw [if_pos e2, if_pos (by omega), e1]; rfl
          · rw [if_neg e2, hF c hc]
            by_cases e3 : cm ρ c < i
            · rw [if_pos e3, if_pos (by omega)]
            · rw [if_neg e3, if_neg (by omega)]
        have kk := fun z6 => kk _ z6 hF2 (hE.u rfl)
        rw [hn, e1] at kk
        have hP2 := h.far (hE.u (σ' := σ) (j := i) (x := nI (d + 1)) (q := 12) rfl)
        have e9b : (uI σ 12 i (nI (d + 1))).1 12 i = nI (d + 1) := by rw [uI_eq, upd, if_pos rfl]
        have hne : ¬ nI (d + 1) = -9 := nI_nm9 (by omega)
        generalize uI σ 12 i (nI (d + 1)) = σ2 at *
        refine Vs_iinc6 (q := 130) (z := none) dX10_layFar_127 rfl (by exact iinc_p _) (by decide) rfl ?_
        refine Vj_goto (q := 61) dX10_layFar_130 (by decide) ?_
        rw [nI_1]
        refine Vj_iload (q := 63) dX10_layFar_61 rfl rfl ?_
        refine Vj_aloadn (q := 64) dX10_layFar_63 rfl rfl rfl ?_
        refine Vj_getI (q := 67) flX10_114 rfl rfl dX10_layFar_64 rfl ?_
        rw [hP2.2.2.1]
        refine Vj_icmp_ge (q := 70) (tgt := 133) dX10_layFar_67 (by decide) rfl (fun h67 => ?_) (fun h67 => ?_)
        ·
          have kk := kk (some (.int (nI (b + 1))))
          rw [show (mo || (none : Option Nat).isNone && (some (d + 1) : Option Nat).isSome) = true by cases mo <;> rfl] at kk
          exact kk
        ·
          refine Vj_aloadn (q := 71) dX10_layFar_70 rfl rfl rfl ?_
          refine Vj_getR (q := 74) flX10_43 rfl rfl dX10_layFar_71 rfl ?_
          refine Vj_iload (q := 76) dX10_layFar_74 rfl rfl ?_
          refine Vj_iald (q := 77) rfl (vp_in_nI (by omega) (by decide)) dX10_layFar_76 rfl ?_
          rw [nI_clamp (by omega), e9b]
          refine Vj_bipush (q := 79) (v := (-9)) dX10_layFar_77 rfl (by decide) ?_
          refine Vj_icmp_ne (q := 82) (tgt := 133) dX10_layFar_79 (by decide) rfl (fun _ => ?_) (fun hz => absurd hz hne)
          have kk := kk (some (.int (nI (b + 1))))
          rw [show (mo || (none : Option Nat).isNone && (some (d + 1) : Option Nat).isSome) = true by cases mo <;> rfl] at kk
          exact kk
set_option maxRecDepth 100000 in
/-- one sweep -/
theorem qX10_layFar_s {ρ : Rm} {σ0 : Mem} (h : RoM ρ σ0) (hTa : TaM ρ σ0) {ch to : Nat} (hch : ch < 64) {d : Nat} (hd : d < 256) {Post : Option Value → Mem → Prop}
    (kk : ∀ (σ : Mem) (z5 z6 : Option Value), FM ρ ch to d (mN ρ) σ → Eqo [12] σ0 σ → Vj shM 1 mX10_layFar Post 139 [some (.ref 0), some (.int (nI (cm ρ to))), some (.int (nI ch)), some (.int (nI d)), some (.int (bI (nwK ρ ch to d (mN ρ)))), z5, z6] [] σ) :
    ∀ (k i : Nat) (σ : Mem) (z6 : Option Value), i + k = mN ρ → FM ρ ch to d i σ → Eqo [12] σ0 σ → Vj shM 1 mX10_layFar Post 49 [some (.ref 0), some (.int (nI (cm ρ to))), some (.int (nI ch)), some (.int (nI d)), some (.int (bI (nwK ρ ch to d i))), some (.int (nI i)), z6] [] σ := by
  have hr := h.1
  have hM := mN_le hr
  have hB7 := hr.2.2.1
  intro k
  induction k with
  | zero =>
    intro i σ z6 hi hF hE
    obtain rfl : i = mN ρ := by omega
    have hP := h.far hE
    refine Vj_iload (q := 51) dX10_layFar_49 rfl rfl ?_
    refine Vj_aloadn (q := 52) dX10_layFar_51 rfl rfl rfl ?_
    refine Vj_getI (q := 55) flX10_68 rfl rfl dX10_layFar_52 rfl ?_
    rw [hP.2.2.2.1]
    refine Vj_icmp_ge (q := 58) (tgt := 139) dX10_layFar_55 (by decide) rfl (fun _ => ?_) (fun hz => absurd (nI_le (by omega) (by omega)) hz)
    exact kk σ _ _ hF hE
  | succ k ih =>
    intro i σ z6 hi hF hE
    have hP := h.far hE
    have hi' : i < mN ρ := by omega
    have hci := mc_cV hr hi'
    have ecm := cm_mc hr hi'
    have eF : σ.1 12 i = o9 (gd ρ ch to d (mc ρ i)) := by
      have := hF _ hci
      rw [ecm, if_neg (Nat.lt_irrefl i)] at this
      exact this
    have ih := fun σ2 z6 hF2 hE2 => ih (i + 1) σ2 z6 (by omega) hF2 hE2
    refine Vj_iload (q := 51) dX10_layFar_49 rfl rfl ?_
    refine Vj_aloadn (q := 52) dX10_layFar_51 rfl rfl rfl ?_
    refine Vj_getI (q := 55) flX10_68 rfl rfl dX10_layFar_52 rfl ?_
    rw [hP.2.2.2.1]
    refine Vj_icmp_ge (q := 58) (tgt := 139) dX10_layFar_55 (by decide) rfl (fun hz => absurd hz (nI_ge (by omega) (by omega))) (fun _ => ?_)
    refine Vj_iconst (q := 59) (v := 0) dX10_layFar_58 rfl (by decide) ?_
    refine Vs_istore6 (q := 61) dX10_layFar_59 rfl (by decide) rfl ?_
    cases e : gd ρ ch to d (mc ρ i) with
    | none =>
      refine qX10_layFar_b h hTa hch hd hi' (fun σ2 z6 hF2 hE2 => ?_) (rB ρ) 0 σ (by omega) e (fun b' hb' => absurd hb' (Nat.not_lt_zero b')) hF hE
      refine Vs_iinc5 (q := 136) (z := none) dX10_layFar_133 rfl (by exact iinc_p _) (by decide) rfl ?_
      refine Vj_goto (q := 49) dX10_layFar_136 (by decide) ?_
      rw [nI_1]
      exact ih σ2 z6 hF2 hE2
    | some k =>
      have hk := gd_lt e
      have e1 := gd_up e
      have ez : bI (nwK ρ ch to d i) = bI (nwK ρ ch to d (i + 1)) := by
        rw [nwK, e, e1]
        cases nwK ρ ch to d i <;> rfl
      have hF2 : FM ρ ch to d (i + 1) σ := by
        intro c hc
        rw [hF c hc]
        by_cases e2 : cm ρ c = i
        · have : c = mc ρ i := by rw [← e2, mc_cm hr hc]
          subst this
          rw [if_neg (by omega), if_pos (by omega), e, e1]
        · by_cases e3 : cm ρ c < i
          · rw [if_pos e3, if_pos (by omega)]
          · rw [if_neg e3, if_neg (by omega)]
      have ih := fun z6 => ih σ z6 hF2 hE
      rw [e] at eF
      refine Vj_iload (q := 63) dX10_layFar_61 rfl rfl ?_
      refine Vj_aloadn (q := 64) dX10_layFar_63 rfl rfl rfl ?_
      refine Vj_getI (q := 67) flX10_114 rfl rfl dX10_layFar_64 rfl ?_
      rw [hP.2.2.1]
      refine Vj_icmp_ge (q := 70) (tgt := 133) dX10_layFar_67 (by decide) rfl (fun h67 => ?_) (fun h67 => ?_)
      ·
        refine Vs_iinc5 (q := 136) (z := none) dX10_layFar_133 rfl (by exact iinc_p _) (by decide) rfl ?_
        refine Vj_goto (q := 49) dX10_layFar_136 (by decide) ?_
        rw [nI_1, ez]
        exact ih _
      ·
        refine Vj_aloadn (q := 71) dX10_layFar_70 rfl rfl rfl ?_
        refine Vj_getR (q := 74) flX10_43 rfl rfl dX10_layFar_71 rfl ?_
        refine Vj_iload (q := 76) dX10_layFar_74 rfl rfl ?_
        refine Vj_iald (q := 77) rfl (vp_in_nI (by omega) (by decide)) dX10_layFar_76 rfl ?_
        rw [nI_clamp (by omega), eF]
        refine Vj_bipush (q := 79) (v := (-9)) dX10_layFar_77 rfl (by decide) ?_
        refine Vj_icmp_ne (q := 82) (tgt := 133) dX10_layFar_79 (by decide) rfl (fun _ => ?_) (fun hz => absurd hz (nI_nm9 (a := k) (by omega)))
        refine Vs_iinc5 (q := 136) (z := none) dX10_layFar_133 rfl (by exact iinc_p _) (by decide) rfl ?_
        refine Vj_goto (q := 49) dX10_layFar_136 (by decide) ?_
        rw [nI_1, ez]
        exact ih _
set_option maxRecDepth 100000 in
/-- all sweeps -/
theorem qX10_layFar_l {ρ : Rm} {σ0 : Mem} (h : RoM ρ σ0) (hTa : TaM ρ σ0) {ch to : Nat} (hch : ch < 64) (hto : cV ρ to) : ∀ (k d : Nat) (σ : Mem) (z5 z6 : Option Value), nnK ρ ch to d ≤ k → d + nnK ρ ch to d < 256 → (∃ c, cV ρ c ∧ gd ρ ch to d c = some d) → FM ρ ch to d 0 σ → Eqo [12] σ0 σ → Vj shM 1 mX10_layFar (fun r σ' => r = some (.int (nI (mxD (dst (cNx ρ) (rB ρ) ch to) (4 ^ rN ρ)))) ∧ LfM ρ ch to σ' ∧ Eqo [12] σ0 σ') 38 [some (.ref 0), some (.int (nI (cm ρ to))), some (.int (nI ch)), some (.int (nI d)), some (.int (1)), z5, z6] [] σ := by
  have hr := h.1
  intro k
  induction k with
  | zero =>
    intro d σ z5 z6 hk hdn hex hF hE
    refine Vj_iload (q := 40) dX10_layFar_38 rfl rfl ?_
    refine Vj_if_eq (q := 43) (tgt := 155) dX10_layFar_40 (by decide) rfl (fun hz => absurd hz (by decide)) (fun _ => ?_)
    refine Vj_iconst (q := 44) (v := 0) dX10_layFar_43 rfl (by decide) ?_
    refine Vs_istore4 (q := 46) dX10_layFar_44 rfl (by decide) rfl ?_
    refine Vj_iconst (q := 47) (v := 0) dX10_layFar_46 rfl (by decide) ?_
    refine Vs_istore5 (q := 49) dX10_layFar_47 rfl (by decide) rfl ?_
    refine qX10_layFar_s h hTa hch (d := d) (by omega) (fun σ2 y5 y6 hF2 hE2 => ?_) (mN ρ) 0 σ _ (by omega) hF hE
    have hnw : nwK ρ ch to d (mN ρ) = false := Bool.eq_false_iff.mpr fun z => by have := nnK_lt z; omega
    rw [hnw]
    have hst := gd_st hr (ch := ch) (to := to) (d := d) (by omega) (fun c hc => by
      have := nwK_f _ hnw (cm ρ c) (cm_lt hr hc)
      rw [mc_cm hr hc] at this
      exact this)
    have hL : LfM ρ ch to σ2 := fun c hc => by
      rw [hF2 c hc, if_pos (cm_lt hr hc), hst c hc]
      have := nwK_f _ hnw (cm ρ c) (cm_lt hr hc)
      rw [mc_cm hr hc] at this
      rw [this]
    have hmx : mxD (dst (cNx ρ) (rB ρ) ch to) (4 ^ rN ρ) = d := by
      obtain ⟨c, hc, e⟩ := hex
      refine (mxD_q _ fun x hx => ?_).2 ⟨c, hc.1, by rw [hst c hc]; exact e⟩
      by_cases ex : cV ρ x
      · rw [hst x ex]
        cases e2 : gd ρ ch to d x with
        | none => exact Nat.zero_le _
        | some k => exact gd_lt e2
      · rw [dst_inv hto ex hx]; exact Nat.zero_le _
    rw [hmx]
    refine Vj_iloadn (q := 140) dX10_layFar_139 rfl rfl rfl ?_
    refine Vj_iload (q := 142) dX10_layFar_140 rfl rfl ?_
    refine Vj_if_eq (q := 145) (tgt := 149) dX10_layFar_142 (by decide) rfl (fun _ => ?_) (fun hz => absurd rfl hz)
    refine Vj_iconst (q := 150) (v := 0) dX10_layFar_149 rfl (by decide) ?_
    refine Vj_iadd (q := 151) dX10_layFar_150 rfl ?_
    refine Vs_istore3 (q := 152) dX10_layFar_151 rfl (by decide) rfl ?_
    refine Vj_goto (q := 38) dX10_layFar_152 (by decide) ?_
    rw [Int32.add_zero]
    refine Vj_iload (q := 40) dX10_layFar_38 rfl rfl ?_
    refine Vj_if_eq (q := 43) (tgt := 155) dX10_layFar_40 (by decide) rfl (fun _ => ?_) (fun hz => absurd rfl hz)
    refine Vj_iloadn (q := 156) dX10_layFar_155 rfl rfl rfl ?_
    exact Vr_iret rfl rfl dX10_layFar_156 (⟨rfl, hL, hE2⟩)
  | succ k ih =>
    intro d σ z5 z6 hk hdn hex hF hE
    refine Vj_iload (q := 40) dX10_layFar_38 rfl rfl ?_
    refine Vj_if_eq (q := 43) (tgt := 155) dX10_layFar_40 (by decide) rfl (fun hz => absurd hz (by decide)) (fun _ => ?_)
    refine Vj_iconst (q := 44) (v := 0) dX10_layFar_43 rfl (by decide) ?_
    refine Vs_istore4 (q := 46) dX10_layFar_44 rfl (by decide) rfl ?_
    refine Vj_iconst (q := 47) (v := 0) dX10_layFar_46 rfl (by decide) ?_
    refine Vs_istore5 (q := 49) dX10_layFar_47 rfl (by decide) rfl ?_
    refine qX10_layFar_s h hTa hch (d := d) (by omega) (fun σ2 y5 y6 hF2 hE2 => ?_) (mN ρ) 0 σ _ (by omega) hF hE
    cases hnw : nwK ρ ch to d (mN ρ) with
    | false =>
      have hst := gd_st hr (ch := ch) (to := to) (d := d) (by omega) (fun c hc => by
        have := nwK_f _ hnw (cm ρ c) (cm_lt hr hc)
        rw [mc_cm hr hc] at this
        exact this)
      have hL : LfM ρ ch to σ2 := fun c hc => by
        rw [hF2 c hc, if_pos (cm_lt hr hc), hst c hc]
        have := nwK_f _ hnw (cm ρ c) (cm_lt hr hc)
        rw [mc_cm hr hc] at this
        rw [this]
      have hmx : mxD (dst (cNx ρ) (rB ρ) ch to) (4 ^ rN ρ) = d := by
        obtain ⟨c, hc, e⟩ := hex
        refine (mxD_q _ fun x hx => ?_).2 ⟨c, hc.1, by rw [hst c hc]; exact e⟩
        by_cases ex : cV ρ x
        · rw [hst x ex]
          cases e2 : gd ρ ch to d x with
          | none => exact Nat.zero_le _
          | some k => exact gd_lt e2
        · rw [dst_inv hto ex hx]; exact Nat.zero_le _
      rw [hmx]
      refine Vj_iloadn (q := 140) dX10_layFar_139 rfl rfl rfl ?_
      refine Vj_iload (q := 142) dX10_layFar_140 rfl rfl ?_
      refine Vj_if_eq (q := 145) (tgt := 149) dX10_layFar_142 (by decide) rfl (fun _ => ?_) (fun hz => absurd rfl hz)
      refine Vj_iconst (q := 150) (v := 0) dX10_layFar_149 rfl (by decide) ?_
      refine Vj_iadd (q := 151) dX10_layFar_150 rfl ?_
      refine Vs_istore3 (q := 152) dX10_layFar_151 rfl (by decide) rfl ?_
      refine Vj_goto (q := 38) dX10_layFar_152 (by decide) ?_
      rw [Int32.add_zero]
      refine Vj_iload (q := 40) dX10_layFar_38 rfl rfl ?_
      refine Vj_if_eq (q := 43) (tgt := 155) dX10_layFar_40 (by decide) rfl (fun _ => ?_) (fun hz => absurd rfl hz)
      refine Vj_iloadn (q := 156) dX10_layFar_155 rfl rfl rfl ?_
      exact Vr_iret rfl rfl dX10_layFar_156 (⟨rfl, hL, hE2⟩)
    | true =>
      have hl := nnK_lt hnw
      obtain ⟨i, hi, -, hi2⟩ := nwK_t _ hnw
      refine Vj_iloadn (q := 140) dX10_layFar_139 rfl rfl rfl ?_
      refine Vj_iload (q := 142) dX10_layFar_140 rfl rfl ?_
      refine Vj_if_eq (q := 145) (tgt := 149) dX10_layFar_142 (by decide) rfl (fun hz => absurd hz (by decide)) (fun _ => ?_)
      refine Vj_iconst (q := 146) (v := 1) dX10_layFar_145 rfl (by decide) ?_
      refine Vj_goto (q := 150) dX10_layFar_146 (by decide) ?_
      refine Vj_iadd (q := 151) dX10_layFar_150 rfl ?_
      refine Vs_istore3 (q := 152) dX10_layFar_151 rfl (by decide) rfl ?_
      refine Vj_goto (q := 38) dX10_layFar_152 (by decide) ?_
      rw [nI_1]
      exact ih (d + 1) σ2 _ _ (by omega) (by omega) ⟨_, mc_cV hr hi, hi2⟩ (fun c hc => by rw [if_neg (Nat.not_lt_zero _), hF2 c hc, if_pos (cm_lt hr hc)]) hE2
set_option maxRecDepth 100000 in
theorem qX10_layFar_0 {ρ : Rm} {σ0 : Mem} (h : RoM ρ σ0) (hTa : TaM ρ σ0) {ch to : Nat} (hch : ch < 64) (hto : cV ρ to) : ∀ (k i : Nat) (σ : Mem), i + k = mN ρ → (∀ c, cV ρ c → cm ρ c < i → σ.1 12 (cm ρ c) = o9 (gd ρ ch to 0 c)) → Eqo [12] σ0 σ → Vj shM 1 mX10_layFar (fun r σ' => r = some (.int (nI (mxD (dst (cNx ρ) (rB ρ) ch to) (4 ^ rN ρ)))) ∧ LfM ρ ch to σ' ∧ Eqo [12] σ0 σ') 2 [some (.ref 0), some (.int (nI (cm ρ to))), some (.int (nI ch)), some (.int (nI i)), none, none, none] [] σ := by
  have hr := h.1
  have hM := mN_le hr
  have htl := cm_lt hr hto
  intro k
  induction k with
  | zero =>
    intro i σ hi hF hE
    obtain rfl : i = mN ρ := by omega
    have hP := h.far hE
    have hnn : nnK ρ ch to 0 < mN ρ := by
      have h1 := (cntN_lt (p := fun _ => true) (q := fun m => (gd ρ ch to 0 (mc ρ m)).isNone) (fun _ _ => rfl) (mN ρ)).2 ⟨cm ρ to, htl, rfl, by show (gd ρ ch to 0 (mc ρ (cm ρ to))).isNone = false; rw [mc_cm hr hto, gd_0, if_pos rfl]; rfl⟩
      have h2 := cntN_le (fun _ => true) (mN ρ)
      unfold nnK
      omega
    refine Vj_iloadn (q := 3) dX10_layFar_2 rfl rfl rfl ?_
    refine Vj_aloadn (q := 4) dX10_layFar_3 rfl rfl rfl ?_
    refine Vj_getI (q := 7) flX10_68 rfl rfl dX10_layFar_4 rfl ?_
    rw [hP.2.2.2.1]
    refine Vj_icmp_ge (q := 10) (tgt := 33) dX10_layFar_7 (by decide) rfl (fun _ => ?_) (fun hz => absurd (nI_le (by omega) (by omega)) hz)
    refine Vj_iconst (q := 34) (v := 0) dX10_layFar_33 rfl (by decide) ?_
    refine Vs_istore3 (q := 35) dX10_layFar_34 rfl (by decide) rfl ?_
    refine Vj_iconst (q := 36) (v := 1) dX10_layFar_35 rfl (by decide) ?_
    refine Vs_istore4 (q := 38) dX10_layFar_36 rfl (by decide) rfl ?_
    exact qX10_layFar_l h hTa hch hto _ 0 σ none none (Nat.le_refl _) (by omega) ⟨to, hto, by rw [gd_0, if_pos rfl]⟩ (fun c hc => by rw [if_neg (Nat.not_lt_zero _)]; exact hF c hc (cm_lt hr hc)) hE
  | succ k ih =>
    intro i σ hi hF hE
    have hP := h.far hE
    have step : ∀ y, y = o9 (gd ρ ch to 0 (mc ρ i)) → (∀ c, cV ρ c → cm ρ c < i + 1 → (uI σ 12 i y).1 12 (cm ρ c) = o9 (gd ρ ch to 0 c)) := by
      intro y hy c hc hl
      rw [uI_eq, upd]
      by_cases e : cm ρ c = i
      · have : c = mc ρ i := by rw [← e, mc_cm hr hc]
        subst this
        rw [if_pos e, hy]
      · rw [if_neg e]
        exact hF c hc (by omega)
    refine Vj_iloadn (q := 3) dX10_layFar_2 rfl rfl rfl ?_
    refine Vj_aloadn (q := 4) dX10_layFar_3 rfl rfl rfl ?_
    refine Vj_getI (q := 7) flX10_68 rfl rfl dX10_layFar_4 rfl ?_
    rw [hP.2.2.2.1]
    refine Vj_icmp_ge (q := 10) (tgt := 33) dX10_layFar_7 (by decide) rfl (fun hz => absurd hz (nI_ge (by omega) (by omega))) (fun _ => ?_)
    refine Vj_aloadn (q := 11) dX10_layFar_10 rfl rfl rfl ?_
    refine Vj_getR (q := 14) flX10_43 rfl rfl dX10_layFar_11 rfl ?_
    refine Vj_iloadn (q := 15) dX10_layFar_14 rfl rfl rfl ?_
    refine Vj_iloadn (q := 16) dX10_layFar_15 rfl rfl rfl ?_
    refine Vj_iloadn (q := 17) dX10_layFar_16 rfl rfl rfl ?_
    refine Vj_icmp_ne (q := 20) (tgt := 24) dX10_layFar_17 (by decide) rfl (fun h17 => ?_) (fun h17 => ?_)
    ·
      refine Vj_bipush (q := 26) (v := (-9)) dX10_layFar_24 rfl (by decide) ?_
      refine Vj_iast (q := 27) rfl (vp_in_nI (by omega) (by decide)) dX10_layFar_26 rfl ?_
      rw [nI_clamp (by omega)]
      refine Vs_iinc3 (q := 30) (z := none) dX10_layFar_27 rfl (by exact iinc_p _) (by decide) rfl ?_
      refine Vj_goto (q := 2) dX10_layFar_30 (by decide) ?_
      rw [nI_1]
      exact ih (i + 1) _ (by omega) (step _ (by rw [gd_0, if_neg (fun z => h17 (by rw [← z, cm_mc hr (by omega)]))]; rfl)) (hE.u rfl)
    ·
      refine Vj_iconst (q := 21) (v := 0) dX10_layFar_20 rfl (by decide) ?_
      refine Vj_goto (q := 26) dX10_layFar_21 (by decide) ?_
      refine Vj_iast (q := 27) rfl (vp_in_nI (by omega) (by decide)) dX10_layFar_26 rfl ?_
      rw [nI_clamp (by omega)]
      refine Vs_iinc3 (q := 30) (z := none) dX10_layFar_27 rfl (by exact iinc_p _) (by decide) rfl ?_
      refine Vj_goto (q := 2) dX10_layFar_30 (by decide) ?_
      rw [nI_1]
      exact ih (i + 1) _ (by omega) (step _ (by rw [gd_0, if_pos (by rw [(nI_eq (by omega) (by omega)).mp h17, mc_cm hr hto])]; rfl)) (hE.u rfl)
set_option maxRecDepth 100000 in
theorem qX10_layFar {ρ : Rm} {σ0 : Mem} (h : RoM ρ σ0) (hTa : TaM ρ σ0) {ch to : Nat} (hch : ch < 64) (hto : cV ρ to) : Ct shM 1 mX10_layFar [.ref 0, .int (nI (cm ρ to)), .int (nI ch)] σ0 (fun r σ' => r = some (.int (nI (mxD (dst (cNx ρ) (rB ρ) ch to) (4 ^ rN ρ)))) ∧ LfM ρ ch to σ' ∧ Eqo [12] σ0 σ') := by
  refine Ct.of (by decide) (Nat.le_of_ble_eq_true rfl) (l := [some (.ref 0), some (.int (nI (cm ρ to))), some (.int (nI ch)), none, none, none, none]) rfl ?_
  refine Vj_iconst (q := 1) (v := 0) dX10_layFar_0 rfl (by decide) ?_
  refine Vs_istore3 (q := 2) dX10_layFar_1 rfl (by decide) rfl ?_
  exact qX10_layFar_0 h hTa hch hto (mN ρ) 0 σ0 (by omega) (fun c _ hl => absurd hl (Nat.not_lt_zero _)) Eqo.rf
