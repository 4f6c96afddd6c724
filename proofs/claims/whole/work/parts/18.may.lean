/-! may, tells -/
theorem nI_or' (a b : Nat) : nI a ||| nI b = nI (a ||| b) := by
  apply Int32.toBitVec_inj.1
  show BitVec.ofNat 32 a ||| BitVec.ofNat 32 b = BitVec.ofNat 32 (a ||| b)
  apply BitVec.eq_of_getLsbD_eq
  intro i hi
  simp [hi]
theorem nI_xor' (a b : Nat) : nI a ^^^ nI b = nI (a ^^^ b) := by
  apply Int32.toBitVec_inj.1
  show BitVec.ofNat 32 a ^^^ BitVec.ofNat 32 b = BitVec.ofNat 32 (a ^^^ b)
  apply BitVec.eq_of_getLsbD_eq
  intro i hi
  simp [hi]
/-- what differs from the first of the codes, of the first i -/
def oX (l : List Nat) : Nat → Nat
  | 0 => 0
  | k + 1 => if k = 0 then 0 else oX l k ||| (l.getD k 0 ^^^ l.getD 0 0)
def tB (n o : Nat) : Nat → Nat
  | 0 => 0
  | k + 1 => if cS n o k = 0 then tB n o k ||| 1 <<< k else tB n o k
def spMay (ρ : Rm) (se : List (Nat × Nat × Nat)) (what : Int32) : Int32 :=
  if what < 0 ∨ 2 < what then -2 else if what = 0 then nI (cdK ρ se se.length).length else if (cdK ρ se se.length).length = 0 then -9
  else if what = 1 then nI (cDg (rN ρ) ((cdK ρ se se.length).getD 0 0) (rN ρ)) else nI (tB (rN ρ) (oX (cdK ρ se se.length) (cdK ρ se se.length).length) (rN ρ))
def gC (ρ : Rm) (b : Nat) (l : List Nat) (i la : Nat) : Nat := ((l.take i).filter (fun c => cLi (rN ρ) (cNx ρ c b) (rN ρ) == la)).length
def mA (ρ : Rm) (b : Nat) (l : List Nat) : Nat → Nat
  | 0 => 0
  | k + 1 => max (mA ρ b l k) (gC ρ b l (k + 1) (cLi (rN ρ) (cNx ρ (l.getD k 0) b) (rN ρ)))
def tlK (ρ : Rm) (l : List Nat) : Nat → Option (Nat × Nat)
  | 0 => none
  | k + 1 => match tlK ρ l k with
    | none => some (k, mA ρ k l l.length)
    | some u => if mA ρ k l l.length < u.2 then some (k, mA ρ k l l.length) else some u
def spTells (ρ : Rm) (se : List (Nat × Nat × Nat)) (many : Int32) : Int32 :=
  if (cdK ρ se se.length).length = 0 then -9 else
  match tlK ρ (cdK ρ se se.length) (rB ρ) with
  | none => -9
  | some u => if many = 0 then nI u.1 else nI u.2
theorem oX_lt {l : List Nat} (h : ∀ i, i < l.length → l.getD i 0 < 256) : ∀ k, k ≤ l.length → oX l k < 256
  | 0, _ => by show 0 < 256; decide
  | k + 1, hk => by
    rw [oX]
    split
    · decide
    · exact Nat.or_lt_two_pow (n := 8) (oX_lt h k (by omega)) (Nat.xor_lt_two_pow (h k (by omega)) (h 0 (by omega)))
theorem tB_lt {n o : Nat} : ∀ k, tB n o k < 2 ^ k
  | 0 => by simp [tB]
  | k + 1 => by
    have h := tB_lt (n := n) (o := o) k
    rw [tB]
    split
    · have : 1 <<< k < 2 ^ (k + 1) := by rw [Nat.one_shiftLeft]; exact Nat.pow_lt_pow_right (by decide) (by omega)
      exact Nat.or_lt_two_pow (by rw [Nat.pow_succ]; omega) this
    · rw [Nat.pow_succ]; omega
theorem gC_s {ρ : Rm} {b i la : Nat} {l : List Nat} (h : i < l.length) : gC ρ b l (i + 1) la = gC ρ b l i la + if cLi (rN ρ) (cNx ρ (l.getD i 0) b) (rN ρ) = la then 1 else 0 := by
  unfold gC
  rw [filt_s h, List.length_append]
  by_cases e : cLi (rN ρ) (cNx ρ (l.getD i 0) b) (rN ρ) = la
  · rw [if_pos (beq_iff_eq.mpr e), if_pos e]; rfl
  · rw [if_neg (by rw [beq_iff_eq]; exact e), if_neg e]; rfl
theorem gC_le {ρ : Rm} {b i la : Nat} {l : List Nat} : gC ρ b l i la ≤ i := filt_le
theorem mA_le {ρ : Rm} {b : Nat} {l : List Nat} : ∀ k, mA ρ b l k ≤ k
  | 0 => Nat.le_refl _
  | k + 1 => by
    have := mA_le (ρ := ρ) (b := b) (l := l) k
    rw [mA]
    exact Nat.max_le.mpr ⟨by omega, gC_le⟩
theorem max_nI {a b : Nat} (ha : a < 2 ^ 31) (hb : b < 2 ^ 31) : (if nI a < nI b then nI b else nI a) = nI (max a b) := by
  by_cases e : a < b
  · rw [if_pos ((nI_ltI ha hb).mpr e), Nat.max_eq_right (by omega)]
  · rw [if_neg (fun z => e ((nI_ltI ha hb).mp z)), Nat.max_eq_left (by omega)]

set_option maxRecDepth 100000 in
theorem qX9_thingsInOneState_l2 {ρ : Rm} {σ : Mem} (hP : RP ρ σ) {o : Nat} (ho : o < 256) {z1 : Option Value} : ∀ k t : Nat, t + k = rN ρ → Vj shX 3 mX9_thingsInOneState (Ri (nI (tB (rN ρ) o (rN ρ))) σ) 54 [some (.ref 0), z1, some (.int (nI o)), some (.int (nI (tB (rN ρ) o t))), some (.int (nI t))] [] σ := by
  intro k
  have hn5 := hP.1.1
  induction k with
  | zero =>
    intro t ht
    obtain rfl : t = rN ρ := by omega
    refine Vj_iload (q := 56) dX9_thingsInOneState_54 rfl rfl ?_
    refine Vj_aloadn (q := 57) dX9_thingsInOneState_56 rfl rfl rfl ?_
    refine Vj_getR (q := 60) flX9_26 rfl rfl dX9_thingsInOneState_57 rfl ?_
    refine Vj_callVi (q := 63) (qX2_things hP) (by decide) rfl rfl lkX9_125 viX2_things okX2_things dX9_thingsInOneState_60 rfl rfl (Nat.le_of_ble_eq_true rfl) ?_
    refine Vj_icmp_ge (q := 66) (tgt := 92) dX9_thingsInOneState_63 (by decide) rfl (fun _ => ?_) (fun hz => absurd (nI_le (Nat.le_refl _) (by omega)) hz)
    refine Vj_iloadn (q := 93) dX9_thingsInOneState_92 rfl rfl rfl ?_
    exact Vr_iret rfl rfl dX9_thingsInOneState_93 (⟨rfl, rfl⟩)
  | succ k ih =>
    intro t ht
    have hs := cS_lt (rN ρ) o t
    have h16 : tB (rN ρ) o t < 16 := Nat.lt_of_lt_of_le (tB_lt t) (Nat.pow_le_pow_right (by decide) (by omega) : 2 ^ t ≤ 2 ^ 4)
    refine Vj_iload (q := 56) dX9_thingsInOneState_54 rfl rfl ?_
    refine Vj_aloadn (q := 57) dX9_thingsInOneState_56 rfl rfl rfl ?_
    refine Vj_getR (q := 60) flX9_26 rfl rfl dX9_thingsInOneState_57 rfl ?_
    refine Vj_callVi (q := 63) (qX2_things hP) (by decide) rfl rfl lkX9_125 viX2_things okX2_things dX9_thingsInOneState_60 rfl rfl (Nat.le_of_ble_eq_true rfl) ?_
    refine Vj_icmp_ge (q := 66) (tgt := 92) dX9_thingsInOneState_63 (by decide) rfl (fun hz => absurd hz (nI_ge (by omega) (by omega))) (fun _ => ?_)
    refine Vj_aloadn (q := 67) dX9_thingsInOneState_66 rfl rfl rfl ?_
    refine Vj_getR (q := 70) flX9_26 rfl rfl dX9_thingsInOneState_67 rfl ?_
    refine Vj_iloadn (q := 71) dX9_thingsInOneState_70 rfl rfl rfl ?_
    refine Vj_iload (q := 73) dX9_thingsInOneState_71 rfl rfl ?_
    refine Vj_callVi (q := 76) (qX2_stateIn hP (c := o) ho (by omega)) (by decide) rfl rfl lkX9_139 viX2_stateIn okX2_stateIn dX9_thingsInOneState_73 rfl rfl (Nat.le_of_ble_eq_true rfl) ?_
    refine Vj_if_ne (q := 79) (tgt := 86) dX9_thingsInOneState_76 (by decide) rfl (fun h76 => ?_) (fun h76 => ?_)
    ·
      refine Vs_iinc4 (q := 89) (z := none) dX9_thingsInOneState_86 rfl (by exact iinc_p _) (by decide) rfl ?_
      refine Vj_goto (q := 54) dX9_thingsInOneState_89 (by decide) ?_
      have e : tB (rN ρ) o (t + 1) = tB (rN ρ) o t := by rw [tB, if_neg (fun z => h76 ((nI_z (by omega)).mpr z))]
      rw [nI_1, ← e]
      exact ih (t + 1) (by omega)
    ·
      refine Vj_iloadn (q := 80) dX9_thingsInOneState_79 rfl rfl rfl ?_
      refine Vj_iconst (q := 81) (v := 1) dX9_thingsInOneState_80 rfl (by decide) ?_
      refine Vj_iload (q := 83) dX9_thingsInOneState_81 rfl rfl ?_
      refine Vj_ishl (q := 84) dX9_thingsInOneState_83 rfl ?_
      refine Vj_ior (q := 85) dX9_thingsInOneState_84 rfl ?_
      refine Vs_istore3 (q := 86) dX9_thingsInOneState_85 rfl (by decide) rfl ?_
      refine Vs_iinc4 (q := 89) (z := none) dX9_thingsInOneState_86 rfl (by exact iinc_p _) (by decide) rfl ?_
      refine Vj_goto (q := 54) dX9_thingsInOneState_89 (by decide) ?_
      have e : tB (rN ρ) o (t + 1) = tB (rN ρ) o t ||| 1 <<< t := by rw [tB, if_pos ((nI_z (by omega)).mp h76)]
      rw [nI_1, i_or1 t (by omega) _ h16, ← e]
      exact ih (t + 1) (by omega)
set_option maxRecDepth 100000 in
theorem qX9_thingsInOneState_l1 {ρ : Rm} {σ : Mem} (hP : RP ρ σ) {l : List Nat} (h5 : σ.1 36 5 = nI l.length) (hC : CdH l σ) (hl : ∀ i, i < l.length → l.getD i 0 < 256) (hl2 : l.length ≤ 256) : ∀ (k i : Nat) (z4 : Option Value), i + k = l.length → 1 ≤ i → Vj shX 3 mX9_thingsInOneState (Ri (nI (tB (rN ρ) (oX l l.length) (rN ρ))) σ) 16 [some (.ref 0), some (.int (nI (l.getD 0 0))), some (.int (nI (oX l i))), some (.int (nI i)), z4] [] σ := by
  intro k
  induction k with
  | zero =>
    intro i z4 hi h1
    obtain rfl : i = l.length := by omega
    refine Vj_iloadn (q := 17) dX9_thingsInOneState_16 rfl rfl rfl ?_
    refine Vj_aloadn (q := 18) dX9_thingsInOneState_17 rfl rfl rfl ?_
    refine Vj_getR (q := 21) flX9_66 rfl rfl dX9_thingsInOneState_18 rfl ?_
    refine Vj_getI (q := 24) flX9_240 rfl rfl dX9_thingsInOneState_21 rfl ?_
    rw [h5]
    refine Vj_icmp_ge (q := 27) (tgt := 49) dX9_thingsInOneState_24 (by decide) rfl (fun _ => ?_) (fun hz => absurd (nI_le (Nat.le_refl _) (by omega)) hz)
    refine Vj_iconst (q := 50) (v := 0) dX9_thingsInOneState_49 rfl (by decide) ?_
    refine Vs_istore3 (q := 51) dX9_thingsInOneState_50 rfl (by decide) rfl ?_
    refine Vj_iconst (q := 52) (v := 0) dX9_thingsInOneState_51 rfl (by decide) ?_
    refine Vs_istore4 (q := 54) dX9_thingsInOneState_52 rfl (by decide) rfl ?_
    exact qX9_thingsInOneState_l2 hP (oX_lt hl _ (Nat.le_refl _)) (rN ρ) 0 (by omega)
  | succ k ih =>
    intro i z4 hi h1
    have e : oX l (i + 1) = oX l i ||| (l.getD i 0 ^^^ l.getD 0 0) := by rw [oX, if_neg (by omega)]
    refine Vj_iloadn (q := 17) dX9_thingsInOneState_16 rfl rfl rfl ?_
    refine Vj_aloadn (q := 18) dX9_thingsInOneState_17 rfl rfl rfl ?_
    refine Vj_getR (q := 21) flX9_66 rfl rfl dX9_thingsInOneState_18 rfl ?_
    refine Vj_getI (q := 24) flX9_240 rfl rfl dX9_thingsInOneState_21 rfl ?_
    rw [h5]
    refine Vj_icmp_ge (q := 27) (tgt := 49) dX9_thingsInOneState_24 (by decide) rfl (fun hz => absurd hz (nI_ge (by omega) (by omega))) (fun _ => ?_)
    refine Vj_iloadn (q := 28) dX9_thingsInOneState_27 rfl rfl rfl ?_
    refine Vj_aloadn (q := 29) dX9_thingsInOneState_28 rfl rfl rfl ?_
    refine Vj_getR (q := 32) flX9_66 rfl rfl dX9_thingsInOneState_29 rfl ?_
    refine Vj_getR (q := 35) flX9_243 rfl rfl dX9_thingsInOneState_32 rfl ?_
    refine Vj_iloadn (q := 36) dX9_thingsInOneState_35 rfl rfl rfl ?_
    refine Vj_callSi (q := 39) (qX9_atn rfl (by decide) (j := i) (by omega)) (by decide) lkX9_152 stX9_at okX9_at dX9_thingsInOneState_36 rfl rfl (Nat.le_of_ble_eq_true rfl) ?_
    rw [hC i (by omega)]
    refine Vj_iloadn (q := 40) dX9_thingsInOneState_39 rfl rfl rfl ?_
    refine Vj_ixor (q := 41) dX9_thingsInOneState_40 rfl ?_
    refine Vj_ior (q := 42) dX9_thingsInOneState_41 rfl ?_
    rw [nI_xor', nI_or', ← e]
    refine Vs_istore2 (q := 43) dX9_thingsInOneState_42 rfl (by decide) rfl ?_
    refine Vs_iinc3 (q := 46) (z := none) dX9_thingsInOneState_43 rfl (by exact iinc_p _) (by decide) rfl ?_
    refine Vj_goto (q := 16) dX9_thingsInOneState_46 (by decide) ?_
    rw [nI_1]
    exact ih (i + 1) z4 (by omega) (by omega)
set_option maxRecDepth 100000 in
theorem qX9_thingsInOneState {ρ : Rm} {σ : Mem} (hP : RP ρ σ) {l : List Nat} (h5 : σ.1 36 5 = nI l.length) (hC : CdH l σ) (hl : ∀ i, i < l.length → l.getD i 0 < 256) (hl2 : l.length ≤ 256) (h0 : 0 < l.length) : Ct shX 3 mX9_thingsInOneState [.ref 0] σ (Ri (nI (tB (rN ρ) (oX l l.length) (rN ρ))) σ) := by
  refine Ct.of (by decide) (Nat.le_of_ble_eq_true rfl) (l := [some (.ref 0), none, none, none, none]) rfl ?_
  refine Vj_aloadn (q := 1) dX9_thingsInOneState_0 rfl rfl rfl ?_
  refine Vj_getR (q := 4) flX9_66 rfl rfl dX9_thingsInOneState_1 rfl ?_
  refine Vj_getR (q := 7) flX9_243 rfl rfl dX9_thingsInOneState_4 rfl ?_
  refine Vj_iconst (q := 8) (v := 0) dX9_thingsInOneState_7 rfl (by decide) ?_
  refine Vj_callSi (q := 11) (qX9_atn rfl (by decide) (j := 0) (by decide)) (by decide) lkX9_152 stX9_at okX9_at dX9_thingsInOneState_8 rfl rfl (Nat.le_of_ble_eq_true rfl) ?_
  rw [hC 0 h0]
  refine Vs_istore1 (q := 12) dX9_thingsInOneState_11 rfl (by decide) rfl ?_
  refine Vj_iconst (q := 13) (v := 0) dX9_thingsInOneState_12 rfl (by decide) ?_
  refine Vs_istore2 (q := 14) dX9_thingsInOneState_13 rfl (by decide) rfl ?_
  refine Vj_iconst (q := 15) (v := 1) dX9_thingsInOneState_14 rfl (by decide) ?_
  refine Vs_istore3 (q := 16) dX9_thingsInOneState_15 rfl (by decide) rfl ?_
  have e1 : oX l 1 = 0 := rfl
  have hz := qX9_thingsInOneState_l1 hP h5 hC hl hl2 (l.length - 1) 1 none (by omega) (Nat.le_refl 1)
  rw [e1] at hz
  exact hz
set_option maxRecDepth 100000 in
theorem qX9_mostAlikeBehind_loop {ρ : Rm} (hr : okR ρ) {b : Nat} (hb : b < rB ρ) {l : List Nat} (hl : ∀ i, i < l.length → l.getD i 0 < 4 ^ rN ρ) (hl2 : l.length ≤ 256) {σ0 : Mem} : ∀ (k i : Nat) (σ : Mem) (z4 z5 : Option Value), i + k = l.length → RT ρ σ → σ.1 36 5 = nI l.length → CdH l σ → (∀ la, la < 16 → σ.1 41 la = nI (gC ρ b l i la)) → Eqo [41] σ0 σ → Vj shX 2 mX9_mostAlikeBehind (fun r σ' => r = some (.int (nI (mA ρ b l l.length))) ∧ Eqo [41] σ0 σ') 12 [some (.ref 0), some (.int (nI b)), some (.int (nI (mA ρ b l i))), some (.int (nI i)), z4, z5] [] σ := by
  intro k
  have hp4 := p4_le hr.1
  have hB7 := hr.2.2.1
  induction k with
  | zero =>
    intro i σ z4 z5 hi hT h5 hC hg hE
    obtain rfl : i = l.length := by omega
    refine Vj_iloadn (q := 13) dX9_mostAlikeBehind_12 rfl rfl rfl ?_
    refine Vj_aloadn (q := 14) dX9_mostAlikeBehind_13 rfl rfl rfl ?_
    refine Vj_getR (q := 17) flX9_66 rfl rfl dX9_mostAlikeBehind_14 rfl ?_
    refine Vj_getI (q := 20) flX9_240 rfl rfl dX9_mostAlikeBehind_17 rfl ?_
    rw [h5]
    refine Vj_icmp_ge (q := 23) (tgt := 88) dX9_mostAlikeBehind_20 (by decide) rfl (fun _ => ?_) (fun hz => absurd (nI_le (Nat.le_refl _) (by omega)) hz)
    refine Vj_iloadn (q := 89) dX9_mostAlikeBehind_88 rfl rfl rfl ?_
    exact Vr_iret rfl rfl dX9_mostAlikeBehind_89 (⟨rfl, hE⟩)
  | succ k ih =>
    intro i σ z4 z5 hi hT h5 hC hg hE
    have hil : i < l.length := by omega
    have hc := hl i hil
    have hx := cNx_lt hr hc hb
    have hla : cLi (rN ρ) (cNx ρ (l.getD i 0) b) (rN ρ) < 16 := Nat.lt_of_lt_of_le (cLi_lt _ _ _) (Nat.pow_le_pow_right (by decide) (by have := hr.1; omega) : 2 ^ rN ρ ≤ 2 ^ 4)
    have hgl := gC_le (ρ := ρ) (b := b) (i := i) (la := cLi (rN ρ) (cNx ρ (l.getD i 0) b) (rN ρ)) (l := l)
    have hml := mA_le (ρ := ρ) (b := b) (l := l) i
    have eg : gC ρ b l (i + 1) (cLi (rN ρ) (cNx ρ (l.getD i 0) b) (rN ρ)) = gC ρ b l i (cLi (rN ρ) (cNx ρ (l.getD i 0) b) (rN ρ)) + 1 := by rw [gC_s hil, if_pos rfl]
    refine Vj_iloadn (q := 13) dX9_mostAlikeBehind_12 rfl rfl rfl ?_
    refine Vj_aloadn (q := 14) dX9_mostAlikeBehind_13 rfl rfl rfl ?_
    refine Vj_getR (q := 17) flX9_66 rfl rfl dX9_mostAlikeBehind_14 rfl ?_
    refine Vj_getI (q := 20) flX9_240 rfl rfl dX9_mostAlikeBehind_17 rfl ?_
    rw [h5]
    refine Vj_icmp_ge (q := 23) (tgt := 88) dX9_mostAlikeBehind_20 (by decide) rfl (fun hz => absurd hz (nI_ge (by omega) (by omega))) (fun _ => ?_)
    refine Vj_aloadn (q := 24) dX9_mostAlikeBehind_23 rfl rfl rfl ?_
    refine Vj_getR (q := 27) flX9_26 rfl rfl dX9_mostAlikeBehind_24 rfl ?_
    refine Vj_aloadn (q := 28) dX9_mostAlikeBehind_27 rfl rfl rfl ?_
    refine Vj_getR (q := 31) flX9_26 rfl rfl dX9_mostAlikeBehind_28 rfl ?_
    refine Vj_aloadn (q := 32) dX9_mostAlikeBehind_31 rfl rfl rfl ?_
    refine Vj_getR (q := 35) flX9_66 rfl rfl dX9_mostAlikeBehind_32 rfl ?_
    refine Vj_getR (q := 38) flX9_243 rfl rfl dX9_mostAlikeBehind_35 rfl ?_
    refine Vj_iloadn (q := 39) dX9_mostAlikeBehind_38 rfl rfl rfl ?_
    refine Vj_callSi (q := 42) (qX9_atn rfl (by decide) (j := i) (by omega)) (by decide) lkX9_152 stX9_at okX9_at dX9_mostAlikeBehind_39 rfl rfl (Nat.le_of_ble_eq_true rfl) ?_
    rw [hC i hil]
    refine Vj_iloadn (q := 43) dX9_mostAlikeBehind_42 rfl rfl rfl ?_
    refine Vj_callVi (q := 46) (qX2_behind (b := b) (by omega) (by omega)) (by decide) rfl rfl lkX9_165 viX2_behind okX2_behind dX9_mostAlikeBehind_43 rfl rfl (Nat.le_of_ble_eq_true rfl) ?_
    rw [(hT.2 _ hc).2.2 b hb]
    refine Vj_callVi (q := 49) (qX2_lightsIn (by omega)) (by decide) rfl rfl lkX9_285 viX2_lightsIn okX2_lightsIn dX9_mostAlikeBehind_46 rfl rfl (Nat.le_of_ble_eq_true rfl) ?_
    rw [(hT.2 _ hx).2.1]
    refine Vs_istore4 (q := 51) dX9_mostAlikeBehind_49 rfl (by decide) rfl ?_
    refine Vj_aloadn (q := 52) dX9_mostAlikeBehind_51 rfl rfl rfl ?_
    refine Vj_getR (q := 55) flX9_70 rfl rfl dX9_mostAlikeBehind_52 rfl ?_
    refine Vj_iload (q := 57) dX9_mostAlikeBehind_55 rfl rfl ?_
    refine Vj_callSi (q := 60) (qX9_atn rfl (by decide) hla) (by decide) lkX9_152 stX9_at okX9_at dX9_mostAlikeBehind_57 rfl rfl (Nat.le_of_ble_eq_true rfl) ?_
    rw [hg _ hla]
    refine Vj_iconst (q := 61) (v := 1) dX9_mostAlikeBehind_60 rfl (by decide) ?_
    refine Vj_iadd (q := 62) dX9_mostAlikeBehind_61 rfl ?_
    rw [nI_1, ← eg]
    refine Vs_istore5 (q := 64) dX9_mostAlikeBehind_62 rfl (by decide) rfl ?_
    refine Vj_aloadn (q := 65) dX9_mostAlikeBehind_64 rfl rfl rfl ?_
    refine Vj_getR (q := 68) flX9_70 rfl rfl dX9_mostAlikeBehind_65 rfl ?_
    refine Vj_iload (q := 70) dX9_mostAlikeBehind_68 rfl rfl ?_
    refine Vj_iload (q := 72) dX9_mostAlikeBehind_70 rfl rfl ?_
    refine Vj_callSv (q := 75) (qX9_putn rfl (by decide) hla _) (by decide) lkX9_306 stX9_put okX9_put dX9_mostAlikeBehind_72 rfl rfl (Nat.le_of_ble_eq_true rfl) ?_
    refine Vj_iloadn (q := 76) dX9_mostAlikeBehind_75 rfl rfl rfl ?_
    refine Vj_iload (q := 78) dX9_mostAlikeBehind_76 rfl rfl ?_
    refine Vj_mmax (q := 81) lkX9_310 ini_Math (by decide) dX9_mostAlikeBehind_78 rfl (Nat.le_of_ble_eq_true rfl) ?_
    rw [max_nI (by omega) (by omega), show max (mA ρ b l i) (gC ρ b l (i + 1) (cLi (rN ρ) (cNx ρ (l.getD i 0) b) (rN ρ))) = mA ρ b l (i + 1) from rfl]
    refine Vs_istore2 (q := 82) dX9_mostAlikeBehind_81 rfl (by decide) rfl ?_
    refine Vs_iinc3 (q := 85) (z := none) dX9_mostAlikeBehind_82 rfl (by exact iinc_p _) (by decide) rfl ?_
    refine Vj_goto (q := 12) dX9_mostAlikeBehind_85 (by decide) ?_
    rw [nI_1]
    refine ih (i + 1) _ _ _ (by omega) (hT.uI rfl) (by rw [uI_ne (by decide)]; exact h5) (fun j hj => by rw [uI_ne (by decide)]; exact hC j hj) (fun la hla2 => ?_) (hE.u rfl)
    rw [uI_eq, upd]
    by_cases e : la = cLi (rN ρ) (cNx ρ (l.getD i 0) b) (rN ρ)
    · rw [if_pos e, e]
    · rw [if_neg e, hg la hla2, gC_s hil, if_neg (fun z => e z.symm)]; rfl
set_option maxRecDepth 100000 in
theorem qX9_mostAlikeBehind {ρ : Rm} (hr : okR ρ) {b : Nat} (hb : b < rB ρ) {l : List Nat} (hl : ∀ i, i < l.length → l.getD i 0 < 4 ^ rN ρ) (hl2 : l.length ≤ 256) {σ : Mem} (hT : RT ρ σ) (h5 : σ.1 36 5 = nI l.length) (hC : CdH l σ) : Ct shX 2 mX9_mostAlikeBehind [.ref 0, .int (nI b)] σ (fun r σ' => r = some (.int (nI (mA ρ b l l.length))) ∧ Eqo [41] σ σ') := by
  refine Ct.of (by decide) (Nat.le_of_ble_eq_true rfl) (l := [some (.ref 0), some (.int (nI b)), none, none, none, none]) rfl ?_
  refine Vj_aloadn (q := 1) dX9_mostAlikeBehind_0 rfl rfl rfl ?_
  refine Vj_getR (q := 4) flX9_70 rfl rfl dX9_mostAlikeBehind_1 rfl ?_
  refine Vj_iconst (q := 5) (v := 0) dX9_mostAlikeBehind_4 rfl (by decide) ?_
  refine Vj_callSv (q := 8) (qJ7_fill_53178 rfl (by decide) 0) (by decide) lkX9_300 stJ7_fill_53178 okJ7_fill_53178 dX9_mostAlikeBehind_5 rfl rfl (Nat.le_of_ble_eq_true rfl) ?_
  refine Vj_iconst (q := 9) (v := 0) dX9_mostAlikeBehind_8 rfl (by decide) ?_
  refine Vs_istore2 (q := 10) dX9_mostAlikeBehind_9 rfl (by decide) rfl ?_
  refine Vj_iconst (q := 11) (v := 0) dX9_mostAlikeBehind_10 rfl (by decide) ?_
  refine Vs_istore3 (q := 12) dX9_mostAlikeBehind_11 rfl (by decide) rfl ?_
  refine qX9_mostAlikeBehind_loop hr hb hl hl2 l.length 0 _ none none (by omega) (hT.fill rfl) (by rw [fillM_ne (by decide)]; exact h5) (fun j hj => by rw [fillM_ne (by decide)]; exact hC j hj) (fun la hla => ?_) (Eqo.rf.fill rfl)
  rw [fillM_eq]
  simp only [if_pos hla]
  rfl
set_option maxRecDepth 100000 in
theorem qX9_may {tx : List Nat} {ρ : Rm} {c d p : Nat} {ac : List (Nat × Nat × Nat)} {sl : Nat → Option (Nat × Nat × Nat)} {se : List (Nat × Nat × Nat)} {sd : Int64} {N : Nat} {σ : Mem} (h : RX tx ρ c d p ac sl se sd σ) (hv : okV N ρ c d p ac sl se) (what : Int32) : Ct shX 5 mX9_may [.ref 0, .int what] σ (PX (spMay ρ se what) tx ρ c d p ac sl se sd) := by
  obtain ⟨hr, ⟨hc, hco⟩, ⟨hd, hdo⟩, hp, hN30, ⟨hal, hav⟩, hsv, hse⟩ := hv
  obtain ⟨hTx, hP, hTa, hRE, hNw, hAc, hSl, hSe, hSd⟩ := h
  have hp4 := p4_le hr.1
  have hn5 := hr.1
  have hB7 := hr.2.2.1
  have h : RX tx ρ c d p ac sl se sd σ := ⟨hTx, hP, hTa, hRE, hNw, hAc, hSl, hSe, hSd⟩
  refine Ct.of (by decide) (Nat.le_of_ble_eq_true rfl) (l := [some (.ref 0), some (.int what)]) rfl ?_
  refine Vj_iloadn (q := 1) dX9_may_0 rfl rfl rfl ?_
  refine Vj_if_lt (q := 4) (tgt := 9) dX9_may_1 (by decide) rfl (fun h1w => ?_) (fun h1w => ?_)
  ·
    refine Vj_bipush (q := 11) (v := (-2)) dX9_may_9 rfl (by decide) ?_
    exact Vr_iret rfl rfl dX9_may_11 (⟨by rw [spMay, if_pos (Or.inl h1w)], h⟩)
  ·
    refine Vj_iloadn (q := 5) dX9_may_4 rfl rfl rfl ?_
    refine Vj_iconst (q := 6) (v := 2) dX9_may_5 rfl (by decide) ?_
    refine Vj_icmp_le (q := 9) (tgt := 12) dX9_may_6 (by decide) rfl (fun h6w => ?_) (fun h6w => ?_)
    ·
      have hwn : ¬ (what < 0 ∨ 2 < what) := by
        rintro (z | z)
        · exact h1w z
        · exact Int32.not_le.mpr z h6w
      refine Vj_aloadn (q := 13) dX9_may_12 rfl rfl rfl ?_
      refine Vj_getR (q := 16) flX9_66 rfl rfl dX9_may_13 rfl ?_
      refine Vj_aloadn (q := 17) dX9_may_16 rfl rfl rfl ?_
      refine Vj_getR (q := 20) flX9_26 rfl rfl dX9_may_17 rfl ?_
      refine Vj_aloadn (q := 21) dX9_may_20 rfl rfl rfl ?_
      refine Vj_getR (q := 24) flX9_40 rfl rfl dX9_may_21 rfl ?_
      refine Vj_callV (q := 27) (qX5_narrow hr hse hP hTa hSe) (by decide) rfl rfl lkX9_236 viX5_narrow okX5_narrow dX9_may_24 rfl rfl (Nat.le_of_ble_eq_true rfl) ?_
      rintro r1 σ1 ⟨rfl, g5, gC1, hE1⟩
      show Vj shX 5 mX9_may _ 27 _ [] σ1
      have h1 := h.eqc hE1
      have hP1 := hP.eqc hE1
      have hT1 := hTa.eqc hE1
      have hll := cdK_len (ρ := ρ) (se := se) se.length
      have hlm : ∀ i, i < (cdK ρ se se.length).length → (cdK ρ se se.length).getD i 0 < 4 ^ rN ρ := fun i hi => (cdK_mem _ (getD_mem hi)).1
      refine Vj_iloadn (q := 28) dX9_may_27 rfl rfl rfl ?_
      refine Vj_if_ne (q := 31) (tgt := 39) dX9_may_28 (by decide) rfl (fun h28 => ?_) (fun h28 => ?_)
      ·
        refine Vj_aloadn (q := 40) dX9_may_39 rfl rfl rfl ?_
        refine Vj_getR (q := 43) flX9_66 rfl rfl dX9_may_40 rfl ?_
        refine Vj_getI (q := 46) flX9_240 rfl rfl dX9_may_43 rfl ?_
        rw [g5]
        refine Vj_if_ne (q := 49) (tgt := 52) dX9_may_46 (by decide) rfl (fun h46 => ?_) (fun h46 => ?_)
        ·
          have hl0 : (cdK ρ se se.length).length ≠ 0 := fun z => h46 ((nI_z (by omega)).mpr z)
          refine Vj_iloadn (q := 53) dX9_may_52 rfl rfl rfl ?_
          refine Vj_iconst (q := 54) (v := 1) dX9_may_53 rfl (by decide) ?_
          refine Vj_icmp_ne (q := 57) (tgt := 78) dX9_may_54 (by decide) rfl (fun h54 => ?_) (fun h54 => ?_)
          ·
            refine Vj_aloadn (q := 79) dX9_may_78 rfl rfl rfl ?_
            refine Vj_callVi (q := 82) (qX9_thingsInOneState hP1 g5 gC1 (fun i hi => by have := hlm i hi; omega) (by omega) (by omega)) (by decide) rfl rfl lkX9_246 viX9_thingsInOneState okX9_thingsInOneState dX9_may_79 rfl rfl (Nat.le_of_ble_eq_true rfl) ?_
            exact Vr_iret rfl rfl dX9_may_82 (⟨by rw [spMay, if_neg hwn, if_neg h28, if_neg hl0, if_neg h54], h1⟩)
          ·
            refine Vj_aloadn (q := 58) dX9_may_57 rfl rfl rfl ?_
            refine Vj_getR (q := 61) flX9_26 rfl rfl dX9_may_58 rfl ?_
            refine Vj_aloadn (q := 62) dX9_may_61 rfl rfl rfl ?_
            refine Vj_getR (q := 65) flX9_66 rfl rfl dX9_may_62 rfl ?_
            refine Vj_getR (q := 68) flX9_243 rfl rfl dX9_may_65 rfl ?_
            refine Vj_iconst (q := 69) (v := 0) dX9_may_68 rfl (by decide) ?_
            refine Vj_callSi (q := 72) (qX9_atn rfl (by decide) (j := 0) (by decide)) (by decide) lkX9_152 stX9_at okX9_at dX9_may_69 rfl rfl (Nat.le_of_ble_eq_true rfl) ?_
            have hm0 := cdK_mem _ (getD_mem (show 0 < (cdK ρ se se.length).length by omega))
            have hm00 := hm0.1
            rw [gC1 0 (by omega)]
            refine Vj_callVi (q := 75) (qX2_messOf (by omega)) (by decide) rfl rfl lkX9_168 viX2_messOf okX2_messOf dX9_may_72 rfl rfl (Nat.le_of_ble_eq_true rfl) ?_
            rw [mess_c hT1 hm0.1 hm0.2]
            refine Vj_goto (q := 82) dX9_may_75 (by decide) ?_
            exact Vr_iret rfl rfl dX9_may_82 (⟨by rw [spMay, if_neg hwn, if_neg h28, if_neg hl0, if_pos h54], h1⟩)
        ·
          refine Vj_bipush (q := 51) (v := (-9)) dX9_may_49 rfl (by decide) ?_
          exact Vr_iret rfl rfl dX9_may_51 (⟨by rw [spMay, if_neg hwn, if_neg h28, if_pos ((nI_z (by omega)).mp h46)], h1⟩)
      ·
        refine Vj_aloadn (q := 32) dX9_may_31 rfl rfl rfl ?_
        refine Vj_getR (q := 35) flX9_66 rfl rfl dX9_may_32 rfl ?_
        refine Vj_getI (q := 38) flX9_240 rfl rfl dX9_may_35 rfl ?_
        rw [g5]
        exact Vr_iret rfl rfl dX9_may_38 (⟨by rw [spMay, if_neg hwn, if_pos h28], h1⟩)
    ·
      refine Vj_bipush (q := 11) (v := (-2)) dX9_may_9 rfl (by decide) ?_
      exact Vr_iret rfl rfl dX9_may_11 (⟨by rw [spMay, if_pos (Or.inr (Int32.not_le.mp h6w))], h⟩)
def tlV : Option (Nat × Nat) → Int32 × Int32
  | none => (-9, -9)
  | some u => (nI u.1, nI u.2)
theorem tlK_lt {ρ : Rm} {l : List Nat} : ∀ k u, tlK ρ l k = some u → u.1 < k ∧ u.2 ≤ l.length
  | 0, u, e => by cases e
  | k + 1, u, e => by
    rw [tlK] at e
    cases e2 : tlK ρ l k with
    | none => rw [e2] at e; cases e; exact ⟨by simp only; omega, mA_le _⟩
    | some u2 =>
      rw [e2] at e
      simp only at e
      split at e
      · cases e; exact ⟨by simp only; omega, mA_le _⟩
      · cases e
        have := tlK_lt k _ e2
        exact ⟨by omega, this.2⟩
theorem tlK_none {ρ : Rm} {l : List Nat} : ∀ k, tlK ρ l k = none → k = 0
  | 0, _ => rfl
  | k + 1, e => by
    rw [tlK] at e
    split at e
    · cases e
    · split at e <;> cases e
set_option maxRecDepth 100000 in
theorem qX9_tells_loop {tx : List Nat} {ρ : Rm} {c d p : Nat} {ac : List (Nat × Nat × Nat)} {sl : Nat → Option (Nat × Nat × Nat)} {se : List (Nat × Nat × Nat)} {sd : Int64} {N : Nat} {σ : Mem} (h : RX tx ρ c d p ac sl se sd σ) (hv : okV N ρ c d p ac sl se) {many : Int32} (hl0 : (cdK ρ se se.length).length ≠ 0) : ∀ (k t : Nat) (σ1 : Mem) (z5 : Option Value), t + k = rB ρ → RX tx ρ c d p ac sl se sd σ1 → σ1.1 36 5 = nI (cdK ρ se se.length).length → CdH (cdK ρ se se.length) σ1 → Vj shX 3 mX9_tells (PX (spTells ρ se many) tx ρ c d p ac sl se sd) 37 [some (.ref 0), some (.int many), some (.int (tlV (tlK ρ (cdK ρ se se.length) t)).1), some (.int (tlV (tlK ρ (cdK ρ se se.length) t)).2), some (.int (nI t)), z5] [] σ1 := by
  intro k
  have hr := hv.1
  have hp4 := p4_le hr.1
  have hB7 := hr.2.2.1
  have hll := cdK_len (ρ := ρ) (se := se) se.length
  have hlm : ∀ i, i < (cdK ρ se se.length).length → (cdK ρ se se.length).getD i 0 < 4 ^ rN ρ := fun i hi => (cdK_mem _ (getD_mem hi)).1
  induction k with
  | zero =>
    intro t σ1 z5 ht h1 g5 gC1
    obtain rfl : t = rB ρ := by omega
    refine Vj_iload (q := 39) dX9_tells_37 rfl rfl ?_
    refine Vj_aloadn (q := 40) dX9_tells_39 rfl rfl rfl ?_
    refine Vj_getR (q := 43) flX9_26 rfl rfl dX9_tells_40 rfl ?_
    refine Vj_callVi (q := 46) (qX2_buttons h1.2.1) (by decide) rfl rfl lkX9_128 viX2_buttons okX2_buttons dX9_tells_43 rfl rfl (Nat.le_of_ble_eq_true rfl) ?_
    refine Vj_icmp_ge (q := 49) (tgt := 81) dX9_tells_46 (by decide) rfl (fun _ => ?_) (fun hz => absurd (nI_le (Nat.le_refl _) (by omega)) hz)
    refine Vj_iloadn (q := 82) dX9_tells_81 rfl rfl rfl ?_
    refine Vj_if_eq (q := 85) (tgt := 89) dX9_tells_82 (by decide) rfl (fun h82 => ?_) (fun h82 => ?_)
    ·
      refine Vj_iloadn (q := 90) dX9_tells_89 rfl rfl rfl ?_
      exact Vr_iret rfl rfl dX9_tells_90 (⟨by rw [spTells, if_neg hl0]; cases tlK ρ (cdK ρ se se.length) (rB ρ) with | none => rfl | some u => simp only [tlV, if_pos h82], h1⟩)
    ·
      refine Vj_iloadn (q := 86) dX9_tells_85 rfl rfl rfl ?_
      refine Vj_goto (q := 90) dX9_tells_86 (by decide) ?_
      exact Vr_iret rfl rfl dX9_tells_90 (⟨by rw [spTells, if_neg hl0]; cases tlK ρ (cdK ρ se se.length) (rB ρ) with | none => rfl | some u => simp only [tlV, if_neg h82], h1⟩)
  | succ k ih =>
    intro t σ1 z5 ht h1 g5 gC1
    have hm := mA_le (ρ := ρ) (b := t) (l := cdK ρ se se.length) (cdK ρ se se.length).length
    refine Vj_iload (q := 39) dX9_tells_37 rfl rfl ?_
    refine Vj_aloadn (q := 40) dX9_tells_39 rfl rfl rfl ?_
    refine Vj_getR (q := 43) flX9_26 rfl rfl dX9_tells_40 rfl ?_
    refine Vj_callVi (q := 46) (qX2_buttons h1.2.1) (by decide) rfl rfl lkX9_128 viX2_buttons okX2_buttons dX9_tells_43 rfl rfl (Nat.le_of_ble_eq_true rfl) ?_
    refine Vj_icmp_ge (q := 49) (tgt := 81) dX9_tells_46 (by decide) rfl (fun hz => absurd hz (nI_ge (by omega) (by omega))) (fun _ => ?_)
    refine Vj_aloadn (q := 50) dX9_tells_49 rfl rfl rfl ?_
    refine Vj_iload (q := 52) dX9_tells_50 rfl rfl ?_
    refine Vj_callV (q := 55) (qX9_mostAlikeBehind hr (b := t) (by omega) hlm (by omega) h1.2.2.1 g5 gC1) (by decide) rfl rfl lkX9_249 viX9_mostAlikeBehind okX9_mostAlikeBehind dX9_tells_52 rfl rfl (Nat.le_of_ble_eq_true rfl) ?_
    rintro r2 σ2 ⟨rfl, hE2⟩
    show Vj shX 3 mX9_tells _ 55 _ [.int _] σ2
    have h2 := h1.eqc (hE2.c rfl)
    have g52 : σ2.1 36 5 = nI (cdK ρ se se.length).length := by rw [hE2.at 36 rfl]; exact g5
    have gC2 : CdH (cdK ρ se se.length) σ2 := fun j hj => by rw [hE2.at 40 rfl]; exact gC1 j hj
    refine Vs_istore5 (q := 57) dX9_tells_55 rfl (by decide) rfl ?_
    rcases et : tlK ρ (cdK ρ se se.length) t with _ | u
    ·
      have e1 : tlK ρ (cdK ρ se se.length) (t + 1) = some (t, mA ρ t (cdK ρ se se.length) (cdK ρ se se.length).length) := by rw [tlK, et]
      simp only [tlV]
      refine Vj_iloadn (q := 58) dX9_tells_57 rfl rfl rfl ?_
      refine Vj_bipush (q := 60) (v := (-9)) dX9_tells_58 rfl (by decide) ?_
      refine Vj_icmp_eq (q := 63) (tgt := 69) dX9_tells_60 (by decide) rfl (fun _ => ?_) (fun hz => absurd rfl hz)
      refine Vj_iload (q := 71) dX9_tells_69 rfl rfl ?_
      refine Vs_istore2 (q := 72) dX9_tells_71 rfl (by decide) rfl ?_
      refine Vj_iload (q := 74) dX9_tells_72 rfl rfl ?_
      refine Vs_istore3 (q := 75) dX9_tells_74 rfl (by decide) rfl ?_
      refine Vs_iinc4 (q := 78) (z := none) dX9_tells_75 rfl (by exact iinc_p _) (by decide) rfl ?_
      refine Vj_goto (q := 37) dX9_tells_78 (by decide) ?_
      rw [nI_1]
      have hi := ih (t + 1) σ2 (some (.int (nI (mA ρ t (cdK ρ se se.length) (cdK ρ se se.length).length)))) (by omega) h2 g52 gC2
      rw [e1] at hi
      exact hi
    ·
      have hu := tlK_lt t u et
      have n9 : ¬ nI u.1 = -9 := fun z => by
        have h9 := nI_pos' (n := u.1) (by omega)
        rw [z] at h9
        exact absurd h9 (by decide)
      simp only [tlV]
      refine Vj_iloadn (q := 58) dX9_tells_57 rfl rfl rfl ?_
      refine Vj_bipush (q := 60) (v := (-9)) dX9_tells_58 rfl (by decide) ?_
      refine Vj_icmp_eq (q := 63) (tgt := 69) dX9_tells_60 (by decide) rfl (fun hz => absurd hz n9) (fun _ => ?_)
      refine Vj_iload (q := 65) dX9_tells_63 rfl rfl ?_
      refine Vj_iloadn (q := 66) dX9_tells_65 rfl rfl rfl ?_
      refine Vj_icmp_ge (q := 69) (tgt := 75) dX9_tells_66 (by decide) rfl (fun h66 => ?_) (fun h66 => ?_)
      ·
        have e1 : tlK ρ (cdK ρ se se.length) (t + 1) = some u := by
          rw [tlK, et]
          simp only []
          rw [if_neg (by have := (nI_leI (by omega) (by omega)).mp h66; omega)]
        refine Vs_iinc4 (q := 78) (z := none) dX9_tells_75 rfl (by exact iinc_p _) (by decide) rfl ?_
        refine Vj_goto (q := 37) dX9_tells_78 (by decide) ?_
        rw [nI_1]
        have hi := ih (t + 1) σ2 (some (.int (nI (mA ρ t (cdK ρ se se.length) (cdK ρ se se.length).length)))) (by omega) h2 g52 gC2
        rw [e1] at hi
        exact hi
      ·
        refine Vj_iload (q := 71) dX9_tells_69 rfl rfl ?_
        refine Vs_istore2 (q := 72) dX9_tells_71 rfl (by decide) rfl ?_
        refine Vj_iload (q := 74) dX9_tells_72 rfl rfl ?_
        refine Vs_istore3 (q := 75) dX9_tells_74 rfl (by decide) rfl ?_
        have e1 : tlK ρ (cdK ρ se se.length) (t + 1) = some (t, mA ρ t (cdK ρ se se.length) (cdK ρ se se.length).length) := by
          rw [tlK, et]
          simp only []
          rw [if_pos (by have := (nI_ltI (by omega) (by omega)).mp (Int32.not_le.mp h66); omega)]
        refine Vs_iinc4 (q := 78) (z := none) dX9_tells_75 rfl (by exact iinc_p _) (by decide) rfl ?_
        refine Vj_goto (q := 37) dX9_tells_78 (by decide) ?_
        rw [nI_1]
        have hi := ih (t + 1) σ2 (some (.int (nI (mA ρ t (cdK ρ se se.length) (cdK ρ se se.length).length)))) (by omega) h2 g52 gC2
        rw [e1] at hi
        exact hi
set_option maxRecDepth 100000 in
theorem qX9_tells {tx : List Nat} {ρ : Rm} {c d p : Nat} {ac : List (Nat × Nat × Nat)} {sl : Nat → Option (Nat × Nat × Nat)} {se : List (Nat × Nat × Nat)} {sd : Int64} {N : Nat} {σ : Mem} (h : RX tx ρ c d p ac sl se sd σ) (hv : okV N ρ c d p ac sl se) (many : Int32) : Ct shX 5 mX9_tells [.ref 0, .int many] σ (PX (spTells ρ se many) tx ρ c d p ac sl se sd) := by
  obtain ⟨hr, ⟨hc, hco⟩, ⟨hd, hdo⟩, hp, hN30, ⟨hal, hav⟩, hsv, hse⟩ := hv
  obtain ⟨hTx, hP, hTa, hRE, hNw, hAc, hSl, hSe, hSd⟩ := h
  have hp4 := p4_le hr.1
  have hn5 := hr.1
  have hB7 := hr.2.2.1
  have h : RX tx ρ c d p ac sl se sd σ := ⟨hTx, hP, hTa, hRE, hNw, hAc, hSl, hSe, hSd⟩
  refine Ct.of (by decide) (Nat.le_of_ble_eq_true rfl) (l := [some (.ref 0), some (.int many), none, none, none, none]) rfl ?_
  refine Vj_aloadn (q := 1) dX9_tells_0 rfl rfl rfl ?_
  refine Vj_getR (q := 4) flX9_66 rfl rfl dX9_tells_1 rfl ?_
  refine Vj_aloadn (q := 5) dX9_tells_4 rfl rfl rfl ?_
  refine Vj_getR (q := 8) flX9_26 rfl rfl dX9_tells_5 rfl ?_
  refine Vj_aloadn (q := 9) dX9_tells_8 rfl rfl rfl ?_
  refine Vj_getR (q := 12) flX9_40 rfl rfl dX9_tells_9 rfl ?_
  refine Vj_callV (q := 15) (qX5_narrow hr hse hP hTa hSe) (by decide) rfl rfl lkX9_236 viX5_narrow okX5_narrow dX9_tells_12 rfl rfl (Nat.le_of_ble_eq_true rfl) ?_
  rintro r1 σ1 ⟨rfl, g5, gC1, hE1⟩
  show Vj shX 5 mX9_tells _ 15 _ [] σ1
  have h1 := h.eqc hE1
  have hP1 := hP.eqc hE1
  have hT1 := hTa.eqc hE1
  have hll := cdK_len (ρ := ρ) (se := se) se.length
  have hlm : ∀ i, i < (cdK ρ se se.length).length → (cdK ρ se se.length).getD i 0 < 4 ^ rN ρ := fun i hi => (cdK_mem _ (getD_mem hi)).1
  refine Vj_aloadn (q := 16) dX9_tells_15 rfl rfl rfl ?_
  refine Vj_getR (q := 19) flX9_66 rfl rfl dX9_tells_16 rfl ?_
  refine Vj_getI (q := 22) flX9_240 rfl rfl dX9_tells_19 rfl ?_
  rw [g5]
  refine Vj_if_ne (q := 25) (tgt := 28) dX9_tells_22 (by decide) rfl (fun h22 => ?_) (fun h22 => ?_)
  ·
    refine Vj_bipush (q := 30) (v := (-9)) dX9_tells_28 rfl (by decide) ?_
    refine Vs_istore2 (q := 31) dX9_tells_30 rfl (by decide) rfl ?_
    refine Vj_bipush (q := 33) (v := (-9)) dX9_tells_31 rfl (by decide) ?_
    refine Vs_istore3 (q := 34) dX9_tells_33 rfl (by decide) rfl ?_
    refine Vj_iconst (q := 35) (v := 0) dX9_tells_34 rfl (by decide) ?_
    refine Vs_istore4 (q := 37) dX9_tells_35 rfl (by decide) rfl ?_
    have hl0 : (cdK ρ se se.length).length ≠ 0 := fun z => h22 ((nI_z (by omega)).mpr z)
    exact fun d2 hd2 => qX9_tells_loop h ⟨hr, ⟨hc, hco⟩, ⟨hd, hdo⟩, hp, hN30, ⟨hal, hav⟩, hsv, hse⟩ hl0 (rB ρ) 0 σ1 none (by omega) h1 g5 gC1 d2 (by omega)
  ·
    refine Vj_bipush (q := 27) (v := (-9)) dX9_tells_25 rfl (by decide) ?_
    exact Vr_iret rfl rfl dX9_tells_27 (⟨by rw [spTells, if_pos ((nI_z (by omega)).mp h22)], h1⟩)
