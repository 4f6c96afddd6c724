/-! presses: what is answered of them -/
def spAfter (ρ : Rm) (c : Nat) (n row : Int32) : Int32 := if n < 1 ∨ 6 < n ∨ isR n.toNatClampNeg row = false then -2 else if rKk ρ n.toNatClampNeg row.toNatClampNeg n.toNatClampNeg then nI (cDg (rN ρ) (rGo ρ n.toNatClampNeg row.toNatClampNeg c n.toNatClampNeg) (rN ρ)) else -3
def aGo (ρ : Rm) (c : Nat) : Nat → Nat
  | 0 => c
  | k + 1 => cNx ρ (aGo ρ c k) k
theorem aGo_lt {ρ : Rm} (h : okR ρ) {c : Nat} (hc : cV ρ c) : ∀ k, k ≤ rB ρ → cV ρ (aGo ρ c k)
  | 0, _ => hc
  | k + 1, hk => ⟨cNx_lt h (aGo_lt h hc k (by omega)).1 (by omega), cOk_nx h (aGo_lt h hc k (by omega)).1 (by omega) (aGo_lt h hc k (by omega)).2⟩
theorem rGo_ok {ρ : Rm} (h : okR ρ) {n r c : Nat} (hc : cV ρ c) : ∀ k, rKk ρ n r k = true → cV ρ (rGo ρ n r c k)
  | 0, _ => hc
  | k + 1, hk => by
    rw [rKk, Bool.and_eq_true] at hk
    have ih := rGo_ok h hc k hk.1
    exact ⟨cNx_lt h ih.1 (bOk_1 hk.2).2, cOk_nx h ih.1 (bOk_1 hk.2).2 ih.2⟩
/-- all buttons, as bits -/
def evB (ρ : Rm) : Nat := 2 ^ rB ρ - 1
theorem evB_lt {ρ : Rm} (h : okR ρ) : evB ρ < 64 := by
  have h2 : 2 ^ rB ρ ≤ 2 ^ 6 := Nat.pow_le_pow_right (by decide) (by have := h.2.2.1; omega)
  have h3 : 0 < 2 ^ rB ρ := Nat.pow_pos (by decide)
  unfold evB; omega
/-- the first row by which c comes to the target in k presses -/
def fwGo (nx : Nat → Nat → Nat) (nb : Nat) (D : Nat → Option Nat) : Nat → Nat → Nat → Nat
  | 0, _, v => v
  | k + 1, c, v => fwGo nx nb D k (nx c ((fstN (fun b => D (nx c b) == some k) nb).getD 0)) (v * 10 + (fstN (fun b => D (nx c b) == some k) nb).getD 0 + 1)
def spFewest (ρ : Rm) (c : Nat) (mess row : Int32) : Int32 :=
  match cOf ρ (rN ρ) mess 0 with
  | none => -2
  | some to => match dst (cNx ρ) (rB ρ) (evB ρ) to c with
    | none => -9
    | some k => if row = 0 then nI k else if 9 < k then -9 else nI (fwGo (cNx ρ) (rB ρ) (dst (cNx ρ) (rB ρ) (evB ρ) to) k c 0)
def mxD (D : Nat → Option Nat) : Nat → Nat
  | 0 => 0
  | n + 1 => max (mxD D n) ((D n).getD 0)
def spWorst (ρ : Rm) (mess what : Int32) : Int32 :=
  match cOf ρ (rN ρ) mess 0 with
  | none => -2
  | some to => if what < 0 ∨ 1 < what then -2 else if what = 1 then nI (cntN (fun c => (dst (cNx ρ) (rB ρ) (evB ρ) to c).isSome) (4 ^ rN ρ)) else nI (mxD (dst (cNx ρ) (rB ρ) (evB ρ) to) (4 ^ rN ρ))
/-- how many figures a number below 1000 has -/
def fgN (t : Nat) : Nat := if t < 1 then 0 else if t < 10 then 1 else if t < 100 then 2 else 3
def suB (ρ : Rm) (to t : Nat) : Bool := rKk ρ (fgN t) t (fgN t) && bAk ρ (fgN t) t to (4 ^ rN ρ)
def spSure (ρ : Rm) (mess row : Int32) : Int32 :=
  match cOf ρ (rN ρ) mess 0 with
  | none => -2
  | some to => match fstN (suB ρ to) 667 with
    | none => -9
    | some t => if row = 0 then nI (fgN t) else nI t
def pop6 (x : Nat) : Nat := x % 2 + x / 2 % 2 + x / 4 % 2 + x / 8 % 2 + x / 16 % 2 + x / 32 % 2
def nd1 (ρ : Rm) (to c many : Nat) : Option Nat := fstN (fun ch => pop6 ch == many && (dst (cNx ρ) (rB ρ) ch to c).isSome) (2 ^ rB ρ)
def ndK (ρ : Rm) (to c : Nat) : Nat → Option Nat
  | 0 => none
  | k + 1 => match ndK ρ to c k with
    | some x => some x
    | none => nd1 ρ to c k
def spNeeded (ρ : Rm) (c : Nat) (mess : Int32) : Int32 :=
  match cOf ρ (rN ρ) mess 0 with
  | none => -2
  | some to => match ndK ρ to c (rB ρ + 1) with
    | none => -9
    | some x => nI x
def jdG (ρ : Rm) (n r : Nat) : Nat → Nat → Nat → Option Nat
  | 0, _, _ => none
  | k + 1, i, c => if bOk ρ (dg n r i) && !(cNx ρ c (dg n r i - 1) == c) then jdG ρ n r k (i + 1) (cNx ρ c (dg n r i - 1)) else some i
def spJudge (ρ : Rm) (c : Nat) (n row : Int32) : Int32 := if n < 1 ∨ 6 < n ∨ isR n.toNatClampNeg row = false then -2 else fI (jdG ρ n.toNatClampNeg row.toNatClampNeg n.toNatClampNeg 0 c)
theorem cOf_V {ρ : Rm} (hr : okR ρ) : ∀ k left c to, k ≤ rN ρ → c < 4 ^ rN ρ → (∀ t, k ≤ t → t < rN ρ → cS (rN ρ) c t < rS ρ t) → cOf ρ k left c = some to → cV ρ to
  | 0, left, c, to, _, hc, h, e => by
    rw [cOf] at e
    split at e
    · cases e
      exact ⟨hc, cOk_iff.mpr fun t ht => h t (Nat.zero_le t) ht⟩
    · cases e
  | k + 1, left, c, to, hk, hc, h, e => by
    rw [cOf] at e
    split at e
    · cases e
    · rename_i hn
      obtain ⟨j, hj, ej⟩ := dig_of (n := rS ρ k) (by have := (hr.2.1 k (by omega)).2; omega) (fun z => hn (Or.inl z)) (Int32.not_le.mp fun z => hn (Or.inr z))
      rw [ej, nI_clamp (by have := (hr.2.1 k (by omega)).2; omega)] at e
      have hz := (hr.2.1 k (by omega)).2
      refine cOf_V hr k _ _ to (by omega) (cW_lt _ hr.1 c hc k (by omega) j (by omega)) (fun t h1 h2 => ?_) e
      rw [cS_cW _ hr.1 c hc k (by omega) j (by omega) t h2]
      by_cases et : t = k
      · subst et; rw [if_pos rfl]; exact hj
      · rw [if_neg et]; exact h t (by omega) h2
def pc1 (x : Int32) : Int32 := x - ((x.toUInt32 >>> ((1 : Int32).toUInt32 &&& Int32.toUInt32 31)).toInt32 &&& 1431655765)
def pc2 (x : Int32) : Int32 := (x &&& 858993459) + ((x.toUInt32 >>> ((2 : Int32).toUInt32 &&& Int32.toUInt32 31)).toInt32 &&& 858993459)
def pc3 (x : Int32) : Int32 := (x + (x.toUInt32 >>> ((4 : Int32).toUInt32 &&& Int32.toUInt32 31)).toInt32) &&& 252645135
def pc4 (x : Int32) : Int32 := x + (x.toUInt32 >>> ((8 : Int32).toUInt32 &&& Int32.toUInt32 31)).toInt32
def pc5 (x : Int32) : Int32 := x + (x.toUInt32 >>> ((16 : Int32).toUInt32 &&& Int32.toUInt32 31)).toInt32
def qc1 (x : Nat) : Nat := x - ((x / 2) &&& 1431655765)
def qc2 (x : Nat) : Nat := (x &&& 858993459) + ((x / 4) &&& 858993459)
def qc3 (x : Nat) : Nat := (x + x / 16) &&& 252645135
theorem s_pc1 : ∀ x, x < 64 → pc1 (nI x) = nI (qc1 x) := by decide +kernel
theorem s_pc2 : ∀ x, x < 64 → pc2 (nI x) = nI (qc2 x) := by decide +kernel
theorem s_pc3 : ∀ x, x < 64 → pc3 (nI x) = nI (qc3 x) := by decide +kernel
theorem s_pc4 : ∀ x, x < 64 → pc4 (nI x) = nI x := by decide +kernel
theorem s_pc5 : ∀ x, x < 64 → pc5 (nI x) = nI x := by decide +kernel
theorem s_pc6 : ∀ x, x < 64 → nI x &&& 63 = nI x := by decide +kernel
theorem s_qc : ∀ x, x < 64 → qc1 x < 64 ∧ qc2 x < 64 ∧ qc3 x < 64 ∧ qc3 (qc2 (qc1 x)) = pop6 x := by decide +kernel

theorem Vj_top {sh : Shp} {kd : Nat} {M : MI} {Post : Option Value → Mem → Prop} {pc : Nat} {l : List (Option Value)} {st : List Value} {σ : Mem} {x y : Int32} (h : x = y) (k : Vj sh kd M Post pc l (.int y :: st) σ) : Vj sh kd M Post pc l (.int x :: st) σ := by
  subst h; exact k
set_option maxRecDepth 100000 in
theorem qJ6_bitCount_0f7a4 {sh : Shp} {σ : Mem} {x : Nat} (hx : x < 64) : Ct sh 0 mJ6_bitCount_0f7a4 [.int (nI x)] σ (Ri (nI (pop6 x)) σ) := by
  obtain ⟨h1, -, -, h4⟩ := s_qc x hx
  have h2 := (s_qc _ h1).2.1
  have h3 := (s_qc _ h2).2.2.1
  refine Ct.of (by decide) (Nat.le_of_ble_eq_true rfl) (l := [some (.int (nI x))]) rfl ?_
  refine Vj_iloadn (q := 1) dJ6_bitCount_0f7a4_0 rfl rfl rfl ?_
  refine Vj_iloadn (q := 2) dJ6_bitCount_0f7a4_1 rfl rfl rfl ?_
  refine Vj_iconst (q := 3) (v := 1) dJ6_bitCount_0f7a4_2 rfl (by decide) ?_
  refine Vj_iushr (q := 4) dJ6_bitCount_0f7a4_3 rfl ?_
  refine Vj_ldcw (q := 7) dJ6_bitCount_0f7a4_4 rfl kcJ6_265 ?_
  refine Vj_iand (q := 8) dJ6_bitCount_0f7a4_7 rfl ?_
  refine Vj_isub (q := 9) dJ6_bitCount_0f7a4_8 rfl ?_
  refine Vj_top (s_pc1 x hx) ?_
  refine Vs_istore0 (q := 10) dJ6_bitCount_0f7a4_9 rfl (by decide) ?_
  refine Vj_iloadn (q := 11) dJ6_bitCount_0f7a4_10 rfl rfl rfl ?_
  refine Vj_ldcw (q := 14) dJ6_bitCount_0f7a4_11 rfl kcJ6_266 ?_
  refine Vj_iand (q := 15) dJ6_bitCount_0f7a4_14 rfl ?_
  refine Vj_iloadn (q := 16) dJ6_bitCount_0f7a4_15 rfl rfl rfl ?_
  refine Vj_iconst (q := 17) (v := 2) dJ6_bitCount_0f7a4_16 rfl (by decide) ?_
  refine Vj_iushr (q := 18) dJ6_bitCount_0f7a4_17 rfl ?_
  refine Vj_ldcw (q := 21) dJ6_bitCount_0f7a4_18 rfl kcJ6_266 ?_
  refine Vj_iand (q := 22) dJ6_bitCount_0f7a4_21 rfl ?_
  refine Vj_iadd (q := 23) dJ6_bitCount_0f7a4_22 rfl ?_
  refine Vj_top (s_pc2 _ h1) ?_
  refine Vs_istore0 (q := 24) dJ6_bitCount_0f7a4_23 rfl (by decide) ?_
  refine Vj_iloadn (q := 25) dJ6_bitCount_0f7a4_24 rfl rfl rfl ?_
  refine Vj_iloadn (q := 26) dJ6_bitCount_0f7a4_25 rfl rfl rfl ?_
  refine Vj_iconst (q := 27) (v := 4) dJ6_bitCount_0f7a4_26 rfl (by decide) ?_
  refine Vj_iushr (q := 28) dJ6_bitCount_0f7a4_27 rfl ?_
  refine Vj_iadd (q := 29) dJ6_bitCount_0f7a4_28 rfl ?_
  refine Vj_ldcw (q := 32) dJ6_bitCount_0f7a4_29 rfl kcJ6_267 ?_
  refine Vj_iand (q := 33) dJ6_bitCount_0f7a4_32 rfl ?_
  refine Vj_top (s_pc3 _ h2) ?_
  refine Vs_istore0 (q := 34) dJ6_bitCount_0f7a4_33 rfl (by decide) ?_
  refine Vj_iloadn (q := 35) dJ6_bitCount_0f7a4_34 rfl rfl rfl ?_
  refine Vj_iloadn (q := 36) dJ6_bitCount_0f7a4_35 rfl rfl rfl ?_
  refine Vj_bipush (q := 38) (v := 8) dJ6_bitCount_0f7a4_36 rfl (by decide) ?_
  refine Vj_iushr (q := 39) dJ6_bitCount_0f7a4_38 rfl ?_
  refine Vj_iadd (q := 40) dJ6_bitCount_0f7a4_39 rfl ?_
  refine Vj_top (s_pc4 _ h3) ?_
  refine Vs_istore0 (q := 41) dJ6_bitCount_0f7a4_40 rfl (by decide) ?_
  refine Vj_iloadn (q := 42) dJ6_bitCount_0f7a4_41 rfl rfl rfl ?_
  refine Vj_iloadn (q := 43) dJ6_bitCount_0f7a4_42 rfl rfl rfl ?_
  refine Vj_bipush (q := 45) (v := 16) dJ6_bitCount_0f7a4_43 rfl (by decide) ?_
  refine Vj_iushr (q := 46) dJ6_bitCount_0f7a4_45 rfl ?_
  refine Vj_iadd (q := 47) dJ6_bitCount_0f7a4_46 rfl ?_
  refine Vj_top (s_pc5 _ h3) ?_
  refine Vs_istore0 (q := 48) dJ6_bitCount_0f7a4_47 rfl (by decide) ?_
  refine Vj_iloadn (q := 49) dJ6_bitCount_0f7a4_48 rfl rfl rfl ?_
  refine Vj_bipush (q := 51) (v := 63) dJ6_bitCount_0f7a4_49 rfl (by decide) ?_
  refine Vj_iand (q := 52) dJ6_bitCount_0f7a4_51 rfl ?_
  refine Vr_iret rfl rfl dJ6_bitCount_0f7a4_52 ?_
  exact ⟨by rw [s_pc6 _ h3, h4], rfl⟩
theorem mxD_eq {D : Nat → Option Nat} {z k : Nat} : ∀ n, z < n → D z = some k → (∀ c, c < n → ∀ k', D c = some k' → k' ≤ k) → mxD D n = k
  | n, hz, hk, hm => by
    have up : ∀ m, m ≤ n → mxD D m ≤ k := by
      intro m hmn
      induction m with
      | zero => exact Nat.zero_le k
      | succ m ih =>
        rw [mxD]
        refine Nat.max_le.mpr ⟨ih (by omega), ?_⟩
        cases e : D m with
        | none => exact Nat.zero_le k
        | some k' => exact hm m (by omega) k' e
    have lo : ∀ m, z < m → m ≤ n → k ≤ mxD D m := by
      intro m h1 h2
      induction m with
      | zero => exact absurd h1 (Nat.not_lt_zero z)
      | succ m ih =>
        rw [mxD]
        by_cases e : z = m
        · subst e; rw [hk]; exact Nat.le_max_right _ _
        · exact Nat.le_trans (ih (by omega) (by omega)) (Nat.le_max_left _ _)
    exact Nat.le_antisymm (up n (Nat.le_refl n)) (lo n hz (Nat.le_refl n))
set_option maxRecDepth 100000 in
theorem qX9_after {tx : List Nat} {ρ : Rm} {c d p : Nat} {ac : List (Nat × Nat × Nat)} {sl : Nat → Option (Nat × Nat × Nat)} {se : List (Nat × Nat × Nat)} {sd : Int64} {N : Nat} {σ : Mem} (h : RX tx ρ c d p ac sl se sd σ) (hv : okV N ρ c d p ac sl se) (n row : Int32) : Ct shX 3 mX9_after [.ref 0, .int n, .int row] σ (PX (spAfter ρ c n row) tx ρ c d p ac sl se sd) := by
  obtain ⟨hr, ⟨hc, hco⟩, ⟨hd, hdo⟩, hp, hN30, ⟨hal, hav⟩, hsv, hse⟩ := hv
  obtain ⟨hTx, hP, hTa, hRE, hNw, hAc, hSl, hSe, hSd⟩ := h
  have hp4 := p4_le hr.1
  have hn5 := hr.1
  have hB7 := hr.2.2.1
  have h : RX tx ρ c d p ac sl se sd σ := ⟨hTx, hP, hTa, hRE, hNw, hAc, hSl, hSe, hSd⟩
  refine Ct.of (by decide) (Nat.le_of_ble_eq_true rfl) (l := [some (.ref 0), some (.int n), some (.int row)]) rfl ?_
  refine Vj_iloadn (q := 1) dX9_after_0 rfl rfl rfl ?_
  refine Vj_iconst (q := 2) (v := 1) dX9_after_1 rfl (by decide) ?_
  refine Vj_icmp_lt (q := 5) (tgt := 19) dX9_after_2 (by decide) rfl (fun h2 => ?_) (fun h2 => ?_)
  ·
    refine Vj_bipush (q := 21) (v := (-2)) dX9_after_19 rfl (by decide) ?_
    exact Vr_iret rfl rfl dX9_after_21 (⟨by rw [spAfter, if_pos (Or.inl h2)], h⟩)
  ·
    refine Vj_iloadn (q := 6) dX9_after_5 rfl rfl rfl ?_
    refine Vj_bipush (q := 8) (v := 6) dX9_after_6 rfl (by decide) ?_
    refine Vj_icmp_gt (q := 11) (tgt := 19) dX9_after_8 (by decide) rfl (fun h8 => ?_) (fun h8 => ?_)
    ·
      refine Vj_bipush (q := 21) (v := (-2)) dX9_after_19 rfl (by decide) ?_
      exact Vr_iret rfl rfl dX9_after_21 (⟨by rw [spAfter, if_pos (Or.inr (Or.inl h8))], h⟩)
    ·
      obtain ⟨k, hk, rfl⟩ := nI_of (x := n) (fun z => by have h0 := Int32.not_lt.mp h2; exact absurd (Int32.lt_of_le_of_lt h0 z) (by decide))
      have hk1 : 1 ≤ k := (nI_leI (a := 1) (by decide) hk).mp (Int32.not_lt.mp h2)
      have hk7 : k < 7 := by have := (nI_leI (b := 6) hk (by decide)).mp (Int32.not_lt.mp h8); omega
      have ekc : (nI k).toNatClampNeg = k := nI_clamp hk
      refine Vj_iloadn (q := 12) dX9_after_11 rfl rfl rfl ?_
      refine Vj_iloadn (q := 13) dX9_after_12 rfl rfl rfl ?_
      refine Vj_callSi (q := 16) (qX9_isRow (n := k) (by omega) row) (by decide) lkX9_178 stX9_isRow okX9_isRow dX9_after_13 rfl rfl (Nat.le_of_ble_eq_true rfl) ?_
      refine Vj_if_ne (q := 19) (tgt := 22) dX9_after_16 (by decide) rfl (fun h16 => ?_) (fun h16 => ?_)
      ·
        obtain ⟨r, hrr, rfl, erc⟩ := isR_n (by omega) (bI_n.mp h16)
        have hr31 : r < 2 ^ 31 := Nat.lt_of_lt_of_le hrr (Nat.le_trans (Nat.pow_le_pow_right (by decide) (show k ≤ 6 by omega)) (by decide))
        have hno : ¬ (nI k < 1 ∨ 6 < nI k ∨ isR (nI k).toNatClampNeg (nI r) = false) := by
          rintro (z | z | z)
          · exact h2 z
          · exact h8 z
          · rw [ekc, bI_n.mp h16] at z; cases z
        refine Vj_aloadn (q := 23) dX9_after_22 rfl rfl rfl ?_
        refine Vj_getR (q := 26) flX9_40 rfl rfl dX9_after_23 rfl ?_
        refine Vj_iloadn (q := 27) dX9_after_26 rfl rfl rfl ?_
        refine Vj_iloadn (q := 28) dX9_after_27 rfl rfl rfl ?_
        refine Vj_callV (q := 31) (qX4_read hk7 hr31) (by decide) rfl rfl lkX9_182 viX4_read okX4_read dX9_after_28 rfl rfl (Nat.le_of_ble_eq_true rfl) ?_
        rintro r1 σ1 ⟨rfl, hR1, hE1⟩
        show Vj shX 3 mX9_after _ 31 _ [] σ1
        have hE1 := hE1.c rfl
        have h1 := h.eqc hE1
        have hP1 := hP.eqc hE1
        have hT1 := hTa.eqc hE1
        have hN1 := hNw.eqc hE1
        refine Vj_aloadn (q := 32) dX9_after_31 rfl rfl rfl ?_
        refine Vj_getR (q := 35) flX9_40 rfl rfl dX9_after_32 rfl ?_
        refine Vj_aloadn (q := 36) dX9_after_35 rfl rfl rfl ?_
        refine Vj_getR (q := 39) flX9_26 rfl rfl dX9_after_36 rfl ?_
        refine Vj_callVi (q := 42) (qX4_isKnownTo hP1 hR1 hk7) (by decide) rfl rfl lkX9_186 viX4_isKnownTo okX4_isKnownTo dX9_after_39 rfl rfl (Nat.le_of_ble_eq_true rfl) ?_
        refine Vj_if_ne (q := 45) (tgt := 48) dX9_after_42 (by decide) rfl (fun h42 => ?_) (fun h42 => ?_)
        ·
          have hkn := bI_n.mp h42
          have hg := rGo_ok hr (n := k) (r := r) ⟨hc, hco⟩ k hkn
          have hg1 := hg.1
          refine Vj_aloadn (q := 49) dX9_after_48 rfl rfl rfl ?_
          refine Vj_getR (q := 52) flX9_26 rfl rfl dX9_after_49 rfl ?_
          refine Vj_aloadn (q := 53) dX9_after_52 rfl rfl rfl ?_
          refine Vj_getR (q := 56) flX9_40 rfl rfl dX9_after_53 rfl ?_
          refine Vj_aloadn (q := 57) dX9_after_56 rfl rfl rfl ?_
          refine Vj_getR (q := 60) flX9_26 rfl rfl dX9_after_57 rfl ?_
          refine Vj_aloadn (q := 61) dX9_after_60 rfl rfl rfl ?_
          refine Vj_getR (q := 64) flX9_47 rfl rfl dX9_after_61 rfl ?_
          refine Vj_getI (q := 67) flX9_112 rfl rfl dX9_after_64 rfl ?_
          rw [hN1.1]
          refine Vj_callVi (q := 70) (qX4_behind hr hT1 hR1 hk7 hkn hc) (by decide) rfl rfl lkX9_190 viX4_behind okX4_behind dX9_after_67 rfl rfl (Nat.le_of_ble_eq_true rfl) ?_
          refine Vj_callVi (q := 73) (qX2_messOf (by omega)) (by decide) rfl rfl lkX9_168 viX2_messOf okX2_messOf dX9_after_70 rfl rfl (Nat.le_of_ble_eq_true rfl) ?_
          rw [mess_c hT1 hg.1 hg.2]
          exact Vr_iret rfl rfl dX9_after_73 (⟨by rw [spAfter, if_neg hno, ekc, erc, hkn]; rfl, h1⟩)
        ·
          refine Vj_bipush (q := 47) (v := (-3)) dX9_after_45 rfl (by decide) ?_
          exact Vr_iret rfl rfl dX9_after_47 (⟨by rw [spAfter, if_neg hno, ekc, erc, bI_z.mp h42]; rfl, h1⟩)
      ·
        refine Vj_bipush (q := 21) (v := (-2)) dX9_after_19 rfl (by decide) ?_
        exact Vr_iret rfl rfl dX9_after_21 (⟨by rw [spAfter, if_pos (Or.inr (Or.inr (by rw [ekc]; exact bI_z.mp h16)))], h⟩)
set_option maxRecDepth 100000 in
theorem qX9_all_loop {tx : List Nat} {ρ : Rm} {c d p : Nat} {ac : List (Nat × Nat × Nat)} {sl : Nat → Option (Nat × Nat × Nat)} {se : List (Nat × Nat × Nat)} {sd : Int64} {N : Nat} {σ : Mem} (h : RX tx ρ c d p ac sl se sd σ) (hv : okV N ρ c d p ac sl se) : ∀ k t : Nat, t + k = rB ρ → Vj shX 2 mX9_all (PX (nI (cDg (rN ρ) (aGo ρ c (rB ρ)) (rN ρ))) tx ρ c d p ac sl se sd) 10 [some (.ref 0), some (.int (nI (aGo ρ c t))), some (.int (nI t))] [] σ := by
  intro k
  obtain ⟨hr, ⟨hc, hco⟩, ⟨hd, hdo⟩, hp, hN30, ⟨hal, hav⟩, hsv, hse⟩ := hv
  obtain ⟨hTx, hP, hTa, hRE, hNw, hAc, hSl, hSe, hSd⟩ := h
  have hp4 := p4_le hr.1
  have hn5 := hr.1
  have hB7 := hr.2.2.1
  have h : RX tx ρ c d p ac sl se sd σ := ⟨hTx, hP, hTa, hRE, hNw, hAc, hSl, hSe, hSd⟩
  induction k with
  | zero =>
    intro t ht
    obtain rfl : t = rB ρ := by omega
    have ha := aGo_lt hr ⟨hc, hco⟩ (rB ρ) (Nat.le_refl _)
    have ha1 := ha.1
    refine Vj_iloadn (q := 11) dX9_all_10 rfl rfl rfl ?_
    refine Vj_aloadn (q := 12) dX9_all_11 rfl rfl rfl ?_
    refine Vj_getR (q := 15) flX9_26 rfl rfl dX9_all_12 rfl ?_
    refine Vj_callVi (q := 18) (qX2_buttons hP) (by decide) rfl rfl lkX9_128 viX2_buttons okX2_buttons dX9_all_15 rfl rfl (Nat.le_of_ble_eq_true rfl) ?_
    refine Vj_icmp_ge (q := 21) (tgt := 37) dX9_all_18 (by decide) rfl (fun _ => ?_) (fun hz => absurd (nI_le (Nat.le_refl _) (by omega)) hz)
    refine Vj_aloadn (q := 38) dX9_all_37 rfl rfl rfl ?_
    refine Vj_getR (q := 41) flX9_26 rfl rfl dX9_all_38 rfl ?_
    refine Vj_iloadn (q := 42) dX9_all_41 rfl rfl rfl ?_
    refine Vj_callVi (q := 45) (qX2_messOf (by omega)) (by decide) rfl rfl lkX9_168 viX2_messOf okX2_messOf dX9_all_42 rfl rfl (Nat.le_of_ble_eq_true rfl) ?_
    rw [mess_c hTa ha.1 ha.2]
    exact Vr_iret rfl rfl dX9_all_45 (⟨rfl, h⟩)
  | succ k ih =>
    intro t ht
    have ha := aGo_lt hr ⟨hc, hco⟩ t (by omega)
    have ha1 := ha.1
    refine Vj_iloadn (q := 11) dX9_all_10 rfl rfl rfl ?_
    refine Vj_aloadn (q := 12) dX9_all_11 rfl rfl rfl ?_
    refine Vj_getR (q := 15) flX9_26 rfl rfl dX9_all_12 rfl ?_
    refine Vj_callVi (q := 18) (qX2_buttons hP) (by decide) rfl rfl lkX9_128 viX2_buttons okX2_buttons dX9_all_15 rfl rfl (Nat.le_of_ble_eq_true rfl) ?_
    refine Vj_icmp_ge (q := 21) (tgt := 37) dX9_all_18 (by decide) rfl (fun hz => absurd hz (nI_ge (by omega) (by omega))) (fun _ => ?_)
    refine Vj_aloadn (q := 22) dX9_all_21 rfl rfl rfl ?_
    refine Vj_getR (q := 25) flX9_26 rfl rfl dX9_all_22 rfl ?_
    refine Vj_iloadn (q := 26) dX9_all_25 rfl rfl rfl ?_
    refine Vj_iloadn (q := 27) dX9_all_26 rfl rfl rfl ?_
    refine Vj_callVi (q := 30) (qX2_behind (c := aGo ρ c t) (b := t) (by omega) (by omega)) (by decide) rfl rfl lkX9_165 viX2_behind okX2_behind dX9_all_27 rfl rfl (Nat.le_of_ble_eq_true rfl) ?_
    rw [(hTa.2 _ ha.1).2.2 t (by omega)]
    refine Vs_istore1 (q := 31) dX9_all_30 rfl (by decide) rfl ?_
    refine Vs_iinc2 (q := 34) (z := none) dX9_all_31 rfl (by exact iinc_p _) (by decide) rfl ?_
    refine Vj_goto (q := 10) dX9_all_34 (by decide) ?_
    rw [nI_1]
    exact ih (t + 1) (by omega)
set_option maxRecDepth 100000 in
theorem qX9_all {tx : List Nat} {ρ : Rm} {c d p : Nat} {ac : List (Nat × Nat × Nat)} {sl : Nat → Option (Nat × Nat × Nat)} {se : List (Nat × Nat × Nat)} {sd : Int64} {N : Nat} {σ : Mem} (h : RX tx ρ c d p ac sl se sd σ) (hv : okV N ρ c d p ac sl se) : Ct shX 2 mX9_all [.ref 0] σ (PX (nI (cDg (rN ρ) (aGo ρ c (rB ρ)) (rN ρ))) tx ρ c d p ac sl se sd) := by
  obtain ⟨hr, ⟨hc, hco⟩, ⟨hd, hdo⟩, hp, hN30, ⟨hal, hav⟩, hsv, hse⟩ := hv
  obtain ⟨hTx, hP, hTa, hRE, hNw, hAc, hSl, hSe, hSd⟩ := h
  have hp4 := p4_le hr.1
  have hn5 := hr.1
  have hB7 := hr.2.2.1
  have h : RX tx ρ c d p ac sl se sd σ := ⟨hTx, hP, hTa, hRE, hNw, hAc, hSl, hSe, hSd⟩
  refine Ct.of (by decide) (Nat.le_of_ble_eq_true rfl) (l := [some (.ref 0), none, none]) rfl ?_
  refine Vj_aloadn (q := 1) dX9_all_0 rfl rfl rfl ?_
  refine Vj_getR (q := 4) flX9_47 rfl rfl dX9_all_1 rfl ?_
  refine Vj_getI (q := 7) flX9_112 rfl rfl dX9_all_4 rfl ?_
  rw [hNw.1]
  refine Vs_istore1 (q := 8) dX9_all_7 rfl (by decide) rfl ?_
  refine Vj_iconst (q := 9) (v := 0) dX9_all_8 rfl (by decide) ?_
  refine Vs_istore2 (q := 10) dX9_all_9 rfl (by decide) rfl ?_
  exact qX9_all_loop h ⟨hr, ⟨hc, hco⟩, ⟨hd, hdo⟩, hp, hN30, ⟨hal, hav⟩, hsv, hse⟩ (rB ρ) 0 (by omega)
/-- what a search left, in the whole object -/
def SpX (tx : List Nat) (ρ : Rm) (c d p : Nat) (ac : List (Nat × Nat × Nat)) (sl : Nat → Option (Nat × Nat × Nat)) (se : List (Nat × Nat × Nat)) (sd : Int64) (ch to : Nat) (σ : Mem) : Prop := RX tx ρ c d p ac sl se sd σ ∧ ∃ σ0, SpR ρ ch to σ0 σ
theorem dst_lt {nx : Nat → Nat → Nat} {nb ch to c k : Nat} (h : dst nx nb ch to c = some k) : k < 256 := ((fstN_some _).mp h).1

set_option maxRecDepth 100000 in
theorem qX9_firstNearer_loop {tx : List Nat} {ρ : Rm} {c d p : Nat} {ac : List (Nat × Nat × Nat)} {sl : Nat → Option (Nat × Nat × Nat)} {se : List (Nat × Nat × Nat)} {sd : Int64} {N : Nat} {σ : Mem} (h : RX tx ρ c d p ac sl se sd σ) (hv : okV N ρ c d p ac sl se) {ch to : Nat} (hS : ∀ x, x < 4 ^ rN ρ → σ.1 23 x = oI (dst (cNx ρ) (rB ρ) ch to x)) {x k : Nat} (hx : x < 4 ^ rN ρ) (hk : k < 256) : ∀ n b : Nat, b + n = rB ρ → fstN (fun b => dst (cNx ρ) (rB ρ) ch to (cNx ρ x b) == some k) b = none → Vj shX 2 mX9_firstNearer (Ri (oI (fstN (fun b => dst (cNx ρ) (rB ρ) ch to (cNx ρ x b) == some k) (rB ρ))) σ) 2 [some (.ref 0), some (.int (nI x)), some (.int (nI k)), some (.int (nI b))] [] σ := by
  intro n
  obtain ⟨hr, ⟨hc, hco⟩, ⟨hd, hdo⟩, hp, hN30, ⟨hal, hav⟩, hsv, hse⟩ := hv
  obtain ⟨hTx, hP, hTa, hRE, hNw, hAc, hSl, hSe, hSd⟩ := h
  have hp4 := p4_le hr.1
  have hn5 := hr.1
  have hB7 := hr.2.2.1
  induction n with
  | zero =>
    intro b hb hf
    obtain rfl : b = rB ρ := by omega
    refine Vj_iloadn (q := 3) dX9_firstNearer_2 rfl rfl rfl ?_
    refine Vj_aloadn (q := 4) dX9_firstNearer_3 rfl rfl rfl ?_
    refine Vj_getR (q := 7) flX9_26 rfl rfl dX9_firstNearer_4 rfl ?_
    refine Vj_callVi (q := 10) (qX2_buttons hP) (by decide) rfl rfl lkX9_128 viX2_buttons okX2_buttons dX9_firstNearer_7 rfl rfl (Nat.le_of_ble_eq_true rfl) ?_
    refine Vj_icmp_ge (q := 13) (tgt := 41) dX9_firstNearer_10 (by decide) rfl (fun _ => ?_) (fun hz => absurd (nI_le (Nat.le_refl _) (by omega)) hz)
    refine Vj_iconst (q := 42) (v := (-1)) dX9_firstNearer_41 rfl (by decide) ?_
    exact Vr_iret rfl rfl dX9_firstNearer_42 (⟨by rw [hf]; rfl, rfl⟩)
  | succ n ih =>
    intro b hb hf
    have hxb := cNx_lt hr hx (show b < rB ρ by omega)
    have hd256 : ∀ j, dst (cNx ρ) (rB ρ) ch to (cNx ρ x b) = some j → j < 2 ^ 31 := fun j z => by have := dst_lt z; omega
    refine Vj_iloadn (q := 3) dX9_firstNearer_2 rfl rfl rfl ?_
    refine Vj_aloadn (q := 4) dX9_firstNearer_3 rfl rfl rfl ?_
    refine Vj_getR (q := 7) flX9_26 rfl rfl dX9_firstNearer_4 rfl ?_
    refine Vj_callVi (q := 10) (qX2_buttons hP) (by decide) rfl rfl lkX9_128 viX2_buttons okX2_buttons dX9_firstNearer_7 rfl rfl (Nat.le_of_ble_eq_true rfl) ?_
    refine Vj_icmp_ge (q := 13) (tgt := 41) dX9_firstNearer_10 (by decide) rfl (fun hz => absurd hz (nI_ge (by omega) (by omega))) (fun _ => ?_)
    refine Vj_aloadn (q := 14) dX9_firstNearer_13 rfl rfl rfl ?_
    refine Vj_getR (q := 17) flX9_33 rfl rfl dX9_firstNearer_14 rfl ?_
    refine Vj_aloadn (q := 18) dX9_firstNearer_17 rfl rfl rfl ?_
    refine Vj_getR (q := 21) flX9_26 rfl rfl dX9_firstNearer_18 rfl ?_
    refine Vj_iloadn (q := 22) dX9_firstNearer_21 rfl rfl rfl ?_
    refine Vj_iloadn (q := 23) dX9_firstNearer_22 rfl rfl rfl ?_
    refine Vj_callVi (q := 26) (qX2_behind (c := x) (b := b) (by omega) (by omega)) (by decide) rfl rfl lkX9_165 viX2_behind okX2_behind dX9_firstNearer_23 rfl rfl (Nat.le_of_ble_eq_true rfl) ?_
    rw [(hTa.2 _ hx).2.2 b (by omega)]
    refine Vj_callVi (q := 29) (qX1_distanceOf (c := cNx ρ x b) (by omega)) (by decide) rfl rfl lkX9_202 viX1_distanceOf okX1_distanceOf dX9_firstNearer_26 rfl rfl (Nat.le_of_ble_eq_true rfl) ?_
    rw [hS _ hxb]
    refine Vj_iloadn (q := 30) dX9_firstNearer_29 rfl rfl rfl ?_
    refine Vj_icmp_ne (q := 33) (tgt := 35) dX9_firstNearer_30 (by decide) rfl (fun h30 => ?_) (fun h30 => ?_)
    ·
      refine Vs_iinc3 (q := 38) (z := none) dX9_firstNearer_35 rfl (by exact iinc_p _) (by decide) rfl ?_
      refine Vj_goto (q := 2) dX9_firstNearer_38 (by decide) ?_
      have e : (dst (cNx ρ) (rB ρ) ch to (cNx ρ x b) == some k) = false := beq_eq_false_iff_ne.mpr fun z => h30 (by rw [z]; rfl)
      rw [nI_1]
      refine ih (b + 1) (by omega) ((fstN_none _).mpr fun j hj => ?_)
      by_cases ej : j = b
      · subst ej; exact e
      · exact (fstN_none _).mp hf j (by omega)
    ·
      refine Vj_iloadn (q := 34) dX9_firstNearer_33 rfl rfl rfl ?_
      refine Vr_iret rfl rfl dX9_firstNearer_34 ?_
      have e : (dst (cNx ρ) (rB ρ) ch to (cNx ρ x b) == some k) = true := by
        rw [beq_iff_eq]
        cases ed : dst (cNx ρ) (rB ρ) ch to (cNx ρ x b) with
        | none =>
          rw [ed] at h30
          have := nI_pos' (n := k) (by omega)
          rw [← h30] at this
          exact absurd this (by decide)
        | some j => rw [ed] at h30; rw [(nI_eq (hd256 j ed) (by omega)).mp h30]
      have hs : fstN (fun b => dst (cNx ρ) (rB ρ) ch to (cNx ρ x b) == some k) (rB ρ) = some b := (fstN_some _).mpr ⟨by omega, e, (fstN_none _).mp hf⟩
      exact ⟨by rw [hs]; rfl, rfl⟩
set_option maxRecDepth 100000 in
theorem qX9_firstNearer {tx : List Nat} {ρ : Rm} {c d p : Nat} {ac : List (Nat × Nat × Nat)} {sl : Nat → Option (Nat × Nat × Nat)} {se : List (Nat × Nat × Nat)} {sd : Int64} {N : Nat} {σ : Mem} (h : RX tx ρ c d p ac sl se sd σ) (hv : okV N ρ c d p ac sl se) {ch to : Nat} (hS : ∀ x, x < 4 ^ rN ρ → σ.1 23 x = oI (dst (cNx ρ) (rB ρ) ch to x)) {x k : Nat} (hx : x < 4 ^ rN ρ) (hk : k < 256) : Ct shX 2 mX9_firstNearer [.ref 0, .int (nI x), .int (nI k)] σ (Ri (oI (fstN (fun b => dst (cNx ρ) (rB ρ) ch to (cNx ρ x b) == some k) (rB ρ))) σ) := by
  refine Ct.of (by decide) (Nat.le_of_ble_eq_true rfl) (l := [some (.ref 0), some (.int (nI x)), some (.int (nI k)), none]) rfl ?_
  refine Vj_iconst (q := 1) (v := 0) dX9_firstNearer_0 rfl (by decide) ?_
  refine Vs_istore3 (q := 2) dX9_firstNearer_1 rfl (by decide) rfl ?_
  exact qX9_firstNearer_loop h hv hS hx hk (rB ρ) 0 (by omega) rfl
/-- one press nearer there is a button -/
theorem dst_near {ρ : Rm} {ch to x k : Nat} (h : dst (cNx ρ) (rB ρ) ch to x = some (k + 1)) : ∃ b, b < rB ρ ∧ fstN (fun b => dst (cNx ρ) (rB ρ) ch to (cNx ρ x b) == some k) (rB ρ) = some b ∧ dst (cNx ρ) (rB ρ) ch to (cNx ρ x b) = some k := by
  obtain ⟨h1, h2, h3⟩ := (fstN_some _).mp h
  rcases wi_s.mp h2 with z | ⟨b, g1, g2, g3⟩
  · rw [h3 k (by omega)] at z; cases z
  · have hd : dst (cNx ρ) (rB ρ) ch to (cNx ρ x b) = some k := by
      refine (fstN_some _).mpr ⟨by omega, g3, fun j hj => Bool.eq_false_iff.mpr fun z => ?_⟩
      have : wi (cNx ρ) (rB ρ) ch to (j + 1) x = true := wi_s.mpr (Or.inr ⟨b, g1, g2, z⟩)
      rw [h3 (j + 1) (by omega)] at this; cases this
    cases e : fstN (fun b => dst (cNx ρ) (rB ρ) ch to (cNx ρ x b) == some k) (rB ρ) with
    | none =>
      have := (fstN_none _).mp e b g1
      rw [hd] at this
      simp at this
    | some b' =>
      obtain ⟨y1, y2, -⟩ := (fstN_some _).mp e
      exact ⟨b', y1, rfl, beq_iff_eq.mp y2⟩

set_option maxRecDepth 100000 in
theorem qX9_firstShortest_loop {tx : List Nat} {ρ : Rm} {c d p : Nat} {ac : List (Nat × Nat × Nat)} {sl : Nat → Option (Nat × Nat × Nat)} {se : List (Nat × Nat × Nat)} {sd : Int64} {N : Nat} {σ : Mem} (h : RX tx ρ c d p ac sl se sd σ) (hv : okV N ρ c d p ac sl se) {ch to : Nat} (hS : ∀ x, x < 4 ^ rN ρ → σ.1 23 x = oI (dst (cNx ρ) (rB ρ) ch to x)) {l0 : Nat} : ∀ (k x v : Nat) (z5 : Option Value), x < 4 ^ rN ρ → dst (cNx ρ) (rB ρ) ch to x = some k → k ≤ 9 → v < 10 ^ (9 - k) → Vj shX 3 mX9_firstShortest (Ri (nI (fwGo (cNx ρ) (rB ρ) (dst (cNx ρ) (rB ρ) ch to) k x v)) σ) 22 [some (.ref 0), some (.int (nI l0)), some (.int (nI x)), some (.int (nI v)), some (.int (nI k)), z5] [] σ := by
  intro k
  obtain ⟨hr, ⟨hc, hco⟩, ⟨hd, hdo⟩, hp, hN30, ⟨hal, hav⟩, hsv, hse⟩ := hv
  obtain ⟨hTx, hP, hTa, hRE, hNw, hAc, hSl, hSe, hSd⟩ := h
  have hp4 := p4_le hr.1
  have hn5 := hr.1
  have hB7 := hr.2.2.1
  have h : RX tx ρ c d p ac sl se sd σ := ⟨hTx, hP, hTa, hRE, hNw, hAc, hSl, hSe, hSd⟩
  induction k with
  | zero =>
    intro x v z5 hx hd0 hk hvv
    rw [fwGo]
    refine Vj_iload (q := 24) dX9_firstShortest_22 rfl rfl ?_
    refine Vj_if_le (q := 27) (tgt := 65) dX9_firstShortest_24 (by decide) rfl (fun _ => ?_) (fun hz => absurd (by decide) hz)
    refine Vj_iloadn (q := 66) dX9_firstShortest_65 rfl rfl rfl ?_
    exact Vr_iret rfl rfl dX9_firstShortest_66 (⟨rfl, rfl⟩)
  | succ k ih =>
    intro x v z5 hx hd0 hk hvv
    obtain ⟨b, g1, g2, g3⟩ := dst_near hd0
    have hxb := cNx_lt hr hx g1
    have hv9 : v < 10 ^ 9 := Nat.lt_of_lt_of_le hvv (Nat.pow_le_pow_right (by decide) (by omega))
    have hv8 : 10 ^ (9 - (k + 1)) ≤ 10 ^ 8 := Nat.pow_le_pow_right (by decide) (by omega)
    have e10 : 10 ^ (9 - k) = 10 ^ (9 - (k + 1)) * 10 := by rw [← Nat.pow_succ]; congr 1; omega
    rw [fwGo, g2, Option.getD_some]
    refine Vj_iload (q := 24) dX9_firstShortest_22 rfl rfl ?_
    refine Vj_if_le (q := 27) (tgt := 65) dX9_firstShortest_24 (by decide) rfl (fun hz => absurd hz (nI_nle (by omega) (by omega))) (fun _ => ?_)
    refine Vj_aloadn (q := 28) dX9_firstShortest_27 rfl rfl rfl ?_
    refine Vj_iloadn (q := 29) dX9_firstShortest_28 rfl rfl rfl ?_
    refine Vj_iload (q := 31) dX9_firstShortest_29 rfl rfl ?_
    refine Vj_iconst (q := 32) (v := 1) dX9_firstShortest_31 rfl (by decide) ?_
    refine Vj_isub (q := 33) dX9_firstShortest_32 rfl ?_
    rw [nI_pred]
    refine Vj_callVi (q := 36) (qX9_firstNearer h ⟨hr, ⟨hc, hco⟩, ⟨hd, hdo⟩, hp, hN30, ⟨hal, hav⟩, hsv, hse⟩ hS hx (k := k) (by omega)) (by decide) rfl rfl lkX9_297 viX9_firstNearer okX9_firstNearer dX9_firstShortest_33 rfl rfl (Nat.le_of_ble_eq_true rfl) ?_
    rw [g2, oI_some]
    refine Vs_istore5 (q := 38) dX9_firstShortest_36 rfl (by decide) rfl ?_
    refine Vj_iloadn (q := 39) dX9_firstShortest_38 rfl rfl rfl ?_
    refine Vj_bipush (q := 41) (v := 10) dX9_firstShortest_39 rfl (by decide) ?_
    refine Vj_imul (q := 42) dX9_firstShortest_41 rfl ?_
    refine Vj_iload (q := 44) dX9_firstShortest_42 rfl rfl ?_
    refine Vj_iadd (q := 45) dX9_firstShortest_44 rfl ?_
    refine Vj_iconst (q := 46) (v := 1) dX9_firstShortest_45 rfl (by decide) ?_
    refine Vj_iadd (q := 47) dX9_firstShortest_46 rfl ?_
    rw [show nI v * 10 + nI b + 1 = nI (v * 10 + b + 1) by rw [show (10 : Int32) = nI 10 from rfl, pk_mul, nI_add, nI_1]]
    refine Vs_istore3 (q := 48) dX9_firstShortest_47 rfl (by decide) rfl ?_
    refine Vj_aloadn (q := 49) dX9_firstShortest_48 rfl rfl rfl ?_
    refine Vj_getR (q := 52) flX9_26 rfl rfl dX9_firstShortest_49 rfl ?_
    refine Vj_iloadn (q := 53) dX9_firstShortest_52 rfl rfl rfl ?_
    refine Vj_iload (q := 55) dX9_firstShortest_53 rfl rfl ?_
    refine Vj_callVi (q := 58) (qX2_behind (c := x) (b := b) (by omega) (by omega)) (by decide) rfl rfl lkX9_165 viX2_behind okX2_behind dX9_firstShortest_55 rfl rfl (Nat.le_of_ble_eq_true rfl) ?_
    rw [(hTa.2 _ hx).2.2 b g1]
    refine Vs_istore2 (q := 59) dX9_firstShortest_58 rfl (by decide) rfl ?_
    refine Vs_iinc4 (q := 62) (z := none) dX9_firstShortest_59 rfl (by exact iinc_m _) (by decide) rfl ?_
    refine Vj_goto (q := 22) dX9_firstShortest_62 (by decide) ?_
    rw [nI_pred]
    exact ih _ _ _ hxb g3 (by omega) (by omega)
set_option maxRecDepth 100000 in
theorem qX9_firstShortest {tx : List Nat} {ρ : Rm} {c d p : Nat} {ac : List (Nat × Nat × Nat)} {sl : Nat → Option (Nat × Nat × Nat)} {se : List (Nat × Nat × Nat)} {sd : Int64} {N : Nat} {σ : Mem} (h : RX tx ρ c d p ac sl se sd σ) (hv : okV N ρ c d p ac sl se) {ch to : Nat} (hS : ∀ x, x < 4 ^ rN ρ → σ.1 23 x = oI (dst (cNx ρ) (rB ρ) ch to x)) {k : Nat} (hk : dst (cNx ρ) (rB ρ) ch to c = some k) : Ct shX 3 mX9_firstShortest [.ref 0, .int (nI k)] σ (Ri (if 9 < k then -9 else nI (fwGo (cNx ρ) (rB ρ) (dst (cNx ρ) (rB ρ) ch to) k c 0)) σ) := by
  have hc := hv.2.1.1
  have hNw := h.2.2.2.2.1
  have hk256 := dst_lt hk
  refine Ct.of (by decide) (Nat.le_of_ble_eq_true rfl) (l := [some (.ref 0), some (.int (nI k)), none, none, none, none]) rfl ?_
  refine Vj_iloadn (q := 1) dX9_firstShortest_0 rfl rfl rfl ?_
  refine Vj_bipush (q := 3) (v := 9) dX9_firstShortest_1 rfl (by decide) ?_
  refine Vj_icmp_le (q := 6) (tgt := 9) dX9_firstShortest_3 (by decide) rfl (fun h3 => ?_) (fun h3 => ?_)
  ·
    have hk9 := (nI_leI (b := 9) (by omega) (by decide)).mp h3
    rw [if_neg (show ¬ 9 < k by omega)]
    refine Vj_aloadn (q := 10) dX9_firstShortest_9 rfl rfl rfl ?_
    refine Vj_getR (q := 13) flX9_47 rfl rfl dX9_firstShortest_10 rfl ?_
    refine Vj_getI (q := 16) flX9_112 rfl rfl dX9_firstShortest_13 rfl ?_
    rw [hNw.1]
    refine Vs_istore2 (q := 17) dX9_firstShortest_16 rfl (by decide) rfl ?_
    refine Vj_iconst (q := 18) (v := 0) dX9_firstShortest_17 rfl (by decide) ?_
    refine Vs_istore3 (q := 19) dX9_firstShortest_18 rfl (by decide) rfl ?_
    refine Vj_iloadn (q := 20) dX9_firstShortest_19 rfl rfl rfl ?_
    refine Vs_istore4 (q := 22) dX9_firstShortest_20 rfl (by decide) rfl ?_
    exact qX9_firstShortest_loop h hv hS k c 0 none hc hk hk9 (Nat.pow_pos (by decide))
  ·
    refine Vj_bipush (q := 8) (v := (-9)) dX9_firstShortest_6 rfl (by decide) ?_
    exact Vr_iret rfl rfl dX9_firstShortest_8 (⟨by rw [if_pos ((nI_ltI (a := 9) (by decide) (by omega)).mp (Int32.not_le.mp h3))], rfl⟩)
set_option maxRecDepth 100000 in
theorem qX9_fewest {tx : List Nat} {ρ : Rm} {c d p : Nat} {ac : List (Nat × Nat × Nat)} {sl : Nat → Option (Nat × Nat × Nat)} {se : List (Nat × Nat × Nat)} {sd : Int64} {N : Nat} {σ : Mem} (h : RX tx ρ c d p ac sl se sd σ) (hv : okV N ρ c d p ac sl se) (mess row : Int32) : Ct shX 4 mX9_fewest [.ref 0, .int mess, .int row] σ (PX (spFewest ρ c mess row) tx ρ c d p ac sl se sd) := by
  obtain ⟨hr, ⟨hc, hco⟩, ⟨hd, hdo⟩, hp, hN30, ⟨hal, hav⟩, hsv, hse⟩ := hv
  obtain ⟨hTx, hP, hTa, hRE, hNw, hAc, hSl, hSe, hSd⟩ := h
  have hp4 := p4_le hr.1
  have hn5 := hr.1
  have hB7 := hr.2.2.1
  have h : RX tx ρ c d p ac sl se sd σ := ⟨hTx, hP, hTa, hRE, hNw, hAc, hSl, hSe, hSd⟩
  refine Ct.of (by decide) (Nat.le_of_ble_eq_true rfl) (l := [some (.ref 0), some (.int mess), some (.int row), none, none]) rfl ?_
  refine Vj_aloadn (q := 1) dX9_fewest_0 rfl rfl rfl ?_
  refine Vj_getR (q := 4) flX9_26 rfl rfl dX9_fewest_1 rfl ?_
  refine Vj_iloadn (q := 5) dX9_fewest_4 rfl rfl rfl ?_
  refine Vj_callVi (q := 8) (qX2_codeOf hP mess) (by decide) rfl rfl lkX9_193 viX2_codeOf okX2_codeOf dX9_fewest_5 rfl rfl (Nat.le_of_ble_eq_true rfl) ?_
  rcases ec : cOf ρ (rN ρ) mess 0 with _ | to
  ·
    rw [oI_none]
    refine Vs_istore3 (q := 9) dX9_fewest_8 rfl (by decide) rfl ?_
    refine Vj_iloadn (q := 10) dX9_fewest_9 rfl rfl rfl ?_
    refine Vj_iconst (q := 11) (v := (-1)) dX9_fewest_10 rfl (by decide) ?_
    refine Vj_icmp_ne (q := 14) (tgt := 17) dX9_fewest_11 (by decide) rfl (fun hz => absurd (by decide) hz) (fun _ => ?_)
    refine Vj_bipush (q := 16) (v := (-2)) dX9_fewest_14 rfl (by decide) ?_
    exact Vr_iret rfl rfl dX9_fewest_16 (⟨by rw [spFewest, ec], h⟩)
  ·
    have hto := cOf_V hr (rN ρ) mess 0 to (Nat.le_refl _) (p4_pos _) (fun t h1 h2 => absurd h1 (by omega)) ec
    have hne := oI_c hr hto.1
    refine Vs_istore3 (q := 9) dX9_fewest_8 rfl (by decide) rfl ?_
    refine Vj_iloadn (q := 10) dX9_fewest_9 rfl rfl rfl ?_
    refine Vj_iconst (q := 11) (v := (-1)) dX9_fewest_10 rfl (by decide) ?_
    refine Vj_icmp_ne (q := 14) (tgt := 17) dX9_fewest_11 (by decide) rfl (fun _ => ?_) (fun hz => absurd hz hne)
    rw [oI_some]
    refine Vj_aloadn (q := 18) dX9_fewest_17 rfl rfl rfl ?_
    refine Vj_getR (q := 21) flX9_33 rfl rfl dX9_fewest_18 rfl ?_
    refine Vj_iloadn (q := 22) dX9_fewest_21 rfl rfl rfl ?_
    refine Vj_aloadn (q := 23) dX9_fewest_22 rfl rfl rfl ?_
    refine Vj_getR (q := 26) flX9_26 rfl rfl dX9_fewest_23 rfl ?_
    refine Vj_callVi (q := 29) (qX2_everyButton hP) (by decide) rfl rfl lkX9_196 viX2_everyButton okX2_everyButton dX9_fewest_26 rfl rfl (Nat.le_of_ble_eq_true rfl) ?_
    refine Vj_callV (q := 32) (qX1_spread hr (evB_lt hr) hto.1 hRE) (by decide) rfl rfl lkX9_199 viX1_spread okX1_spread dX9_fewest_29 rfl rfl (Nat.le_of_ble_eq_true rfl) ?_
    rintro r1 σ1 ⟨rfl, hS⟩
    show Vj shX 4 mX9_fewest _ 32 _ [.int _] σ1
    have hE1 := hS.2.2.2.c rfl
    have h1 := h.eqc hE1
    have hN1 := hNw.eqc hE1
    refine Vj_pop (q := 33) dX9_fewest_32 rfl rfl ?_
    refine Vj_aloadn (q := 34) dX9_fewest_33 rfl rfl rfl ?_
    refine Vj_getR (q := 37) flX9_33 rfl rfl dX9_fewest_34 rfl ?_
    refine Vj_aloadn (q := 38) dX9_fewest_37 rfl rfl rfl ?_
    refine Vj_getR (q := 41) flX9_47 rfl rfl dX9_fewest_38 rfl ?_
    refine Vj_getI (q := 44) flX9_112 rfl rfl dX9_fewest_41 rfl ?_
    rw [hN1.1]
    refine Vj_callVi (q := 47) (qX1_distanceOf (c := c) (by omega)) (by decide) rfl rfl lkX9_202 viX1_distanceOf okX1_distanceOf dX9_fewest_44 rfl rfl (Nat.le_of_ble_eq_true rfl) ?_
    rw [hS.1 c hc]
    rcases ek : dst (cNx ρ) (rB ρ) (evB ρ) to c with _ | k
    ·
      rw [oI_none]
      refine Vs_istore4 (q := 49) dX9_fewest_47 rfl (by decide) rfl ?_
      refine Vj_iload (q := 51) dX9_fewest_49 rfl rfl ?_
      refine Vj_iconst (q := 52) (v := (-1)) dX9_fewest_51 rfl (by decide) ?_
      refine Vj_icmp_ne (q := 55) (tgt := 58) dX9_fewest_52 (by decide) rfl (fun hz => absurd (by decide) hz) (fun _ => ?_)
      refine Vj_bipush (q := 57) (v := (-9)) dX9_fewest_55 rfl (by decide) ?_
      exact Vr_iret rfl rfl dX9_fewest_57 (⟨by rw [spFewest, ec]; simp only []; rw [ek], h1⟩)
    ·
      have hk256 := dst_lt ek
      have hk1 : ¬ oI (some k) = -1 := fun z => by have := (oI_m1 (fun k z => by cases z; omega)).mp z; cases this
      refine Vs_istore4 (q := 49) dX9_fewest_47 rfl (by decide) rfl ?_
      refine Vj_iload (q := 51) dX9_fewest_49 rfl rfl ?_
      refine Vj_iconst (q := 52) (v := (-1)) dX9_fewest_51 rfl (by decide) ?_
      refine Vj_icmp_ne (q := 55) (tgt := 58) dX9_fewest_52 (by decide) rfl (fun _ => ?_) (fun hz => absurd hz hk1)
      rw [oI_some]
      refine Vj_iloadn (q := 59) dX9_fewest_58 rfl rfl rfl ?_
      refine Vj_if_eq (q := 62) (tgt := 71) dX9_fewest_59 (by decide) rfl (fun h59 => ?_) (fun h59 => ?_)
      ·
        refine Vj_iload (q := 73) dX9_fewest_71 rfl rfl ?_
        exact Vr_iret rfl rfl dX9_fewest_73 (⟨by rw [spFewest, ec]; simp only []; rw [ek]; simp only []; rw [if_pos h59], h1⟩)
      ·
        refine Vj_aloadn (q := 63) dX9_fewest_62 rfl rfl rfl ?_
        refine Vj_iload (q := 65) dX9_fewest_63 rfl rfl ?_
        refine Vj_callVi (q := 68) (qX9_firstShortest h1 ⟨hr, ⟨hc, hco⟩, ⟨hd, hdo⟩, hp, hN30, ⟨hal, hav⟩, hsv, hse⟩ hS.1 ek) (by decide) rfl rfl lkX9_205 viX9_firstShortest okX9_firstShortest dX9_fewest_65 rfl rfl (Nat.le_of_ble_eq_true rfl) ?_
        refine Vj_goto (q := 73) dX9_fewest_68 (by decide) ?_
        exact Vr_iret rfl rfl dX9_fewest_73 (⟨by rw [spFewest, ec]; simp only []; rw [ek]; simp only []; rw [if_neg h59], h1⟩)
set_option maxRecDepth 100000 in
theorem qX9_worst {tx : List Nat} {ρ : Rm} {c d p : Nat} {ac : List (Nat × Nat × Nat)} {sl : Nat → Option (Nat × Nat × Nat)} {se : List (Nat × Nat × Nat)} {sd : Int64} {N : Nat} {σ : Mem} (h : RX tx ρ c d p ac sl se sd σ) (hv : okV N ρ c d p ac sl se) (mess what : Int32) : Ct shX 4 mX9_worst [.ref 0, .int mess, .int what] σ (PX (spWorst ρ mess what) tx ρ c d p ac sl se sd) := by
  obtain ⟨hr, ⟨hc, hco⟩, ⟨hd, hdo⟩, hp, hN30, ⟨hal, hav⟩, hsv, hse⟩ := hv
  obtain ⟨hTx, hP, hTa, hRE, hNw, hAc, hSl, hSe, hSd⟩ := h
  have hp4 := p4_le hr.1
  have hn5 := hr.1
  have hB7 := hr.2.2.1
  have h : RX tx ρ c d p ac sl se sd σ := ⟨hTx, hP, hTa, hRE, hNw, hAc, hSl, hSe, hSd⟩
  refine Ct.of (by decide) (Nat.le_of_ble_eq_true rfl) (l := [some (.ref 0), some (.int mess), some (.int what), none, none]) rfl ?_
  refine Vj_aloadn (q := 1) dX9_worst_0 rfl rfl rfl ?_
  refine Vj_getR (q := 4) flX9_26 rfl rfl dX9_worst_1 rfl ?_
  refine Vj_iloadn (q := 5) dX9_worst_4 rfl rfl rfl ?_
  refine Vj_callVi (q := 8) (qX2_codeOf hP mess) (by decide) rfl rfl lkX9_193 viX2_codeOf okX2_codeOf dX9_worst_5 rfl rfl (Nat.le_of_ble_eq_true rfl) ?_
  rcases ec : cOf ρ (rN ρ) mess 0 with _ | to
  ·
    rw [oI_none]
    refine Vs_istore3 (q := 9) dX9_worst_8 rfl (by decide) rfl ?_
    refine Vj_iloadn (q := 10) dX9_worst_9 rfl rfl rfl ?_
    refine Vj_iconst (q := 11) (v := (-1)) dX9_worst_10 rfl (by decide) ?_
    refine Vj_icmp_eq (q := 14) (tgt := 23) dX9_worst_11 (by decide) rfl (fun _ => ?_) (fun hz => absurd (by decide) hz)
    refine Vj_bipush (q := 25) (v := (-2)) dX9_worst_23 rfl (by decide) ?_
    exact Vr_iret rfl rfl dX9_worst_25 (⟨by rw [spWorst, ec], h⟩)
  ·
    have hto := cOf_V hr (rN ρ) mess 0 to (Nat.le_refl _) (p4_pos _) (fun t h1 h2 => absurd h1 (by omega)) ec
    have hne := oI_c hr hto.1
    refine Vs_istore3 (q := 9) dX9_worst_8 rfl (by decide) rfl ?_
    refine Vj_iloadn (q := 10) dX9_worst_9 rfl rfl rfl ?_
    refine Vj_iconst (q := 11) (v := (-1)) dX9_worst_10 rfl (by decide) ?_
    refine Vj_icmp_eq (q := 14) (tgt := 23) dX9_worst_11 (by decide) rfl (fun hz => absurd hz hne) (fun _ => ?_)
    refine Vj_iloadn (q := 15) dX9_worst_14 rfl rfl rfl ?_
    refine Vj_if_lt (q := 18) (tgt := 23) dX9_worst_15 (by decide) rfl (fun h15 => ?_) (fun h15 => ?_)
    ·
      refine Vj_bipush (q := 25) (v := (-2)) dX9_worst_23 rfl (by decide) ?_
      exact Vr_iret rfl rfl dX9_worst_25 (⟨by rw [spWorst, ec]; simp only []; rw [if_pos (Or.inl h15)], h⟩)
    ·
      refine Vj_iloadn (q := 19) dX9_worst_18 rfl rfl rfl ?_
      refine Vj_iconst (q := 20) (v := 1) dX9_worst_19 rfl (by decide) ?_
      refine Vj_icmp_le (q := 23) (tgt := 26) dX9_worst_20 (by decide) rfl (fun h20 => ?_) (fun h20 => ?_)
      ·
        rw [oI_some]
        refine Vj_aloadn (q := 27) dX9_worst_26 rfl rfl rfl ?_
        refine Vj_getR (q := 30) flX9_33 rfl rfl dX9_worst_27 rfl ?_
        refine Vj_iloadn (q := 31) dX9_worst_30 rfl rfl rfl ?_
        refine Vj_aloadn (q := 32) dX9_worst_31 rfl rfl rfl ?_
        refine Vj_getR (q := 35) flX9_26 rfl rfl dX9_worst_32 rfl ?_
        refine Vj_callVi (q := 38) (qX2_everyButton hP) (by decide) rfl rfl lkX9_196 viX2_everyButton okX2_everyButton dX9_worst_35 rfl rfl (Nat.le_of_ble_eq_true rfl) ?_
        refine Vj_callV (q := 41) (qX1_spread hr (evB_lt hr) hto.1 hRE) (by decide) rfl rfl lkX9_199 viX1_spread okX1_spread dX9_worst_38 rfl rfl (Nat.le_of_ble_eq_true rfl) ?_
        rintro r1 σ1 ⟨rfl, hS⟩
        show Vj shX 4 mX9_worst _ 41 _ [.int _] σ1
        have hE1 := hS.2.2.2.c rfl
        have h1 := h.eqc hE1
        have hN1 := hNw.eqc hE1
        obtain ⟨z, k, hz1, hz2, hz3, hz4⟩ := hS.2.2.1
        refine Vs_istore4 (q := 43) dX9_worst_41 rfl (by decide) rfl ?_
        refine Vj_iloadn (q := 44) dX9_worst_43 rfl rfl rfl ?_
        refine Vj_iconst (q := 45) (v := 1) dX9_worst_44 rfl (by decide) ?_
        refine Vj_icmp_ne (q := 48) (tgt := 53) dX9_worst_45 (by decide) rfl (fun h45 => ?_) (fun h45 => ?_)
        ·
          refine Vj_aloadn (q := 54) dX9_worst_53 rfl rfl rfl ?_
          refine Vj_getR (q := 57) flX9_33 rfl rfl dX9_worst_54 rfl ?_
          refine Vj_callVi (q := 60) (qX1_greatestDistance hS.2.1 (cntN_pos (p := fun c => (dst (cNx ρ) (rB ρ) (evB ρ) to c).isSome) (by simp [hz3]) _ hz1) (Nat.le_trans (cntN_le _ _) hp4) hz2 (by omega)) (by decide) rfl rfl lkX9_208 viX1_greatestDistance okX1_greatestDistance dX9_worst_57 rfl rfl (Nat.le_of_ble_eq_true rfl) ?_
          rw [hS.1 z hz1, hz3, oI_some]
          refine Vr_iret rfl rfl dX9_worst_60 ?_
          have hwn : ¬ (what < 0 ∨ 1 < what) := by
            rintro (z | z)
            · exact h15 z
            · exact Int32.not_le.mpr z h20
          exact ⟨by rw [spWorst, ec]; simp only []; rw [if_neg hwn, if_neg h45, mxD_eq _ hz1 hz3 hz4], h1⟩
        ·
          refine Vj_iload (q := 50) dX9_worst_48 rfl rfl ?_
          refine Vj_goto (q := 60) dX9_worst_50 (by decide) ?_
          refine Vr_iret rfl rfl dX9_worst_60 ?_
          have hwn : ¬ (what < 0 ∨ 1 < what) := by
            rintro (z | z)
            · exact h15 z
            · exact Int32.not_le.mpr z h20
          exact ⟨by rw [spWorst, ec]; simp only []; rw [if_neg hwn, if_pos h45], h1⟩
      ·
        refine Vj_bipush (q := 25) (v := (-2)) dX9_worst_23 rfl (by decide) ?_
        exact Vr_iret rfl rfl dX9_worst_25 (⟨by rw [spWorst, ec]; simp only []; rw [if_pos (Or.inr (Int32.not_le.mp h20))], h⟩)
set_option maxRecDepth 100000 in
theorem qX9_figuresOf_loop {σ : Mem} {t : Nat} (ht : t < 1000) : ∀ k f : Nat, f + k = 6 → f ≤ fgN t → Vj shX 1 mX9_figuresOf (Ri (nI (fgN t)) σ) 2 [some (.int (nI t)), some (.int (nI f))] [] σ := by
  intro k
  have h3 : fgN t ≤ 3 := by unfold fgN; split; decide; split; decide; split <;> decide
  have hlt : t < 10 ^ fgN t := by unfold fgN; split; omega; split; omega; split <;> omega
  have hge : ∀ f, f < fgN t → 10 ^ f ≤ t := by
    intro f hf
    unfold fgN at hf
    split at hf
    · omega
    · split at hf
      · obtain rfl : f = 0 := by omega
        omega
      · split at hf
        · have : 10 ^ f ≤ 10 ^ 1 := Nat.pow_le_pow_right (by decide) (by omega)
          omega
        · have : 10 ^ f ≤ 10 ^ 2 := Nat.pow_le_pow_right (by decide) (by omega)
          omega
  induction k with
  | zero => intro f hf hle; omega
  | succ k ih =>
    intro f hf hle
    have h10 : 10 ^ f < 2 ^ 31 := Nat.lt_of_le_of_lt (Nat.pow_le_pow_right (by decide) (show f ≤ 6 by omega)) (by decide)
    refine Vj_iloadn (q := 3) dX9_figuresOf_2 rfl rfl rfl ?_
    refine Vj_bipush (q := 5) (v := 6) dX9_figuresOf_3 rfl (by decide) ?_
    refine Vj_icmp_ge (q := 8) (tgt := 25) dX9_figuresOf_5 (by decide) rfl (fun hz => absurd hz (nI_ge (b := 6) (show f < 6 by omega) (by decide))) (fun _ => ?_)
    refine Vj_iloadn (q := 9) dX9_figuresOf_8 rfl rfl rfl ?_
    refine Vj_getsTENS (q := 12) gsX9_272 dX9_figuresOf_9 rfl ?_
    refine Vj_iloadn (q := 13) dX9_figuresOf_12 rfl rfl rfl ?_
    refine Vj_callSi (q := 16) (qX9_atTENSn (j := f) (by omega)) (by decide) lkX9_152 stX9_at okX9_at dX9_figuresOf_13 rfl rfl (Nat.le_of_ble_eq_true rfl) ?_
    rw [tens_at _ (by omega)]
    refine Vj_icmp_lt (q := 19) (tgt := 25) dX9_figuresOf_16 (by decide) rfl (fun h16 => ?_) (fun h16 => ?_)
    ·
      refine Vj_iloadn (q := 26) dX9_figuresOf_25 rfl rfl rfl ?_
      refine Vr_iret rfl rfl dX9_figuresOf_26 ?_
      have hz := (nI_ltI (by omega) h10).mp h16
      have e : f = fgN t := by
        rcases Nat.lt_or_ge f (fgN t) with z | z
        · have := hge f z; omega
        · omega
      exact ⟨by rw [e], rfl⟩
    ·
      refine Vs_iinc1 (q := 22) (z := none) dX9_figuresOf_19 rfl (by exact iinc_p _) (by decide) rfl ?_
      refine Vj_goto (q := 2) dX9_figuresOf_22 (by decide) ?_
      have hz := (nI_leI h10 (by omega)).mp (Int32.not_lt.mp h16)
      rw [nI_1]
      refine ih (f + 1) (by omega) ?_
      rcases Nat.lt_or_ge f (fgN t) with z | z
      · exact z
      · have := Nat.pow_le_pow_right (show 0 < 10 by decide) z
        omega
set_option maxRecDepth 100000 in
theorem qX9_figuresOf {σ : Mem} {t : Nat} (ht : t < 1000) : Ct shX 1 mX9_figuresOf [.int (nI t)] σ (Ri (nI (fgN t)) σ) := by
  refine Ct.of (by decide) (Nat.le_of_ble_eq_true rfl) (l := [some (.int (nI t)), none]) rfl ?_
  refine Vj_iconst (q := 1) (v := 0) dX9_figuresOf_0 rfl (by decide) ?_
  refine Vs_istore1 (q := 2) dX9_figuresOf_1 rfl (by decide) rfl ?_
  exact qX9_figuresOf_loop ht 6 0 (by decide) (Nat.zero_le _)
theorem fgN_le (t : Nat) : fgN t < 4 := by unfold fgN; split; decide; split; decide; split <;> decide
set_option maxRecDepth 100000 in
theorem qX9_sure_loop {tx : List Nat} {ρ : Rm} {c d p : Nat} {ac : List (Nat × Nat × Nat)} {sl : Nat → Option (Nat × Nat × Nat)} {se : List (Nat × Nat × Nat)} {sd : Int64} {N : Nat} {σ : Mem} (h : RX tx ρ c d p ac sl se sd σ) (hv : okV N ρ c d p ac sl se) {mess row : Int32} {to : Nat} (ec : cOf ρ (rN ρ) mess 0 = some to) (hto : cV ρ to) : ∀ (k t : Nat) (σ1 : Mem), t + k = 667 → fstN (suB ρ to) t = none → RX tx ρ c d p ac sl se sd σ1 → Vj shX 4 mX9_sure (PX (spSure ρ mess row) tx ρ c d p ac sl se sd) 20 [some (.ref 0), some (.int mess), some (.int row), some (.int (nI to)), some (.int (nI t))] [] σ1 := by
  intro k
  obtain ⟨hr, -, -, -, -, -, -, -⟩ := hv
  have hp4 := p4_le hr.1
  induction k with
  | zero =>
    intro t σ1 ht hf h1
    obtain rfl : t = 667 := by omega
    refine Vj_iload (q := 22) dX9_sure_20 rfl rfl ?_
    refine Vj_sipush (q := 25) (v := 666) dX9_sure_22 rfl (by decide) ?_
    refine Vj_icmp_gt (q := 28) (tgt := 92) dX9_sure_25 (by decide) rfl (fun _ => ?_) (fun hz => absurd (by decide) hz)
    refine Vj_bipush (q := 94) (v := (-9)) dX9_sure_92 rfl (by decide) ?_
    exact Vr_iret rfl rfl dX9_sure_94 (⟨by rw [spSure, ec]; simp only []; rw [hf], h1⟩)
  | succ k ih =>
    intro t σ1 ht hf h1
    have hg := fgN_le t
    have hsome : suB ρ to t = true → fstN (suB ρ to) 667 = some t := fun z => (fstN_some _).mpr ⟨by omega, z, (fstN_none _).mp hf⟩
    have hnext : suB ρ to t = false → fstN (suB ρ to) (t + 1) = none := fun z => (fstN_none _).mpr fun j hj => by
      by_cases e : j = t
      · subst e; exact z
      · exact (fstN_none _).mp hf j (by omega)
    refine Vj_iload (q := 22) dX9_sure_20 rfl rfl ?_
    refine Vj_sipush (q := 25) (v := 666) dX9_sure_22 rfl (by decide) ?_
    refine Vj_icmp_gt (q := 28) (tgt := 92) dX9_sure_25 (by decide) rfl (fun hz => absurd hz (nI_nlt (show t ≤ 666 by omega) (by decide))) (fun _ => ?_)
    refine Vj_aloadn (q := 29) dX9_sure_28 rfl rfl rfl ?_
    refine Vj_getR (q := 32) flX9_40 rfl rfl dX9_sure_29 rfl ?_
    refine Vj_iload (q := 34) dX9_sure_32 rfl rfl ?_
    refine Vj_callSi (q := 37) (qX9_figuresOf (t := t) (by omega)) (by decide) lkX9_211 stX9_figuresOf okX9_figuresOf dX9_sure_34 rfl rfl (Nat.le_of_ble_eq_true rfl) ?_
    refine Vj_iload (q := 39) dX9_sure_37 rfl rfl ?_
    refine Vj_callV (q := 42) (qX4_read (n := fgN t) (r := t) (by omega) (by omega)) (by decide) rfl rfl lkX9_182 viX4_read okX4_read dX9_sure_39 rfl rfl (Nat.le_of_ble_eq_true rfl) ?_
    rintro r1 σ2 ⟨rfl, hR1, hE1⟩
    show Vj shX 4 mX9_sure _ 42 _ [] σ2
    have h2 := h1.eqc (hE1.c rfl)
    refine Vj_aloadn (q := 43) dX9_sure_42 rfl rfl rfl ?_
    refine Vj_getR (q := 46) flX9_40 rfl rfl dX9_sure_43 rfl ?_
    refine Vj_aloadn (q := 47) dX9_sure_46 rfl rfl rfl ?_
    refine Vj_getR (q := 50) flX9_26 rfl rfl dX9_sure_47 rfl ?_
    refine Vj_callVi (q := 53) (qX4_isKnownTo h2.2.1 hR1 (by omega)) (by decide) rfl rfl lkX9_186 viX4_isKnownTo okX4_isKnownTo dX9_sure_50 rfl rfl (Nat.le_of_ble_eq_true rfl) ?_
    refine Vj_if_eq (q := 56) (tgt := 86) dX9_sure_53 (by decide) rfl (fun h53 => ?_) (fun h53 => ?_)
    ·
      refine Vs_iinc4 (q := 89) (z := none) dX9_sure_86 rfl (by exact iinc_p _) (by decide) rfl ?_
      refine Vj_goto (q := 20) dX9_sure_89 (by decide) ?_
      rw [nI_1]
      exact ih (t + 1) σ2 (by omega) (hnext (by rw [suB, bI_z.mp h53]; rfl)) h2
    ·
      refine Vj_aloadn (q := 57) dX9_sure_56 rfl rfl rfl ?_
      refine Vj_getR (q := 60) flX9_40 rfl rfl dX9_sure_57 rfl ?_
      refine Vj_aloadn (q := 61) dX9_sure_60 rfl rfl rfl ?_
      refine Vj_getR (q := 64) flX9_26 rfl rfl dX9_sure_61 rfl ?_
      refine Vj_iloadn (q := 65) dX9_sure_64 rfl rfl rfl ?_
      refine Vj_callVi (q := 68) (qX4_bringsAll hr h2.2.2.1 hR1 (by omega) (bI_n.mp h53) hto.1) (by decide) rfl rfl lkX9_214 viX4_bringsAll okX4_bringsAll dX9_sure_65 rfl rfl (Nat.le_of_ble_eq_true rfl) ?_
      refine Vj_if_eq (q := 71) (tgt := 86) dX9_sure_68 (by decide) rfl (fun h68 => ?_) (fun h68 => ?_)
      ·
        refine Vs_iinc4 (q := 89) (z := none) dX9_sure_86 rfl (by exact iinc_p _) (by decide) rfl ?_
        refine Vj_goto (q := 20) dX9_sure_89 (by decide) ?_
        rw [nI_1]
        exact ih (t + 1) σ2 (by omega) (hnext (by rw [suB, bI_z.mp h68, Bool.and_false])) h2
      ·
        refine Vj_iloadn (q := 72) dX9_sure_71 rfl rfl rfl ?_
        refine Vj_if_eq (q := 75) (tgt := 80) dX9_sure_72 (by decide) rfl (fun h72 => ?_) (fun h72 => ?_)
        ·
          refine Vj_iload (q := 82) dX9_sure_80 rfl rfl ?_
          refine Vj_callSi (q := 85) (qX9_figuresOf (t := t) (by omega)) (by decide) lkX9_211 stX9_figuresOf okX9_figuresOf dX9_sure_82 rfl rfl (Nat.le_of_ble_eq_true rfl) ?_
          exact Vr_iret rfl rfl dX9_sure_85 (⟨by rw [spSure, ec]; simp only []; rw [hsome (by rw [suB, bI_n.mp h53, bI_n.mp h68]; rfl)]; simp only []; rw [if_pos h72], h2⟩)
        ·
          refine Vj_iload (q := 77) dX9_sure_75 rfl rfl ?_
          refine Vj_goto (q := 85) dX9_sure_77 (by decide) ?_
          exact Vr_iret rfl rfl dX9_sure_85 (⟨by rw [spSure, ec]; simp only []; rw [hsome (by rw [suB, bI_n.mp h53, bI_n.mp h68]; rfl)]; simp only []; rw [if_neg h72], h2⟩)
set_option maxRecDepth 100000 in
theorem qX9_sure {tx : List Nat} {ρ : Rm} {c d p : Nat} {ac : List (Nat × Nat × Nat)} {sl : Nat → Option (Nat × Nat × Nat)} {se : List (Nat × Nat × Nat)} {sd : Int64} {N : Nat} {σ : Mem} (h : RX tx ρ c d p ac sl se sd σ) (hv : okV N ρ c d p ac sl se) (mess row : Int32) : Ct shX 5 mX9_sure [.ref 0, .int mess, .int row] σ (PX (spSure ρ mess row) tx ρ c d p ac sl se sd) := by
  obtain ⟨hr, ⟨hc, hco⟩, ⟨hd, hdo⟩, hp, hN30, ⟨hal, hav⟩, hsv, hse⟩ := hv
  obtain ⟨hTx, hP, hTa, hRE, hNw, hAc, hSl, hSe, hSd⟩ := h
  have hp4 := p4_le hr.1
  have hn5 := hr.1
  have hB7 := hr.2.2.1
  have h : RX tx ρ c d p ac sl se sd σ := ⟨hTx, hP, hTa, hRE, hNw, hAc, hSl, hSe, hSd⟩
  refine Ct.of (by decide) (Nat.le_of_ble_eq_true rfl) (l := [some (.ref 0), some (.int mess), some (.int row), none, none]) rfl ?_
  refine Vj_aloadn (q := 1) dX9_sure_0 rfl rfl rfl ?_
  refine Vj_getR (q := 4) flX9_26 rfl rfl dX9_sure_1 rfl ?_
  refine Vj_iloadn (q := 5) dX9_sure_4 rfl rfl rfl ?_
  refine Vj_callVi (q := 8) (qX2_codeOf hP mess) (by decide) rfl rfl lkX9_193 viX2_codeOf okX2_codeOf dX9_sure_5 rfl rfl (Nat.le_of_ble_eq_true rfl) ?_
  rcases ec : cOf ρ (rN ρ) mess 0 with _ | to
  ·
    rw [oI_none]
    refine Vs_istore3 (q := 9) dX9_sure_8 rfl (by decide) rfl ?_
    refine Vj_iloadn (q := 10) dX9_sure_9 rfl rfl rfl ?_
    refine Vj_iconst (q := 11) (v := (-1)) dX9_sure_10 rfl (by decide) ?_
    refine Vj_icmp_ne (q := 14) (tgt := 17) dX9_sure_11 (by decide) rfl (fun hz => absurd (by decide) hz) (fun _ => ?_)
    refine Vj_bipush (q := 16) (v := (-2)) dX9_sure_14 rfl (by decide) ?_
    exact Vr_iret rfl rfl dX9_sure_16 (⟨by rw [spSure, ec], h⟩)
  ·
    have hto := cOf_V hr (rN ρ) mess 0 to (Nat.le_refl _) (p4_pos _) (fun t h1 h2 => absurd h1 (by omega)) ec
    have hne := oI_c hr hto.1
    refine Vs_istore3 (q := 9) dX9_sure_8 rfl (by decide) rfl ?_
    refine Vj_iloadn (q := 10) dX9_sure_9 rfl rfl rfl ?_
    refine Vj_iconst (q := 11) (v := (-1)) dX9_sure_10 rfl (by decide) ?_
    refine Vj_icmp_ne (q := 14) (tgt := 17) dX9_sure_11 (by decide) rfl (fun _ => ?_) (fun hz => absurd hz hne)
    rw [oI_some]
    refine Vj_iconst (q := 18) (v := 0) dX9_sure_17 rfl (by decide) ?_
    refine Vs_istore4 (q := 20) dX9_sure_18 rfl (by decide) rfl ?_
    exact fun d2 hd2 => qX9_sure_loop h ⟨hr, ⟨hc, hco⟩, ⟨hd, hdo⟩, hp, hN30, ⟨hal, hav⟩, hsv, hse⟩ ec hto 667 0 σ (by decide) rfl h d2 (by omega)
set_option maxRecDepth 100000 in
theorem qX9_reaches {tx : List Nat} {ρ : Rm} {c d p : Nat} {ac : List (Nat × Nat × Nat)} {sl : Nat → Option (Nat × Nat × Nat)} {se : List (Nat × Nat × Nat)} {sd : Int64} {N : Nat} {σ : Mem} (h : RX tx ρ c d p ac sl se sd σ) (hv : okV N ρ c d p ac sl se) {ch to : Nat} (hch : ch < 64) (hto : to < 4 ^ rN ρ) : Ct shX 3 mX9_reaches [.ref 0, .int (nI to), .int (nI ch)] σ (fun r σ' => r = some (.int (bI (dst (cNx ρ) (rB ρ) ch to c).isSome)) ∧ RX tx ρ c d p ac sl se sd σ') := by
  obtain ⟨hr, ⟨hc, hco⟩, ⟨hd, hdo⟩, hp, hN30, ⟨hal, hav⟩, hsv, hse⟩ := hv
  obtain ⟨hTx, hP, hTa, hRE, hNw, hAc, hSl, hSe, hSd⟩ := h
  have hp4 := p4_le hr.1
  have hn5 := hr.1
  have hB7 := hr.2.2.1
  have h : RX tx ρ c d p ac sl se sd σ := ⟨hTx, hP, hTa, hRE, hNw, hAc, hSl, hSe, hSd⟩
  refine Ct.of (by decide) (Nat.le_of_ble_eq_true rfl) (l := [some (.ref 0), some (.int (nI to)), some (.int (nI ch))]) rfl ?_
  refine Vj_aloadn (q := 1) dX9_reaches_0 rfl rfl rfl ?_
  refine Vj_getR (q := 4) flX9_33 rfl rfl dX9_reaches_1 rfl ?_
  refine Vj_iloadn (q := 5) dX9_reaches_4 rfl rfl rfl ?_
  refine Vj_iloadn (q := 6) dX9_reaches_5 rfl rfl rfl ?_
  refine Vj_callV (q := 9) (qX1_spread hr hch hto hRE) (by decide) rfl rfl lkX9_199 viX1_spread okX1_spread dX9_reaches_6 rfl rfl (Nat.le_of_ble_eq_true rfl) ?_
  rintro r1 σ1 ⟨rfl, hS⟩
  show Vj shX 3 mX9_reaches _ 9 _ [.int _] σ1
  have hE1 := hS.2.2.2.c rfl
  have h1 := h.eqc hE1
  have hN1 := hNw.eqc hE1
  refine Vj_pop (q := 10) dX9_reaches_9 rfl rfl ?_
  refine Vj_aloadn (q := 11) dX9_reaches_10 rfl rfl rfl ?_
  refine Vj_getR (q := 14) flX9_33 rfl rfl dX9_reaches_11 rfl ?_
  refine Vj_aloadn (q := 15) dX9_reaches_14 rfl rfl rfl ?_
  refine Vj_getR (q := 18) flX9_47 rfl rfl dX9_reaches_15 rfl ?_
  refine Vj_getI (q := 21) flX9_112 rfl rfl dX9_reaches_18 rfl ?_
  rw [hN1.1]
  refine Vj_callVi (q := 24) (qX1_distanceOf (c := c) (by omega)) (by decide) rfl rfl lkX9_202 viX1_distanceOf okX1_distanceOf dX9_reaches_21 rfl rfl (Nat.le_of_ble_eq_true rfl) ?_
  rw [hS.1 c hc]
  refine Vj_iconst (q := 25) (v := (-1)) dX9_reaches_24 rfl (by decide) ?_
  refine Vj_icmp_eq (q := 28) (tgt := 32) dX9_reaches_25 (by decide) rfl (fun h25 => ?_) (fun h25 => ?_)
  ·
    refine Vj_iconst (q := 33) (v := 0) dX9_reaches_32 rfl (by decide) ?_
    refine Vr_iret rfl rfl dX9_reaches_33 ?_
    have e := (oI_m1 (fun k z => by have := dst_lt z; omega)).mp h25
    exact ⟨by rw [e]; rfl, h1⟩
  ·
    refine Vj_iconst (q := 29) (v := 1) dX9_reaches_28 rfl (by decide) ?_
    refine Vj_goto (q := 33) dX9_reaches_29 (by decide) ?_
    refine Vr_iret rfl rfl dX9_reaches_33 ?_
    have e : (dst (cNx ρ) (rB ρ) ch to c).isSome = true := by
      cases ed : dst (cNx ρ) (rB ρ) ch to c with
      | none => rw [ed] at h25; exact absurd rfl h25
      | some k => rfl
    exact ⟨by rw [e]; rfl, h1⟩
theorem pop6_le : ∀ x, x < 64 → pop6 x < 7 := by decide +kernel
set_option maxRecDepth 100000 in
theorem qX9_needed_l2 {tx : List Nat} {ρ : Rm} {c d p : Nat} {ac : List (Nat × Nat × Nat)} {sl : Nat → Option (Nat × Nat × Nat)} {se : List (Nat × Nat × Nat)} {sd : Int64} {N : Nat} {σ : Mem} (h : RX tx ρ c d p ac sl se sd σ) (hv : okV N ρ c d p ac sl se) {mess : Int32} {to m : Nat} (ec : cOf ρ (rN ρ) mess 0 = some to) (hto : cV ρ to) (hm : m ≤ rB ρ) (hpre : ndK ρ to c m = none)
    (kk : ∀ (σ2 : Mem) (z4 : Option Value), RX tx ρ c d p ac sl se sd σ2 → nd1 ρ to c m = none → Vj shX 4 mX9_needed (PX (spNeeded ρ c mess) tx ρ c d p ac sl se sd) 73 [some (.ref 0), some (.int mess), some (.int (nI to)), some (.int (nI m)), z4] [] σ2) :
    ∀ (k t : Nat) (σ1 : Mem), t + k = 2 ^ rB ρ → fstN (fun ch => pop6 ch == m && (dst (cNx ρ) (rB ρ) ch to c).isSome) t = none → RX tx ρ c d p ac sl se sd σ1 → Vj shX 4 mX9_needed (PX (spNeeded ρ c mess) tx ρ c d p ac sl se sd) 33 [some (.ref 0), some (.int mess), some (.int (nI to)), some (.int (nI m)), some (.int (nI t))] [] σ1 := by
  intro k
  have hr := hv.1
  have hp4 := p4_le hr.1
  have hB7 := hr.2.2.1
  have he64 := evB_lt hr
  have h2p : 0 < 2 ^ rB ρ := Nat.pow_pos (by decide)
  unfold evB at he64
  induction k with
  | zero =>
    intro t σ1 ht hf h1
    obtain rfl : t = 2 ^ rB ρ := by omega
    refine Vj_iload (q := 35) dX9_needed_33 rfl rfl ?_
    refine Vj_aloadn (q := 36) dX9_needed_35 rfl rfl rfl ?_
    refine Vj_getR (q := 39) flX9_26 rfl rfl dX9_needed_36 rfl ?_
    refine Vj_callVi (q := 42) (qX2_everyButton h1.2.1) (by decide) rfl rfl lkX9_196 viX2_everyButton okX2_everyButton dX9_needed_39 rfl rfl (Nat.le_of_ble_eq_true rfl) ?_
    refine Vj_icmp_gt (q := 45) (tgt := 73) dX9_needed_42 (by decide) rfl (fun _ => ?_) (fun hz => absurd (nI_lt (by omega) (by omega)) hz)
    exact kk σ1 _ h1 hf
  | succ k ih =>
    intro t σ1 ht hf h1
    have hp7 := pop6_le t (by omega)
    have hsome : (fun ch => pop6 ch == m && (dst (cNx ρ) (rB ρ) ch to c).isSome) t = true → ndK ρ to c (rB ρ + 1) = some t := by
      intro z
      have h1 : ndK ρ to c (m + 1) = some t := by
        rw [ndK, hpre]
        exact (fstN_some _).mpr ⟨by omega, z, (fstN_none _).mp hf⟩
      have up : ∀ j, m + 1 ≤ j → ndK ρ to c j = some t := by
        intro j hj
        induction j with
        | zero => omega
        | succ j ij =>
          by_cases e : m + 1 = j + 1
          · rw [← e]; exact h1
          · rw [ndK, ij (by omega)]
      exact up _ (by omega)
    have hnext : (fun ch => pop6 ch == m && (dst (cNx ρ) (rB ρ) ch to c).isSome) t = false → fstN (fun ch => pop6 ch == m && (dst (cNx ρ) (rB ρ) ch to c).isSome) (t + 1) = none := fun z => (fstN_none _).mpr fun j hj => by
      by_cases e : j = t
      · subst e; exact z
      · exact (fstN_none _).mp hf j (by omega)
    refine Vj_iload (q := 35) dX9_needed_33 rfl rfl ?_
    refine Vj_aloadn (q := 36) dX9_needed_35 rfl rfl rfl ?_
    refine Vj_getR (q := 39) flX9_26 rfl rfl dX9_needed_36 rfl ?_
    refine Vj_callVi (q := 42) (qX2_everyButton h1.2.1) (by decide) rfl rfl lkX9_196 viX2_everyButton okX2_everyButton dX9_needed_39 rfl rfl (Nat.le_of_ble_eq_true rfl) ?_
    refine Vj_icmp_gt (q := 45) (tgt := 73) dX9_needed_42 (by decide) rfl (fun hz => absurd hz (nI_nlt (by omega) (by omega))) (fun _ => ?_)
    refine Vj_iload (q := 47) dX9_needed_45 rfl rfl ?_
    refine Vj_callSi (q := 50) (qJ6_bitCount_0f7a4 (x := t) (by omega)) (by decide) lkX9_218 stJ6_bitCount_0f7a4 okJ6_bitCount_0f7a4 dX9_needed_47 rfl rfl (Nat.le_of_ble_eq_true rfl) ?_
    refine Vj_iloadn (q := 51) dX9_needed_50 rfl rfl rfl ?_
    refine Vj_icmp_ne (q := 54) (tgt := 67) dX9_needed_51 (by decide) rfl (fun h51 => ?_) (fun h51 => ?_)
    ·
      refine Vs_iinc4 (q := 70) (z := none) dX9_needed_67 rfl (by exact iinc_p _) (by decide) rfl ?_
      refine Vj_goto (q := 33) dX9_needed_70 (by decide) ?_
      rw [nI_1]
      exact ih (t + 1) σ1 (by omega) (hnext (by simp only [beq_eq_false_iff_ne.mpr (nI_ne_of (by omega) (by omega) h51), Bool.false_and])) h1
    ·
      refine Vj_aloadn (q := 55) dX9_needed_54 rfl rfl rfl ?_
      refine Vj_iloadn (q := 56) dX9_needed_55 rfl rfl rfl ?_
      refine Vj_iload (q := 58) dX9_needed_56 rfl rfl ?_
      refine Vj_callV (q := 61) (qX9_reaches h1 hv (ch := t) (to := to) (by omega) hto.1) (by decide) rfl rfl lkX9_223 viX9_reaches okX9_reaches dX9_needed_58 rfl rfl (Nat.le_of_ble_eq_true rfl) ?_
      rintro r1 σ2 ⟨rfl, h2⟩
      show Vj shX 4 mX9_needed _ 61 _ [.int _] σ2
      refine Vj_if_eq (q := 64) (tgt := 67) dX9_needed_61 (by decide) rfl (fun h61 => ?_) (fun h61 => ?_)
      ·
        refine Vs_iinc4 (q := 70) (z := none) dX9_needed_67 rfl (by exact iinc_p _) (by decide) rfl ?_
        refine Vj_goto (q := 33) dX9_needed_70 (by decide) ?_
        rw [nI_1]
        exact ih (t + 1) σ2 (by omega) (hnext (by simp only [bI_z.mp h61, Bool.and_false])) h2
      ·
        refine Vj_iload (q := 66) dX9_needed_64 rfl rfl ?_
        refine Vr_iret rfl rfl dX9_needed_66 ?_
        have hm1 := (nI_eq (by omega) (by omega)).mp h51
        exact ⟨by rw [spNeeded, ec]; simp only []; rw [hsome (by simp only [bI_n.mp h61, hm1, beq_self_eq_true, Bool.and_self])], h2⟩
set_option maxRecDepth 100000 in
theorem qX9_needed_l1 {tx : List Nat} {ρ : Rm} {c d p : Nat} {ac : List (Nat × Nat × Nat)} {sl : Nat → Option (Nat × Nat × Nat)} {se : List (Nat × Nat × Nat)} {sd : Int64} {N : Nat} {σ : Mem} (h : RX tx ρ c d p ac sl se sd σ) (hv : okV N ρ c d p ac sl se) {mess : Int32} {to : Nat} (ec : cOf ρ (rN ρ) mess 0 = some to) (hto : cV ρ to) : ∀ (k m : Nat) (σ1 : Mem) (z4 : Option Value), m + k = rB ρ + 1 → ndK ρ to c m = none → RX tx ρ c d p ac sl se sd σ1 → Vj shX 4 mX9_needed (PX (spNeeded ρ c mess) tx ρ c d p ac sl se sd) 19 [some (.ref 0), some (.int mess), some (.int (nI to)), some (.int (nI m)), z4] [] σ1 := by
  intro k
  have hr := hv.1
  have hB7 := hr.2.2.1
  induction k with
  | zero =>
    intro m σ1 z4 hm hf h1
    obtain rfl : m = rB ρ + 1 := by omega
    refine Vj_iloadn (q := 20) dX9_needed_19 rfl rfl rfl ?_
    refine Vj_aloadn (q := 21) dX9_needed_20 rfl rfl rfl ?_
    refine Vj_getR (q := 24) flX9_26 rfl rfl dX9_needed_21 rfl ?_
    refine Vj_callVi (q := 27) (qX2_buttons h1.2.1) (by decide) rfl rfl lkX9_128 viX2_buttons okX2_buttons dX9_needed_24 rfl rfl (Nat.le_of_ble_eq_true rfl) ?_
    refine Vj_icmp_gt (q := 30) (tgt := 79) dX9_needed_27 (by decide) rfl (fun _ => ?_) (fun hz => absurd (nI_lt (by omega) (by omega)) hz)
    refine Vj_bipush (q := 81) (v := (-9)) dX9_needed_79 rfl (by decide) ?_
    exact Vr_iret rfl rfl dX9_needed_81 (⟨by rw [spNeeded, ec]; simp only []; rw [hf], h1⟩)
  | succ k ih =>
    intro m σ1 z4 hm hf h1
    refine Vj_iloadn (q := 20) dX9_needed_19 rfl rfl rfl ?_
    refine Vj_aloadn (q := 21) dX9_needed_20 rfl rfl rfl ?_
    refine Vj_getR (q := 24) flX9_26 rfl rfl dX9_needed_21 rfl ?_
    refine Vj_callVi (q := 27) (qX2_buttons h1.2.1) (by decide) rfl rfl lkX9_128 viX2_buttons okX2_buttons dX9_needed_24 rfl rfl (Nat.le_of_ble_eq_true rfl) ?_
    refine Vj_icmp_gt (q := 30) (tgt := 79) dX9_needed_27 (by decide) rfl (fun hz => absurd hz (nI_nlt (by omega) (by omega))) (fun _ => ?_)
    refine Vj_iconst (q := 31) (v := 0) dX9_needed_30 rfl (by decide) ?_
    refine Vs_istore4 (q := 33) dX9_needed_31 rfl (by decide) rfl ?_
    refine qX9_needed_l2 h hv ec hto (m := m) (by omega) hf (fun σ2 y4 h2 hn => ?_) (2 ^ rB ρ) 0 σ1 (by omega) rfl h1
    refine Vs_iinc3 (q := 76) (z := none) dX9_needed_73 rfl (by exact iinc_p _) (by decide) rfl ?_
    refine Vj_goto (q := 19) dX9_needed_76 (by decide) ?_
    rw [nI_1]
    exact ih (m + 1) σ2 _ (by omega) (by rw [ndK, hf]; exact hn) h2
set_option maxRecDepth 100000 in
theorem qX9_needed {tx : List Nat} {ρ : Rm} {c d p : Nat} {ac : List (Nat × Nat × Nat)} {sl : Nat → Option (Nat × Nat × Nat)} {se : List (Nat × Nat × Nat)} {sd : Int64} {N : Nat} {σ : Mem} (h : RX tx ρ c d p ac sl se sd σ) (hv : okV N ρ c d p ac sl se) (mess : Int32) : Ct shX 5 mX9_needed [.ref 0, .int mess] σ (PX (spNeeded ρ c mess) tx ρ c d p ac sl se sd) := by
  obtain ⟨hr, ⟨hc, hco⟩, ⟨hd, hdo⟩, hp, hN30, ⟨hal, hav⟩, hsv, hse⟩ := hv
  obtain ⟨hTx, hP, hTa, hRE, hNw, hAc, hSl, hSe, hSd⟩ := h
  have hp4 := p4_le hr.1
  have hn5 := hr.1
  have hB7 := hr.2.2.1
  have h : RX tx ρ c d p ac sl se sd σ := ⟨hTx, hP, hTa, hRE, hNw, hAc, hSl, hSe, hSd⟩
  refine Ct.of (by decide) (Nat.le_of_ble_eq_true rfl) (l := [some (.ref 0), some (.int mess), none, none, none]) rfl ?_
  refine Vj_aloadn (q := 1) dX9_needed_0 rfl rfl rfl ?_
  refine Vj_getR (q := 4) flX9_26 rfl rfl dX9_needed_1 rfl ?_
  refine Vj_iloadn (q := 5) dX9_needed_4 rfl rfl rfl ?_
  refine Vj_callVi (q := 8) (qX2_codeOf hP mess) (by decide) rfl rfl lkX9_193 viX2_codeOf okX2_codeOf dX9_needed_5 rfl rfl (Nat.le_of_ble_eq_true rfl) ?_
  rcases ec : cOf ρ (rN ρ) mess 0 with _ | to
  ·
    rw [oI_none]
    refine Vs_istore2 (q := 9) dX9_needed_8 rfl (by decide) rfl ?_
    refine Vj_iloadn (q := 10) dX9_needed_9 rfl rfl rfl ?_
    refine Vj_iconst (q := 11) (v := (-1)) dX9_needed_10 rfl (by decide) ?_
    refine Vj_icmp_ne (q := 14) (tgt := 17) dX9_needed_11 (by decide) rfl (fun hz => absurd (by decide) hz) (fun _ => ?_)
    refine Vj_bipush (q := 16) (v := (-2)) dX9_needed_14 rfl (by decide) ?_
    exact Vr_iret rfl rfl dX9_needed_16 (⟨by rw [spNeeded, ec], h⟩)
  ·
    have hto := cOf_V hr (rN ρ) mess 0 to (Nat.le_refl _) (p4_pos _) (fun t h1 h2 => absurd h1 (by omega)) ec
    have hne := oI_c hr hto.1
    refine Vs_istore2 (q := 9) dX9_needed_8 rfl (by decide) rfl ?_
    refine Vj_iloadn (q := 10) dX9_needed_9 rfl rfl rfl ?_
    refine Vj_iconst (q := 11) (v := (-1)) dX9_needed_10 rfl (by decide) ?_
    refine Vj_icmp_ne (q := 14) (tgt := 17) dX9_needed_11 (by decide) rfl (fun _ => ?_) (fun hz => absurd hz hne)
    rw [oI_some]
    refine Vj_iconst (q := 18) (v := 0) dX9_needed_17 rfl (by decide) ?_
    refine Vs_istore3 (q := 19) dX9_needed_18 rfl (by decide) rfl ?_
    exact fun d2 hd2 => qX9_needed_l1 h ⟨hr, ⟨hc, hco⟩, ⟨hd, hdo⟩, hp, hN30, ⟨hal, hav⟩, hsv, hse⟩ ec hto (rB ρ + 1) 0 σ none (by omega) rfl h d2 (by omega)
set_option maxRecDepth 100000 in
theorem qX9_judge_loop {tx : List Nat} {ρ : Rm} {c d p : Nat} {ac : List (Nat × Nat × Nat)} {sl : Nat → Option (Nat × Nat × Nat)} {se : List (Nat × Nat × Nat)} {sd : Int64} {N : Nat} {σ : Mem} (h : RX tx ρ c d p ac sl se sd σ) (hv : okV N ρ c d p ac sl se) {n r : Nat} (hn : n < 7) (hR : RwH n r σ) {row : Int32} : ∀ (k i x : Nat) (z5 z6 : Option Value), i + k = n → x < 4 ^ rN ρ → Vj shX 2 mX9_judge (PX (fI (jdG ρ n r k i x)) tx ρ c d p ac sl se sd) 42 [some (.ref 0), some (.int (nI n)), some (.int row), some (.int (nI x)), some (.int (nI i)), z5, z6] [] σ := by
  intro k
  obtain ⟨hr, ⟨hc, hco⟩, ⟨hd, hdo⟩, hp, hN30, ⟨hal, hav⟩, hsv, hse⟩ := hv
  obtain ⟨hTx, hP, hTa, hRE, hNw, hAc, hSl, hSe, hSd⟩ := h
  have hp4 := p4_le hr.1
  have hn5 := hr.1
  have hB7 := hr.2.2.1
  have h : RX tx ρ c d p ac sl se sd σ := ⟨hTx, hP, hTa, hRE, hNw, hAc, hSl, hSe, hSd⟩
  induction k with
  | zero =>
    intro i x z5 z6 hi hx
    obtain rfl : i = n := by omega
    refine Vj_iload (q := 44) dX9_judge_42 rfl rfl ?_
    refine Vj_iloadn (q := 45) dX9_judge_44 rfl rfl rfl ?_
    refine Vj_icmp_ge (q := 48) (tgt := 105) dX9_judge_45 (by decide) rfl (fun _ => ?_) (fun hz => absurd (nI_le (Nat.le_refl _) (by omega)) hz)
    refine Vj_bipush (q := 107) (v := (-9)) dX9_judge_105 rfl (by decide) ?_
    exact Vr_iret rfl rfl dX9_judge_107 (⟨rfl, h⟩)
  | succ k ih =>
    intro i x z5 z6 hi hx
    rw [jdG]
    refine Vj_iload (q := 44) dX9_judge_42 rfl rfl ?_
    refine Vj_iloadn (q := 45) dX9_judge_44 rfl rfl rfl ?_
    refine Vj_icmp_ge (q := 48) (tgt := 105) dX9_judge_45 (by decide) rfl (fun hz => absurd hz (nI_ge (by omega) (by omega))) (fun _ => ?_)
    refine Vj_aloadn (q := 49) dX9_judge_48 rfl rfl rfl ?_
    refine Vj_getR (q := 52) flX9_40 rfl rfl dX9_judge_49 rfl ?_
    refine Vj_iload (q := 54) dX9_judge_52 rfl rfl ?_
    refine Vj_callVi (q := 57) (qX4_buttonAt hR hn (by omega)) (by decide) rfl rfl lkX9_226 viX4_buttonAt okX4_buttonAt dX9_judge_54 rfl rfl (Nat.le_of_ble_eq_true rfl) ?_
    refine Vs_istore5 (q := 59) dX9_judge_57 rfl (by decide) rfl ?_
    refine Vj_aloadn (q := 60) dX9_judge_59 rfl rfl rfl ?_
    refine Vj_getR (q := 63) flX9_26 rfl rfl dX9_judge_60 rfl ?_
    refine Vj_iload (q := 65) dX9_judge_63 rfl rfl ?_
    refine Vj_callVi (q := 68) (qX2_hasButton hP _) (by decide) rfl rfl lkX9_143 viX2_hasButton okX2_hasButton dX9_judge_65 rfl rfl (Nat.le_of_ble_eq_true rfl) ?_
    rw [hT_dg hr (dg_lt n r i)]
    refine Vj_if_eq (q := 71) (tgt := 84) dX9_judge_68 (by decide) rfl (fun h68 => ?_) (fun h68 => ?_)
    ·
      refine Vj_iloadn (q := 85) dX9_judge_84 rfl rfl rfl ?_
      refine Vs_istore6 (q := 87) dX9_judge_85 rfl (by decide) rfl ?_
      refine Vj_iload (q := 89) dX9_judge_87 rfl rfl ?_
      refine Vj_iloadn (q := 90) dX9_judge_89 rfl rfl rfl ?_
      refine Vj_icmp_ne (q := 93) (tgt := 96) dX9_judge_90 (by decide) rfl (fun h90 => ?_) (fun h90 => ?_)
      ·
        refine Vj_iload (q := 98) dX9_judge_96 rfl rfl ?_
        refine Vs_istore3 (q := 99) dX9_judge_98 rfl (by decide) rfl ?_
        refine Vs_iinc4 (q := 102) (z := none) dX9_judge_99 rfl (by exact iinc_p _) (by decide) rfl ?_
        refine Vj_goto (q := 42) dX9_judge_102 (by decide) ?_
        exact absurd rfl h90
      ·
        refine Vj_iload (q := 95) dX9_judge_93 rfl rfl ?_
        exact Vr_iret rfl rfl dX9_judge_95 (⟨by rw [bI_z.mp h68]; rfl, h⟩)
    ·
      have hbo := bI_n.mp h68
      have hb := bOk_1 hbo
      have hxb := cNx_lt hr hx hb.2
      refine Vj_aloadn (q := 72) dX9_judge_71 rfl rfl rfl ?_
      refine Vj_getR (q := 75) flX9_26 rfl rfl dX9_judge_72 rfl ?_
      refine Vj_iloadn (q := 76) dX9_judge_75 rfl rfl rfl ?_
      refine Vj_iload (q := 78) dX9_judge_76 rfl rfl ?_
      rw [show nI (dg n r i) - 1 = nI (dg n r i - 1) from pk_sub (b := 1) hb.1]
      refine Vj_callVi (q := 81) (qX2_behind (c := x) (b := dg n r i - 1) (by omega) (by omega)) (by decide) rfl rfl lkX9_165 viX2_behind okX2_behind dX9_judge_78 rfl rfl (Nat.le_of_ble_eq_true rfl) ?_
      rw [(hTa.2 _ hx).2.2 _ hb.2]
      refine Vj_goto (q := 85) dX9_judge_81 (by decide) ?_
      refine Vs_istore6 (q := 87) dX9_judge_85 rfl (by decide) rfl ?_
      refine Vj_iload (q := 89) dX9_judge_87 rfl rfl ?_
      refine Vj_iloadn (q := 90) dX9_judge_89 rfl rfl rfl ?_
      refine Vj_icmp_ne (q := 93) (tgt := 96) dX9_judge_90 (by decide) rfl (fun h90 => ?_) (fun h90 => ?_)
      ·
        refine Vj_iload (q := 98) dX9_judge_96 rfl rfl ?_
        refine Vs_istore3 (q := 99) dX9_judge_98 rfl (by decide) rfl ?_
        refine Vs_iinc4 (q := 102) (z := none) dX9_judge_99 rfl (by exact iinc_p _) (by decide) rfl ?_
        refine Vj_goto (q := 42) dX9_judge_102 (by decide) ?_
        have e := nI_ne_of (by omega) (by omega) h90
        rw [hbo, beq_eq_false_iff_ne.mpr e, nI_1]
        exact ih (i + 1) _ _ _ (by omega) hxb
      ·
        refine Vj_iload (q := 95) dX9_judge_93 rfl rfl ?_
        refine Vr_iret rfl rfl dX9_judge_95 ?_
        have e := (nI_eq (by omega) (by omega)).mp h90
        exact ⟨by rw [hbo, e, beq_self_eq_true]; rfl, h⟩
set_option maxRecDepth 100000 in
theorem qX9_judge {tx : List Nat} {ρ : Rm} {c d p : Nat} {ac : List (Nat × Nat × Nat)} {sl : Nat → Option (Nat × Nat × Nat)} {se : List (Nat × Nat × Nat)} {sd : Int64} {N : Nat} {σ : Mem} (h : RX tx ρ c d p ac sl se sd σ) (hv : okV N ρ c d p ac sl se) (n row : Int32) : Ct shX 3 mX9_judge [.ref 0, .int n, .int row] σ (PX (spJudge ρ c n row) tx ρ c d p ac sl se sd) := by
  obtain ⟨hr, ⟨hc, hco⟩, ⟨hd, hdo⟩, hp, hN30, ⟨hal, hav⟩, hsv, hse⟩ := hv
  obtain ⟨hTx, hP, hTa, hRE, hNw, hAc, hSl, hSe, hSd⟩ := h
  have hp4 := p4_le hr.1
  have hn5 := hr.1
  have hB7 := hr.2.2.1
  have h : RX tx ρ c d p ac sl se sd σ := ⟨hTx, hP, hTa, hRE, hNw, hAc, hSl, hSe, hSd⟩
  refine Ct.of (by decide) (Nat.le_of_ble_eq_true rfl) (l := [some (.ref 0), some (.int n), some (.int row), none, none, none, none]) rfl ?_
  refine Vj_iloadn (q := 1) dX9_judge_0 rfl rfl rfl ?_
  refine Vj_iconst (q := 2) (v := 1) dX9_judge_1 rfl (by decide) ?_
  refine Vj_icmp_lt (q := 5) (tgt := 19) dX9_judge_2 (by decide) rfl (fun h2 => ?_) (fun h2 => ?_)
  ·
    refine Vj_bipush (q := 21) (v := (-2)) dX9_judge_19 rfl (by decide) ?_
    exact Vr_iret rfl rfl dX9_judge_21 (⟨by rw [spJudge, if_pos (Or.inl h2)], h⟩)
  ·
    refine Vj_iloadn (q := 6) dX9_judge_5 rfl rfl rfl ?_
    refine Vj_bipush (q := 8) (v := 6) dX9_judge_6 rfl (by decide) ?_
    refine Vj_icmp_gt (q := 11) (tgt := 19) dX9_judge_8 (by decide) rfl (fun h8 => ?_) (fun h8 => ?_)
    ·
      refine Vj_bipush (q := 21) (v := (-2)) dX9_judge_19 rfl (by decide) ?_
      exact Vr_iret rfl rfl dX9_judge_21 (⟨by rw [spJudge, if_pos (Or.inr (Or.inl h8))], h⟩)
    ·
      obtain ⟨k, hk, rfl⟩ := nI_of (x := n) (fun z => by have h0 := Int32.not_lt.mp h2; exact absurd (Int32.lt_of_le_of_lt h0 z) (by decide))
      have hk1 : 1 ≤ k := (nI_leI (a := 1) (by decide) hk).mp (Int32.not_lt.mp h2)
      have hk7 : k < 7 := by have := (nI_leI (b := 6) hk (by decide)).mp (Int32.not_lt.mp h8); omega
      have ekc : (nI k).toNatClampNeg = k := nI_clamp hk
      refine Vj_iloadn (q := 12) dX9_judge_11 rfl rfl rfl ?_
      refine Vj_iloadn (q := 13) dX9_judge_12 rfl rfl rfl ?_
      refine Vj_callSi (q := 16) (qX9_isRow (n := k) (by omega) row) (by decide) lkX9_178 stX9_isRow okX9_isRow dX9_judge_13 rfl rfl (Nat.le_of_ble_eq_true rfl) ?_
      refine Vj_if_ne (q := 19) (tgt := 22) dX9_judge_16 (by decide) rfl (fun h16 => ?_) (fun h16 => ?_)
      ·
        obtain ⟨r, hrr, rfl, erc⟩ := isR_n (by omega) (bI_n.mp h16)
        have hr31 : r < 2 ^ 31 := Nat.lt_of_lt_of_le hrr (Nat.le_trans (Nat.pow_le_pow_right (by decide) (show k ≤ 6 by omega)) (by decide))
        have hno : ¬ (nI k < 1 ∨ 6 < nI k ∨ isR (nI k).toNatClampNeg (nI r) = false) := by
          rintro (z | z | z)
          · exact h2 z
          · exact h8 z
          · rw [ekc, bI_n.mp h16] at z; cases z
        refine Vj_aloadn (q := 23) dX9_judge_22 rfl rfl rfl ?_
        refine Vj_getR (q := 26) flX9_40 rfl rfl dX9_judge_23 rfl ?_
        refine Vj_iloadn (q := 27) dX9_judge_26 rfl rfl rfl ?_
        refine Vj_iloadn (q := 28) dX9_judge_27 rfl rfl rfl ?_
        refine Vj_callV (q := 31) (qX4_read hk7 hr31) (by decide) rfl rfl lkX9_182 viX4_read okX4_read dX9_judge_28 rfl rfl (Nat.le_of_ble_eq_true rfl) ?_
        rintro r1 σ1 ⟨rfl, hR1, hE1⟩
        show Vj shX 3 mX9_judge _ 31 _ [] σ1
        have hE1 := hE1.c rfl
        have h1 := h.eqc hE1
        have hP1 := hP.eqc hE1
        have hT1 := hTa.eqc hE1
        have hN1 := hNw.eqc hE1
        refine Vj_aloadn (q := 32) dX9_judge_31 rfl rfl rfl ?_
        refine Vj_getR (q := 35) flX9_47 rfl rfl dX9_judge_32 rfl ?_
        refine Vj_getI (q := 38) flX9_112 rfl rfl dX9_judge_35 rfl ?_
        rw [hN1.1]
        refine Vs_istore3 (q := 39) dX9_judge_38 rfl (by decide) rfl ?_
        refine Vj_iconst (q := 40) (v := 0) dX9_judge_39 rfl (by decide) ?_
        refine Vs_istore4 (q := 42) dX9_judge_40 rfl (by decide) rfl ?_
        rw [spJudge, if_neg hno, ekc, erc]
        exact fun d2 hd2 => qX9_judge_loop h1 ⟨hr, ⟨hc, hco⟩, ⟨hd, hdo⟩, hp, hN30, ⟨hal, hav⟩, hsv, hse⟩ hk7 hR1 k 0 c none none (by omega) hc d2 (by omega)
      ·
        refine Vj_bipush (q := 21) (v := (-2)) dX9_judge_19 rfl (by decide) ?_
        exact Vr_iret rfl rfl dX9_judge_21 (⟨by rw [spJudge, if_pos (Or.inr (Or.inr (by rw [ekc]; exact bI_z.mp h16)))], h⟩)
