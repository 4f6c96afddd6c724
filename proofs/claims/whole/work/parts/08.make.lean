/-- what Plan tells of the first K codes -/
def RTk (ρ : Rm) (K : Nat) (σ : Mem) : Prop := ∀ c, c < K → σ.1 17 c = (if cOk ρ c then nI (cDg (rN ρ) c (rN ρ)) else -1) ∧ σ.1 18 c = nI (cLi (rN ρ) c (rN ρ)) ∧ ∀ b, b < rB ρ → σ.1 19 (c * 6 + b) = nI (cNx ρ c b)
def RT (ρ : Rm) (σ : Mem) : Prop := σ.1 10 4 = nI (4 ^ rN ρ) ∧ RTk ρ (4 ^ rN ρ) σ
theorem RT.of {ρ : Rm} {σ σ' : Mem} (h : RT ρ σ) (h0 : σ'.1 10 = σ.1 10) (h1 : σ'.1 17 = σ.1 17) (h2 : σ'.1 18 = σ.1 18) (h3 : σ'.1 19 = σ.1 19) : RT ρ σ' := by
  refine ⟨by rw [h0]; exact h.1, fun c hc => ?_⟩
  rw [h1, h2, h3]
  exact h.2 c hc
theorem tell_ne {ρ : Rm} {c q : Nat} {σ : Mem} (h1 : q ≠ 17) (h2 : q ≠ 18) (h3 : q ≠ 19) : (tell ρ c σ).1 q = σ.1 q := by
  rw [tell, wNx_ne h3, uI_ne h2, uI_ne h1]
theorem tell_17 {ρ : Rm} {c : Nat} {σ : Mem} : (tell ρ c σ).1 17 = upd (σ.1 17) c (if cOk ρ c then nI (cDg (rN ρ) c (rN ρ)) else -1) := by
  rw [tell, wNx_ne (by decide), uI_ne (by decide), uI_eq]
theorem tell_18 {ρ : Rm} {c : Nat} {σ : Mem} : (tell ρ c σ).1 18 = upd (σ.1 18) c (nI (cLi (rN ρ) c (rN ρ))) := by
  rw [tell, wNx_ne (by decide), uI_eq, uI_ne (by decide)]
theorem tell_19 {ρ : Rm} {c j : Nat} {σ : Mem} : (tell ρ c σ).1 19 j = if c * 6 ≤ j ∧ j < c * 6 + rB ρ then nI (cNx ρ c (j - c * 6)) else σ.1 19 j := by
  rw [tell, wNx_at, uI_ne (by decide), uI_ne (by decide)]
theorem tell_2 {ρ : Rm} {c : Nat} {σ : Mem} : (tell ρ c σ).2 = σ.2 := by rw [tell, wNx_2]; rfl
theorem RTk.next {ρ : Rm} (hr : okR ρ) {K : Nat} {σ : Mem} (h : RTk ρ K σ) : RTk ρ (K + 1) (tell ρ K σ) := by
  have hB := hr.2.2.1
  intro c hc
  by_cases e : c = K
  · subst e
    refine ⟨by rw [tell_17, upd, if_pos rfl], by rw [tell_18, upd, if_pos rfl], fun b hb => ?_⟩
    rw [tell_19, if_pos (by omega)]
    congr 2; omega
  · obtain ⟨h1, h2, h3⟩ := h c (by omega)
    refine ⟨by rw [tell_17, upd, if_neg e]; exact h1, by rw [tell_18, upd, if_neg e]; exact h2, fun b hb => ?_⟩
    rw [tell_19, if_neg (by omega)]
    exact h3 b hb
theorem tell_Eqo {ρ : Rm} {c : Nat} {S : List Nat} {σ σ' : Mem} (h : Eqo S σ σ') (h1 : S.contains 17 = true) (h2 : S.contains 18 = true) (h3 : S.contains 19 = true) : Eqo S σ (tell ρ c σ') :=
  ⟨fun q hq => by
    have e1 : q ≠ 17 := fun e => hq (by subst e; simpa using h1)
    have e2 : q ≠ 18 := fun e => hq (by subst e; simpa using h2)
    have e3 : q ≠ 19 := fun e => hq (by subst e; simpa using h3)
    rw [tell_ne e1 e2 e3]; exact h.1 q hq, by rw [tell_2]; exact h.2⟩
theorem RP.tell {ρ : Rm} {c : Nat} {σ : Mem} (h : RP ρ σ) : RP ρ (tell ρ c σ) := h.of (tell_ne (by decide) (by decide) (by decide)) (tell_ne (by decide) (by decide) (by decide)) (tell_ne (by decide) (by decide) (by decide)) (tell_ne (by decide) (by decide) (by decide)) (tell_ne (by decide) (by decide) (by decide))
def mkS : List Nat := [10, 11, 12, 13, 14, 15, 16, 17, 18, 19]
/-- behind Plan.make -/
def MkP (ρ : Rm) (F : List Nat) (σ0 : Mem) : Option Value → Mem → Prop := fun r σ' => r = none ∧ RP ρ σ' ∧ RT ρ σ' ∧ (∀ t, t < rN ρ → σ'.1 13 t = nI (F.getD t 0)) ∧ Eqo mkS σ0 σ'
theorem RP_of_PD {ρ : Rm} {F : List Nat} {σ : Mem} (hr : okR ρ) (h : PD 11 ρ.1 F ρ.2 σ) : RP ρ σ := ⟨hr, h.1, h.2.1, fun t ht => (h.2.2.1 t ht).1, fun b hb => h.2.2.2 b hb⟩

set_option maxRecDepth 100000 in
theorem qX2_make_loop {ρ : Rm} {F : List Nat} {σ0 : Mem} {p : Nat} : ∀ (k c : Nat) (σ : Mem), c + k = 4 ^ rN ρ → RP ρ σ → σ.1 10 4 = nI (4 ^ rN ρ) → RTk ρ c σ → (∀ t, t < rN ρ → σ.1 13 t = nI (F.getD t 0)) → Eqo mkS σ0 σ → Vj shX 5 mX2_make (MkP ρ F σ0) 25 [some (.ref 10), some (.ref p), some (.int (nI c))] [] σ := by
  intro k
  induction k with
  | zero =>
    intro c σ hc h h10 hT hF hE
    have hp4 := p4_le h.1.1
    obtain rfl : c = 4 ^ rN ρ := by omega
    refine Vj_iloadn (q := 26) dX2_make_25 rfl rfl rfl ?_
    refine Vj_aloadn (q := 27) dX2_make_26 rfl rfl rfl ?_
    refine Vj_getI (q := 30) flX2_36 rfl rfl dX2_make_27 rfl ?_
    rw [h10]
    refine Vj_icmp_ge (q := 33) (tgt := 44) dX2_make_30 (by decide) rfl (fun _ => ?_) (fun hz => absurd (nI_le (Nat.le_refl _) (by omega)) hz)
    exact Vr_vret rfl dX2_make_44 (⟨rfl, h, ⟨h10, hT⟩, hF, hE⟩)
  | succ k ih =>
    intro c σ hc h h10 hT hF hE
    have hp4 := p4_le h.1.1
    refine Vj_iloadn (q := 26) dX2_make_25 rfl rfl rfl ?_
    refine Vj_aloadn (q := 27) dX2_make_26 rfl rfl rfl ?_
    refine Vj_getI (q := 30) flX2_36 rfl rfl dX2_make_27 rfl ?_
    rw [h10]
    refine Vj_icmp_ge (q := 33) (tgt := 44) dX2_make_30 (by decide) rfl (fun hz => absurd hz (nI_ge (by omega) (by omega))) (fun _ => ?_)
    refine Vj_aloadn (q := 34) dX2_make_33 rfl rfl rfl ?_
    refine Vj_iloadn (q := 35) dX2_make_34 rfl rfl rfl ?_
    refine Vj_callVv (q := 38) (qX2_tellCode h (c := c) (by omega)) (by decide) rfl rfl lkX2_39 viX2_tellCode okX2_tellCode dX2_make_35 rfl rfl (Nat.le_of_ble_eq_true rfl) ?_
    refine Vs_iinc2 (q := 41) (z := none) dX2_make_38 rfl (by exact iinc_p _) (by decide) rfl ?_
    refine Vj_goto (q := 25) dX2_make_41 (by decide) ?_
    rw [nI_1]
    exact ih (c + 1) _ (by omega) h.tell (by rw [tell_ne (by decide) (by decide) (by decide)]; exact h10) (hT.next h.1) (fun t ht => by rw [tell_ne (by decide) (by decide) (by decide)]; exact hF t ht) (tell_Eqo hE rfl rfl rfl)
set_option maxRecDepth 100000 in
theorem qX2_make {ρ : Rm} {F : List Nat} {σ : Mem} {p : Nat} (hr : okR ρ) (hp : PSh p) (hpp : p + 5 < 11 ∨ 16 < p) (hF : F.length = rN ρ) (hT : PD p ρ.1 F ρ.2 σ) : Ct shX 5 mX2_make [.ref 10, .ref p] σ (MkP ρ F σ) := by
  refine Ct.of (by decide) (Nat.le_of_ble_eq_true rfl) (l := [some (.ref 10), some (.ref p), none]) rfl ?_
  refine Vj_aloadn (q := 1) dX2_make_0 rfl rfl rfl ?_
  refine Vj_getR (q := 4) flX2_12 rfl rfl dX2_make_1 rfl ?_
  refine Vj_aloadn (q := 5) dX2_make_4 rfl rfl rfl ?_
  refine Vj_callV (q := 8) (qX0_copy hp hpp hr.1 hF hr.2.2.1 hT) (by decide) rfl rfl lkX2_28 viX0_copy okX0_copy dX2_make_5 rfl rfl (Nat.le_of_ble_eq_true rfl) ?_
  rintro r σ1 ⟨rfl, hD, hE⟩
  show Vj shX 5 mX2_make _ 8 _ [] σ1
  have h := RP_of_PD hr hD
  refine Vj_aloadn (q := 9) dX2_make_8 rfl rfl rfl ?_
  refine Vj_iconst (q := 10) (v := 1) dX2_make_9 rfl (by decide) ?_
  refine Vj_iconst (q := 11) (v := 2) dX2_make_10 rfl (by decide) ?_
  refine Vj_aloadn (q := 12) dX2_make_11 rfl rfl rfl ?_
  refine Vj_getR (q := 15) flX2_12 rfl rfl dX2_make_12 rfl ?_
  refine Vj_getI (q := 18) flX2_32 rfl rfl dX2_make_15 rfl ?_
  rw [h.2.1]
  refine Vj_imul (q := 19) dX2_make_18 rfl ?_
  refine Vj_ishl (q := 20) dX2_make_19 rfl ?_
  rw [i_p4 _ hr.1]
  refine Vj_putI (q := 23) flX2_36 rfl rfl dX2_make_20 rfl ?_
  refine Vj_iconst (q := 24) (v := 0) dX2_make_23 rfl (by decide) ?_
  refine Vs_istore2 (q := 25) dX2_make_24 rfl (by decide) rfl ?_
  exact qX2_make_loop (4 ^ rN ρ) 0 _ (by omega) (h.uI rfl) (by simp [uI, upd]) (fun c hc => absurd hc (Nat.not_lt_zero c)) (fun t ht => by rw [uI_ne (by decide)]; exact (hD.2.2.1 t ht).2) ((hE.in (S' := mkS) rfl).u rfl)
/-! Arrays.fill -/
def fillM (σ : Mem) (q n : Nat) (x : Int32) : Mem := (fun q' => if q' = q then (fun j => if j < n then x else σ.1 q j) else σ.1 q', σ.2)
theorem fillM_eq {σ : Mem} {q n : Nat} {x : Int32} : (fillM σ q n x).1 q = fun j => if j < n then x else σ.1 q j := by simp [fillM]
theorem fillM_ne {σ : Mem} {q n r : Nat} {x : Int32} (h : r ≠ q) : (fillM σ q n x).1 r = σ.1 r := by simp [fillM, h]
theorem fillM_0 {σ : Mem} {q : Nat} {x : Int32} : fillM σ q 0 x = σ := by
  refine Prod.ext (funext fun r => ?_) rfl
  by_cases e : r = q
  · subst e; rw [fillM_eq]; funext j; simp
  · rw [fillM_ne e]
theorem fillM_s {σ : Mem} {q n : Nat} {x : Int32} : uI (fillM σ q n x) q n x = fillM σ q (n + 1) x := by
  refine Prod.ext (funext fun r => ?_) rfl
  by_cases e : r = q
  · subst e
    rw [uI_eq, fillM_eq, fillM_eq]
    funext j
    rw [upd]
    by_cases e1 : j = n
    · rw [if_pos e1, if_pos (by omega)]
    · rw [if_neg e1]
      by_cases e2 : j < n
      · rw [if_pos e2, if_pos (by omega)]
      · rw [if_neg e2, if_neg (by omega)]
  · rw [uI_ne e, fillM_ne e, fillM_ne e]
theorem Eqo.fill {S : List Nat} {σ σ' : Mem} {q n : Nat} {x : Int32} (h : Eqo S σ σ') (hq : S.contains q = true) : Eqo S σ (fillM σ' q n x) :=
  ⟨fun p hp => by
    have : p ≠ q := fun e => hp (by subst e; simpa using hq)
    rw [fillM_ne this]; exact h.1 p hp, h.2⟩

set_option maxRecDepth 100000 in
theorem qJ7_fill_53178_loop {sh : Shp} {σ : Mem} {q n : Nat} (hq : sh[q]? = some (.inl (0, n))) (hn : n < 2 ^ 31) (x : Int32) : ∀ k i : Nat, i + k = n → Vj sh 0 mJ7_fill_53178 (Rv (fillM σ q n x)) 5 [some (.ref q), some (.int x), some (.int (nI i)), some (.int (nI n))] [] (fillM σ q i x) := by
  intro k
  induction k with
  | zero =>
    intro i hi
    obtain rfl : i = n := by omega
    refine Vj_iloadn (q := 6) dJ7_fill_53178_5 rfl rfl rfl ?_
    refine Vj_iloadn (q := 7) dJ7_fill_53178_6 rfl rfl rfl ?_
    refine Vj_icmp_ge (q := 10) (tgt := 20) dJ7_fill_53178_7 (by decide) rfl (fun _ => ?_) (fun hz => absurd (nI_le (Nat.le_refl _) (by omega)) hz)
    exact Vr_vret rfl dJ7_fill_53178_20 (⟨rfl, rfl⟩)
  | succ k ih =>
    intro i hi
    refine Vj_iloadn (q := 6) dJ7_fill_53178_5 rfl rfl rfl ?_
    refine Vj_iloadn (q := 7) dJ7_fill_53178_6 rfl rfl rfl ?_
    refine Vj_icmp_ge (q := 10) (tgt := 20) dJ7_fill_53178_7 (by decide) rfl (fun hz => absurd hz (nI_ge (by omega) (by omega))) (fun _ => ?_)
    refine Vj_aloadn (q := 11) dJ7_fill_53178_10 rfl rfl rfl ?_
    refine Vj_iloadn (q := 12) dJ7_fill_53178_11 rfl rfl rfl ?_
    refine Vj_iloadn (q := 13) dJ7_fill_53178_12 rfl rfl rfl ?_
    refine Vj_iast (q := 14) hq (vp_in_nI (by omega) hn) dJ7_fill_53178_13 rfl ?_
    refine Vs_iinc2 (q := 17) (z := none) dJ7_fill_53178_14 rfl (by exact iinc_p _) (by decide) rfl ?_
    refine Vj_goto (q := 5) dJ7_fill_53178_17 (by decide) ?_
    rw [nI_1, nI_clamp (by omega), fillM_s]
    exact ih (i + 1) (by omega)
set_option maxRecDepth 100000 in
theorem qJ7_fill_53178 {sh : Shp} {σ : Mem} {q n : Nat} (hq : sh[q]? = some (.inl (0, n))) (hn : n < 2 ^ 31) (x : Int32) : Ct sh 0 mJ7_fill_53178 [.ref q, .int x] σ (Rv (fillM σ q n x)) := by
  refine Ct.of (by decide) (Nat.le_of_ble_eq_true rfl) (l := [some (.ref q), some (.int x), none, none]) rfl ?_
  refine Vj_iconst (q := 1) (v := 0) dJ7_fill_53178_0 rfl (by decide) ?_
  refine Vs_istore2 (q := 2) dJ7_fill_53178_1 rfl (by decide) rfl ?_
  refine Vj_aloadn (q := 3) dJ7_fill_53178_2 rfl rfl rfl ?_
  refine Vj_alen (q := 4) hq rfl dJ7_fill_53178_3 rfl ?_
  refine Vs_istore3 (q := 5) dJ7_fill_53178_4 rfl (by decide) rfl ?_
  have hz := qJ7_fill_53178_loop (σ := σ) hq hn x n 0 (by omega)
  rw [fillM_0] at hz
  exact hz
