/-! weak: chances of j presses that are not missed, in k times -/
def chT (x : Int32) (n : Nat) : Nat → Nat → Int32
  | 0, j => if j = 0 then 1 else 0
  | k + 1, j => if j ≤ n then chT x n k j * x + (if j = 0 then 0 else chT x n k (j - 1) * (10 - x)) else chT x n k j
def wGo (ρ : Rm) (b c : Nat) : Nat → Nat
  | 0 => c
  | k + 1 => cNx ρ (wGo ρ b c k) b
def wkS (ρ : Rm) (b c to : Nat) (C : Nat → Int32) : Nat → Int32
  | 0 => 0
  | k + 1 => if wGo ρ b c k = to then wkS ρ b c to C k + C k else wkS ρ b c to C k
def spWeak (ρ : Rm) (c : Nat) (x n mess miss up : Int32) : Int32 :=
  if hT (rB ρ) x then
    (match cOf ρ (rN ρ) mess 0 with
    | none => -2
    | some to => if n < 1 ∨ 6 < n ∨ miss < 0 ∨ 10 < miss then -2 else frS (wkS ρ x.toNatClampNeg c to (chT miss n.toNatClampNeg n.toNatClampNeg) (n.toNatClampNeg + 1)) (tTENS n.toNatClampNeg) up)
  else -1
theorem wGo_lt {ρ : Rm} (hr : okR ρ) {b c : Nat} (hb : b < rB ρ) (hc : c < 4 ^ rN ρ) : ∀ k, wGo ρ b c k < 4 ^ rN ρ
  | 0 => hc
  | k + 1 => cNx_lt hr (wGo_lt hr hb hc k) hb

set_option maxRecDepth 100000 in
theorem qX9_tellChances_l2 {n : Nat} (hn : n < 7) {x : Int32} {σ0 : Mem} {Post : Option Value → Mem → Prop} {t : Nat} (kk : ∀ (σ : Mem) (z4 z5 : Option Value), (∀ j, j < 7 → σ.1 42 j = chT x n (t + 1) j) → Eqo [42] σ0 σ → Vj shX 1 mX9_tellChances Post 88 [some (.ref 0), some (.int (nI n)), some (.int x), some (.int (nI t)), z4, z5] [] σ) :
    ∀ (h : Nat) (σ : Mem) (z5 : Option Value), h ≤ n + 1 → (∀ j, j < 7 → σ.1 42 j = if h ≤ j ∧ j ≤ n then chT x n (t + 1) j else chT x n t j) → Eqo [42] σ0 σ → Vj shX 1 mX9_tellChances Post 27 [some (.ref 0), some (.int (nI n)), some (.int x), some (.int (nI t)), some (.int (nI h - 1)), z5] [] σ := by
  intro h
  induction h with
  | zero =>
    intro σ z5 hh hI hE
    refine Vj_iload (q := 29) dX9_tellChances_27 rfl rfl ?_
    refine Vj_if_lt (q := 32) (tgt := 88) dX9_tellChances_29 (by decide) rfl (fun _ => ?_) (fun hz => absurd (by decide) hz)
    refine kk σ _ _ (fun j hj => ?_) hE
    rw [hI j hj]
    by_cases e : j ≤ n
    · rw [if_pos ⟨Nat.zero_le j, e⟩]
    · rw [if_neg (fun z => e z.2), chT, if_neg e]
  | succ h ih =>
    intro σ z5 hh hI hE
    rw [nI_pred]
    have e1 : chT x n (t + 1) h = chT x n t h * x + (if h = 0 then 0 else chT x n t (h - 1) * (10 - x)) := by rw [chT, if_pos (by omega)]
    have eh : σ.1 42 h = chT x n t h := by rw [hI h (by omega), if_neg (by omega)]
    have step : ∀ y, y = chT x n (t + 1) h → ∀ j, j < 7 → (uI σ 42 h y).1 42 j = if h ≤ j ∧ j ≤ n then chT x n (t + 1) j else chT x n t j := by
      intro y hy j hj
      rw [uI_eq, upd]
      by_cases e : j = h
      · subst e; rw [if_pos rfl, if_pos ⟨Nat.le_refl j, by omega⟩, hy]
      · rw [if_neg e, hI j hj]
        by_cases e2 : h + 1 ≤ j ∧ j ≤ n
        · rw [if_pos e2, if_pos (by omega)]
        · rw [if_neg e2, if_neg (by omega)]
    refine Vj_iload (q := 29) dX9_tellChances_27 rfl rfl ?_
    refine Vj_if_lt (q := 32) (tgt := 88) dX9_tellChances_29 (by decide) rfl (fun hz => absurd hz (nI_pos (by omega))) (fun _ => ?_)
    refine Vj_iload (q := 34) dX9_tellChances_32 rfl rfl ?_
    refine Vj_if_ne (q := 37) (tgt := 41) dX9_tellChances_34 (by decide) rfl (fun h34 => ?_) (fun h34 => ?_)
    ·
      have h0 : h ≠ 0 := fun z => h34 ((nI_z (by omega)).mpr z)
      refine Vj_aloadn (q := 42) dX9_tellChances_41 rfl rfl rfl ?_
      refine Vj_getR (q := 45) flX9_74 rfl rfl dX9_tellChances_42 rfl ?_
      refine Vj_iload (q := 47) dX9_tellChances_45 rfl rfl ?_
      refine Vj_iconst (q := 48) (v := 1) dX9_tellChances_47 rfl (by decide) ?_
      refine Vj_isub (q := 49) dX9_tellChances_48 rfl ?_
      rw [show nI h - 1 = nI (h - 1) from pk_sub (b := 1) (by omega)]
      refine Vj_callSi (q := 52) (qX9_atn rfl (by decide) (j := h - 1) (by omega)) (by decide) lkX9_152 stX9_at okX9_at dX9_tellChances_49 rfl rfl (Nat.le_of_ble_eq_true rfl) ?_
      rw [show σ.1 42 (h - 1) = chT x n t (h - 1) by rw [hI (h - 1) (by omega), if_neg (by omega)]]
      refine Vj_bipush (q := 54) (v := 10) dX9_tellChances_52 rfl (by decide) ?_
      refine Vj_iloadn (q := 55) dX9_tellChances_54 rfl rfl rfl ?_
      refine Vj_isub (q := 56) dX9_tellChances_55 rfl ?_
      refine Vj_imul (q := 57) dX9_tellChances_56 rfl ?_
      refine Vs_istore5 (q := 59) dX9_tellChances_57 rfl (by decide) rfl ?_
      refine Vj_aloadn (q := 60) dX9_tellChances_59 rfl rfl rfl ?_
      refine Vj_getR (q := 63) flX9_74 rfl rfl dX9_tellChances_60 rfl ?_
      refine Vj_iload (q := 65) dX9_tellChances_63 rfl rfl ?_
      refine Vj_aloadn (q := 66) dX9_tellChances_65 rfl rfl rfl ?_
      refine Vj_getR (q := 69) flX9_74 rfl rfl dX9_tellChances_66 rfl ?_
      refine Vj_iload (q := 71) dX9_tellChances_69 rfl rfl ?_
      refine Vj_callSi (q := 74) (qX9_atn rfl (by decide) (j := h) (by omega)) (by decide) lkX9_152 stX9_at okX9_at dX9_tellChances_71 rfl rfl (Nat.le_of_ble_eq_true rfl) ?_
      rw [eh]
      refine Vj_iloadn (q := 75) dX9_tellChances_74 rfl rfl rfl ?_
      refine Vj_imul (q := 76) dX9_tellChances_75 rfl ?_
      refine Vj_iload (q := 78) dX9_tellChances_76 rfl rfl ?_
      refine Vj_iadd (q := 79) dX9_tellChances_78 rfl ?_
      refine Vj_callSv (q := 82) (qX9_putn rfl (by decide) (j := h) (by omega) _) (by decide) lkX9_306 stX9_put okX9_put dX9_tellChances_79 rfl rfl (Nat.le_of_ble_eq_true rfl) ?_
      refine Vs_iinc4 (q := 85) (z := none) dX9_tellChances_82 rfl (by exact iinc_m _) (by decide) rfl ?_
      refine Vj_goto (q := 27) dX9_tellChances_85 (by decide) ?_
      refine ih _ _ (by omega) (step _ ?_) (hE.u rfl)
      rw [e1, if_neg h0]
    ·
      refine Vj_iconst (q := 38) (v := 0) dX9_tellChances_37 rfl (by decide) ?_
      refine Vj_goto (q := 57) dX9_tellChances_38 (by decide) ?_
      refine Vs_istore5 (q := 59) dX9_tellChances_57 rfl (by decide) rfl ?_
      refine Vj_aloadn (q := 60) dX9_tellChances_59 rfl rfl rfl ?_
      refine Vj_getR (q := 63) flX9_74 rfl rfl dX9_tellChances_60 rfl ?_
      refine Vj_iload (q := 65) dX9_tellChances_63 rfl rfl ?_
      refine Vj_aloadn (q := 66) dX9_tellChances_65 rfl rfl rfl ?_
      refine Vj_getR (q := 69) flX9_74 rfl rfl dX9_tellChances_66 rfl ?_
      refine Vj_iload (q := 71) dX9_tellChances_69 rfl rfl ?_
      refine Vj_callSi (q := 74) (qX9_atn rfl (by decide) (j := h) (by omega)) (by decide) lkX9_152 stX9_at okX9_at dX9_tellChances_71 rfl rfl (Nat.le_of_ble_eq_true rfl) ?_
      rw [eh]
      refine Vj_iloadn (q := 75) dX9_tellChances_74 rfl rfl rfl ?_
      refine Vj_imul (q := 76) dX9_tellChances_75 rfl ?_
      refine Vj_iload (q := 78) dX9_tellChances_76 rfl rfl ?_
      refine Vj_iadd (q := 79) dX9_tellChances_78 rfl ?_
      refine Vj_callSv (q := 82) (qX9_putn rfl (by decide) (j := h) (by omega) _) (by decide) lkX9_306 stX9_put okX9_put dX9_tellChances_79 rfl rfl (Nat.le_of_ble_eq_true rfl) ?_
      refine Vs_iinc4 (q := 85) (z := none) dX9_tellChances_82 rfl (by exact iinc_m _) (by decide) rfl ?_
      refine Vj_goto (q := 27) dX9_tellChances_85 (by decide) ?_
      refine ih _ _ (by omega) (step _ ?_) (hE.u rfl)
      rw [e1, if_pos ((nI_z (by omega)).mp h34)]
set_option maxRecDepth 100000 in
theorem qX9_tellChances_l1 {n : Nat} (hn : n < 7) {x : Int32} {σ0 : Mem} : ∀ (k t : Nat) (σ : Mem) (z4 z5 : Option Value), t + k = n → (∀ j, j < 7 → σ.1 42 j = chT x n t j) → Eqo [42] σ0 σ → Vj shX 1 mX9_tellChances (fun r σ' => r = none ∧ (∀ j, j < 7 → σ'.1 42 j = chT x n n j) ∧ Eqo [42] σ0 σ') 19 [some (.ref 0), some (.int (nI n)), some (.int x), some (.int (nI t)), z4, z5] [] σ := by
  intro k
  induction k with
  | zero =>
    intro t σ z4 z5 ht hI hE
    obtain rfl : t = n := by omega
    refine Vj_iloadn (q := 20) dX9_tellChances_19 rfl rfl rfl ?_
    refine Vj_iloadn (q := 21) dX9_tellChances_20 rfl rfl rfl ?_
    refine Vj_icmp_ge (q := 24) (tgt := 94) dX9_tellChances_21 (by decide) rfl (fun _ => ?_) (fun hz => absurd (nI_le (Nat.le_refl _) (by omega)) hz)
    exact Vr_vret rfl dX9_tellChances_94 (⟨rfl, hI, hE⟩)
  | succ k ih =>
    intro t σ z4 z5 ht hI hE
    refine Vj_iloadn (q := 20) dX9_tellChances_19 rfl rfl rfl ?_
    refine Vj_iloadn (q := 21) dX9_tellChances_20 rfl rfl rfl ?_
    refine Vj_icmp_ge (q := 24) (tgt := 94) dX9_tellChances_21 (by decide) rfl (fun hz => absurd hz (nI_ge (by omega) (by omega))) (fun _ => ?_)
    refine Vj_iloadn (q := 25) dX9_tellChances_24 rfl rfl rfl ?_
    refine Vs_istore4 (q := 27) dX9_tellChances_25 rfl (by decide) rfl ?_
    suffices hz : Vj shX 1 mX9_tellChances (fun r σ' => r = none ∧ (∀ j, j < 7 → σ'.1 42 j = chT x n n j) ∧ Eqo [42] σ0 σ') 27 [some (.ref 0), some (.int (nI n)), some (.int x), some (.int (nI t)), some (.int (nI (n + 1) - 1)), z5] [] σ by rw [nI_pred] at hz; exact hz
    refine qX9_tellChances_l2 hn (t := t) (fun σ2 y4 y5 hI2 hE2 => ?_) (n + 1) σ _ (Nat.le_refl _) (fun j hj => by rw [if_neg (by omega)]; exact hI j hj) hE
    refine Vs_iinc3 (q := 91) (z := none) dX9_tellChances_88 rfl (by exact iinc_p _) (by decide) rfl ?_
    refine Vj_goto (q := 19) dX9_tellChances_91 (by decide) ?_
    rw [nI_1]
    exact ih (t + 1) σ2 _ _ (by omega) hI2 hE2
set_option maxRecDepth 100000 in
theorem qX9_tellChances {n : Nat} (hn : n < 7) {x : Int32} {σ : Mem} : Ct shX 1 mX9_tellChances [.ref 0, .int (nI n), .int x] σ (fun r σ' => r = none ∧ (∀ j, j < 7 → σ'.1 42 j = chT x n n j) ∧ Eqo [42] σ σ') := by
  refine Ct.of (by decide) (Nat.le_of_ble_eq_true rfl) (l := [some (.ref 0), some (.int (nI n)), some (.int x), none, none, none]) rfl ?_
  refine Vj_aloadn (q := 1) dX9_tellChances_0 rfl rfl rfl ?_
  refine Vj_getR (q := 4) flX9_74 rfl rfl dX9_tellChances_1 rfl ?_
  refine Vj_iconst (q := 5) (v := 0) dX9_tellChances_4 rfl (by decide) ?_
  refine Vj_callSv (q := 8) (qJ7_fill_53178 rfl (by decide) 0) (by decide) lkX9_300 stJ7_fill_53178 okJ7_fill_53178 dX9_tellChances_5 rfl rfl (Nat.le_of_ble_eq_true rfl) ?_
  refine Vj_aloadn (q := 9) dX9_tellChances_8 rfl rfl rfl ?_
  refine Vj_getR (q := 12) flX9_74 rfl rfl dX9_tellChances_9 rfl ?_
  refine Vj_iconst (q := 13) (v := 0) dX9_tellChances_12 rfl (by decide) ?_
  refine Vj_iconst (q := 14) (v := 1) dX9_tellChances_13 rfl (by decide) ?_
  refine Vj_callSv (q := 17) (qX9_putn rfl (by decide) (j := 0) (by decide) 1) (by decide) lkX9_306 stX9_put okX9_put dX9_tellChances_14 rfl rfl (Nat.le_of_ble_eq_true rfl) ?_
  refine Vj_iconst (q := 18) (v := 0) dX9_tellChances_17 rfl (by decide) ?_
  refine Vs_istore3 (q := 19) dX9_tellChances_18 rfl (by decide) rfl ?_
  refine qX9_tellChances_l1 hn n 0 _ none none (by omega) (fun j hj => ?_) ((Eqo.rf.fill rfl).u rfl)
  rw [uI_eq, upd, fillM_eq]
  by_cases e : j = 0
  · rw [if_pos e, chT, if_pos e]
  · rw [if_neg e, chT, if_neg e]
    simp only [if_pos hj]
set_option maxRecDepth 100000 in
theorem qX9_weak_loop {tx : List Nat} {ρ : Rm} {c d p : Nat} {ac : List (Nat × Nat × Nat)} {sl : Nat → Option (Nat × Nat × Nat)} {se : List (Nat × Nat × Nat)} {sd : Int64} {N : Nat} {σ : Mem} (h : RX tx ρ c d p ac sl se sd σ) (hv : okV N ρ c d p ac sl se) {mess miss up : Int32} {n to b : Nat} (hn : n < 7) (hb : b < rB ρ) (hto : to < 4 ^ rN ρ) (hC : ∀ j, j < 7 → σ.1 42 j = chT miss n n j) : ∀ (k t : Nat), t + k = n + 1 → Vj shX 3 mX9_weak (PX (frS (wkS ρ b c to (chT miss n n) (n + 1)) (tTENS n) up) tx ρ c d p ac sl se sd) 77 [some (.ref 0), some (.int (nI b)), some (.int (nI n)), some (.int mess), some (.int miss), some (.int up), some (.int (nI to)), some (.int (nI (wGo ρ b c t))), some (.int (wkS ρ b c to (chT miss n n) t)), some (.int (nI t))] [] σ := by
  intro k
  obtain ⟨hr, ⟨hc, hco⟩, ⟨hd, hdo⟩, hp, hN30, ⟨hal, hav⟩, hsv, hse⟩ := hv
  obtain ⟨hTx, hP, hTa, hRE, hNw, hAc, hSl, hSe, hSd⟩ := h
  have hp4 := p4_le hr.1
  have hn5 := hr.1
  have hB7 := hr.2.2.1
  have h : RX tx ρ c d p ac sl se sd σ := ⟨hTx, hP, hTa, hRE, hNw, hAc, hSl, hSe, hSd⟩
  induction k with
  | zero =>
    intro t ht
    obtain rfl : t = n + 1 := by omega
    refine Vj_iload (q := 79) dX9_weak_77 rfl rfl ?_
    refine Vj_iloadn (q := 80) dX9_weak_79 rfl rfl rfl ?_
    refine Vj_icmp_gt (q := 83) (tgt := 122) dX9_weak_80 (by decide) rfl (fun _ => ?_) (fun hz => absurd (nI_lt (by omega) (by omega)) hz)
    refine Vj_iload (q := 124) dX9_weak_122 rfl rfl ?_
    refine Vj_getsTENS (q := 127) gsX9_272 dX9_weak_124 rfl ?_
    refine Vj_iloadn (q := 128) dX9_weak_127 rfl rfl rfl ?_
    refine Vj_callSi (q := 131) (qX9_atTENSn hn) (by decide) lkX9_152 stX9_at okX9_at dX9_weak_128 rfl rfl (Nat.le_of_ble_eq_true rfl) ?_
    refine Vj_iload (q := 133) dX9_weak_131 rfl rfl ?_
    refine Vj_callSi (q := 136) (qX9_fraction _ _ _) (by decide) lkX9_258 stX9_fraction okX9_fraction dX9_weak_133 rfl rfl (Nat.le_of_ble_eq_true rfl) ?_
    exact Vr_iret rfl rfl dX9_weak_136 (⟨rfl, h⟩)
  | succ k ih =>
    intro t ht
    have hg := wGo_lt hr hb hc t
    have eg : wGo ρ b c (t + 1) = cNx ρ (wGo ρ b c t) b := rfl
    refine Vj_iload (q := 79) dX9_weak_77 rfl rfl ?_
    refine Vj_iloadn (q := 80) dX9_weak_79 rfl rfl rfl ?_
    refine Vj_icmp_gt (q := 83) (tgt := 122) dX9_weak_80 (by decide) rfl (fun hz => absurd hz (nI_nlt (by omega) (by omega))) (fun _ => ?_)
    refine Vj_iload (q := 85) dX9_weak_83 rfl rfl ?_
    refine Vj_iload (q := 87) dX9_weak_85 rfl rfl ?_
    refine Vj_icmp_ne (q := 90) (tgt := 104) dX9_weak_87 (by decide) rfl (fun h87 => ?_) (fun h87 => ?_)
    ·
      refine Vj_aloadn (q := 105) dX9_weak_104 rfl rfl rfl ?_
      refine Vj_getR (q := 108) flX9_26 rfl rfl dX9_weak_105 rfl ?_
      refine Vj_iload (q := 110) dX9_weak_108 rfl rfl ?_
      refine Vj_iloadn (q := 111) dX9_weak_110 rfl rfl rfl ?_
      refine Vj_callVi (q := 114) (qX2_behind (c := wGo ρ b c t) (b := b) (by omega) (by omega)) (by decide) rfl rfl lkX9_165 viX2_behind okX2_behind dX9_weak_111 rfl rfl (Nat.le_of_ble_eq_true rfl) ?_
      rw [(hTa.2 _ hg).2.2 b hb, ← eg]
      refine Vs_istore7 (q := 116) dX9_weak_114 rfl (by decide) rfl ?_
      refine Vs_iinc9 (q := 119) (z := none) dX9_weak_116 rfl (by exact iinc_p _) (by decide) rfl ?_
      refine Vj_goto (q := 77) dX9_weak_119 (by decide) ?_
      have e : wkS ρ b c to (chT miss n n) (t + 1) = wkS ρ b c to (chT miss n n) t := by rw [wkS, if_neg (nI_ne_of (by omega) (by omega) h87)]
      rw [nI_1, ← e]
      exact ih (t + 1) (by omega)
    ·
      refine Vj_iload (q := 92) dX9_weak_90 rfl rfl ?_
      refine Vj_aloadn (q := 93) dX9_weak_92 rfl rfl rfl ?_
      refine Vj_getR (q := 96) flX9_74 rfl rfl dX9_weak_93 rfl ?_
      refine Vj_iload (q := 98) dX9_weak_96 rfl rfl ?_
      refine Vj_callSi (q := 101) (qX9_atn rfl (by decide) (j := t) (by omega)) (by decide) lkX9_152 stX9_at okX9_at dX9_weak_98 rfl rfl (Nat.le_of_ble_eq_true rfl) ?_
      rw [hC t (by omega)]
      refine Vj_iadd (q := 102) dX9_weak_101 rfl ?_
      refine Vs_istore8 (q := 104) dX9_weak_102 rfl (by decide) rfl ?_
      refine Vj_aloadn (q := 105) dX9_weak_104 rfl rfl rfl ?_
      refine Vj_getR (q := 108) flX9_26 rfl rfl dX9_weak_105 rfl ?_
      refine Vj_iload (q := 110) dX9_weak_108 rfl rfl ?_
      refine Vj_iloadn (q := 111) dX9_weak_110 rfl rfl rfl ?_
      refine Vj_callVi (q := 114) (qX2_behind (c := wGo ρ b c t) (b := b) (by omega) (by omega)) (by decide) rfl rfl lkX9_165 viX2_behind okX2_behind dX9_weak_111 rfl rfl (Nat.le_of_ble_eq_true rfl) ?_
      rw [(hTa.2 _ hg).2.2 b hb, ← eg]
      refine Vs_istore7 (q := 116) dX9_weak_114 rfl (by decide) rfl ?_
      refine Vs_iinc9 (q := 119) (z := none) dX9_weak_116 rfl (by exact iinc_p _) (by decide) rfl ?_
      refine Vj_goto (q := 77) dX9_weak_119 (by decide) ?_
      have e : wkS ρ b c to (chT miss n n) (t + 1) = wkS ρ b c to (chT miss n n) t + chT miss n n t := by rw [wkS, if_pos ((nI_eq (by omega) (by omega)).mp h87)]
      rw [nI_1, ← e]
      exact ih (t + 1) (by omega)
set_option maxRecDepth 100000 in
theorem qX9_weak {tx : List Nat} {ρ : Rm} {c d p : Nat} {ac : List (Nat × Nat × Nat)} {sl : Nat → Option (Nat × Nat × Nat)} {se : List (Nat × Nat × Nat)} {sd : Int64} {N : Nat} {σ : Mem} (h : RX tx ρ c d p ac sl se sd σ) (hv : okV N ρ c d p ac sl se) (x n mess miss up : Int32) : Ct shX 3 mX9_weak [.ref 0, .int x, .int n, .int mess, .int miss, .int up] σ (PX (spWeak ρ c x n mess miss up) tx ρ c d p ac sl se sd) := by
  obtain ⟨hr, ⟨hc, hco⟩, ⟨hd, hdo⟩, hp, hN30, ⟨hal, hav⟩, hsv, hse⟩ := hv
  obtain ⟨hTx, hP, hTa, hRE, hNw, hAc, hSl, hSe, hSd⟩ := h
  have hp4 := p4_le hr.1
  have hn5 := hr.1
  have hB7 := hr.2.2.1
  have h : RX tx ρ c d p ac sl se sd σ := ⟨hTx, hP, hTa, hRE, hNw, hAc, hSl, hSe, hSd⟩
  refine Ct.of (by decide) (Nat.le_of_ble_eq_true rfl) (l := [some (.ref 0), some (.int x), some (.int n), some (.int mess), some (.int miss), some (.int up), none, none, none, none]) rfl ?_
  refine Vj_aloadn (q := 1) dX9_weak_0 rfl rfl rfl ?_
  refine Vj_getR (q := 4) flX9_26 rfl rfl dX9_weak_1 rfl ?_
  refine Vj_iloadn (q := 5) dX9_weak_4 rfl rfl rfl ?_
  refine Vj_callVi (q := 8) (qX2_hasButton hP x) (by decide) rfl rfl lkX9_143 viX2_hasButton okX2_hasButton dX9_weak_5 rfl rfl (Nat.le_of_ble_eq_true rfl) ?_
  refine Vj_if_ne (q := 11) (tgt := 13) dX9_weak_8 (by decide) rfl (fun h8 => ?_) (fun h8 => ?_)
  ·
    have h8b := bI_n.mp h8
    obtain ⟨j, hj, rfl, ecl⟩ := hT_x (by omega) h8b
    refine Vj_aloadn (q := 14) dX9_weak_13 rfl rfl rfl ?_
    refine Vj_getR (q := 17) flX9_26 rfl rfl dX9_weak_14 rfl ?_
    refine Vj_iloadn (q := 18) dX9_weak_17 rfl rfl rfl ?_
    refine Vj_callVi (q := 21) (qX2_codeOf hP mess) (by decide) rfl rfl lkX9_193 viX2_codeOf okX2_codeOf dX9_weak_18 rfl rfl (Nat.le_of_ble_eq_true rfl) ?_
    rcases ec : cOf ρ (rN ρ) mess 0 with _ | to
    ·
      rw [oI_none]
      refine Vs_istore6 (q := 23) dX9_weak_21 rfl (by decide) rfl ?_
      refine Vj_iloadn (q := 24) dX9_weak_23 rfl rfl rfl ?_
      refine Vj_iconst (q := 25) (v := 1) dX9_weak_24 rfl (by decide) ?_
      refine Vj_icmp_lt (q := 28) (tgt := 52) dX9_weak_25 (by decide) rfl (fun h25 => ?_) (fun h25 => ?_)
      ·
        refine Vj_bipush (q := 54) (v := (-2)) dX9_weak_52 rfl (by decide) ?_
        exact Vr_iret rfl rfl dX9_weak_54 (⟨by rw [spWeak, h8b, if_pos rfl, ec], h⟩)
      ·
        refine Vj_iloadn (q := 29) dX9_weak_28 rfl rfl rfl ?_
        refine Vj_bipush (q := 31) (v := 6) dX9_weak_29 rfl (by decide) ?_
        refine Vj_icmp_gt (q := 34) (tgt := 52) dX9_weak_31 (by decide) rfl (fun h31 => ?_) (fun h31 => ?_)
        ·
          refine Vj_bipush (q := 54) (v := (-2)) dX9_weak_52 rfl (by decide) ?_
          exact Vr_iret rfl rfl dX9_weak_54 (⟨by rw [spWeak, h8b, if_pos rfl, ec], h⟩)
        ·
          refine Vj_iload (q := 36) dX9_weak_34 rfl rfl ?_
          refine Vj_iconst (q := 37) (v := (-1)) dX9_weak_36 rfl (by decide) ?_
          refine Vj_icmp_eq (q := 40) (tgt := 52) dX9_weak_37 (by decide) rfl (fun _ => ?_) (fun hz => absurd rfl hz)
          refine Vj_bipush (q := 54) (v := (-2)) dX9_weak_52 rfl (by decide) ?_
          exact Vr_iret rfl rfl dX9_weak_54 (⟨by rw [spWeak, h8b, if_pos rfl, ec], h⟩)
    ·
      have hto := cOf_V hr (rN ρ) mess 0 to (Nat.le_refl _) (p4_pos _) (fun t h1 h2 => absurd h1 (by omega)) ec
      have hne := oI_c hr hto.1
      refine Vs_istore6 (q := 23) dX9_weak_21 rfl (by decide) rfl ?_
      refine Vj_iloadn (q := 24) dX9_weak_23 rfl rfl rfl ?_
      refine Vj_iconst (q := 25) (v := 1) dX9_weak_24 rfl (by decide) ?_
      refine Vj_icmp_lt (q := 28) (tgt := 52) dX9_weak_25 (by decide) rfl (fun h25 => ?_) (fun h25 => ?_)
      ·
        refine Vj_bipush (q := 54) (v := (-2)) dX9_weak_52 rfl (by decide) ?_
        exact Vr_iret rfl rfl dX9_weak_54 (⟨by rw [spWeak, h8b, if_pos rfl, ec]; simp only []; rw [if_pos (Or.inl h25)], h⟩)
      ·
        refine Vj_iloadn (q := 29) dX9_weak_28 rfl rfl rfl ?_
        refine Vj_bipush (q := 31) (v := 6) dX9_weak_29 rfl (by decide) ?_
        refine Vj_icmp_gt (q := 34) (tgt := 52) dX9_weak_31 (by decide) rfl (fun h31 => ?_) (fun h31 => ?_)
        ·
          refine Vj_bipush (q := 54) (v := (-2)) dX9_weak_52 rfl (by decide) ?_
          exact Vr_iret rfl rfl dX9_weak_54 (⟨by rw [spWeak, h8b, if_pos rfl, ec]; simp only []; rw [if_pos (Or.inr (Or.inl h31))], h⟩)
        ·
          refine Vj_iload (q := 36) dX9_weak_34 rfl rfl ?_
          refine Vj_iconst (q := 37) (v := (-1)) dX9_weak_36 rfl (by decide) ?_
          refine Vj_icmp_eq (q := 40) (tgt := 52) dX9_weak_37 (by decide) rfl (fun hz => absurd hz hne) (fun _ => ?_)
          refine Vj_iload (q := 42) dX9_weak_40 rfl rfl ?_
          refine Vj_if_lt (q := 45) (tgt := 52) dX9_weak_42 (by decide) rfl (fun h42 => ?_) (fun h42 => ?_)
          ·
            refine Vj_bipush (q := 54) (v := (-2)) dX9_weak_52 rfl (by decide) ?_
            exact Vr_iret rfl rfl dX9_weak_54 (⟨by rw [spWeak, h8b, if_pos rfl, ec]; simp only []; rw [if_pos (Or.inr (Or.inr (Or.inl h42)))], h⟩)
          ·
            refine Vj_iload (q := 47) dX9_weak_45 rfl rfl ?_
            refine Vj_bipush (q := 49) (v := 10) dX9_weak_47 rfl (by decide) ?_
            refine Vj_icmp_le (q := 52) (tgt := 55) dX9_weak_49 (by decide) rfl (fun h49 => ?_) (fun h49 => ?_)
            ·
              obtain ⟨k, hk, rfl⟩ := nI_of (x := n) (fun z => by have h0 := Int32.not_lt.mp h25; exact absurd (Int32.lt_of_le_of_lt h0 z) (by decide))
              have hk7 : k < 7 := by have := (nI_leI (b := 6) hk (by decide)).mp (Int32.not_lt.mp h31); omega
              have ekc : (nI k).toNatClampNeg = k := nI_clamp hk
              have hno : ¬ (nI k < 1 ∨ 6 < nI k ∨ miss < 0 ∨ 10 < miss) := by
                rintro (z | z | z | z)
                · exact h25 z
                · exact h31 z
                · exact h42 z
                · exact Int32.not_le.mpr z h49
              rw [oI_some]
              refine Vj_aloadn (q := 56) dX9_weak_55 rfl rfl rfl ?_
              refine Vj_iloadn (q := 57) dX9_weak_56 rfl rfl rfl ?_
              refine Vj_iload (q := 59) dX9_weak_57 rfl rfl ?_
              refine Vj_callV (q := 62) (qX9_tellChances hk7) (by decide) rfl rfl lkX9_269 viX9_tellChances okX9_tellChances dX9_weak_59 rfl rfl (Nat.le_of_ble_eq_true rfl) ?_
              rintro r1 σ1 ⟨rfl, hC1, hE1⟩
              show Vj shX 3 mX9_weak _ 62 _ [] σ1
              have hE1 := hE1.c rfl
              have h1 := h.eqc hE1
              have hN1 := hNw.eqc hE1
              refine Vj_aloadn (q := 63) dX9_weak_62 rfl rfl rfl ?_
              refine Vj_getR (q := 66) flX9_47 rfl rfl dX9_weak_63 rfl ?_
              refine Vj_getI (q := 69) flX9_112 rfl rfl dX9_weak_66 rfl ?_
              rw [hN1.1]
              refine Vs_istore7 (q := 71) dX9_weak_69 rfl (by decide) rfl ?_
              refine Vj_iconst (q := 72) (v := 0) dX9_weak_71 rfl (by decide) ?_
              refine Vs_istore8 (q := 74) dX9_weak_72 rfl (by decide) rfl ?_
              refine Vj_iconst (q := 75) (v := 0) dX9_weak_74 rfl (by decide) ?_
              refine Vs_istore9 (q := 77) dX9_weak_75 rfl (by decide) rfl ?_
              rw [spWeak, h8b, if_pos rfl, ec]
              simp only []
              rw [if_neg hno, ekc, ecl]
              exact qX9_weak_loop h1 ⟨hr, ⟨hc, hco⟩, ⟨hd, hdo⟩, hp, hN30, ⟨hal, hav⟩, hsv, hse⟩ hk7 hj hto.1 hC1 (k + 1) 0 (by omega)
            ·
              refine Vj_bipush (q := 54) (v := (-2)) dX9_weak_52 rfl (by decide) ?_
              exact Vr_iret rfl rfl dX9_weak_54 (⟨by rw [spWeak, h8b, if_pos rfl, ec]; simp only []; rw [if_pos (Or.inr (Or.inr (Or.inr (Int32.not_le.mp h49))))], h⟩)
  ·
    refine Vj_iconst (q := 12) (v := (-1)) dX9_weak_11 rfl (by decide) ?_
    exact Vr_iret rfl rfl dX9_weak_12 (⟨by rw [spWeak, bI_z.mp h8]; rfl, h⟩)
/-! evenings -/
def evX (s : Int64) : Int64 := (s.toUInt64 >>> ((33 : Int32).toInt64.toUInt64 &&& Int64.toUInt64 63)).toInt64
def evI (s : Int64) : Int32 := (evX s - evX s / 7 * 7).toInt32
def evS (s : Int64) : Int64 := s * 6364136223846793005 + 1442695040888963407
/-- the seed, the code, the lights together behind k times -/
def evK (ρ : Rm) (sd : Int64) (c : Nat) : Nat → Int64 × Nat × Nat
  | 0 => (sd, c, 0)
  | k + 1 => (evS (evK ρ sd c k).1, if hT (rB ρ) (evI (evS (evK ρ sd c k).1)) then cNx ρ (evK ρ sd c k).2.1 (evI (evS (evK ρ sd c k).1)).toNatClampNeg else (evK ρ sd c k).2.1,
      (evK ρ sd c k).2.2 + pop6 (cLi (rN ρ) (if hT (rB ρ) (evI (evS (evK ρ sd c k).1)) then cNx ρ (evK ρ sd c k).2.1 (evI (evS (evK ρ sd c k).1)).toNatClampNeg else (evK ρ sd c k).2.1) (rN ρ)))
def spEven (ρ : Rm) (sd : Int64) (c : Nat) (k : Int32) : Int32 × Int64 := if k < 1 ∨ 30 < k then (-2, sd) else (nI (evK ρ sd c k.toNatClampNeg).2.2, (evK ρ sd c k.toNatClampNeg).1)
theorem evK_V {ρ : Rm} (hr : okR ρ) {sd : Int64} {c : Nat} (hc : cV ρ c) : ∀ k, cV ρ (evK ρ sd c k).2.1
  | 0 => hc
  | k + 1 => by
    have ih := evK_V hr (sd := sd) hc k
    rw [evK]
    simp only
    split
    · rename_i h
      obtain ⟨j, hj, ej, ecl⟩ := hT_x (n := rB ρ) (by have := hr.2.2.1; omega) h
      rw [ecl]
      exact ⟨cNx_lt hr ih.1 hj, cOk_nx hr ih.1 hj ih.2⟩
    · exact ih
theorem li16 {ρ : Rm} (hr : okR ρ) (c : Nat) : cLi (rN ρ) c (rN ρ) < 16 := Nat.lt_of_lt_of_le (cLi_lt _ _ _) (Nat.pow_le_pow_right (by decide) (by have := hr.1; omega) : 2 ^ rN ρ ≤ 2 ^ 4)
theorem evK_le {ρ : Rm} (hr : okR ρ) {sd : Int64} {c : Nat} : ∀ k, (evK ρ sd c k).2.2 ≤ k * 6
  | 0 => Nat.zero_le _
  | k + 1 => by
    have ih := evK_le hr (sd := sd) (c := c) k
    have h1 := pop6_le _ (Nat.lt_of_lt_of_le (li16 hr (if hT (rB ρ) (evI (evS (evK ρ sd c k).1)) then cNx ρ (evK ρ sd c k).2.1 (evI (evS (evK ρ sd c k).1)).toNatClampNeg else (evK ρ sd c k).2.1)) (by decide : 16 ≤ 64))
    rw [evK]
    simp only
    omega
theorem RX.seed {tx : List Nat} {ρ : Rm} {c d p : Nat} {ac : List (Nat × Nat × Nat)} {sl : Nat → Option (Nat × Nat × Nat)} {se : List (Nat × Nat × Nat)} {sd v : Int64} {σ : Mem} (h : RX tx ρ c d p ac sl se sd σ) : RX tx ρ c d p ac sl se v (uL σ 0 12 v) := by
  obtain ⟨hTx, hP, hTa, hRE, hNw, hAc, hSl, hSe, hSd⟩ := h
  exact ⟨hTx.of rfl rfl, hP.of rfl rfl rfl rfl rfl, hTa.of rfl rfl rfl rfl, hRE.of rfl rfl, hNw.of rfl, hAc.of rfl rfl rfl rfl, hSl.of rfl rfl rfl, hSe.of rfl rfl rfl rfl, by simp [uL, vp_updL]⟩

set_option maxRecDepth 100000 in
theorem qX9_evenings_loop {tx : List Nat} {ρ : Rm} {c d p : Nat} {ac : List (Nat × Nat × Nat)} {sl : Nat → Option (Nat × Nat × Nat)} {se : List (Nat × Nat × Nat)} {sd : Int64} {N : Nat} {σ : Mem} (h : RX tx ρ c d p ac sl se sd σ) (hv : okV N ρ c d p ac sl se) {n : Nat} (hn : n < 31) : ∀ (k t : Nat) (σ1 : Mem) (z5 : Option Value), t + k = n → RX tx ρ c d p ac sl se (evK ρ sd c t).1 σ1 → Vj shX 2 mX9_evenings (PX (nI (evK ρ sd c n).2.2) tx ρ c d p ac sl se (evK ρ sd c n).1) 27 [some (.ref 0), some (.int (nI n)), some (.int (nI (evK ρ sd c t).2.1)), some (.int (nI (evK ρ sd c t).2.2)), some (.int (nI t)), z5] [] σ1 := by
  intro k
  have hr := hv.1
  have hc := hv.2.1
  have hp4 := p4_le hr.1
  have hB7 := hr.2.2.1
  induction k with
  | zero =>
    intro t σ1 z5 ht h1
    obtain rfl : t = n := by omega
    refine Vj_iload (q := 29) dX9_evenings_27 rfl rfl ?_
    refine Vj_iloadn (q := 30) dX9_evenings_29 rfl rfl rfl ?_
    refine Vj_icmp_ge (q := 33) (tgt := 106) dX9_evenings_30 (by decide) rfl (fun _ => ?_) (fun hz => absurd (nI_le (Nat.le_refl _) (by omega)) hz)
    refine Vj_iloadn (q := 107) dX9_evenings_106 rfl rfl rfl ?_
    exact Vr_iret rfl rfl dX9_evenings_107 (⟨rfl, h1⟩)
  | succ k ih =>
    intro t σ1 z5 ht h1
    have hcv := evK_V hr (sd := sd) hc t
    have hcv1 := hcv.1
    have hle := evK_le hr (sd := sd) (c := c) t
    have hsd := h1.2.2.2.2.2.2.2.2
    have h2 := h1.seed (v := evS (evK ρ sd c t).1)
    have h2T := h2.2.2.1
    refine Vj_iload (q := 29) dX9_evenings_27 rfl rfl ?_
    refine Vj_iloadn (q := 30) dX9_evenings_29 rfl rfl rfl ?_
    refine Vj_icmp_ge (q := 33) (tgt := 106) dX9_evenings_30 (by decide) rfl (fun hz => absurd hz (nI_ge (by omega) (by omega))) (fun _ => ?_)
    refine Vj_aloadn (q := 34) dX9_evenings_33 rfl rfl rfl ?_
    refine Vj_aloadn (q := 35) dX9_evenings_34 rfl rfl rfl ?_
    refine Vj_getL (q := 38) flX9_275 rfl rfl dX9_evenings_35 rfl ?_
    rw [hsd]
    refine Vj_ldc2 (q := 41) dX9_evenings_38 rfl kcX9_279 ?_
    refine Vj_lmul (q := 42) dX9_evenings_41 rfl ?_
    refine Vj_ldc2 (q := 45) dX9_evenings_42 rfl kcX9_281 ?_
    refine Vj_ladd (q := 46) dX9_evenings_45 rfl ?_
    rw [show (evK ρ sd c t).1 * 6364136223846793005 + 1442695040888963407 = evS (evK ρ sd c t).1 from rfl]
    refine Vj_putL (q := 49) flX9_275 rfl rfl dX9_evenings_46 rfl ?_
    refine Vj_aloadn (q := 50) dX9_evenings_49 rfl rfl rfl ?_
    refine Vj_getL (q := 53) flX9_275 rfl rfl dX9_evenings_50 rfl ?_
    rw [show (uL σ1 0 12 (evS (evK ρ sd c t).1)).2 0 12 = evS (evK ρ sd c t).1 by simp [uL, vp_updL]]
    refine Vj_bipush (q := 55) (v := 33) dX9_evenings_53 rfl (by decide) ?_
    refine Vj_lushr (q := 56) dX9_evenings_55 rfl ?_
    refine Vj_ldc2 (q := 59) dX9_evenings_56 rfl kcX9_283 ?_
    refine Vj_lrem (q := 60) dX9_evenings_59 rfl (by decide) ?_
    refine Vj_l2i (q := 61) dX9_evenings_60 rfl ?_
    refine Vj_top (y := evI (evS (evK ρ sd c t).1)) rfl ?_
    refine Vs_istore5 (q := 63) dX9_evenings_61 rfl (by decide) rfl ?_
    refine Vj_aloadn (q := 64) dX9_evenings_63 rfl rfl rfl ?_
    refine Vj_getR (q := 67) flX9_26 rfl rfl dX9_evenings_64 rfl ?_
    refine Vj_iload (q := 69) dX9_evenings_67 rfl rfl ?_
    refine Vj_callVi (q := 72) (qX2_hasButton h2.2.1 _) (by decide) rfl rfl lkX9_143 viX2_hasButton okX2_hasButton dX9_evenings_69 rfl rfl (Nat.le_of_ble_eq_true rfl) ?_
    refine Vj_if_eq (q := 75) (tgt := 86) dX9_evenings_72 (by decide) rfl (fun h72 => ?_) (fun h72 => ?_)
    ·
      have hbt := bI_z.mp h72
      have ec1 : (evK ρ sd c (t + 1)).2.1 = (evK ρ sd c t).2.1 := by rw [evK]; simp only; rw [hbt]; rfl
      have ec2 : (evK ρ sd c (t + 1)).2.2 = (evK ρ sd c t).2.2 + pop6 (cLi (rN ρ) (evK ρ sd c t).2.1 (rN ρ)) := by rw [evK]; simp only; rw [hbt]; rfl
      refine Vj_iloadn (q := 87) dX9_evenings_86 rfl rfl rfl ?_
      refine Vj_aloadn (q := 88) dX9_evenings_87 rfl rfl rfl ?_
      refine Vj_getR (q := 91) flX9_26 rfl rfl dX9_evenings_88 rfl ?_
      refine Vj_iloadn (q := 92) dX9_evenings_91 rfl rfl rfl ?_
      refine Vj_callVi (q := 95) (qX2_lightsIn (by omega)) (by decide) rfl rfl lkX9_285 viX2_lightsIn okX2_lightsIn dX9_evenings_92 rfl rfl (Nat.le_of_ble_eq_true rfl) ?_
      rw [(h2T.2 _ hcv1).2.1]
      refine Vj_callSi (q := 98) (qJ6_bitCount_0f7a4 (Nat.lt_of_lt_of_le (li16 hr _) (by decide))) (by decide) lkX9_218 stJ6_bitCount_0f7a4 okJ6_bitCount_0f7a4 dX9_evenings_95 rfl rfl (Nat.le_of_ble_eq_true rfl) ?_
      refine Vj_iadd (q := 99) dX9_evenings_98 rfl ?_
      rw [nI_add, ← ec2]
      refine Vs_istore3 (q := 100) dX9_evenings_99 rfl (by decide) rfl ?_
      refine Vs_iinc4 (q := 103) (z := none) dX9_evenings_100 rfl (by exact iinc_p _) (by decide) rfl ?_
      refine Vj_goto (q := 27) dX9_evenings_103 (by decide) ?_
      rw [nI_1]
      have hi := ih (t + 1) _ (some (.int (evI (evS (evK ρ sd c t).1)))) (by omega) (show RX tx ρ c d p ac sl se (evK ρ sd c (t + 1)).1 _ from h2)
      rw [ec1] at hi
      exact hi
    ·
      have hbt := bI_n.mp h72
      obtain ⟨jb, hjb, ejb, eclb⟩ := hT_x (by omega) hbt
      have ec1 : (evK ρ sd c (t + 1)).2.1 = cNx ρ (evK ρ sd c t).2.1 jb := by rw [evK]; simp only; rw [if_pos hbt, eclb]
      have ec2 : (evK ρ sd c (t + 1)).2.2 = (evK ρ sd c t).2.2 + pop6 (cLi (rN ρ) (cNx ρ (evK ρ sd c t).2.1 jb) (rN ρ)) := by rw [evK]; simp only; rw [if_pos hbt, eclb]
      have hx := cNx_lt hr hcv1 hjb
      refine Vj_aloadn (q := 76) dX9_evenings_75 rfl rfl rfl ?_
      refine Vj_getR (q := 79) flX9_26 rfl rfl dX9_evenings_76 rfl ?_
      refine Vj_iloadn (q := 80) dX9_evenings_79 rfl rfl rfl ?_
      rw [ejb]
      refine Vj_iload (q := 82) dX9_evenings_80 rfl rfl ?_
      refine Vj_callVi (q := 85) (qX2_behind (c := (evK ρ sd c t).2.1) (b := jb) (by omega) (by omega)) (by decide) rfl rfl lkX9_165 viX2_behind okX2_behind dX9_evenings_82 rfl rfl (Nat.le_of_ble_eq_true rfl) ?_
      rw [show (uL σ1 0 12 (evS (evK ρ sd c t).1)).1 19 = σ1.1 19 from rfl, show σ1.1 19 ((evK ρ sd c t).2.1 * 6 + jb) = nI (cNx ρ (evK ρ sd c t).2.1 jb) from (h2T.2 _ hcv1).2.2 jb hjb]
      refine Vs_istore2 (q := 86) dX9_evenings_85 rfl (by decide) rfl ?_
      refine Vj_iloadn (q := 87) dX9_evenings_86 rfl rfl rfl ?_
      refine Vj_aloadn (q := 88) dX9_evenings_87 rfl rfl rfl ?_
      refine Vj_getR (q := 91) flX9_26 rfl rfl dX9_evenings_88 rfl ?_
      refine Vj_iloadn (q := 92) dX9_evenings_91 rfl rfl rfl ?_
      refine Vj_callVi (q := 95) (qX2_lightsIn (by omega)) (by decide) rfl rfl lkX9_285 viX2_lightsIn okX2_lightsIn dX9_evenings_92 rfl rfl (Nat.le_of_ble_eq_true rfl) ?_
      rw [(h2T.2 _ hx).2.1]
      refine Vj_callSi (q := 98) (qJ6_bitCount_0f7a4 (Nat.lt_of_lt_of_le (li16 hr _) (by decide))) (by decide) lkX9_218 stJ6_bitCount_0f7a4 okJ6_bitCount_0f7a4 dX9_evenings_95 rfl rfl (Nat.le_of_ble_eq_true rfl) ?_
      refine Vj_iadd (q := 99) dX9_evenings_98 rfl ?_
      rw [nI_add, ← ec2]
      refine Vs_istore3 (q := 100) dX9_evenings_99 rfl (by decide) rfl ?_
      refine Vs_iinc4 (q := 103) (z := none) dX9_evenings_100 rfl (by exact iinc_p _) (by decide) rfl ?_
      refine Vj_goto (q := 27) dX9_evenings_103 (by decide) ?_
      rw [nI_1]
      have hi := ih (t + 1) _ (some (.int (nI jb))) (by omega) (show RX tx ρ c d p ac sl se (evK ρ sd c (t + 1)).1 _ from h2)
      rw [ec1] at hi
      exact hi
set_option maxRecDepth 100000 in
theorem qX9_evenings {tx : List Nat} {ρ : Rm} {c d p : Nat} {ac : List (Nat × Nat × Nat)} {sl : Nat → Option (Nat × Nat × Nat)} {se : List (Nat × Nat × Nat)} {sd : Int64} {N : Nat} {σ : Mem} (h : RX tx ρ c d p ac sl se sd σ) (hv : okV N ρ c d p ac sl se) (k : Int32) : Ct shX 2 mX9_evenings [.ref 0, .int k] σ (PX ((spEven ρ sd c k).1) tx ρ c d p ac sl se (spEven ρ sd c k).2) := by
  obtain ⟨hr, ⟨hc, hco⟩, ⟨hd, hdo⟩, hp, hN30, ⟨hal, hav⟩, hsv, hse⟩ := hv
  obtain ⟨hTx, hP, hTa, hRE, hNw, hAc, hSl, hSe, hSd⟩ := h
  have hp4 := p4_le hr.1
  have hn5 := hr.1
  have hB7 := hr.2.2.1
  have h : RX tx ρ c d p ac sl se sd σ := ⟨hTx, hP, hTa, hRE, hNw, hAc, hSl, hSe, hSd⟩
  refine Ct.of (by decide) (Nat.le_of_ble_eq_true rfl) (l := [some (.ref 0), some (.int k), none, none, none, none]) rfl ?_
  refine Vj_iloadn (q := 1) dX9_evenings_0 rfl rfl rfl ?_
  refine Vj_iconst (q := 2) (v := 1) dX9_evenings_1 rfl (by decide) ?_
  refine Vj_icmp_lt (q := 5) (tgt := 11) dX9_evenings_2 (by decide) rfl (fun h2 => ?_) (fun h2 => ?_)
  ·
    refine Vj_bipush (q := 13) (v := (-2)) dX9_evenings_11 rfl (by decide) ?_
    refine Vr_iret rfl rfl dX9_evenings_13 ?_
    have e : spEven ρ sd c k = (-2, sd) := by rw [spEven, if_pos (Or.inl h2)]
    rw [e]
    exact ⟨rfl, h⟩
  ·
    refine Vj_iloadn (q := 6) dX9_evenings_5 rfl rfl rfl ?_
    refine Vj_bipush (q := 8) (v := 30) dX9_evenings_6 rfl (by decide) ?_
    refine Vj_icmp_le (q := 11) (tgt := 14) dX9_evenings_8 (by decide) rfl (fun h8 => ?_) (fun h8 => ?_)
    ·
      obtain ⟨n, hn, rfl⟩ := nI_of (x := k) (fun z => by have h0 := Int32.not_lt.mp h2; exact absurd (Int32.lt_of_le_of_lt h0 z) (by decide))
      have hn31 : n < 31 := by have := (nI_leI (b := 30) hn (by decide)).mp h8; omega
      have enc : (nI n).toNatClampNeg = n := nI_clamp hn
      have hno : ¬ (nI n < 1 ∨ 30 < nI n) := by
        rintro (z | z)
        · exact h2 z
        · exact Int32.not_le.mpr z h8
      have e : spEven ρ sd c (nI n) = (nI (evK ρ sd c n).2.2, (evK ρ sd c n).1) := by rw [spEven, if_neg hno, enc]
      rw [e]
      refine Vj_aloadn (q := 15) dX9_evenings_14 rfl rfl rfl ?_
      refine Vj_getR (q := 18) flX9_47 rfl rfl dX9_evenings_15 rfl ?_
      refine Vj_getI (q := 21) flX9_112 rfl rfl dX9_evenings_18 rfl ?_
      rw [hNw.1]
      refine Vs_istore2 (q := 22) dX9_evenings_21 rfl (by decide) rfl ?_
      refine Vj_iconst (q := 23) (v := 0) dX9_evenings_22 rfl (by decide) ?_
      refine Vs_istore3 (q := 24) dX9_evenings_23 rfl (by decide) rfl ?_
      refine Vj_iconst (q := 25) (v := 0) dX9_evenings_24 rfl (by decide) ?_
      refine Vs_istore4 (q := 27) dX9_evenings_25 rfl (by decide) rfl ?_
      exact qX9_evenings_loop h ⟨hr, ⟨hc, hco⟩, ⟨hd, hdo⟩, hp, hN30, ⟨hal, hav⟩, hsv, hse⟩ hn31 n 0 σ none (by omega) h
    ·
      refine Vj_bipush (q := 13) (v := (-2)) dX9_evenings_11 rfl (by decide) ?_
      refine Vr_iret rfl rfl dX9_evenings_13 ?_
      have e : spEven ρ sd c k = (-2, sd) := by rw [spEven, if_pos (Or.inr (Int32.not_le.mp h8))]
      rw [e]
      exact ⟨rfl, h⟩
