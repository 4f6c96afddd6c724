/-! a text, read -/
def pLoop (tx : List Nat) : Nat → Nat → List Nat → List Nat → List (Nat × Nat × Nat) → Option Nat × List Nat × List Nat × List (Nat × Nat × Nat)
  | 0, _, L, F, B => (none, L, F, B)
  | n + 1, p, L, F, B =>
    if tx.length ≤ p then (none, L, F, B)
    else if tx.getD p 0 = 84 then
      match pTh tx p L with
      | .inl g => (some (p + g), L, F, B)
      | .inr u => pLoop tx n (p + 3) (L ++ [u.1]) (F ++ [u.2]) B
    else if tx.getD p 0 = 66 then
      match pBu tx p L B with
      | .inl g => (some (p + g), L, F, B)
      | .inr u => pLoop tx n (p + 4) L F (B ++ [u])
    else (some p, L, F, B)
def pText (tx : List Nat) : Option Nat × List Nat × List Nat × List (Nat × Nat × Nat) := if 0 < tx.length ∧ tx.getD 0 0 = 82 then pLoop tx 45 1 [] [] [] else (some 0, [], [], [])
def fI : Option Nat → Int32
  | none => -9
  | some p => nI p
def PO (L F : List Nat) (B : List (Nat × Nat × Nat)) : Prop := okR (L, B) ∧ F.length = L.length ∧ ∀ t, t < L.length → F.getD t 0 < L.getD t 0
theorem PO_nil : PO [] [] [] := ⟨⟨by decide, fun t ht => absurd ht (Nat.not_lt_zero t), by decide, fun b hb => absurd hb (Nat.not_lt_zero b)⟩, rfl, fun t ht => absurd ht (Nat.not_lt_zero t)⟩
theorem pTh_r {tx : List Nat} {p : Nat} {L : List Nat} {u : Nat × Nat} (h : pTh tx p L = .inr u) : L.length < 4 ∧ 2 ≤ u.1 ∧ u.1 ≤ 4 ∧ u.2 < u.1 := by
  unfold pTh at h
  split at h
  · cases h
  · split at h
    · cases h
    · split at h
      · cases h
      · split at h
        · cases h
        · split at h
          · cases h
          · cases h
            simp only
            omega
theorem pBu_r {tx : List Nat} {p : Nat} {L : List Nat} {B : List (Nat × Nat × Nat)} {u : Nat × Nat × Nat} (h : pBu tx p L B = .inr u) : B.length < 6 ∧ u.1 < L.length ∧ u.2.1 < 4 ∧ u.2.2 < 10 ∧ mbX L u.1 u.2.1 u.2.2 = true := by
  unfold pBu at h
  split at h
  · cases h
  · split at h
    · cases h
    · split at h
      · cases h
      · split at h
        · cases h
        · split at h
          · cases h
          · split at h
            · cases h
            · split at h
              · cases h
                rename_i f3 hm
                have := fg_le f3
                simp only
                exact ⟨by omega, by omega, by omega, this, hm⟩
              · cases h
theorem PO.addT {L F : List Nat} {B : List (Nat × Nat × Nat)} {u : Nat × Nat} (h : PO L F B) (h4 : L.length < 4) (h1 : 2 ≤ u.1) (h2 : u.1 ≤ 4) (h3 : u.2 < u.1) : PO (L ++ [u.1]) (F ++ [u.2]) B := by
  obtain ⟨⟨a1, a2, a3, a4⟩, b, c⟩ := h
  simp only [rN, rS, rB, rT, rK, rA] at a1 a2 a3 a4
  refine ⟨⟨?_, fun t ht => ?_, a3, fun b' hb' => ?_⟩, by simp [b], fun t ht => ?_⟩
  · simp only [rN, List.length_append, List.length_singleton]; omega
  · simp only [rN, rS, List.length_append, List.length_singleton] at ht ⊢
    by_cases e : t = L.length
    · subst e; rw [getD_r]; exact ⟨h1, h2⟩
    · rw [getD_l (by omega)]; exact a2 t (by omega)
  · obtain ⟨g1, g2, g3, g4, g5⟩ := a4 b' hb'
    simp only [rN, rS, rT, rK, rA, List.length_append, List.length_singleton]
    refine ⟨by omega, g2, fun z => ?_, fun z => ?_, g5⟩
    · rw [getD_l g1]; exact g3 z
    · have := g4 z; omega
  · rw [List.length_append, List.length_singleton] at ht
    by_cases e : t = L.length
    · subst e
      rw [getD_r]
      have : (F ++ [u.2]).getD L.length 0 = u.2 := by rw [← b, getD_r]
      rw [this]; exact h3
    · rw [getD_l (by omega), getD_l (by omega)]; exact c t (by omega)
theorem PO.addB {L F : List Nat} {B : List (Nat × Nat × Nat)} {u : Nat × Nat × Nat} (h : PO L F B) (h6 : B.length < 6) (h1 : u.1 < L.length) (h2 : u.2.1 < 4) (h3 : u.2.2 < 10) (hm : mbX L u.1 u.2.1 u.2.2 = true) : PO L F (B ++ [u]) := by
  obtain ⟨⟨a1, a2, a3, a4⟩, b, c⟩ := h
  simp only [rN, rS, rB, rT, rK, rA] at a1 a2 a3 a4
  refine ⟨⟨a1, a2, ?_, fun b' hb' => ?_⟩, b, c⟩
  · simp only [rB, List.length_append, List.length_singleton]; omega
  · simp only [rB, List.length_append, List.length_singleton] at hb'
    simp only [rN, rS, rT, rK, rA]
    by_cases e : b' = B.length
    · subst e
      simp only [getD_r]
      refine ⟨h1, h2, fun z => ?_, fun z => ?_, h3⟩
      · rw [mbX, if_pos z] at hm; exact of_decide_eq_true hm
      · rw [mbX, if_neg (by omega), if_pos z] at hm; exact of_decide_eq_true hm
    · rw [getD_l (show b' < B.length by omega)]
      exact a4 b' (by omega)
theorem pLoop_PO {tx : List Nat} : ∀ n p L F B, PO L F B → PO (pLoop tx n p L F B).2.1 (pLoop tx n p L F B).2.2.1 (pLoop tx n p L F B).2.2.2
  | 0, p, L, F, B, h => h
  | n + 1, p, L, F, B, h => by
    rw [pLoop]
    split
    · exact h
    · split
      · cases e : pTh tx p L with
        | inl g => exact h
        | inr u =>
          obtain ⟨g1, g2, g3, g4⟩ := pTh_r e
          exact pLoop_PO n (p + 3) _ _ _ (h.addT g1 g2 g3 g4)
      · split
        · cases e : pBu tx p L B with
          | inl g => exact h
          | inr u =>
            obtain ⟨g1, g2, g3, g4, g5⟩ := pBu_r e
            exact pLoop_PO n (p + 4) _ _ _ (h.addB g1 g2 g3 g4 g5)
        · exact h
theorem pText_PO (tx : List Nat) : PO (pText tx).2.1 (pText tx).2.2.1 (pText tx).2.2.2 := by
  unfold pText
  split
  · exact pLoop_PO _ _ _ _ _ PO_nil
  · exact PO_nil
def tdS : List Nat := [4, 5, 6, 7, 8, 9]
def FfP (R : Option Nat × List Nat × List Nat × List (Nat × Nat × Nat)) (σ0 : Mem) : Option Value → Mem → Prop := fun r σ' => r = some (.int (fI R.1)) ∧ PD 4 R.2.1 R.2.2.1 R.2.2.2 σ' ∧ Eqo tdS σ0 σ'
theorem Tx.eqo {tx : List Nat} {σ σ' : Mem} {S : List Nat} (h : Tx tx σ) (hE : Eqo S σ σ') (hS : (S.contains 1 || S.contains 2) = false) : Tx tx σ' := by
  simp only [Bool.or_eq_false_iff] at hS
  exact h.of (hE.at _ hS.1) (hE.at _ hS.2)

set_option maxRecDepth 100000 in
theorem qX3_firstFault_loop {tx : List Nat} {σ0 : Mem} (h44 : tx.length ≤ 44) : ∀ (n p : Nat) (L F : List Nat) (B : List (Nat × Nat × Nat)) (σ : Mem) (z3 z4 z5 : Option Value), tx.length ≤ p + n → p < 100 → Tx tx σ → PO L F B → PD 4 L F B σ → Eqo tdS σ0 σ → Vj shX 4 mX3_firstFault (FfP (pLoop tx n p L F B) σ0) 30 [some (.ref 3), some (.ref 1), some (.int (nI p)), z3, z4, z5] [] σ := by
  intro n
  induction n with
  | zero =>
    intro p L F B σ z3 z4 z5 hn hp h hO hD hE
    refine Vj_iloadn (q := 31) dX3_firstFault_30 rfl rfl rfl ?_
    refine Vj_aloadn (q := 32) dX3_firstFault_31 rfl rfl rfl ?_
    refine Vj_callVi (q := 35) (qX8_size h) (by decide) rfl rfl lkX3_31 viX8_size okX8_size dX3_firstFault_32 rfl rfl (Nat.le_of_ble_eq_true rfl) ?_
    refine Vj_icmp_ge (q := 38) (tgt := 110) dX3_firstFault_35 (by decide) rfl (fun _ => ?_) (fun hz => absurd (nI_le (by omega) (by omega)) hz)
    refine Vj_bipush (q := 112) (v := (-9)) dX3_firstFault_110 rfl (by decide) ?_
    exact Vr_iret rfl rfl dX3_firstFault_112 (⟨rfl, hD, hE⟩)
  | succ n ih =>
    intro p L F B σ z3 z4 z5 hn hp h hO hD hE
    have hs10 : ∀ u, u < L.length → L.getD u 0 < 10 := fun u hu => by have := (hO.1.2.1 u hu).2; simp only [rS] at this; omega
    have hL5 : L.length < 5 := hO.1.1
    have hB7 : B.length < 7 := hO.1.2.2.1
    by_cases hlt : p < tx.length
    case neg =>
      rw [pLoop, if_pos (by omega)]
      refine Vj_iloadn (q := 31) dX3_firstFault_30 rfl rfl rfl ?_
      refine Vj_aloadn (q := 32) dX3_firstFault_31 rfl rfl rfl ?_
      refine Vj_callVi (q := 35) (qX8_size h) (by decide) rfl rfl lkX3_31 viX8_size okX8_size dX3_firstFault_32 rfl rfl (Nat.le_of_ble_eq_true rfl) ?_
      refine Vj_icmp_ge (q := 38) (tgt := 110) dX3_firstFault_35 (by decide) rfl (fun _ => ?_) (fun hz => absurd (nI_le (by omega) (by omega)) hz)
      refine Vj_bipush (q := 112) (v := (-9)) dX3_firstFault_110 rfl (by decide) ?_
      exact Vr_iret rfl rfl dX3_firstFault_112 (⟨rfl, hD, hE⟩)
    have h256 := (h.2.2 p hlt).2
    rw [pLoop, if_neg (by omega)]
    by_cases h84 : tx.getD p 0 = 84
    · rw [if_pos h84]
      have hr := qX3_readThing h hD hL5 hB7 (p := p) (by omega)
      cases eT : pTh tx p L with
      | inl g =>
        rw [eT] at hr
        simp only [pTR, pTM] at hr
        have hg : g < 3 := by
          unfold pTh at eT
          repeat' (split at eT)
          all_goals (cases eT; try omega)
        refine Vj_iloadn (q := 31) dX3_firstFault_30 rfl rfl rfl ?_
        refine Vj_aloadn (q := 32) dX3_firstFault_31 rfl rfl rfl ?_
        refine Vj_callVi (q := 35) (qX8_size h) (by decide) rfl rfl lkX3_31 viX8_size okX8_size dX3_firstFault_32 rfl rfl (Nat.le_of_ble_eq_true rfl) ?_
        refine Vj_icmp_ge (q := 38) (tgt := 110) dX3_firstFault_35 (by decide) rfl (fun hz => absurd hz (nI_ge (by omega) (by omega))) (fun _ => ?_)
        refine Vj_aloadn (q := 39) dX3_firstFault_38 rfl rfl rfl ?_
        refine Vj_iloadn (q := 40) dX3_firstFault_39 rfl rfl rfl ?_
        refine Vj_callVi (q := 43) (qX8_letterAt h (by omega)) (by decide) rfl rfl lkX3_25 viX8_letterAt okX8_letterAt dX3_firstFault_40 rfl rfl (Nat.le_of_ble_eq_true rfl) ?_
        have e : lt? tx p = some (tx.getD p 0) := if_pos hlt
        rw [e, oI_some]
        refine Vs_istore3 (q := 44) dX3_firstFault_43 rfl (by decide) rfl ?_
        refine Vj_iloadn (q := 45) dX3_firstFault_44 rfl rfl rfl ?_
        refine Vj_bipush (q := 47) (v := 84) dX3_firstFault_45 rfl (by decide) ?_
        refine Vj_icmp_ne (q := 50) (tgt := 54) dX3_firstFault_47 (by decide) rfl (fun hz => absurd (by rw [h84]; rfl) hz) (fun _ => ?_)
        refine Vj_iconst (q := 51) (v := 3) dX3_firstFault_50 rfl (by decide) ?_
        refine Vj_goto (q := 55) dX3_firstFault_51 (by decide) ?_
        refine Vs_istore4 (q := 57) dX3_firstFault_55 rfl (by decide) rfl ?_
        refine Vj_iloadn (q := 58) dX3_firstFault_57 rfl rfl rfl ?_
        refine Vj_bipush (q := 60) (v := 84) dX3_firstFault_58 rfl (by decide) ?_
        refine Vj_icmp_ne (q := 63) (tgt := 72) dX3_firstFault_60 (by decide) rfl (fun hz => absurd (by rw [h84]; rfl) hz) (fun _ => ?_)
        refine Vj_aloadn (q := 64) dX3_firstFault_63 rfl rfl rfl ?_
        refine Vj_aloadn (q := 65) dX3_firstFault_64 rfl rfl rfl ?_
        refine Vj_iloadn (q := 66) dX3_firstFault_65 rfl rfl rfl ?_
        refine Vj_callVi (q := 69) (hr) (by decide) rfl rfl lkX3_35 viX3_readThing okX3_readThing dX3_firstFault_66 rfl rfl (Nat.le_of_ble_eq_true rfl) ?_
        refine Vj_goto (q := 88) dX3_firstFault_69 (by decide) ?_
        refine Vs_istore5 (q := 90) dX3_firstFault_88 rfl (by decide) rfl ?_
        refine Vj_iload (q := 92) dX3_firstFault_90 rfl rfl ?_
        refine Vj_iload (q := 94) dX3_firstFault_92 rfl rfl ?_
        refine Vj_icmp_ge (q := 97) (tgt := 102) dX3_firstFault_94 (by decide) rfl (fun hz => absurd hz (nI_ge (b := 3) hg (by decide))) (fun _ => ?_)
        refine Vj_iloadn (q := 98) dX3_firstFault_97 rfl rfl rfl ?_
        refine Vj_iload (q := 100) dX3_firstFault_98 rfl rfl ?_
        refine Vj_iadd (q := 101) dX3_firstFault_100 rfl ?_
        exact Vr_iret rfl rfl dX3_firstFault_101 (⟨by rw [nI_add]; rfl, hD, hE⟩)
      | inr u =>
        rw [eT] at hr
        simp only [pTR, pTM] at hr
        obtain ⟨g1, g2, g3, g4⟩ := pTh_r eT
        refine Vj_iloadn (q := 31) dX3_firstFault_30 rfl rfl rfl ?_
        refine Vj_aloadn (q := 32) dX3_firstFault_31 rfl rfl rfl ?_
        refine Vj_callVi (q := 35) (qX8_size h) (by decide) rfl rfl lkX3_31 viX8_size okX8_size dX3_firstFault_32 rfl rfl (Nat.le_of_ble_eq_true rfl) ?_
        refine Vj_icmp_ge (q := 38) (tgt := 110) dX3_firstFault_35 (by decide) rfl (fun hz => absurd hz (nI_ge (by omega) (by omega))) (fun _ => ?_)
        refine Vj_aloadn (q := 39) dX3_firstFault_38 rfl rfl rfl ?_
        refine Vj_iloadn (q := 40) dX3_firstFault_39 rfl rfl rfl ?_
        refine Vj_callVi (q := 43) (qX8_letterAt h (by omega)) (by decide) rfl rfl lkX3_25 viX8_letterAt okX8_letterAt dX3_firstFault_40 rfl rfl (Nat.le_of_ble_eq_true rfl) ?_
        have e : lt? tx p = some (tx.getD p 0) := if_pos hlt
        rw [e, oI_some]
        refine Vs_istore3 (q := 44) dX3_firstFault_43 rfl (by decide) rfl ?_
        refine Vj_iloadn (q := 45) dX3_firstFault_44 rfl rfl rfl ?_
        refine Vj_bipush (q := 47) (v := 84) dX3_firstFault_45 rfl (by decide) ?_
        refine Vj_icmp_ne (q := 50) (tgt := 54) dX3_firstFault_47 (by decide) rfl (fun hz => absurd (by rw [h84]; rfl) hz) (fun _ => ?_)
        refine Vj_iconst (q := 51) (v := 3) dX3_firstFault_50 rfl (by decide) ?_
        refine Vj_goto (q := 55) dX3_firstFault_51 (by decide) ?_
        refine Vs_istore4 (q := 57) dX3_firstFault_55 rfl (by decide) rfl ?_
        refine Vj_iloadn (q := 58) dX3_firstFault_57 rfl rfl rfl ?_
        refine Vj_bipush (q := 60) (v := 84) dX3_firstFault_58 rfl (by decide) ?_
        refine Vj_icmp_ne (q := 63) (tgt := 72) dX3_firstFault_60 (by decide) rfl (fun hz => absurd (by rw [h84]; rfl) hz) (fun _ => ?_)
        refine Vj_aloadn (q := 64) dX3_firstFault_63 rfl rfl rfl ?_
        refine Vj_aloadn (q := 65) dX3_firstFault_64 rfl rfl rfl ?_
        refine Vj_iloadn (q := 66) dX3_firstFault_65 rfl rfl rfl ?_
        refine Vj_callVi (q := 69) (hr) (by decide) rfl rfl lkX3_35 viX3_readThing okX3_readThing dX3_firstFault_66 rfl rfl (Nat.le_of_ble_eq_true rfl) ?_
        refine Vj_goto (q := 88) dX3_firstFault_69 (by decide) ?_
        refine Vs_istore5 (q := 90) dX3_firstFault_88 rfl (by decide) rfl ?_
        refine Vj_iload (q := 92) dX3_firstFault_90 rfl rfl ?_
        refine Vj_iload (q := 94) dX3_firstFault_92 rfl rfl ?_
        refine Vj_icmp_ge (q := 97) (tgt := 102) dX3_firstFault_94 (by decide) rfl (fun _ => ?_) (fun hz => absurd (by decide) hz)
        refine Vj_iloadn (q := 103) dX3_firstFault_102 rfl rfl rfl ?_
        refine Vj_iload (q := 105) dX3_firstFault_103 rfl rfl ?_
        refine Vj_iadd (q := 106) dX3_firstFault_105 rfl ?_
        refine Vs_istore2 (q := 107) dX3_firstFault_106 rfl (by decide) rfl ?_
        refine Vj_goto (q := 30) dX3_firstFault_107 (by decide) ?_
        rw [show nI p + 3 = nI (p + 3) from nI_add p 3]
        exact ih (p + 3) _ _ _ _ _ _ _ (by omega) (by omega) (h.of (mT_ne (by decide) (by decide) (by decide)) (mT_ne (by decide) (by decide) (by decide))) (hO.addT g1 g2 g3 g4) (hD.addT hO.2.1) (hE.mT rfl rfl rfl)
    · rw [if_neg h84]
      have n84 : ¬ nI (tx.getD p 0) = 84 := fun z => h84 ((nI_eq (b := 84) (by omega) (by decide)).mp z)
      by_cases h66 : tx.getD p 0 = 66
      · rw [if_pos h66]
        have hr := qX3_readButton h hD hL5 hB7 (p := p) (by omega) hs10
        cases eT : pBu tx p L B with
        | inl g =>
          rw [eT] at hr
          simp only [pBR, pBM] at hr
          have hg : g < 4 := by
            unfold pBu at eT
            repeat' (split at eT)
            all_goals (cases eT; try omega)
          refine Vj_iloadn (q := 31) dX3_firstFault_30 rfl rfl rfl ?_
          refine Vj_aloadn (q := 32) dX3_firstFault_31 rfl rfl rfl ?_
          refine Vj_callVi (q := 35) (qX8_size h) (by decide) rfl rfl lkX3_31 viX8_size okX8_size dX3_firstFault_32 rfl rfl (Nat.le_of_ble_eq_true rfl) ?_
          refine Vj_icmp_ge (q := 38) (tgt := 110) dX3_firstFault_35 (by decide) rfl (fun hz => absurd hz (nI_ge (by omega) (by omega))) (fun _ => ?_)
          refine Vj_aloadn (q := 39) dX3_firstFault_38 rfl rfl rfl ?_
          refine Vj_iloadn (q := 40) dX3_firstFault_39 rfl rfl rfl ?_
          refine Vj_callVi (q := 43) (qX8_letterAt h (by omega)) (by decide) rfl rfl lkX3_25 viX8_letterAt okX8_letterAt dX3_firstFault_40 rfl rfl (Nat.le_of_ble_eq_true rfl) ?_
          have e : lt? tx p = some (tx.getD p 0) := if_pos hlt
          rw [e, oI_some]
          refine Vs_istore3 (q := 44) dX3_firstFault_43 rfl (by decide) rfl ?_
          refine Vj_iloadn (q := 45) dX3_firstFault_44 rfl rfl rfl ?_
          refine Vj_bipush (q := 47) (v := 84) dX3_firstFault_45 rfl (by decide) ?_
          refine Vj_icmp_ne (q := 50) (tgt := 54) dX3_firstFault_47 (by decide) rfl (fun _ => ?_) (fun hz => absurd hz n84)
          refine Vj_iconst (q := 55) (v := 4) dX3_firstFault_54 rfl (by decide) ?_
          refine Vs_istore4 (q := 57) dX3_firstFault_55 rfl (by decide) rfl ?_
          refine Vj_iloadn (q := 58) dX3_firstFault_57 rfl rfl rfl ?_
          refine Vj_bipush (q := 60) (v := 84) dX3_firstFault_58 rfl (by decide) ?_
          refine Vj_icmp_ne (q := 63) (tgt := 72) dX3_firstFault_60 (by decide) rfl (fun _ => ?_) (fun hz => absurd hz n84)
          refine Vj_iloadn (q := 73) dX3_firstFault_72 rfl rfl rfl ?_
          refine Vj_bipush (q := 75) (v := 66) dX3_firstFault_73 rfl (by decide) ?_
          refine Vj_icmp_ne (q := 78) (tgt := 87) dX3_firstFault_75 (by decide) rfl (fun hz => absurd (by rw [h66]; rfl) hz) (fun _ => ?_)
          refine Vj_aloadn (q := 79) dX3_firstFault_78 rfl rfl rfl ?_
          refine Vj_aloadn (q := 80) dX3_firstFault_79 rfl rfl rfl ?_
          refine Vj_iloadn (q := 81) dX3_firstFault_80 rfl rfl rfl ?_
          refine Vj_callVi (q := 84) (hr) (by decide) rfl rfl lkX3_39 viX3_readButton okX3_readButton dX3_firstFault_81 rfl rfl (Nat.le_of_ble_eq_true rfl) ?_
          refine Vj_goto (q := 88) dX3_firstFault_84 (by decide) ?_
          refine Vs_istore5 (q := 90) dX3_firstFault_88 rfl (by decide) rfl ?_
          refine Vj_iload (q := 92) dX3_firstFault_90 rfl rfl ?_
          refine Vj_iload (q := 94) dX3_firstFault_92 rfl rfl ?_
          refine Vj_icmp_ge (q := 97) (tgt := 102) dX3_firstFault_94 (by decide) rfl (fun hz => absurd hz (nI_ge (b := 4) hg (by decide))) (fun _ => ?_)
          refine Vj_iloadn (q := 98) dX3_firstFault_97 rfl rfl rfl ?_
          refine Vj_iload (q := 100) dX3_firstFault_98 rfl rfl ?_
          refine Vj_iadd (q := 101) dX3_firstFault_100 rfl ?_
          exact Vr_iret rfl rfl dX3_firstFault_101 (⟨by rw [nI_add]; rfl, hD, hE⟩)
        | inr u =>
          rw [eT] at hr
          simp only [pBR, pBM] at hr
          obtain ⟨g1, g2, g3, g4, g5⟩ := pBu_r eT
          refine Vj_iloadn (q := 31) dX3_firstFault_30 rfl rfl rfl ?_
          refine Vj_aloadn (q := 32) dX3_firstFault_31 rfl rfl rfl ?_
          refine Vj_callVi (q := 35) (qX8_size h) (by decide) rfl rfl lkX3_31 viX8_size okX8_size dX3_firstFault_32 rfl rfl (Nat.le_of_ble_eq_true rfl) ?_
          refine Vj_icmp_ge (q := 38) (tgt := 110) dX3_firstFault_35 (by decide) rfl (fun hz => absurd hz (nI_ge (by omega) (by omega))) (fun _ => ?_)
          refine Vj_aloadn (q := 39) dX3_firstFault_38 rfl rfl rfl ?_
          refine Vj_iloadn (q := 40) dX3_firstFault_39 rfl rfl rfl ?_
          refine Vj_callVi (q := 43) (qX8_letterAt h (by omega)) (by decide) rfl rfl lkX3_25 viX8_letterAt okX8_letterAt dX3_firstFault_40 rfl rfl (Nat.le_of_ble_eq_true rfl) ?_
          have e : lt? tx p = some (tx.getD p 0) := if_pos hlt
          rw [e, oI_some]
          refine Vs_istore3 (q := 44) dX3_firstFault_43 rfl (by decide) rfl ?_
          refine Vj_iloadn (q := 45) dX3_firstFault_44 rfl rfl rfl ?_
          refine Vj_bipush (q := 47) (v := 84) dX3_firstFault_45 rfl (by decide) ?_
          refine Vj_icmp_ne (q := 50) (tgt := 54) dX3_firstFault_47 (by decide) rfl (fun _ => ?_) (fun hz => absurd hz n84)
          refine Vj_iconst (q := 55) (v := 4) dX3_firstFault_54 rfl (by decide) ?_
          refine Vs_istore4 (q := 57) dX3_firstFault_55 rfl (by decide) rfl ?_
          refine Vj_iloadn (q := 58) dX3_firstFault_57 rfl rfl rfl ?_
          refine Vj_bipush (q := 60) (v := 84) dX3_firstFault_58 rfl (by decide) ?_
          refine Vj_icmp_ne (q := 63) (tgt := 72) dX3_firstFault_60 (by decide) rfl (fun _ => ?_) (fun hz => absurd hz n84)
          refine Vj_iloadn (q := 73) dX3_firstFault_72 rfl rfl rfl ?_
          refine Vj_bipush (q := 75) (v := 66) dX3_firstFault_73 rfl (by decide) ?_
          refine Vj_icmp_ne (q := 78) (tgt := 87) dX3_firstFault_75 (by decide) rfl (fun hz => absurd (by rw [h66]; rfl) hz) (fun _ => ?_)
          refine Vj_aloadn (q := 79) dX3_firstFault_78 rfl rfl rfl ?_
          refine Vj_aloadn (q := 80) dX3_firstFault_79 rfl rfl rfl ?_
          refine Vj_iloadn (q := 81) dX3_firstFault_80 rfl rfl rfl ?_
          refine Vj_callVi (q := 84) (hr) (by decide) rfl rfl lkX3_39 viX3_readButton okX3_readButton dX3_firstFault_81 rfl rfl (Nat.le_of_ble_eq_true rfl) ?_
          refine Vj_goto (q := 88) dX3_firstFault_84 (by decide) ?_
          refine Vs_istore5 (q := 90) dX3_firstFault_88 rfl (by decide) rfl ?_
          refine Vj_iload (q := 92) dX3_firstFault_90 rfl rfl ?_
          refine Vj_iload (q := 94) dX3_firstFault_92 rfl rfl ?_
          refine Vj_icmp_ge (q := 97) (tgt := 102) dX3_firstFault_94 (by decide) rfl (fun _ => ?_) (fun hz => absurd (by decide) hz)
          refine Vj_iloadn (q := 103) dX3_firstFault_102 rfl rfl rfl ?_
          refine Vj_iload (q := 105) dX3_firstFault_103 rfl rfl ?_
          refine Vj_iadd (q := 106) dX3_firstFault_105 rfl ?_
          refine Vs_istore2 (q := 107) dX3_firstFault_106 rfl (by decide) rfl ?_
          refine Vj_goto (q := 30) dX3_firstFault_107 (by decide) ?_
          rw [show nI p + 4 = nI (p + 4) from nI_add p 4]
          exact ih (p + 4) _ _ _ _ _ _ _ (by omega) (by omega) (h.of (mB_ne (by decide) (by decide) (by decide) (by decide)) (mB_ne (by decide) (by decide) (by decide) (by decide))) (hO.addB g1 g2 g3 g4 g5) hD.addB (hE.mB rfl rfl rfl rfl)
      · rw [if_neg h66]
        have n66 : ¬ nI (tx.getD p 0) = 66 := fun z => h66 ((nI_eq (b := 66) (by omega) (by decide)).mp z)
        refine Vj_iloadn (q := 31) dX3_firstFault_30 rfl rfl rfl ?_
        refine Vj_aloadn (q := 32) dX3_firstFault_31 rfl rfl rfl ?_
        refine Vj_callVi (q := 35) (qX8_size h) (by decide) rfl rfl lkX3_31 viX8_size okX8_size dX3_firstFault_32 rfl rfl (Nat.le_of_ble_eq_true rfl) ?_
        refine Vj_icmp_ge (q := 38) (tgt := 110) dX3_firstFault_35 (by decide) rfl (fun hz => absurd hz (nI_ge (by omega) (by omega))) (fun _ => ?_)
        refine Vj_aloadn (q := 39) dX3_firstFault_38 rfl rfl rfl ?_
        refine Vj_iloadn (q := 40) dX3_firstFault_39 rfl rfl rfl ?_
        refine Vj_callVi (q := 43) (qX8_letterAt h (by omega)) (by decide) rfl rfl lkX3_25 viX8_letterAt okX8_letterAt dX3_firstFault_40 rfl rfl (Nat.le_of_ble_eq_true rfl) ?_
        have e : lt? tx p = some (tx.getD p 0) := if_pos hlt
        rw [e, oI_some]
        refine Vs_istore3 (q := 44) dX3_firstFault_43 rfl (by decide) rfl ?_
        refine Vj_iloadn (q := 45) dX3_firstFault_44 rfl rfl rfl ?_
        refine Vj_bipush (q := 47) (v := 84) dX3_firstFault_45 rfl (by decide) ?_
        refine Vj_icmp_ne (q := 50) (tgt := 54) dX3_firstFault_47 (by decide) rfl (fun _ => ?_) (fun hz => absurd hz n84)
        refine Vj_iconst (q := 55) (v := 4) dX3_firstFault_54 rfl (by decide) ?_
        refine Vs_istore4 (q := 57) dX3_firstFault_55 rfl (by decide) rfl ?_
        refine Vj_iloadn (q := 58) dX3_firstFault_57 rfl rfl rfl ?_
        refine Vj_bipush (q := 60) (v := 84) dX3_firstFault_58 rfl (by decide) ?_
        refine Vj_icmp_ne (q := 63) (tgt := 72) dX3_firstFault_60 (by decide) rfl (fun _ => ?_) (fun hz => absurd hz n84)
        refine Vj_iloadn (q := 73) dX3_firstFault_72 rfl rfl rfl ?_
        refine Vj_bipush (q := 75) (v := 66) dX3_firstFault_73 rfl (by decide) ?_
        refine Vj_icmp_ne (q := 78) (tgt := 87) dX3_firstFault_75 (by decide) rfl (fun _ => ?_) (fun hz => absurd hz n66)
        refine Vj_iconst (q := 88) (v := 0) dX3_firstFault_87 rfl (by decide) ?_
        refine Vs_istore5 (q := 90) dX3_firstFault_88 rfl (by decide) rfl ?_
        refine Vj_iload (q := 92) dX3_firstFault_90 rfl rfl ?_
        refine Vj_iload (q := 94) dX3_firstFault_92 rfl rfl ?_
        refine Vj_icmp_ge (q := 97) (tgt := 102) dX3_firstFault_94 (by decide) rfl (fun hz => absurd hz (by decide)) (fun _ => ?_)
        refine Vj_iloadn (q := 98) dX3_firstFault_97 rfl rfl rfl ?_
        refine Vj_iload (q := 100) dX3_firstFault_98 rfl rfl ?_
        refine Vj_iadd (q := 101) dX3_firstFault_100 rfl ?_
        exact Vr_iret rfl rfl dX3_firstFault_101 (⟨by rw [show (0 : Int32) = nI 0 from rfl, nI_add]; rfl, hD, hE⟩)
set_option maxRecDepth 100000 in
theorem qX3_firstFault {tx : List Nat} {σ : Mem} (h : Tx tx σ) : Ct shX 4 mX3_firstFault [.ref 3, .ref 1] σ (FfP (pText tx) σ) := by
  have h44 := h.2.1
  have hD : PD 4 [] [] [] (uI (uI σ 4 0 0) 4 1 0) := ⟨by simp [uI, upd, nI_0], by simp [uI, upd, nI_0], fun t ht => absurd ht (Nat.not_lt_zero t), fun b hb => absurd hb (Nat.not_lt_zero b)⟩
  have h2 : Tx tx (uI (uI σ 4 0 0) 4 1 0) := h.of (by rw [uI_ne (by decide), uI_ne (by decide)]) (by rw [uI_ne (by decide), uI_ne (by decide)])
  have hE : Eqo tdS σ (uI (uI σ 4 0 0) 4 1 0) := (Eqo.rf.u rfl).u rfl
  unfold pText
  refine Ct.of (by decide) (Nat.le_of_ble_eq_true rfl) (l := [some (.ref 3), some (.ref 1), none, none, none, none]) rfl ?_
  refine Vj_aloadn (q := 1) dX3_firstFault_0 rfl rfl rfl ?_
  refine Vj_getR (q := 4) flX3_12 rfl rfl dX3_firstFault_1 rfl ?_
  refine Vj_iconst (q := 5) (v := 0) dX3_firstFault_4 rfl (by decide) ?_
  refine Vj_putI (q := 8) flX3_18 rfl rfl dX3_firstFault_5 rfl ?_
  refine Vj_aloadn (q := 9) dX3_firstFault_8 rfl rfl rfl ?_
  refine Vj_getR (q := 12) flX3_12 rfl rfl dX3_firstFault_9 rfl ?_
  refine Vj_iconst (q := 13) (v := 0) dX3_firstFault_12 rfl (by decide) ?_
  refine Vj_putI (q := 16) flX3_22 rfl rfl dX3_firstFault_13 rfl ?_
  refine Vj_aloadn (q := 17) dX3_firstFault_16 rfl rfl rfl ?_
  refine Vj_iconst (q := 18) (v := 0) dX3_firstFault_17 rfl (by decide) ?_
  refine Vj_callVi (q := 21) (qX8_letterAt h2 (p := 0) (by decide)) (by decide) rfl rfl lkX3_25 viX8_letterAt okX8_letterAt dX3_firstFault_18 rfl rfl (Nat.le_of_ble_eq_true rfl) ?_
  by_cases hl : 0 < tx.length ∧ tx.getD 0 0 = 82
  ·
    rw [if_pos hl, show lt? tx 0 = some (tx.getD 0 0) from if_pos hl.1, oI_some, hl.2]
    refine Vj_bipush (q := 23) (v := 82) dX3_firstFault_21 rfl (by decide) ?_
    refine Vj_icmp_eq (q := 26) (tgt := 28) dX3_firstFault_23 (by decide) rfl (fun _ => ?_) (fun hz => absurd (rfl : nI 82 = 82) hz)
    refine Vj_iconst (q := 29) (v := 1) dX3_firstFault_28 rfl (by decide) ?_
    refine Vs_istore2 (q := 30) dX3_firstFault_29 rfl (by decide) rfl ?_
    exact qX3_firstFault_loop h44 45 1 [] [] [] _ _ _ _ (by omega) (by decide) h2 PO_nil hD hE
  ·
    rw [if_neg hl]
    have hn : ¬ oI (lt? tx 0) = 82 := by
      unfold lt?
      split
      · rename_i h0
        rw [oI_some]
        intro z
        exact hl ⟨h0, (nI_eq (b := 82) (by have := (h.2.2 0 h0).2; omega) (by decide)).mp z⟩
      · decide
    refine Vj_bipush (q := 23) (v := 82) dX3_firstFault_21 rfl (by decide) ?_
    refine Vj_icmp_eq (q := 26) (tgt := 28) dX3_firstFault_23 (by decide) rfl (fun hz => absurd hz hn) (fun _ => ?_)
    refine Vj_iconst (q := 27) (v := 0) dX3_firstFault_26 rfl (by decide) ?_
    exact Vr_iret rfl rfl dX3_firstFault_27 (⟨rfl, hD, hE⟩)
