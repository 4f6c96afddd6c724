/-! the reference: reading a text -/
theorem uI_id {σ : Mem} {q j : Nat} : uI σ q j (σ.1 q j) = σ := by
  refine Prod.ext (funext fun q' => ?_) rfl
  show (if q' = q then upd (σ.1 q) j (σ.1 q j) else σ.1 q') = σ.1 q'
  by_cases e : q' = q
  · subst e
    rw [if_pos rfl]
    funext i
    unfold upd
    split
    · rename_i h; rw [h]
    · rfl
  · rw [if_neg e]
/-- a figure that is allowed -/
def fgA (tx : List Nat) (al p : Nat) : Option Nat := match fg tx p with
  | none => none
  | some v => if al / 2 ^ v % 2 = 1 then some v else none
def FgM (tx : List Nat) (al p : Nat) (σ : Mem) : Option Value → Mem → Prop := fun r σ' => match fgA tx al p with
  | some v => r = some (.int (nI v)) ∧ σ' = uI σ 0 19 (nI (p + 1))
  | none => r = some (.int 0) ∧ σ' = uI σ 0 20 (nI p)
theorem FgM_n {tx : List Nat} {al p : Nat} {σ σ' : Mem} {r : Option Value} (e : fgA tx al p = none) (h : FgM tx al p σ r σ') : r = some (.int 0) ∧ σ' = uI σ 0 20 (nI p) := by
  unfold FgM at h; rw [e] at h; exact h
theorem FgM_s {tx : List Nat} {al p v : Nat} {σ σ' : Mem} {r : Option Value} (e : fgA tx al p = some v) (h : FgM tx al p σ r σ') : r = some (.int (nI v)) ∧ σ' = uI σ 0 19 (nI (p + 1)) := by
  unfold FgM at h; rw [e] at h; exact h
theorem i_fig : ∀ c, c < 256 → iB (nI c - 48) 0 9 = (Nat.ble 48 c && Nat.ble c 57) := by decide +kernel
theorem fg_y {tx : List Nat} {p : Nat} (h1 : p < tx.length) (h2 : (Nat.ble 48 (tx.getD p 0) && Nat.ble (tx.getD p 0) 57) = true) : fg tx p = some (tx.getD p 0 - 48) ∧ 48 ≤ tx.getD p 0 ∧ tx.getD p 0 - 48 < 10 := by
  rw [Bool.and_eq_true, Nat.ble_eq, Nat.ble_eq] at h2
  refine ⟨?_, h2.1, by omega⟩
  unfold fg
  rw [if_pos ⟨h1, h2.1, h2.2⟩]
theorem fg_n1 {tx : List Nat} {p : Nat} (h1 : ¬ p < tx.length) : fg tx p = none := by
  unfold fg; rw [if_neg (fun z => h1 z.1)]
theorem fg_n2 {tx : List Nat} {p : Nat} (h2 : (Nat.ble 48 (tx.getD p 0) && Nat.ble (tx.getD p 0) 57) = false) : fg tx p = none := by
  unfold fg
  refine if_neg fun z => ?_
  rw [Nat.ble_eq_true_of_le z.2.1, Nat.ble_eq_true_of_le z.2.2] at h2
  cases h2

set_option maxRecDepth 100000 in
theorem qX10_figureOf {tx : List Nat} {σ : Mem} (h : TxM tx σ) {p al : Nat} (hp : p < 1000) (hal : al < 64) (hat : σ.1 0 19 = nI p) (hf : σ.1 0 20 = -9) : Ct shM 1 mX10_figureOf [.ref 0, .int (nI al)] σ (FgM tx al p σ) := by
  obtain ⟨hL, h44, hx⟩ := h
  refine Ct.of (by decide) (Nat.le_of_ble_eq_true rfl) (l := [some (.ref 0), some (.int (nI al)), none]) rfl ?_
  refine Vj_aloadn (q := 1) dX10_figureOf_0 rfl rfl rfl ?_
  refine Vj_getI (q := 4) flX10_81 rfl rfl dX10_figureOf_1 rfl ?_
  rw [hf]
  refine Vj_bipush (q := 6) (v := (-9)) dX10_figureOf_4 rfl (by decide) ?_
  refine Vj_icmp_ne (q := 9) (tgt := 35) dX10_figureOf_6 (by decide) rfl (fun hz => absurd rfl hz) (fun _ => ?_)
  refine Vj_aloadn (q := 10) dX10_figureOf_9 rfl rfl rfl ?_
  refine Vj_getI (q := 13) flX10_84 rfl rfl dX10_figureOf_10 rfl ?_
  rw [hat]
  refine Vj_aloadn (q := 14) dX10_figureOf_13 rfl rfl rfl ?_
  refine Vj_getI (q := 17) flX10_78 rfl rfl dX10_figureOf_14 rfl ?_
  rw [hL]
  refine Vj_icmp_ge (q := 20) (tgt := 35) dX10_figureOf_17 (by decide) rfl (fun h17 => ?_) (fun h17 => ?_)
  ·
    refine Vj_bipush (q := 37) (v := (-9)) dX10_figureOf_35 rfl (by decide) ?_
    refine Vs_istore2 (q := 38) dX10_figureOf_37 rfl (by decide) rfl ?_
    refine Vj_iloadn (q := 39) dX10_figureOf_38 rfl rfl rfl ?_
    refine Vj_i2l (q := 40) dX10_figureOf_39 rfl ?_
    refine Vj_lconst (q := 41) (v := 0) dX10_figureOf_40 rfl (by decide) ?_
    refine Vj_ldc2 (q := 44) dX10_figureOf_41 rfl kcX10_87 ?_
    refine Vj_callSi (q := 47) (qX10_in _ _ _) (by decide) lkX10_74 stX10_in okX10_in dX10_figureOf_44 rfl rfl (Nat.le_of_ble_eq_true rfl) ?_
    rw [in_i (a := 0) (b := 9) rfl rfl, show iB (-9) 0 9 = false by decide]
    ·
      have hge := (nI_leI (by omega) (by omega)).mp h17
      refine Vj_if_eq (q := 50) (tgt := 58) dX10_figureOf_47 (by decide) rfl (fun _ => ?_) (fun hz => absurd rfl hz)
      refine Vj_aloadn (q := 59) dX10_figureOf_58 rfl rfl rfl ?_
      refine Vj_aloadn (q := 60) dX10_figureOf_59 rfl rfl rfl ?_
      refine Vj_getI (q := 63) flX10_81 rfl rfl dX10_figureOf_60 rfl ?_
      rw [hf]
      refine Vj_bipush (q := 65) (v := (-9)) dX10_figureOf_63 rfl (by decide) ?_
      refine Vj_icmp_ne (q := 68) (tgt := 75) dX10_figureOf_65 (by decide) rfl (fun hz => absurd rfl hz) (fun _ => ?_)
      refine Vj_aloadn (q := 69) dX10_figureOf_68 rfl rfl rfl ?_
      refine Vj_getI (q := 72) flX10_84 rfl rfl dX10_figureOf_69 rfl ?_
      rw [hat]
      refine Vj_goto (q := 79) dX10_figureOf_72 (by decide) ?_
      refine Vj_putI (q := 82) flX10_81 rfl rfl dX10_figureOf_79 rfl ?_
      refine Vj_iconst (q := 83) (v := 0) dX10_figureOf_82 rfl (by decide) ?_
      refine Vr_iret rfl rfl dX10_figureOf_83 ?_
      show FgM tx al p σ _ _
      unfold FgM
      rw [show fgA tx al p = none by unfold fgA; rw [fg_n1 (by omega)]]
      exact ⟨rfl, rfl⟩
  ·
    have hlt := Nat.not_le.mp fun z => h17 (nI_le z (by omega))
    refine Vj_aloadn (q := 21) dX10_figureOf_20 rfl rfl rfl ?_
    refine Vj_getR (q := 24) flX10_37 rfl rfl dX10_figureOf_21 rfl ?_
    refine Vj_aloadn (q := 25) dX10_figureOf_24 rfl rfl rfl ?_
    refine Vj_getI (q := 28) flX10_84 rfl rfl dX10_figureOf_25 rfl ?_
    rw [hat]
    refine Vj_iald (q := 29) rfl (vp_in_nI (by omega) (by decide)) dX10_figureOf_28 rfl ?_
    rw [nI_clamp (by omega), (hx p (by omega)).1]
    refine Vj_bipush (q := 31) (v := 48) dX10_figureOf_29 rfl (by decide) ?_
    refine Vj_isub (q := 32) dX10_figureOf_31 rfl ?_
    refine Vj_goto (q := 37) dX10_figureOf_32 (by decide) ?_
    refine Vs_istore2 (q := 38) dX10_figureOf_37 rfl (by decide) rfl ?_
    refine Vj_iloadn (q := 39) dX10_figureOf_38 rfl rfl rfl ?_
    refine Vj_i2l (q := 40) dX10_figureOf_39 rfl ?_
    refine Vj_lconst (q := 41) (v := 0) dX10_figureOf_40 rfl (by decide) ?_
    refine Vj_ldc2 (q := 44) dX10_figureOf_41 rfl kcX10_87 ?_
    refine Vj_callSi (q := 47) (qX10_in _ _ _) (by decide) lkX10_74 stX10_in okX10_in dX10_figureOf_44 rfl rfl (Nat.le_of_ble_eq_true rfl) ?_
    rw [in_i (a := 0) (b := 9) rfl rfl, i_fig _ (hx p (by omega)).2]
    cases hfig : (Nat.ble 48 (tx.getD p 0) && Nat.ble (tx.getD p 0) 57)
    ·
      refine Vj_if_eq (q := 50) (tgt := 58) dX10_figureOf_47 (by decide) rfl (fun _ => ?_) (fun hz => absurd rfl hz)
      refine Vj_aloadn (q := 59) dX10_figureOf_58 rfl rfl rfl ?_
      refine Vj_aloadn (q := 60) dX10_figureOf_59 rfl rfl rfl ?_
      refine Vj_getI (q := 63) flX10_81 rfl rfl dX10_figureOf_60 rfl ?_
      rw [hf]
      refine Vj_bipush (q := 65) (v := (-9)) dX10_figureOf_63 rfl (by decide) ?_
      refine Vj_icmp_ne (q := 68) (tgt := 75) dX10_figureOf_65 (by decide) rfl (fun hz => absurd rfl hz) (fun _ => ?_)
      refine Vj_aloadn (q := 69) dX10_figureOf_68 rfl rfl rfl ?_
      refine Vj_getI (q := 72) flX10_84 rfl rfl dX10_figureOf_69 rfl ?_
      rw [hat]
      refine Vj_goto (q := 79) dX10_figureOf_72 (by decide) ?_
      refine Vj_putI (q := 82) flX10_81 rfl rfl dX10_figureOf_79 rfl ?_
      refine Vj_iconst (q := 83) (v := 0) dX10_figureOf_82 rfl (by decide) ?_
      refine Vr_iret rfl rfl dX10_figureOf_83 ?_
      show FgM tx al p σ _ _
      unfold FgM
      rw [show fgA tx al p = none by unfold fgA; rw [fg_n2 hfig]]
      exact ⟨rfl, rfl⟩
    ·
      obtain ⟨e1, e2, e3⟩ := fg_y (by omega) hfig
      generalize ev : tx.getD p 0 - 48 = v at *
      rw [show nI (tx.getD p 0) - 48 = nI v by rw [← ev]; exact pk_sub (b := 48) e2]
      refine Vj_if_eq (q := 50) (tgt := 58) dX10_figureOf_47 (by decide) rfl (fun hz => absurd hz (by decide)) (fun _ => ?_)
      refine Vj_iloadn (q := 51) dX10_figureOf_50 rfl rfl rfl ?_
      refine Vj_iloadn (q := 52) dX10_figureOf_51 rfl rfl rfl ?_
      refine Vj_callSi (q := 55) (qX10_has hal (b := v) (by omega)) (by decide) lkX10_89 stX10_has okX10_has dX10_figureOf_52 rfl rfl (Nat.le_of_ble_eq_true rfl) ?_
      refine Vj_if_ne (q := 58) (tgt := 84) dX10_figureOf_55 (by decide) rfl (fun h55 => ?_) (fun h55 => ?_)
      ·
        refine Vj_aloadn (q := 85) dX10_figureOf_84 rfl rfl rfl ?_
        refine Vj_dup (q := 86) dX10_figureOf_85 rfl rfl ?_
        refine Vj_getI (q := 89) flX10_84 rfl rfl dX10_figureOf_86 rfl ?_
        rw [hat]
        refine Vj_iconst (q := 90) (v := 1) dX10_figureOf_89 rfl (by decide) ?_
        refine Vj_iadd (q := 91) dX10_figureOf_90 rfl ?_
        rw [nI_1]
        refine Vj_putI (q := 94) flX10_84 rfl rfl dX10_figureOf_91 rfl ?_
        refine Vj_iloadn (q := 95) dX10_figureOf_94 rfl rfl rfl ?_
        refine Vr_iret rfl rfl dX10_figureOf_95 ?_
        show FgM tx al p σ _ _
        unfold FgM
        rw [show fgA tx al p = some v by unfold fgA; rw [e1]; exact if_pos (of_decide_eq_true (bI_n.mp h55))]
        exact ⟨rfl, rfl⟩
      ·
        refine Vj_aloadn (q := 59) dX10_figureOf_58 rfl rfl rfl ?_
        refine Vj_aloadn (q := 60) dX10_figureOf_59 rfl rfl rfl ?_
        refine Vj_getI (q := 63) flX10_81 rfl rfl dX10_figureOf_60 rfl ?_
        rw [hf]
        refine Vj_bipush (q := 65) (v := (-9)) dX10_figureOf_63 rfl (by decide) ?_
        refine Vj_icmp_ne (q := 68) (tgt := 75) dX10_figureOf_65 (by decide) rfl (fun hz => absurd rfl hz) (fun _ => ?_)
        refine Vj_aloadn (q := 69) dX10_figureOf_68 rfl rfl rfl ?_
        refine Vj_getI (q := 72) flX10_84 rfl rfl dX10_figureOf_69 rfl ?_
        rw [hat]
        refine Vj_goto (q := 79) dX10_figureOf_72 (by decide) ?_
        refine Vj_putI (q := 82) flX10_81 rfl rfl dX10_figureOf_79 rfl ?_
        refine Vj_iconst (q := 83) (v := 0) dX10_figureOf_82 rfl (by decide) ?_
        refine Vr_iret rfl rfl dX10_figureOf_83 ?_
        show FgM tx al p σ _ _
        unfold FgM
        rw [show fgA tx al p = none by unfold fgA; rw [e1]; exact if_neg (of_decide_eq_false (bI_f0 h55))]
        exact ⟨rfl, rfl⟩
set_option maxRecDepth 100000 in
theorem sX10_figureOf {σ : Mem} {f : Nat} (hf31 : f < 2 ^ 31) (hf : σ.1 0 20 = nI f) (al : Int32) : Ct shM 1 mX10_figureOf [.ref 0, .int al] σ (Ri 0 σ) := by
  refine Ct.of (by decide) (Nat.le_of_ble_eq_true rfl) (l := [some (.ref 0), some (.int al), none]) rfl ?_
  refine Vj_aloadn (q := 1) dX10_figureOf_0 rfl rfl rfl ?_
  refine Vj_getI (q := 4) flX10_81 rfl rfl dX10_figureOf_1 rfl ?_
  rw [hf]
  refine Vj_bipush (q := 6) (v := (-9)) dX10_figureOf_4 rfl (by decide) ?_
  refine Vj_icmp_ne (q := 9) (tgt := 35) dX10_figureOf_6 (by decide) rfl (fun _ => ?_) (fun hz => absurd hz (nI_nm9 hf31))
  refine Vj_bipush (q := 37) (v := (-9)) dX10_figureOf_35 rfl (by decide) ?_
  refine Vs_istore2 (q := 38) dX10_figureOf_37 rfl (by decide) rfl ?_
  refine Vj_iloadn (q := 39) dX10_figureOf_38 rfl rfl rfl ?_
  refine Vj_i2l (q := 40) dX10_figureOf_39 rfl ?_
  refine Vj_lconst (q := 41) (v := 0) dX10_figureOf_40 rfl (by decide) ?_
  refine Vj_ldc2 (q := 44) dX10_figureOf_41 rfl kcX10_87 ?_
  refine Vj_callSi (q := 47) (qX10_in _ _ _) (by decide) lkX10_74 stX10_in okX10_in dX10_figureOf_44 rfl rfl (Nat.le_of_ble_eq_true rfl) ?_
  rw [in_i (a := 0) (b := 9) rfl rfl, show iB (-9) 0 9 = false by decide]
  refine Vj_if_eq (q := 50) (tgt := 58) dX10_figureOf_47 (by decide) rfl (fun _ => ?_) (fun hz => absurd rfl hz)
  refine Vj_aloadn (q := 59) dX10_figureOf_58 rfl rfl rfl ?_
  refine Vj_aloadn (q := 60) dX10_figureOf_59 rfl rfl rfl ?_
  refine Vj_getI (q := 63) flX10_81 rfl rfl dX10_figureOf_60 rfl ?_
  rw [hf]
  refine Vj_bipush (q := 65) (v := (-9)) dX10_figureOf_63 rfl (by decide) ?_
  refine Vj_icmp_ne (q := 68) (tgt := 75) dX10_figureOf_65 (by decide) rfl (fun _ => ?_) (fun hz => absurd hz (nI_nm9 hf31))
  refine Vj_aloadn (q := 76) dX10_figureOf_75 rfl rfl rfl ?_
  refine Vj_getI (q := 79) flX10_81 rfl rfl dX10_figureOf_76 rfl ?_
  refine Vj_putI (q := 82) flX10_81 rfl rfl dX10_figureOf_79 rfl ?_
  rw [show uI σ 0 20 (σ.1 0 20) = σ from uI_id]
  refine Vj_iconst (q := 83) (v := 0) dX10_figureOf_82 rfl (by decide) ?_
  exact Vr_iret rfl rfl dX10_figureOf_83 (⟨rfl, rfl⟩)
def RdM (L F : List Nat) (B : List (Nat × Nat × Nat)) (σ : Mem) : Prop := σ.1 0 15 = nI L.length ∧ σ.1 0 16 = nI B.length ∧ (∀ t, t < L.length → σ.1 7 t = nI (L.getD t 0) ∧ σ.1 8 t = nI (F.getD t 0)) ∧ ∀ b, b < B.length → σ.1 9 (3 * b) = nI (B.getD b (0, 0, 0)).1 ∧ σ.1 9 (3 * b + 1) = nI (B.getD b (0, 0, 0)).2.1 ∧ σ.1 9 (3 * b + 2) = nI (B.getD b (0, 0, 0)).2.2
/-- only what reading holds may differ -/
def rdQ (q j : Nat) : Bool := q == 7 || q == 8 || q == 9 || (q == 0 && (j == 15 || j == 16 || j == 19 || j == 20))
def Eqr (σ σ' : Mem) : Prop := (∀ q j, rdQ q j = false → σ'.1 q j = σ.1 q j) ∧ σ'.2 = σ.2
theorem Eqr.rf {σ : Mem} : Eqr σ σ := ⟨fun _ _ _ => rfl, rfl⟩
theorem Eqr.tr {σ σ' σ'' : Mem} (h : Eqr σ σ') (h' : Eqr σ' σ'') : Eqr σ σ'' := ⟨fun q j hq => (h'.1 q j hq).trans (h.1 q j hq), h'.2.trans h.2⟩
theorem Eqr.u {σ σ' : Mem} {q j : Nat} {x : Int32} (h : Eqr σ σ') (hq : rdQ q j = true) : Eqr σ (uI σ' q j x) := by
  refine ⟨fun q' j' h' => ?_, h.2⟩
  by_cases e : q' = q
  · subst e
    rw [uI_eq, upd]
    by_cases e2 : j' = j
    · subst e2; rw [hq] at h'; cases h'
    · rw [if_neg e2]; exact h.1 _ _ h'
  · rw [uI_ne e]; exact h.1 _ _ h'
theorem Eqr.at {σ σ' : Mem} (h : Eqr σ σ') (q : Nat) (hq : (q == 7 || q == 8 || q == 9 || q == 0) = false) : σ'.1 q = σ.1 q := funext fun j => h.1 q j (by
  simp only [Bool.or_eq_false_iff] at hq
  unfold rdQ
  rw [hq.1.1.1, hq.1.1.2, hq.1.2, hq.2]; rfl)
theorem TxM.eqr {tx : List Nat} {σ σ' : Mem} (h : TxM tx σ) (hE : Eqr σ σ') : TxM tx σ' := h.of (hE.1 0 18 rfl) (hE.at 10 rfl)
theorem RM.eqr {tx : List Nat} {ρ : Rm} {c d p : Nat} {ac : List (Nat × Nat × Nat)} {sl : Nat → Option (Nat × Nat × Nat)} {se : List (Nat × Nat × Nat)} {sd : Int64} {σ σ' : Mem} (h : RM tx ρ c d p ac sl se sd σ) (hE : Eqr σ σ') : RM tx ρ c d p ac sl se sd σ' := by
  obtain ⟨hTx, hP, hTa, hNw, hAc, hSl, hSe, hSd⟩ := h
  exact ⟨hTx.eqr hE, hP.of (hE.1 0 0 rfl) (hE.1 0 1 rfl) (hE.1 0 2 rfl) (hE.at 1 rfl) (hE.at 2 rfl) (hE.at 3 rfl) (hE.at 4 rfl) (hE.at 5 rfl), hTa.of (hE.at 6 rfl), hNw.of (hE.1 0 9 rfl) (hE.1 0 10 rfl) (hE.1 0 11 rfl), hAc.of (hE.1 0 21 rfl) (hE.1 0 22 rfl) (hE.at 11 rfl), hSl.of (hE.at 18 rfl) (hE.at 19 rfl), hSe.of (hE.1 0 25 rfl) (hE.at 13 rfl) (hE.at 14 rfl) (hE.at 15 rfl), by rw [hE.2]; exact hSd⟩
theorem RdM.addT {L F : List Nat} {B : List (Nat × Nat × Nat)} {s i : Nat} {σ σ' : Mem} (h : RdM L F B σ) (hF : F.length = L.length) (h0 : σ'.1 0 15 = nI (L.length + 1)) (h1 : σ'.1 0 16 = σ.1 0 16) (h7 : σ'.1 7 = upd (σ.1 7) L.length (nI s)) (h8 : σ'.1 8 = upd (σ.1 8) L.length (nI i)) (h9 : σ'.1 9 = σ.1 9) : RdM (L ++ [s]) (F ++ [i]) B σ' := by
  obtain ⟨g0, g1, g2, g3⟩ := h
  refine ⟨by rw [h0, List.length_append]; rfl, by rw [h1, g1], fun t ht => ?_, fun b hb => by rw [h9]; exact g3 b hb⟩
  rw [List.length_append, List.length_singleton] at ht
  rw [h7, h8, upd, upd]
  by_cases e : t = L.length
  · subst e
    rw [if_pos rfl, if_pos rfl, getD_r]
    rw [← hF, getD_r]
    exact ⟨rfl, rfl⟩
  · rw [if_neg e, if_neg e, getD_l (by omega), getD_l (by omega)]
    exact g2 t (by omega)
theorem RdM.addB {L F : List Nat} {B : List (Nat × Nat × Nat)} {u : Nat × Nat × Nat} {σ σ' : Mem} (h : RdM L F B σ) (h0 : σ'.1 0 15 = σ.1 0 15) (h1 : σ'.1 0 16 = nI (B.length + 1)) (h7 : σ'.1 7 = σ.1 7) (h8 : σ'.1 8 = σ.1 8) (h9 : σ'.1 9 = upd (upd (upd (σ.1 9) (3 * B.length) (nI u.1)) (3 * B.length + 1) (nI u.2.1)) (3 * B.length + 2) (nI u.2.2)) : RdM L F (B ++ [u]) σ' := by
  obtain ⟨g0, g1, g2, g3⟩ := h
  refine ⟨by rw [h0, g0], by rw [h1, List.length_append]; rfl, fun t ht => by rw [h7, h8]; exact g2 t ht, fun b hb => ?_⟩
  rw [List.length_append, List.length_singleton] at hb
  rw [h9]
  simp only [upd]
  by_cases e : b = B.length
  · subst e
    rw [getD_r, if_neg (by omega), if_neg (by omega), if_pos rfl, if_neg (by omega), if_pos rfl, if_pos rfl]
    exact ⟨rfl, rfl, rfl⟩
  · rw [getD_l (by omega), if_neg (by omega), if_neg (by omega), if_neg (by omega), if_neg (by omega), if_neg (by omega), if_neg (by omega), if_neg (by omega), if_neg (by omega), if_neg (by omega)]
    exact g3 b (by omega)
/-- one part of a text -/
def stpR (tx : List Nat) (p : Nat) (L F : List Nat) (B : List (Nat × Nat × Nat)) : Nat ⊕ (Nat × List Nat × List Nat × List (Nat × Nat × Nat)) :=
  if tx.getD p 0 = 84 then (match pTh tx p L with
    | .inl g => .inl (p + g)
    | .inr u => .inr (p + 3, L ++ [u.1], F ++ [u.2], B))
  else if tx.getD p 0 = 66 then (match pBu tx p L B with
    | .inl g => .inl (p + g)
    | .inr u => .inr (p + 4, L, F, B ++ [u]))
  else .inl p
theorem pLoop_s {tx : List Nat} {n p : Nat} {L F : List Nat} {B : List (Nat × Nat × Nat)} (h : p < tx.length) : pLoop tx (n + 1) p L F B = match stpR tx p L F B with
    | .inl g => (some g, L, F, B)
    | .inr s => pLoop tx n s.1 s.2.1 s.2.2.1 s.2.2.2 := by
  rw [pLoop, if_neg (by omega)]
  unfold stpR
  by_cases e1 : tx.getD p 0 = 84
  · rw [if_pos e1, if_pos e1]
    cases pTh tx p L <;> rfl
  · rw [if_neg e1, if_neg e1]
    by_cases e2 : tx.getD p 0 = 66
    · rw [if_pos e2, if_pos e2]
      cases pBu tx p L B <;> rfl
    · rw [if_neg e2, if_neg e2]
def RpP (R : Nat ⊕ (Nat × List Nat × List Nat × List (Nat × Nat × Nat))) (σ0 : Mem) : Option Value → Mem → Prop := fun r σ' => r = none ∧ Eqr σ0 σ' ∧ match R with
  | .inl g => σ'.1 0 20 = nI g
  | .inr s => σ'.1 0 19 = nI s.1 ∧ σ'.1 0 20 = -9 ∧ RdM s.2.1 s.2.2.1 s.2.2.2 σ'
theorem fb_28 : ∀ v, v < 10 → (28 / 2 ^ v % 2 = 1 ↔ 2 ≤ v ∧ v ≤ 4) := by decide
theorem fb_n : ∀ n, n < 5 → ∀ v, v < 10 → ((2 ^ n - 1) / 2 ^ v % 2 = 1 ↔ v < n) := by decide +kernel
theorem fb_15 : ∀ v, v < 10 → (15 / 2 ^ v % 2 = 1 ↔ v < 4) ∧ (7 / 2 ^ v % 2 = 1 ↔ v < 3) := by decide
theorem fb_nt : ∀ n, n < 5 → ∀ t, t < n → (nI (2 ^ n - 1) &&& (((1 : Int32) <<< (nI t &&& 31)) ^^^ (-1)) = nI (2 ^ n - 1 - 2 ^ t)) ∧ ∀ v, v < 10 → ((2 ^ n - 1 - 2 ^ t) / 2 ^ v % 2 = 1 ↔ v < n ∧ v ≠ t) := by decide +kernel
theorem fb_1 : ∀ v, v < 10 → (1 / 2 ^ v % 2 = 1 ↔ v = 0) := by decide
theorem p2n : ∀ n, n < 5 → 2 ^ n - 1 < 16 ∧ 1 ≤ 2 ^ n := by decide
theorem fgA_n {tx : List Nat} {al p : Nat} (h : fgA tx al p = none) : fg tx p = none ∨ ∃ v, fg tx p = some v ∧ v < 10 ∧ ¬ al / 2 ^ v % 2 = 1 := by
  unfold fgA at h
  cases e : fg tx p with
  | none => exact Or.inl rfl
  | some v =>
    rw [e] at h
    refine Or.inr ⟨v, rfl, fg_le e, fun z => ?_⟩
    simp only [if_pos z] at h; cases h
theorem fgA_s {tx : List Nat} {al p v : Nat} (h : fgA tx al p = some v) : fg tx p = some v ∧ v < 10 ∧ al / 2 ^ v % 2 = 1 := by
  unfold fgA at h
  cases e : fg tx p with
  | none => rw [e] at h; cases h
  | some u =>
    rw [e] at h
    by_cases z : al / 2 ^ u % 2 = 1
    · simp only [if_pos z] at h; cases h; exact ⟨rfl, fg_le e, z⟩
    · simp only [if_neg z] at h; cases h
theorem pTh_1 {tx : List Nat} {p : Nat} {L : List Nat} (hL : L.length < 4) (h : fgA tx 28 (p + 1) = none) : pTh tx p L = .inl 1 := by
  unfold pTh
  rw [if_neg (by omega)]
  rcases fgA_n h with e | ⟨v, e, h1, h2⟩
  · rw [e]
  · rw [e]; simp only []
    rw [if_pos (by have : ¬ (2 ≤ v ∧ v ≤ 4) := fun z => h2 ((fb_28 v h1).mpr z); omega)]
theorem pTh_2 {tx : List Nat} {p s : Nat} {L : List Nat} (hL : L.length < 4) (h : fgA tx 28 (p + 1) = some s) : (2 ≤ s ∧ s ≤ 4) ∧ (fgA tx (2 ^ s - 1) (p + 2) = none → pTh tx p L = .inl 2) ∧ ∀ i, fgA tx (2 ^ s - 1) (p + 2) = some i → pTh tx p L = .inr (s, i) := by
  obtain ⟨e, h1, h2⟩ := fgA_s h
  have h3 := (fb_28 s h1).mp h2
  refine ⟨h3, fun g => ?_, fun i g => ?_⟩
  · unfold pTh
    rw [if_neg (by omega), e]; simp only []
    rw [if_neg (by omega)]
    rcases fgA_n g with g1 | ⟨v, g1, g2, g3⟩
    · rw [g1]
    · rw [g1]; simp only []
      rw [if_pos (by have : ¬ v < s := fun z => g3 ((fb_n s (by omega) v g2).mpr z); omega)]
  · obtain ⟨g1, g2, g3⟩ := fgA_s g
    unfold pTh
    rw [if_neg (by omega), e]; simp only []
    rw [if_neg (by omega), g1]; simp only []
    rw [if_neg (by have := (fb_n s (by omega) i g2).mp g3; omega)]
/-- what a may be -/
def mvR (L : List Nat) (t k : Nat) : Nat := if k = 1 then 2 ^ L.getD t 0 - 1 else if k = 3 then 2 ^ L.length - 1 - 2 ^ t else 1
def alR (L : List Nat) : Nat := if L.length ≤ 1 then 7 else 15
theorem pBu_1 {tx : List Nat} {p : Nat} {L : List Nat} {B : List (Nat × Nat × Nat)} (hL : L.length < 5) (hL0 : 0 < L.length) (hB : B.length < 6) (h : fgA tx (2 ^ L.length - 1) (p + 1) = none) : pBu tx p L B = .inl 1 := by
  unfold pBu
  rw [if_neg (by omega)]
  rcases fgA_n h with e | ⟨v, e, h1, h2⟩
  · rw [e]
  · rw [e]; simp only []
    rw [if_pos (by have : ¬ v < L.length := fun z => h2 ((fb_n _ hL v h1).mpr z); omega)]
theorem alR_b {L : List Nat} {k : Nat} (hk : k < 10) : alR L / 2 ^ k % 2 = 1 ↔ ¬ (3 < k ∨ (k = 3 ∧ L.length < 2)) := by
  unfold alR
  have := fb_15 k hk
  split
  · rw [this.2]; omega
  · rw [this.1]; omega
theorem pBu_2 {tx : List Nat} {p t : Nat} {L : List Nat} {B : List (Nat × Nat × Nat)} (hL : L.length < 5) (hL0 : 0 < L.length) (hB : B.length < 6) (h : fgA tx (2 ^ L.length - 1) (p + 1) = some t) : t < L.length ∧ (fgA tx (alR L) (p + 2) = none → pBu tx p L B = .inl 2) := by
  obtain ⟨e, h1, h2⟩ := fgA_s h
  have h3 := (fb_n _ hL t h1).mp h2
  refine ⟨h3, fun g => ?_⟩
  unfold pBu
  rw [if_neg (by omega), e]; simp only []
  rw [if_neg (by omega)]
  rcases fgA_n g with g1 | ⟨v, g1, g2, g3⟩
  · rw [g1]
  · rw [g1]; simp only []
    rw [if_pos (Decidable.byContradiction fun z => g3 ((alR_b g2).mpr z))]
theorem mvR_b {L : List Nat} {t k a : Nat} (hL : L.length < 5) (ht : t < L.length) (hs : L.getD t 0 < 5) (ha : a < 10) : mvR L t k / 2 ^ a % 2 = 1 ↔ mbX L t k a = true := by
  unfold mvR mbX
  by_cases e1 : k = 1
  · rw [if_pos e1, if_pos e1, decide_eq_true_iff]; exact fb_n _ hs a ha
  · rw [if_neg e1, if_neg e1]
    by_cases e3 : k = 3
    · rw [if_pos e3, if_pos e3, decide_eq_true_iff]; exact (fb_nt _ hL t ht).2 a ha
    · rw [if_neg e3, if_neg e3, decide_eq_true_iff]; exact fb_1 a ha
theorem pBu_3 {tx : List Nat} {p t k : Nat} {L : List Nat} {B : List (Nat × Nat × Nat)} (hL : L.length < 5) (hL0 : 0 < L.length) (hB : B.length < 6) (hs : ∀ t, t < L.length → L.getD t 0 < 5) (h : fgA tx (2 ^ L.length - 1) (p + 1) = some t) (hk : fgA tx (alR L) (p + 2) = some k) :
    k < 4 ∧ (fgA tx (mvR L t k) (p + 3) = none → pBu tx p L B = .inl 3) ∧ ∀ a, fgA tx (mvR L t k) (p + 3) = some a → pBu tx p L B = .inr (t, k, a) := by
  obtain ⟨e, h1, h2⟩ := fgA_s h
  have h3 := (fb_n _ hL t h1).mp h2
  obtain ⟨e4, h4, h5⟩ := fgA_s hk
  have h6 := (alR_b h4).mp h5
  refine ⟨by omega, fun g => ?_, fun a g => ?_⟩
  · unfold pBu
    rw [if_neg (by omega), e]; simp only []
    rw [if_neg (by omega), e4]; simp only []
    rw [if_neg h6]
    rcases fgA_n g with g1 | ⟨v, g1, g2, g3⟩
    · rw [g1]
    · rw [g1]; simp only []
      rw [if_neg (fun z => g3 ((mvR_b hL h3 (hs t h3) g2).mpr z))]
  · obtain ⟨g1, g2, g3⟩ := fgA_s g
    unfold pBu
    rw [if_neg (by omega), e]; simp only []
    rw [if_neg (by omega), e4]; simp only []
    rw [if_neg h6, g1]; simp only []
    rw [if_pos ((mvR_b hL h3 (hs t h3) g2).mp g3)]
theorem mv_lt {L : List Nat} {t k : Nat} (hL : L.length < 5) (hs : L.getD t 0 < 5) : mvR L t k < 64 := by
  have h1 := (p2n _ hL).1
  have h2 := (p2n _ hs).1
  unfold mvR
  split
  · omega
  · split
    · exact Nat.lt_of_le_of_lt (Nat.sub_le _ _) (by omega)
    · decide

