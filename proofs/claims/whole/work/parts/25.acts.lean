/-! the reference: frames -/
theorem TxM.of {tx : List Nat} {σ σ' : Mem} (h : TxM tx σ) (h0 : σ'.1 0 18 = σ.1 0 18) (h1 : σ'.1 10 = σ.1 10) : TxM tx σ' := by unfold TxM; rw [h0, h1]; exact h
theorem RoM.of {ρ : Rm} {σ σ' : Mem} (h : RoM ρ σ) (h0 : σ'.1 0 0 = σ.1 0 0) (h1 : σ'.1 0 1 = σ.1 0 1) (h2 : σ'.1 0 2 = σ.1 0 2) (g1 : σ'.1 1 = σ.1 1) (g2 : σ'.1 2 = σ.1 2) (g3 : σ'.1 3 = σ.1 3) (g4 : σ'.1 4 = σ.1 4) (g5 : σ'.1 5 = σ.1 5) : RoM ρ σ' := by unfold RoM; rw [h0, h1, h2, g1, g2, g3, g4, g5]; exact h
theorem TaM.of {ρ : Rm} {σ σ' : Mem} (h : TaM ρ σ) (h0 : σ'.1 6 = σ.1 6) : TaM ρ σ' := by unfold TaM; rw [h0]; exact h
theorem NwM.of {ρ : Rm} {c d p : Nat} {σ σ' : Mem} (h : NwM ρ c d p σ) (h0 : σ'.1 0 9 = σ.1 0 9) (h1 : σ'.1 0 10 = σ.1 0 10) (h2 : σ'.1 0 11 = σ.1 0 11) : NwM ρ c d p σ' := by unfold NwM; rw [h0, h1, h2]; exact h
theorem AcM.of {ρ : Rm} {ac : List (Nat × Nat × Nat)} {σ σ' : Mem} (h : AcM ρ ac σ) (h0 : σ'.1 0 21 = σ.1 0 21) (h1 : σ'.1 0 22 = σ.1 0 22) (h2 : σ'.1 11 = σ.1 11) : AcM ρ ac σ' := by unfold AcM; rw [h0, h1, h2]; exact h
theorem SlM.of {ρ : Rm} {sl : Nat → Option (Nat × Nat × Nat)} {σ σ' : Mem} (h : SlM ρ sl σ) (h0 : σ'.1 18 = σ.1 18) (h1 : σ'.1 19 = σ.1 19) : SlM ρ sl σ' := by unfold SlM; rw [h0, h1]; exact h
theorem SeM.of {se : List (Nat × Nat × Nat)} {σ σ' : Mem} (h : SeM se σ) (h0 : σ'.1 0 25 = σ.1 0 25) (h1 : σ'.1 13 = σ.1 13) (h2 : σ'.1 14 = σ.1 14) (h3 : σ'.1 15 = σ.1 15) : SeM se σ' := by unfold SeM; rw [h0, h1, h2, h3]; exact h
theorem pushA_g {ac : List (Nat × Nat × Nat)} {u : Nat × Nat × Nat} {i : Nat} (h : ac.length < 15) (hi : i + 1 < (pushA ac u).length) : (pushA ac u).getD i (0, 0, 0) = ac.getD (if ac.length = 14 then i + 1 else i) (0, 0, 0) := by
  rw [pushA_len h] at hi
  unfold pushA
  by_cases e : ac.length = 14
  · rw [if_pos e, if_pos e]
    rw [if_pos e] at hi
    rw [List.getD, List.getElem?_append_left (by rw [List.length_drop]; omega), List.getElem?_drop, Nat.add_comm, List.getD]
  · rw [if_neg e, if_neg e]
    rw [if_neg e] at hi
    rw [List.getD, List.getElem?_append_left (by omega), List.getD]
theorem pushA_e {ac : List (Nat × Nat × Nat)} {u : Nat × Nat × Nat} {i : Nat} (h : ac.length < 15) (hi : i + 1 = (pushA ac u).length) : (pushA ac u).getD i (0, 0, 0) = u := by
  rw [pushA_len h] at hi
  unfold pushA
  by_cases e : ac.length = 14
  · rw [if_pos e]
    rw [if_pos e] at hi
    rw [List.getD, List.getElem?_append_right (by rw [List.length_drop]; omega), List.length_drop, show i - (ac.length - 1) = 0 by omega]; rfl
  · rw [if_neg e]
    rw [if_neg e] at hi
    rw [List.getD, List.getElem?_append_right (by omega), show i - ac.length = 0 by omega]; rfl
theorem AcM.push {ρ : Rm} {ac : List (Nat × Nat × Nat)} {c d p nx : Nat} {σ σ' : Mem} (hl : ac.length < 15) (hn : nx < 14) (hA : ∀ i, i < ac.length → σ.1 11 (3 * ((nx + 14 - ac.length + i) % 14)) = nI (cm ρ (ac.getD i (0, 0, 0)).1) ∧ σ.1 11 (3 * ((nx + 14 - ac.length + i) % 14) + 1) = nI (cm ρ (ac.getD i (0, 0, 0)).2.1) ∧ σ.1 11 (3 * ((nx + 14 - ac.length + i) % 14) + 2) = nI (ac.getD i (0, 0, 0)).2.2)
    (h0 : σ'.1 0 21 = nI (pushA ac (c, d, p)).length) (h1 : σ'.1 0 22 = nI ((nx + 1) % 14)) (g0 : σ'.1 11 (3 * nx) = nI (cm ρ c)) (g1 : σ'.1 11 (3 * nx + 1) = nI (cm ρ d)) (g2 : σ'.1 11 (3 * nx + 2) = nI p) (g : ∀ j, j < 3 * nx ∨ 3 * nx + 3 ≤ j → σ'.1 11 j = σ.1 11 j) : AcM ρ (pushA ac (c, d, p)) σ' := by
  have hL := pushA_len (u := (c, d, p)) hl
  have hlt : (pushA ac (c, d, p)).length < 15 := by rw [hL]; split <;> omega
  refine ⟨h0, hlt, (nx + 1) % 14, Nat.mod_lt _ (by decide), h1, fun i hi => ?_⟩
  by_cases e : i + 1 = (pushA ac (c, d, p)).length
  · rw [pushA_e hl e]
    have ei : ((nx + 1) % 14 + 14 - (pushA ac (c, d, p)).length + i) % 14 = nx := by omega
    rw [ei]
    exact ⟨g0, g1, g2⟩
  · rw [pushA_g hl (by omega)]
    have hk : (if ac.length = 14 then i + 1 else i) < ac.length := by
      rw [hL] at hi e
      split at hi <;> simp_all <;> omega
    have ei : ((nx + 1) % 14 + 14 - (pushA ac (c, d, p)).length + i) % 14 = (nx + 14 - ac.length + (if ac.length = 14 then i + 1 else i)) % 14 := by
      rw [hL]
      split <;> omega
    have en : (nx + 14 - ac.length + (if ac.length = 14 then i + 1 else i)) % 14 ≠ nx := by
      rw [hL] at hi e
      split at hi <;> simp_all <;> omega
    rw [ei]
    have hh := hA _ hk
    generalize (if ac.length = 14 then i + 1 else i) = i' at *
    generalize (nx + 14 - ac.length + i') % 14 = y at *
    rw [g _ (by omega), g _ (by omega), g _ (by omega)]
    exact hh
theorem w3 {σ : Mem} {nx : Nat} {x y z : Int32} : (uI (uI (uI σ 11 (3 * nx) x) 11 (3 * nx + 1) y) 11 (3 * nx + 2) z).1 11 (3 * nx) = x ∧ (uI (uI (uI σ 11 (3 * nx) x) 11 (3 * nx + 1) y) 11 (3 * nx + 2) z).1 11 (3 * nx + 1) = y ∧ (uI (uI (uI σ 11 (3 * nx) x) 11 (3 * nx + 1) y) 11 (3 * nx + 2) z).1 11 (3 * nx + 2) = z ∧ ∀ j, j < 3 * nx ∨ 3 * nx + 3 ≤ j → (uI (uI (uI σ 11 (3 * nx) x) 11 (3 * nx + 1) y) 11 (3 * nx + 2) z).1 11 j = σ.1 11 j := by
  simp only [uI_eq, upd]
  refine ⟨?_, ?_, ?_, fun j hj => ?_⟩
  · rw [if_neg (by omega), if_neg (by omega), if_pos trivial]
  · rw [if_neg (by omega), if_pos trivial]
  · rw [if_pos trivial]
  · rw [if_neg (by omega), if_neg (by omega), if_neg (by omega)]

set_option maxRecDepth 100000 in
theorem qX10_keepAct {tx : List Nat} {ρ : Rm} {c d p : Nat} {ac : List (Nat × Nat × Nat)} {sl : Nat → Option (Nat × Nat × Nat)} {se : List (Nat × Nat × Nat)} {sd : Int64} {N : Nat} {σ : Mem} (h : RM tx ρ c d p ac sl se sd σ) (hv : okV N ρ c d p ac sl se) : Ct shM 0 mX10_keepAct [.ref 0] σ (fun r σ' => r = none ∧ RM tx ρ c d p (pushA ac (c, d, p)) sl se sd σ') := by
  obtain ⟨hr, hc, hd, hp, hN30, ⟨hal, hav⟩, hsv, hse⟩ := hv
  obtain ⟨hTx, hP, hTa, hNw, hAc, hSl, hSe, hSd⟩ := h
  have hM := mN_le hr
  have hcM := cm_lt hr hc
  have hdM := cm_lt hr hd
  have hn5 := hr.1
  have hB7 := hr.2.2.1
  have h : RM tx ρ c d p ac sl se sd σ := ⟨hTx, hP, hTa, hNw, hAc, hSl, hSe, hSd⟩
  obtain ⟨hA0, hA1, nx, hx, hA2, hA3⟩ := hAc
  have hpl := pushA_len (u := (c, d, p)) hA1
  refine Ct.of (by decide) (Nat.le_of_ble_eq_true rfl) (l := [some (.ref 0)]) rfl ?_
  refine Vj_aloadn (q := 1) dX10_keepAct_0 rfl rfl rfl ?_
  refine Vj_getR (q := 4) flX10_40 rfl rfl dX10_keepAct_1 rfl ?_
  refine Vj_iconst (q := 5) (v := 3) dX10_keepAct_4 rfl (by decide) ?_
  refine Vj_aloadn (q := 6) dX10_keepAct_5 rfl rfl rfl ?_
  refine Vj_getI (q := 9) flX10_150 rfl rfl dX10_keepAct_6 rfl ?_
  rw [hA2]
  refine Vj_imul (q := 10) dX10_keepAct_9 rfl ?_
  rw [show (3 : Int32) * nI nx = nI (3 * nx) by rw [show (3 : Int32) = nI 3 from rfl, nI_mul]]
  refine Vj_aloadn (q := 11) dX10_keepAct_10 rfl rfl rfl ?_
  refine Vj_getI (q := 14) flX10_117 rfl rfl dX10_keepAct_11 rfl ?_
  rw [hNw.1]
  refine Vj_iast (q := 15) rfl (vp_in_nI (by omega) (by decide)) dX10_keepAct_14 rfl ?_
  rw [nI_clamp (by omega)]
  generalize hs1 : uI σ 11 (3 * nx) (nI (cm ρ c)) = σ1
  refine Vj_aloadn (q := 16) dX10_keepAct_15 rfl rfl rfl ?_
  refine Vj_getR (q := 19) flX10_40 rfl rfl dX10_keepAct_16 rfl ?_
  refine Vj_iconst (q := 20) (v := 3) dX10_keepAct_19 rfl (by decide) ?_
  refine Vj_aloadn (q := 21) dX10_keepAct_20 rfl rfl rfl ?_
  refine Vj_getI (q := 24) flX10_150 rfl rfl dX10_keepAct_21 rfl ?_
  rw [show σ1.1 0 22 = nI nx by rw [← hs1]; exact hA2]
  refine Vj_imul (q := 25) dX10_keepAct_24 rfl ?_
  rw [show (3 : Int32) * nI nx = nI (3 * nx) by rw [show (3 : Int32) = nI 3 from rfl, nI_mul]]
  refine Vj_iconst (q := 26) (v := 1) dX10_keepAct_25 rfl (by decide) ?_
  refine Vj_iadd (q := 27) dX10_keepAct_26 rfl ?_
  rw [nI_1]
  refine Vj_aloadn (q := 28) dX10_keepAct_27 rfl rfl rfl ?_
  refine Vj_getI (q := 31) flX10_124 rfl rfl dX10_keepAct_28 rfl ?_
  rw [show σ1.1 0 10 = nI (cm ρ d) by rw [← hs1]; exact hNw.2.1]
  refine Vj_iast (q := 32) rfl (vp_in_nI (by omega) (by decide)) dX10_keepAct_31 rfl ?_
  rw [nI_clamp (by omega)]
  generalize hs2 : uI σ1 11 (3 * nx + 1) (nI (cm ρ d)) = σ2
  refine Vj_aloadn (q := 33) dX10_keepAct_32 rfl rfl rfl ?_
  refine Vj_getR (q := 36) flX10_40 rfl rfl dX10_keepAct_33 rfl ?_
  refine Vj_iconst (q := 37) (v := 3) dX10_keepAct_36 rfl (by decide) ?_
  refine Vj_aloadn (q := 38) dX10_keepAct_37 rfl rfl rfl ?_
  refine Vj_getI (q := 41) flX10_150 rfl rfl dX10_keepAct_38 rfl ?_
  rw [show σ2.1 0 22 = nI nx by rw [← hs2, ← hs1]; exact hA2]
  refine Vj_imul (q := 42) dX10_keepAct_41 rfl ?_
  rw [show (3 : Int32) * nI nx = nI (3 * nx) by rw [show (3 : Int32) = nI 3 from rfl, nI_mul]]
  refine Vj_iconst (q := 43) (v := 2) dX10_keepAct_42 rfl (by decide) ?_
  refine Vj_iadd (q := 44) dX10_keepAct_43 rfl ?_
  rw [show (2 : Int32) = nI 2 from rfl, nI_add]
  refine Vj_aloadn (q := 45) dX10_keepAct_44 rfl rfl rfl ?_
  refine Vj_getI (q := 48) flX10_127 rfl rfl dX10_keepAct_45 rfl ?_
  rw [show σ2.1 0 11 = nI p by rw [← hs2, ← hs1]; exact hNw.2.2]
  refine Vj_iast (q := 49) rfl (vp_in_nI (by omega) (by decide)) dX10_keepAct_48 rfl ?_
  rw [nI_clamp (by omega)]
  generalize hs3 : uI σ2 11 (3 * nx + 2) (nI p) = σ3
  refine Vj_aloadn (q := 50) dX10_keepAct_49 rfl rfl rfl ?_
  refine Vj_aloadn (q := 51) dX10_keepAct_50 rfl rfl rfl ?_
  refine Vj_getI (q := 54) flX10_150 rfl rfl dX10_keepAct_51 rfl ?_
  rw [show σ3.1 0 22 = nI nx by rw [← hs3, ← hs2, ← hs1]; exact hA2]
  refine Vj_iconst (q := 55) (v := 1) dX10_keepAct_54 rfl (by decide) ?_
  refine Vj_iadd (q := 56) dX10_keepAct_55 rfl ?_
  rw [nI_1]
  refine Vj_bipush (q := 58) (v := 14) dX10_keepAct_56 rfl (by decide) ?_
  refine Vj_irem (q := 59) dX10_keepAct_58 rfl (by decide) ?_
  rw [show nI (nx + 1) % 14 = nI ((nx + 1) % 14) from nI_mod (d := 14) (by omega) (by decide) (by decide)]
  refine Vj_putI (q := 62) flX10_150 rfl rfl dX10_keepAct_59 rfl ?_
  generalize hs4 : uI σ3 0 22 (nI ((nx + 1) % 14)) = σ4
  refine Vj_aloadn (q := 63) dX10_keepAct_62 rfl rfl rfl ?_
  refine Vj_aloadn (q := 64) dX10_keepAct_63 rfl rfl rfl ?_
  refine Vj_getI (q := 67) flX10_130 rfl rfl dX10_keepAct_64 rfl ?_
  rw [show σ4.1 0 21 = nI ac.length by rw [← hs4, ← hs3, ← hs2, ← hs1]; exact hA0]
  refine Vj_bipush (q := 69) (v := 14) dX10_keepAct_67 rfl (by decide) ?_
  refine Vj_icmp_ge (q := 72) (tgt := 81) dX10_keepAct_69 (by decide) rfl (fun h69 => ?_) (fun h69 => ?_)
  ·
    refine Vj_bipush (q := 83) (v := 14) dX10_keepAct_81 rfl (by decide) ?_
    have e14 : ac.length = 14 := by
      have := (nI_leI (a := 14) (by decide) (by omega)).mp h69
      omega
    have e : (14 : Int32) = nI (pushA ac (c, d, p)).length := by rw [hpl, if_pos e14]; rfl
    rw [e]
    refine Vj_putI (q := 86) flX10_130 rfl rfl dX10_keepAct_83 rfl ?_
    refine Vr_vret rfl dX10_keepAct_86 ?_
    subst hs1 hs2 hs3 hs4
    obtain ⟨w0, w1, w2, w4⟩ := w3 (σ := σ) (nx := nx) (x := nI (cm ρ c)) (y := nI (cm ρ d)) (z := nI p)
    exact ⟨rfl, hTx.of rfl rfl, hP.of rfl rfl rfl rfl rfl rfl rfl rfl, hTa.of rfl, hNw.of rfl rfl rfl, AcM.push hA1 hx hA3 (by simp [uI, upd]) (by simp [uI, upd]) w0 w1 w2 w4, hSl.of rfl rfl, hSe.of rfl rfl rfl rfl, hSd⟩
  ·
    refine Vj_aloadn (q := 73) dX10_keepAct_72 rfl rfl rfl ?_
    refine Vj_getI (q := 76) flX10_130 rfl rfl dX10_keepAct_73 rfl ?_
    rw [show σ4.1 0 21 = nI ac.length by rw [← hs4, ← hs3, ← hs2, ← hs1]; exact hA0]
    refine Vj_iconst (q := 77) (v := 1) dX10_keepAct_76 rfl (by decide) ?_
    refine Vj_iadd (q := 78) dX10_keepAct_77 rfl ?_
    rw [nI_1]
    refine Vj_goto (q := 83) dX10_keepAct_78 (by decide) ?_
    have e14 : ¬ ac.length = 14 := fun z => h69 (by rw [z]; decide)
    have e : nI (ac.length + 1) = nI (pushA ac (c, d, p)).length := by rw [hpl, if_neg e14]
    rw [e]
    refine Vj_putI (q := 86) flX10_130 rfl rfl dX10_keepAct_83 rfl ?_
    refine Vr_vret rfl dX10_keepAct_86 ?_
    subst hs1 hs2 hs3 hs4
    obtain ⟨w0, w1, w2, w4⟩ := w3 (σ := σ) (nx := nx) (x := nI (cm ρ c)) (y := nI (cm ρ d)) (z := nI p)
    exact ⟨rfl, hTx.of rfl rfl, hP.of rfl rfl rfl rfl rfl rfl rfl rfl, hTa.of rfl, hNw.of rfl rfl rfl, AcM.push hA1 hx hA3 (by simp [uI, upd]) (by simp [uI, upd]) w0 w1 w2 w4, hSl.of rfl rfl, hSe.of rfl rfl rfl rfl, hSd⟩
