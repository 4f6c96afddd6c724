/-! what each call answers, and what it leaves -/
def PX (v : Int32) (tx : List Nat) (ρ : Rm) (c d p : Nat) (ac : List (Nat × Nat × Nat)) (sl : Nat → Option (Nat × Nat × Nat)) (se : List (Nat × Nat × Nat)) (sd : Int64) : Option Value → Mem → Prop := fun r σ' => r = some (.int v) ∧ RX tx ρ c d p ac sl se sd σ'
def spWrite (tx : List Nat) (x : Int32) : Int32 × List Nat := if x < 0 ∨ 255 < x then (-2, tx) else if 44 ≤ tx.length then (-4, tx) else (nI (tx.length + 1), tx ++ [x.toNatClampNeg])
def spThing (ρ : Rm) (c d : Nat) (x what : Int32) : Int32 := if hT (rN ρ) x then (if what = 0 then nI (rS ρ x.toNatClampNeg) else if what = 1 then nI (cS (rN ρ) c x.toNatClampNeg) else if what = 2 then nI (cS (rN ρ) d x.toNatClampNeg) else -2) else -1
def spButton (ρ : Rm) (x what : Int32) : Int32 := if hT (rB ρ) x then (if what = 0 then nI (rT ρ x.toNatClampNeg) else if what = 1 then nI (rK ρ x.toNatClampNeg) else if what = 2 then nI (rA ρ x.toNatClampNeg) else -2) else -1
/-- the number told, and: what is, what is believed, presses, acts -/
abbrev SpA : Type := Int32 × Nat × Nat × Nat × List (Nat × Nat × Nat)
def spPress (ρ : Rm) (c d p : Nat) (ac : List (Nat × Nat × Nat)) (x : Int32) : SpA := if hT (rB ρ) x then (nI (cDg (rN ρ) (cNx ρ c x.toNatClampNeg) (rN ρ)), cNx ρ c x.toNatClampNeg, cNx ρ d x.toNatClampNeg, p + 1, pushA ac (c, d, p)) else (-1, c, d, p, ac)
def spMiss (ρ : Rm) (c d p : Nat) (ac : List (Nat × Nat × Nat)) (x : Int32) : SpA := if hT (rB ρ) x then (nI (cDg (rN ρ) (cNx ρ d x.toNatClampNeg) (rN ρ)), c, cNx ρ d x.toNatClampNeg, p + 1, pushA ac (c, d, p)) else (-1, c, d, p, ac)
def spStep (ρ : Rm) (c d p : Nat) (ac : List (Nat × Nat × Nat)) (x : Int32) : SpA := if hT (rN ρ) x then (nI (cS (rN ρ) (cStp ρ c x.toNatClampNeg) x.toNatClampNeg), cStp ρ c x.toNatClampNeg, d, p, pushA ac (c, d, p)) else (-1, c, d, p, ac)
def dfN (n c d : Nat) : Nat → Nat
  | 0 => 0
  | k + 1 => dfN n c d k + if cS n c k = cS n d k then 0 else 1
def spFind (ρ : Rm) (c d p : Nat) (ac : List (Nat × Nat × Nat)) : SpA := if dfN (rN ρ) c d (rN ρ) = 0 then (-3, c, d, p, ac) else (nI (dfN (rN ρ) c d (rN ρ)), c, c, p, pushA ac (c, d, p))
def spUndo (c d p : Nat) (ac : List (Nat × Nat × Nat)) : SpA := if ac.length = 0 then (-3, c, d, p, ac) else (nI (ac.length - 1), (ac.getD (ac.length - 1) (0, 0, 0)).1, (ac.getD (ac.length - 1) (0, 0, 0)).2.1, (ac.getD (ac.length - 1) (0, 0, 0)).2.2, ac.take (ac.length - 1))
def slSet (sl : Nat → Option (Nat × Nat × Nat)) (j : Nat) (u : Nat × Nat × Nat) : Nat → Option (Nat × Nat × Nat) := fun i => if i = j then some u else sl i
def spKeep (c d p : Nat) (sl : Nat → Option (Nat × Nat × Nat)) (x : Int32) : Int32 × (Nat → Option (Nat × Nat × Nat)) := if hT 2 x then (nI p, slSet sl x.toNatClampNeg (c, d, p)) else (-1, sl)
def spAgain (c d p : Nat) (ac : List (Nat × Nat × Nat)) (sl : Nat → Option (Nat × Nat × Nat)) (x : Int32) : SpA := if hT 2 x then (match sl x.toNatClampNeg with
  | some u => (nI u.2.2, u.1, u.2.1, u.2.2, [])
  | none => (-3, c, d, p, ac)) else (-1, c, d, p, ac)
def spCount (tx : List Nat) (ρ : Rm) (c d p : Nat) (ac : List (Nat × Nat × Nat)) (se : List (Nat × Nat × Nat)) (x : Int32) : Int32 :=
  if x = 0 then nI tx.length else if x = 1 then nI (rN ρ) else if x = 2 then nI (rB ρ) else if x = 3 then nI (cDg (rN ρ) c (rN ρ)) else if x = 4 then nI (cDg (rN ρ) d (rN ρ)) else if x = 5 then nI (cLi (rN ρ) c (rN ρ)) else if x = 6 then nI p else if x = 7 then nI ac.length else if x = 8 then nI se.length else -2
/-- is row a number of n figures at most, and none of them before nothing -/
def isR (n : Nat) (row : Int32) : Bool := decide (0 ≤ row ∧ row < nI (10 ^ n))
def spSee (se : List (Nat × Nat × Nat)) (n row lights : Int32) : Int32 × List (Nat × Nat × Nat) :=
  if n < 0 ∨ 3 < n ∨ isR n.toNatClampNeg row = false ∨ lights < 0 ∨ 15 < lights then (-2, se) else if 6 ≤ se.length then (-4, se) else (nI (se.length + 1), se ++ [(n.toNatClampNeg, row.toNatClampNeg, lights.toNatClampNeg)])
def spRoom (tx : List Nat) : Option Rm := if (pText tx).1 = none then some ((pText tx).2.1, (pText tx).2.2.2) else none
def spC0 (tx : List Nat) : Nat := cFi (pText tx).2.1.length (fun t => (pText tx).2.2.1.getD t 0) (pText tx).2.1.length
theorem tens_at : ∀ k, k < 7 → tTENS k = nI (10 ^ k) := by decide +kernel
theorem oI_c {ρ : Rm} (hr : okR ρ) {c : Nat} (hc : c < 4 ^ rN ρ) : ¬ oI (some c) = -1 := by
  have := p4_le hr.1
  rw [oI_m1 (fun k z => by cases z; omega)]
  intro z; cases z
theorem hT_x {n : Nat} (hn : n < 2 ^ 31) {x : Int32} (h : hT n x = true) : ∃ j, j < n ∧ x = nI j ∧ x.toNatClampNeg = j := by
  obtain ⟨j, hj, rfl⟩ := (hT_iff hn).mp h
  exact ⟨j, hj, rfl, nI_clamp (by omega)⟩
theorem mess_c {ρ : Rm} {σ : Mem} (hT : RT ρ σ) {c : Nat} (hc : c < 4 ^ rN ρ) (ho : cOk ρ c = true) : σ.1 17 c = nI (cDg (rN ρ) c (rN ρ)) := by
  rw [(hT.2 c hc).1, if_pos ho]
/-- a text's fault is a small number -/
theorem pTh_l {tx : List Nat} {p g : Nat} {L : List Nat} (eT : pTh tx p L = .inl g) : g < 3 := by
  unfold pTh at eT
  repeat' (split at eT)
  all_goals (cases eT; try omega)
theorem pBu_l {tx : List Nat} {p g : Nat} {L : List Nat} {B : List (Nat × Nat × Nat)} (eT : pBu tx p L B = .inl g) : g < 4 := by
  unfold pBu at eT
  repeat' (split at eT)
  all_goals (cases eT; try omega)
theorem pLoop_lt {tx : List Nat} (h : tx.length ≤ 44) : ∀ n p L F B q, (pLoop tx n p L F B).1 = some q → q < 50
  | 0, p, L, F, B, q, e => by cases e
  | n + 1, p, L, F, B, q, e => by
    rw [pLoop] at e
    split at e
    · cases e
    · split at e
      · cases eT : pTh tx p L with
        | inl g =>
          rw [eT] at e
          cases e
          have := pTh_l eT
          omega
        | inr u => rw [eT] at e; exact pLoop_lt h n _ _ _ _ q e
      · split at e
        · cases eT : pBu tx p L B with
          | inl g =>
            rw [eT] at e
            cases e
            have := pBu_l eT
            omega
          | inr u => rw [eT] at e; exact pLoop_lt h n _ _ _ _ q e
        · cases e; omega
theorem fI_9 {tx : List Nat} (h : tx.length ≤ 44) : fI (pText tx).1 = -9 ↔ (pText tx).1 = none := by
  cases e : (pText tx).1 with
  | none => exact ⟨fun _ => rfl, fun _ => rfl⟩
  | some q =>
    have hq : q < 50 := by
      unfold pText at e
      split at e
      · exact pLoop_lt h _ _ _ _ _ q e
      · cases e; decide
    refine ⟨fun z => ?_, fun z => (by cases z)⟩
    have h1 := nI_pos' (n := q) (by omega)
    rw [show nI q = -9 from z] at h1
    exact absurd h1 (by decide)
theorem cS_0 {n t : Nat} : cS n 0 t = 0 := by simp [cS]
theorem cS_fi {n : Nat} (hn : n < 5) {F : Nat → Nat} (hF : ∀ t, t < n → F t < 4) : ∀ k, k ≤ n → ∀ t, t < n → cS n (cFi n F k) t = if t < k then F t else 0
  | 0, _, t, _ => by rw [cFi, cS_0, if_neg (Nat.not_lt_zero t)]
  | k + 1, hk, t, ht => by
    rw [cFi, cS_cW n hn _ (cFi_lt hn hF k (by omega)) k (by omega) _ (hF k (by omega)) t ht, cS_fi hn hF k (by omega) t ht]
    by_cases e : t = k
    · subst e; rw [if_pos rfl, if_pos (by omega)]
    · rw [if_neg e]
      by_cases e2 : t < k
      · rw [if_pos e2, if_pos (by omega)]
      · rw [if_neg e2, if_neg (by omega)]

set_option maxRecDepth 100000 in
theorem qX9_write {tx : List Nat} {ρ : Rm} {c d p : Nat} {ac : List (Nat × Nat × Nat)} {sl : Nat → Option (Nat × Nat × Nat)} {se : List (Nat × Nat × Nat)} {sd : Int64} {N : Nat} {σ : Mem} (h : RX tx ρ c d p ac sl se sd σ) (hv : okV N ρ c d p ac sl se) (x : Int32) : Ct shX 2 mX9_write [.ref 0, .int x] σ (PX ((spWrite tx x).1) (spWrite tx x).2 ρ c d p ac sl se sd) := by
  obtain ⟨hr, ⟨hc, hco⟩, ⟨hd, hdo⟩, hp, hN30, ⟨hal, hav⟩, hsv, hse⟩ := hv
  obtain ⟨hTx, hP, hTa, hRE, hNw, hAc, hSl, hSe, hSd⟩ := h
  have hp4 := p4_le hr.1
  have hn5 := hr.1
  have hB7 := hr.2.2.1
  have h : RX tx ρ c d p ac sl se sd σ := ⟨hTx, hP, hTa, hRE, hNw, hAc, hSl, hSe, hSd⟩
  refine Ct.of (by decide) (Nat.le_of_ble_eq_true rfl) (l := [some (.ref 0), some (.int x)]) rfl ?_
  refine Vj_iloadn (q := 1) dX9_write_0 rfl rfl rfl ?_
  refine Vj_if_lt (q := 4) (tgt := 11) dX9_write_1 (by decide) rfl (fun h1 => ?_) (fun h1 => ?_)
  ·
    refine Vj_bipush (q := 13) (v := (-2)) dX9_write_11 rfl (by decide) ?_
    refine Vr_iret rfl rfl dX9_write_13 ?_
    have e : spWrite tx x = (-2, tx) := by
      rw [spWrite, if_pos (Or.inl h1)]
    rw [e]
    exact ⟨rfl, h⟩
  ·
    refine Vj_iloadn (q := 5) dX9_write_4 rfl rfl rfl ?_
    refine Vj_sipush (q := 8) (v := 255) dX9_write_5 rfl (by decide) ?_
    refine Vj_icmp_le (q := 11) (tgt := 14) dX9_write_8 (by decide) rfl (fun h8 => ?_) (fun h8 => ?_)
    ·
      have hx : ¬ (x < 0 ∨ 255 < x) := by
        rintro (z | z)
        · exact h1 z
        · exact Int32.not_le.mpr z h8
      refine Vj_aloadn (q := 15) dX9_write_14 rfl rfl rfl ?_
      refine Vj_getR (q := 18) flX9_10 rfl rfl dX9_write_15 rfl ?_
      refine Vj_callVi (q := 21) (qX8_isFull hTx) (by decide) rfl rfl lkX9_87 viX8_isFull okX8_isFull dX9_write_18 rfl rfl (Nat.le_of_ble_eq_true rfl) ?_
      refine Vj_if_eq (q := 24) (tgt := 27) dX9_write_21 (by decide) rfl (fun h21 => ?_) (fun h21 => ?_)
      ·
        have h44 : ¬ 44 ≤ tx.length := of_decide_eq_false (bI_z.mp h21)
        obtain ⟨j, hj, rfl⟩ := nI_of h1
        have hj256 : j < 256 := by have := (nI_leI (b := 255) hj (by decide)).mp h8; omega
        have ecl : (nI j).toNatClampNeg = j := nI_clamp hj
        have hT2 : Tx (tx ++ [(nI j).toNatClampNeg]) (uI (uI σ 2 tx.length (nI j)) 1 1 (nI (tx.length + 1))) := by
          refine ⟨by simp [uI, upd], by rw [List.length_append, List.length_singleton]; omega, fun i hi => ?_⟩
          rw [List.length_append, List.length_singleton] at hi
          rw [uI_ne (by decide), uI_eq, upd, ecl]
          by_cases e : i = tx.length
          · subst e
            rw [if_pos rfl, getD_r]
            exact ⟨rfl, hj256⟩
          · rw [if_neg e, getD_l (by omega)]
            exact hTx.2.2 i (by omega)
        refine Vj_aloadn (q := 28) dX9_write_27 rfl rfl rfl ?_
        refine Vj_getR (q := 31) flX9_10 rfl rfl dX9_write_28 rfl ?_
        refine Vj_iloadn (q := 32) dX9_write_31 rfl rfl rfl ?_
        refine Vj_callVv (q := 35) (qX8_append hTx (by omega) _) (by decide) rfl rfl lkX9_91 viX8_append okX8_append dX9_write_32 rfl rfl (Nat.le_of_ble_eq_true rfl) ?_
        refine Vj_aloadn (q := 36) dX9_write_35 rfl rfl rfl ?_
        refine Vj_getR (q := 39) flX9_10 rfl rfl dX9_write_36 rfl ?_
        refine Vj_callVi (q := 42) (qX8_size hT2) (by decide) rfl rfl lkX9_94 viX8_size okX8_size dX9_write_39 rfl rfl (Nat.le_of_ble_eq_true rfl) ?_
        refine Vr_iret rfl rfl dX9_write_42 ?_
        have e : spWrite tx (nI j) = (nI (tx.length + 1), tx ++ [(nI j).toNatClampNeg]) := by
          rw [spWrite, if_neg hx, if_neg h44]
        rw [e]
        refine ⟨by rw [List.length_append]; rfl, h.text ((Eqo.rf.u rfl).u rfl) hT2⟩
      ·
        refine Vj_bipush (q := 26) (v := (-4)) dX9_write_24 rfl (by decide) ?_
        refine Vr_iret rfl rfl dX9_write_26 ?_
        have e : spWrite tx x = (-4, tx) := by
          rw [spWrite, if_neg hx, if_pos (of_decide_eq_true (bI_n.mp h21))]
        rw [e]
        exact ⟨rfl, h⟩
    ·
      refine Vj_bipush (q := 13) (v := (-2)) dX9_write_11 rfl (by decide) ?_
      refine Vr_iret rfl rfl dX9_write_13 ?_
      have e : spWrite tx x = (-2, tx) := by
        rw [spWrite, if_pos (Or.inr (Int32.not_le.mp h8))]
      rw [e]
      exact ⟨rfl, h⟩
set_option maxRecDepth 100000 in
theorem qX9_wipe {tx : List Nat} {ρ : Rm} {c d p : Nat} {ac : List (Nat × Nat × Nat)} {sl : Nat → Option (Nat × Nat × Nat)} {se : List (Nat × Nat × Nat)} {sd : Int64} {N : Nat} {σ : Mem} (h : RX tx ρ c d p ac sl se sd σ) (hv : okV N ρ c d p ac sl se) : Ct shX 1 mX9_wipe [.ref 0] σ (PX (nI tx.length) [] ρ c d p ac sl se sd) := by
  obtain ⟨hr, ⟨hc, hco⟩, ⟨hd, hdo⟩, hp, hN30, ⟨hal, hav⟩, hsv, hse⟩ := hv
  obtain ⟨hTx, hP, hTa, hRE, hNw, hAc, hSl, hSe, hSd⟩ := h
  have hp4 := p4_le hr.1
  have hn5 := hr.1
  have hB7 := hr.2.2.1
  have h : RX tx ρ c d p ac sl se sd σ := ⟨hTx, hP, hTa, hRE, hNw, hAc, hSl, hSe, hSd⟩
  refine Ct.of (by decide) (Nat.le_of_ble_eq_true rfl) (l := [some (.ref 0), none]) rfl ?_
  refine Vj_aloadn (q := 1) dX9_wipe_0 rfl rfl rfl ?_
  refine Vj_getR (q := 4) flX9_10 rfl rfl dX9_wipe_1 rfl ?_
  refine Vj_callVi (q := 7) (qX8_size hTx) (by decide) rfl rfl lkX9_94 viX8_size okX8_size dX9_wipe_4 rfl rfl (Nat.le_of_ble_eq_true rfl) ?_
  refine Vs_istore1 (q := 8) dX9_wipe_7 rfl (by decide) rfl ?_
  refine Vj_aloadn (q := 9) dX9_wipe_8 rfl rfl rfl ?_
  refine Vj_getR (q := 12) flX9_10 rfl rfl dX9_wipe_9 rfl ?_
  refine Vj_callVv (q := 15) (qX8_empty) (by decide) rfl rfl lkX9_98 viX8_empty okX8_empty dX9_wipe_12 rfl rfl (Nat.le_of_ble_eq_true rfl) ?_
  refine Vj_iloadn (q := 16) dX9_wipe_15 rfl rfl rfl ?_
  refine Vr_iret rfl rfl dX9_wipe_16 ?_
  refine ⟨rfl, h.text (Eqo.rf.u rfl) ⟨by simp [uI, upd, nI_0], by simp, fun i hi => absurd hi (Nat.not_lt_zero i)⟩⟩
set_option maxRecDepth 100000 in
theorem qX9_fault {tx : List Nat} {ρ : Rm} {c d p : Nat} {ac : List (Nat × Nat × Nat)} {sl : Nat → Option (Nat × Nat × Nat)} {se : List (Nat × Nat × Nat)} {sd : Int64} {N : Nat} {σ : Mem} (h : RX tx ρ c d p ac sl se sd σ) (hv : okV N ρ c d p ac sl se) : Ct shX 5 mX9_fault [.ref 0] σ (PX (fI (pText tx).1) tx ρ c d p ac sl se sd) := by
  obtain ⟨hr, ⟨hc, hco⟩, ⟨hd, hdo⟩, hp, hN30, ⟨hal, hav⟩, hsv, hse⟩ := hv
  obtain ⟨hTx, hP, hTa, hRE, hNw, hAc, hSl, hSe, hSd⟩ := h
  have hp4 := p4_le hr.1
  have hn5 := hr.1
  have hB7 := hr.2.2.1
  have h : RX tx ρ c d p ac sl se sd σ := ⟨hTx, hP, hTa, hRE, hNw, hAc, hSl, hSe, hSd⟩
  refine Ct.of (by decide) (Nat.le_of_ble_eq_true rfl) (l := [some (.ref 0)]) rfl ?_
  refine Vj_aloadn (q := 1) dX9_fault_0 rfl rfl rfl ?_
  refine Vj_getR (q := 4) flX9_19 rfl rfl dX9_fault_1 rfl ?_
  refine Vj_aloadn (q := 5) dX9_fault_4 rfl rfl rfl ?_
  refine Vj_getR (q := 8) flX9_10 rfl rfl dX9_fault_5 rfl ?_
  refine Vj_callV (q := 11) (qX3_firstFault hTx) (by decide) rfl rfl lkX9_101 viX3_firstFault okX3_firstFault dX9_fault_8 rfl rfl (Nat.le_of_ble_eq_true rfl) ?_
  rintro r1 σ1 ⟨rfl, g1, g2⟩
  show Vj shX 5 mX9_fault _ 11 _ [.int (fI (pText tx).1)] σ1
  exact Vr_iret rfl rfl dX9_fault_11 (⟨rfl, h.eqc (g2.c rfl)⟩)
/-- behind room -/
def RoP (tx : List Nat) (ρ : Rm) (c d p : Nat) (ac : List (Nat × Nat × Nat)) (sl : Nat → Option (Nat × Nat × Nat)) (se : List (Nat × Nat × Nat)) (sd : Int64) : Option Value → Mem → Prop :=
  match spRoom tx with
  | none => PX (-3) tx ρ c d p ac sl se sd
  | some ρ' => PX (nI (10 * rN ρ' + rB ρ')) tx ρ' (spC0 tx) (spC0 tx) 0 [] (fun _ => none) se sd
set_option maxRecDepth 100000 in
theorem qX9_room {tx : List Nat} {ρ : Rm} {c d p : Nat} {ac : List (Nat × Nat × Nat)} {sl : Nat → Option (Nat × Nat × Nat)} {se : List (Nat × Nat × Nat)} {sd : Int64} {N : Nat} {σ : Mem} (h : RX tx ρ c d p ac sl se sd σ) (hv : okV N ρ c d p ac sl se) : Ct shX 6 mX9_room [.ref 0] σ (RoP tx ρ c d p ac sl se sd) := by
  obtain ⟨hr, ⟨hc, hco⟩, ⟨hd, hdo⟩, hp, hN30, ⟨hal, hav⟩, hsv, hse⟩ := hv
  obtain ⟨hTx, hP, hTa, hRE, hNw, hAc, hSl, hSe, hSd⟩ := h
  have hp4 := p4_le hr.1
  have hn5 := hr.1
  have hB7 := hr.2.2.1
  have h : RX tx ρ c d p ac sl se sd σ := ⟨hTx, hP, hTa, hRE, hNw, hAc, hSl, hSe, hSd⟩
  refine Ct.of (by decide) (Nat.le_of_ble_eq_true rfl) (l := [some (.ref 0)]) rfl ?_
  refine Vj_aloadn (q := 1) dX9_room_0 rfl rfl rfl ?_
  refine Vj_getR (q := 4) flX9_19 rfl rfl dX9_room_1 rfl ?_
  refine Vj_aloadn (q := 5) dX9_room_4 rfl rfl rfl ?_
  refine Vj_getR (q := 8) flX9_10 rfl rfl dX9_room_5 rfl ?_
  refine Vj_callV (q := 11) (qX3_firstFault hTx) (by decide) rfl rfl lkX9_101 viX3_firstFault okX3_firstFault dX9_room_8 rfl rfl (Nat.le_of_ble_eq_true rfl) ?_
  rintro r1 σ1 ⟨rfl, g1, g2⟩
  show Vj shX 6 mX9_room _ 11 _ [.int (fI (pText tx).1)] σ1
  have hPO := pText_PO tx
  refine Vj_bipush (q := 13) (v := (-9)) dX9_room_11 rfl (by decide) ?_
  refine Vj_icmp_eq (q := 16) (tgt := 19) dX9_room_13 (by decide) rfl (fun h13 => ?_) (fun h13 => ?_)
  ·
    have hnone := (fI_9 hTx.2.1).mp h13
    have hr2 : okR ((pText tx).2.1, (pText tx).2.2.2) := hPO.1
    refine Vj_aloadn (q := 20) dX9_room_19 rfl rfl rfl ?_
    refine Vj_getR (q := 23) flX9_26 rfl rfl dX9_room_20 rfl ?_
    refine Vj_aloadn (q := 24) dX9_room_23 rfl rfl rfl ?_
    refine Vj_getR (q := 27) flX9_19 rfl rfl dX9_room_24 rfl ?_
    refine Vj_getR (q := 30) flX9_105 rfl rfl dX9_room_27 rfl ?_
    refine Vj_callV (q := 33) (qX2_make hr2 PSh_4 (Or.inl (by decide)) hPO.2.1 g1) (by decide) rfl rfl lkX9_80 viX2_make okX2_make dX9_room_30 rfl rfl (Nat.le_of_ble_eq_true rfl) ?_
    rintro r2 σ2 ⟨rfl, hP2, hT2, hF2, hE2⟩
    show Vj shX 6 mX9_room _ 33 _ [] σ2
    refine Vj_aloadn (q := 34) dX9_room_33 rfl rfl rfl ?_
    refine Vj_getR (q := 37) flX9_33 rfl rfl dX9_room_34 rfl ?_
    refine Vj_aloadn (q := 38) dX9_room_37 rfl rfl rfl ?_
    refine Vj_getR (q := 41) flX9_26 rfl rfl dX9_room_38 rfl ?_
    refine Vj_callV (q := 44) (qX1_make hP2 hT2) (by decide) rfl rfl lkX9_84 viX1_make okX1_make dX9_room_41 rfl rfl (Nat.le_of_ble_eq_true rfl) ?_
    rintro r3 σ3 ⟨rfl, hR3, hE3⟩
    show Vj shX 6 mX9_room _ 44 _ [] σ3
    have hP3 := hP2.eqo hE3 rfl
    have hT3 := hT2.eqo hE3 rfl
    have hF3 : ∀ t, t < rN ((pText tx).2.1, (pText tx).2.2.2) → σ3.1 13 t = nI ((fun t => (pText tx).2.2.1.getD t 0) t) := fun t ht => by rw [hE3.at 13 rfl]; exact hF2 t ht
    have hF4 : ∀ t, t < rN ((pText tx).2.1, (pText tx).2.2.2) → (fun t => (pText tx).2.2.1.getD t 0) t < 4 := fun t ht => by
      have z1 := hPO.2.2 t ht
      have z2 := (hr2.2.1 t ht).2
      simp only [rS] at z2
      show (pText tx).2.2.1.getD t 0 < 4
      omega
    refine Vj_aloadn (q := 45) dX9_room_44 rfl rfl rfl ?_
    refine Vj_getR (q := 48) flX9_47 rfl rfl dX9_room_45 rfl ?_
    refine Vj_aloadn (q := 49) dX9_room_48 rfl rfl rfl ?_
    refine Vj_getR (q := 52) flX9_26 rfl rfl dX9_room_49 rfl ?_
    refine Vj_callVi (q := 55) (qX2_firstCode hP3 hF4 hF3) (by decide) rfl rfl lkX9_109 viX2_firstCode okX2_firstCode dX9_room_52 rfl rfl (Nat.le_of_ble_eq_true rfl) ?_
    refine Vj_putI (q := 58) flX9_112 rfl rfl dX9_room_55 rfl ?_
    refine Vj_aloadn (q := 59) dX9_room_58 rfl rfl rfl ?_
    refine Vj_getR (q := 62) flX9_47 rfl rfl dX9_room_59 rfl ?_
    refine Vj_aloadn (q := 63) dX9_room_62 rfl rfl rfl ?_
    refine Vj_getR (q := 66) flX9_47 rfl rfl dX9_room_63 rfl ?_
    refine Vj_getI (q := 69) flX9_112 rfl rfl dX9_room_66 rfl ?_
    rw [show (uI σ3 27 0 (nI (cFi (rN ((pText tx).2.1, (pText tx).2.2.2)) (fun t => (pText tx).2.2.1.getD t 0) (rN ((pText tx).2.1, (pText tx).2.2.2))))).1 27 0 = nI (cFi (rN ((pText tx).2.1, (pText tx).2.2.2)) (fun t => (pText tx).2.2.1.getD t 0) (rN ((pText tx).2.1, (pText tx).2.2.2))) by simp [uI, upd]]
    refine Vj_putI (q := 72) flX9_116 rfl rfl dX9_room_69 rfl ?_
    refine Vj_aloadn (q := 73) dX9_room_72 rfl rfl rfl ?_
    refine Vj_getR (q := 76) flX9_47 rfl rfl dX9_room_73 rfl ?_
    refine Vj_iconst (q := 77) (v := 0) dX9_room_76 rfl (by decide) ?_
    refine Vj_putI (q := 80) flX9_119 rfl rfl dX9_room_77 rfl ?_
    refine Vj_aloadn (q := 81) dX9_room_80 rfl rfl rfl ?_
    refine Vj_iconst (q := 82) (v := 0) dX9_room_81 rfl (by decide) ?_
    refine Vj_putI (q := 85) flX9_121 rfl rfl dX9_room_82 rfl ?_
    refine Vj_aloadn (q := 86) dX9_room_85 rfl rfl rfl ?_
    refine Vj_getR (q := 89) flX9_60 rfl rfl dX9_room_86 rfl ?_
    refine Vj_callVv (q := 92) (qX6_empty) (by decide) rfl rfl lkX9_124 viX6_empty okX6_empty dX9_room_89 rfl rfl (Nat.le_of_ble_eq_true rfl) ?_
    generalize hσ4 : fillM (uI (uI (uI (uI σ3 27 0 (nI (cFi (rN ((pText tx).2.1, (pText tx).2.2.2)) (fun t => (pText tx).2.2.1.getD t 0) (rN ((pText tx).2.1, (pText tx).2.2.2))))) 27 1 (nI (cFi (rN ((pText tx).2.1, (pText tx).2.2.2)) (fun t => (pText tx).2.2.1.getD t 0) (rN ((pText tx).2.1, (pText tx).2.2.2))))) 27 2 0) 0 11 0) 35 2 (-1) = σ4
    have hE4 : Eqo [27, 0, 35] σ3 σ4 := by rw [← hσ4]; exact ((((Eqo.rf.u rfl).u rfl).u rfl).u rfl).fill rfl
    have hP4 := hP3.eqo hE4 rfl
    refine Vj_bipush (q := 94) (v := 10) dX9_room_92 rfl (by decide) ?_
    refine Vj_aloadn (q := 95) dX9_room_94 rfl rfl rfl ?_
    refine Vj_getR (q := 98) flX9_26 rfl rfl dX9_room_95 rfl ?_
    refine Vj_callVi (q := 101) (qX2_things hP4) (by decide) rfl rfl lkX9_125 viX2_things okX2_things dX9_room_98 rfl rfl (Nat.le_of_ble_eq_true rfl) ?_
    refine Vj_imul (q := 102) dX9_room_101 rfl ?_
    refine Vj_aloadn (q := 103) dX9_room_102 rfl rfl rfl ?_
    refine Vj_getR (q := 106) flX9_26 rfl rfl dX9_room_103 rfl ?_
    refine Vj_callVi (q := 109) (qX2_buttons hP4) (by decide) rfl rfl lkX9_128 viX2_buttons okX2_buttons dX9_room_106 rfl rfl (Nat.le_of_ble_eq_true rfl) ?_
    refine Vj_iadd (q := 110) dX9_room_109 rfl ?_
    refine Vr_iret rfl rfl dX9_room_110 ?_
    have e : spRoom tx = some ((pText tx).2.1, (pText tx).2.2.2) := by rw [spRoom, if_pos hnone]
    unfold RoP
    rw [e]
    have e1 : (10 : Int32) * nI (rN ((pText tx).2.1, (pText tx).2.2.2)) + nI (rB ((pText tx).2.1, (pText tx).2.2.2)) = nI (10 * rN ((pText tx).2.1, (pText tx).2.2.2) + rB ((pText tx).2.1, (pText tx).2.2.2)) := by rw [show (10 : Int32) = nI 10 from rfl, pk_mul, nI_add]
    refine ⟨by rw [e1], ((hTx.eqo g2 rfl).eqo hE2 rfl |>.eqo hE3 rfl).eqo hE4 rfl, hP4, hT3.eqo hE4 rfl, hR3.eqo hE4 rfl, ?_, ?_, fun i hi => ⟨fun u hu => (by cases hu), fun _ => ?_⟩, ?_, ?_⟩
    · subst hσ4; unfold NwX; rw [fillM_ne (by decide), uI_ne (by decide)]; simp [uI, upd, spC0, rN, nI_0]
    · subst hσ4; refine ⟨by rw [fillM_ne (by decide), uI_eq]; rfl, by decide, fun i hi => absurd hi (Nat.not_lt_zero i)⟩
    · subst hσ4; rw [fillM_eq]; simp only [if_pos hi]
    · exact (((hSe.of (by rw [g2.at 36 rfl]) (g2.at _ rfl) (g2.at _ rfl) (g2.at _ rfl)).of (by rw [hE2.at 36 rfl]) (hE2.at _ rfl) (hE2.at _ rfl) (hE2.at _ rfl)).of (by rw [hE3.at 36 rfl]) (hE3.at _ rfl) (hE3.at _ rfl) (hE3.at _ rfl)).of (by rw [hE4.at 36 rfl]) (hE4.at _ rfl) (hE4.at _ rfl) (hE4.at _ rfl)
    · rw [hE4.2, hE3.2, hE2.2, g2.2]; exact hSd
  ·
    refine Vj_bipush (q := 18) (v := (-3)) dX9_room_16 rfl (by decide) ?_
    refine Vr_iret rfl rfl dX9_room_18 ?_
    have e : spRoom tx = none := by rw [spRoom, if_neg (fun z => h13 ((fI_9 hTx.2.1).mpr z))]
    unfold RoP
    rw [e]
    exact ⟨rfl, h.eqc (g2.c rfl)⟩
set_option maxRecDepth 100000 in
theorem qX9_thing {tx : List Nat} {ρ : Rm} {c d p : Nat} {ac : List (Nat × Nat × Nat)} {sl : Nat → Option (Nat × Nat × Nat)} {se : List (Nat × Nat × Nat)} {sd : Int64} {N : Nat} {σ : Mem} (h : RX tx ρ c d p ac sl se sd σ) (hv : okV N ρ c d p ac sl se) (x what : Int32) : Ct shX 3 mX9_thing [.ref 0, .int x, .int what] σ (PX (spThing ρ c d x what) tx ρ c d p ac sl se sd) := by
  obtain ⟨hr, ⟨hc, hco⟩, ⟨hd, hdo⟩, hp, hN30, ⟨hal, hav⟩, hsv, hse⟩ := hv
  obtain ⟨hTx, hP, hTa, hRE, hNw, hAc, hSl, hSe, hSd⟩ := h
  have hp4 := p4_le hr.1
  have hn5 := hr.1
  have hB7 := hr.2.2.1
  have h : RX tx ρ c d p ac sl se sd σ := ⟨hTx, hP, hTa, hRE, hNw, hAc, hSl, hSe, hSd⟩
  refine Ct.of (by decide) (Nat.le_of_ble_eq_true rfl) (l := [some (.ref 0), some (.int x), some (.int what)]) rfl ?_
  refine Vj_aloadn (q := 1) dX9_thing_0 rfl rfl rfl ?_
  refine Vj_getR (q := 4) flX9_26 rfl rfl dX9_thing_1 rfl ?_
  refine Vj_iloadn (q := 5) dX9_thing_4 rfl rfl rfl ?_
  refine Vj_callVi (q := 8) (qX2_hasThing hP x) (by decide) rfl rfl lkX9_131 viX2_hasThing okX2_hasThing dX9_thing_5 rfl rfl (Nat.le_of_ble_eq_true rfl) ?_
  refine Vj_if_ne (q := 11) (tgt := 13) dX9_thing_8 (by decide) rfl (fun h8 => ?_) (fun h8 => ?_)
  ·
    have h8b := bI_n.mp h8
    obtain ⟨j, hj, rfl, ecl⟩ := hT_x (by omega) h8b
    refine Vj_iloadn (q := 14) dX9_thing_13 rfl rfl rfl ?_
    rcases (show what = 0 ∨ what = 1 ∨ what = 2 ∨ (¬ what = 0 ∧ ¬ what = 1 ∧ ¬ what = 2) by by_cases z0 : what = 0; exact Or.inl z0; by_cases z1 : what = 1; exact Or.inr (Or.inl z1); by_cases z2 : what = 2; exact Or.inr (Or.inr (Or.inl z2)); exact Or.inr (Or.inr (Or.inr ⟨z0, z1, z2⟩))) with hw | hw | hw | hw
    ·
      subst hw
      refine Vj_tableIn (q := 40) (off := 26) dX9_thing_14 (by decide) (by decide) (by decide) (by decide) ?_
      refine Vj_aloadn (q := 41) dX9_thing_40 rfl rfl rfl ?_
      refine Vj_getR (q := 44) flX9_26 rfl rfl dX9_thing_41 rfl ?_
      refine Vj_iloadn (q := 45) dX9_thing_44 rfl rfl rfl ?_
      refine Vj_callVi (q := 48) (qX2_statesOf hP hj) (by decide) rfl rfl lkX9_135 viX2_statesOf okX2_statesOf dX9_thing_45 rfl rfl (Nat.le_of_ble_eq_true rfl) ?_
      exact Vr_iret rfl rfl dX9_thing_48 (⟨by rw [spThing, h8b, if_pos rfl, if_pos rfl, ecl], h⟩)
    ·
      subst hw
      refine Vj_tableIn (q := 49) (off := 35) dX9_thing_14 (by decide) (by decide) (by decide) (by decide) ?_
      refine Vj_aloadn (q := 50) dX9_thing_49 rfl rfl rfl ?_
      refine Vj_getR (q := 53) flX9_26 rfl rfl dX9_thing_50 rfl ?_
      refine Vj_aloadn (q := 54) dX9_thing_53 rfl rfl rfl ?_
      refine Vj_getR (q := 57) flX9_47 rfl rfl dX9_thing_54 rfl ?_
      refine Vj_getI (q := 60) flX9_112 rfl rfl dX9_thing_57 rfl ?_
      rw [hNw.1]
      refine Vj_iloadn (q := 61) dX9_thing_60 rfl rfl rfl ?_
      refine Vj_callVi (q := 64) (qX2_stateIn hP (by omega) hj) (by decide) rfl rfl lkX9_139 viX2_stateIn okX2_stateIn dX9_thing_61 rfl rfl (Nat.le_of_ble_eq_true rfl) ?_
      exact Vr_iret rfl rfl dX9_thing_64 (⟨by rw [spThing, h8b, if_pos rfl, if_neg (by decide), if_pos rfl, ecl], h⟩)
    ·
      subst hw
      refine Vj_tableIn (q := 65) (off := 51) dX9_thing_14 (by decide) (by decide) (by decide) (by decide) ?_
      refine Vj_aloadn (q := 66) dX9_thing_65 rfl rfl rfl ?_
      refine Vj_getR (q := 69) flX9_26 rfl rfl dX9_thing_66 rfl ?_
      refine Vj_aloadn (q := 70) dX9_thing_69 rfl rfl rfl ?_
      refine Vj_getR (q := 73) flX9_47 rfl rfl dX9_thing_70 rfl ?_
      refine Vj_getI (q := 76) flX9_116 rfl rfl dX9_thing_73 rfl ?_
      rw [hNw.2.1]
      refine Vj_iloadn (q := 77) dX9_thing_76 rfl rfl rfl ?_
      refine Vj_callVi (q := 80) (qX2_stateIn hP (by omega) hj) (by decide) rfl rfl lkX9_139 viX2_stateIn okX2_stateIn dX9_thing_77 rfl rfl (Nat.le_of_ble_eq_true rfl) ?_
      exact Vr_iret rfl rfl dX9_thing_80 (⟨by rw [spThing, h8b, if_pos rfl, if_neg (by decide), if_neg (by decide), if_pos rfl, ecl], h⟩)
    ·
      have z0 : ¬ what.toInt = 0 := toInt_ne hw.1
      have z1 : ¬ what.toInt = 1 := toInt_ne hw.2.1
      have z2 : ¬ what.toInt = 2 := toInt_ne hw.2.2
      refine Vj_tableOut (q := 81) dX9_thing_14 (by omega) (by decide) ?_
      refine Vj_bipush (q := 83) (v := (-2)) dX9_thing_81 rfl (by decide) ?_
      exact Vr_iret rfl rfl dX9_thing_83 (⟨by rw [spThing, h8b, if_pos rfl, if_neg hw.1, if_neg hw.2.1, if_neg hw.2.2], h⟩)
  ·
    refine Vj_iconst (q := 12) (v := (-1)) dX9_thing_11 rfl (by decide) ?_
    exact Vr_iret rfl rfl dX9_thing_12 (⟨by rw [spThing, bI_z.mp h8]; rfl, h⟩)
set_option maxRecDepth 100000 in
theorem qX9_button {tx : List Nat} {ρ : Rm} {c d p : Nat} {ac : List (Nat × Nat × Nat)} {sl : Nat → Option (Nat × Nat × Nat)} {se : List (Nat × Nat × Nat)} {sd : Int64} {N : Nat} {σ : Mem} (h : RX tx ρ c d p ac sl se sd σ) (hv : okV N ρ c d p ac sl se) (x what : Int32) : Ct shX 2 mX9_button [.ref 0, .int x, .int what] σ (PX (spButton ρ x what) tx ρ c d p ac sl se sd) := by
  obtain ⟨hr, ⟨hc, hco⟩, ⟨hd, hdo⟩, hp, hN30, ⟨hal, hav⟩, hsv, hse⟩ := hv
  obtain ⟨hTx, hP, hTa, hRE, hNw, hAc, hSl, hSe, hSd⟩ := h
  have hp4 := p4_le hr.1
  have hn5 := hr.1
  have hB7 := hr.2.2.1
  have h : RX tx ρ c d p ac sl se sd σ := ⟨hTx, hP, hTa, hRE, hNw, hAc, hSl, hSe, hSd⟩
  refine Ct.of (by decide) (Nat.le_of_ble_eq_true rfl) (l := [some (.ref 0), some (.int x), some (.int what)]) rfl ?_
  refine Vj_aloadn (q := 1) dX9_button_0 rfl rfl rfl ?_
  refine Vj_getR (q := 4) flX9_26 rfl rfl dX9_button_1 rfl ?_
  refine Vj_iloadn (q := 5) dX9_button_4 rfl rfl rfl ?_
  refine Vj_callVi (q := 8) (qX2_hasButton hP x) (by decide) rfl rfl lkX9_143 viX2_hasButton okX2_hasButton dX9_button_5 rfl rfl (Nat.le_of_ble_eq_true rfl) ?_
  refine Vj_if_ne (q := 11) (tgt := 13) dX9_button_8 (by decide) rfl (fun h8 => ?_) (fun h8 => ?_)
  ·
    have h8b := bI_n.mp h8
    obtain ⟨j, hj, rfl, ecl⟩ := hT_x (by omega) h8b
    refine Vj_iloadn (q := 14) dX9_button_13 rfl rfl rfl ?_
    rcases (show what = 0 ∨ what = 1 ∨ what = 2 ∨ (¬ what = 0 ∧ ¬ what = 1 ∧ ¬ what = 2) by by_cases z0 : what = 0; exact Or.inl z0; by_cases z1 : what = 1; exact Or.inr (Or.inl z1); by_cases z2 : what = 2; exact Or.inr (Or.inr (Or.inl z2)); exact Or.inr (Or.inr (Or.inr ⟨z0, z1, z2⟩))) with hw | hw | hw | hw
    ·
      subst hw
      refine Vj_tableIn (q := 40) (off := 26) dX9_button_14 (by decide) (by decide) (by decide) (by decide) ?_
      refine Vj_aloadn (q := 41) dX9_button_40 rfl rfl rfl ?_
      refine Vj_getR (q := 44) flX9_26 rfl rfl dX9_button_41 rfl ?_
      refine Vj_getR (q := 47) flX9_146 rfl rfl dX9_button_44 rfl ?_
      refine Vj_getR (q := 50) flX9_149 rfl rfl dX9_button_47 rfl ?_
      refine Vj_iloadn (q := 51) dX9_button_50 rfl rfl rfl ?_
      refine Vj_callSi (q := 54) (qX9_atn rfl (by decide) (j := j) (by omega)) (by decide) lkX9_152 stX9_at okX9_at dX9_button_51 rfl rfl (Nat.le_of_ble_eq_true rfl) ?_
      rw [(hP.2.2.2.2 j hj).1]
      exact Vr_iret rfl rfl dX9_button_54 (⟨by rw [spButton, h8b, if_pos rfl, if_pos rfl, ecl], h⟩)
    ·
      subst hw
      refine Vj_tableIn (q := 55) (off := 41) dX9_button_14 (by decide) (by decide) (by decide) (by decide) ?_
      refine Vj_aloadn (q := 56) dX9_button_55 rfl rfl rfl ?_
      refine Vj_getR (q := 59) flX9_26 rfl rfl dX9_button_56 rfl ?_
      refine Vj_getR (q := 62) flX9_146 rfl rfl dX9_button_59 rfl ?_
      refine Vj_getR (q := 65) flX9_156 rfl rfl dX9_button_62 rfl ?_
      refine Vj_iloadn (q := 66) dX9_button_65 rfl rfl rfl ?_
      refine Vj_callSi (q := 69) (qX9_atn rfl (by decide) (j := j) (by omega)) (by decide) lkX9_152 stX9_at okX9_at dX9_button_66 rfl rfl (Nat.le_of_ble_eq_true rfl) ?_
      rw [(hP.2.2.2.2 j hj).2.1]
      exact Vr_iret rfl rfl dX9_button_69 (⟨by rw [spButton, h8b, if_pos rfl, if_neg (by decide), if_pos rfl, ecl], h⟩)
    ·
      subst hw
      refine Vj_tableIn (q := 70) (off := 56) dX9_button_14 (by decide) (by decide) (by decide) (by decide) ?_
      refine Vj_aloadn (q := 71) dX9_button_70 rfl rfl rfl ?_
      refine Vj_getR (q := 74) flX9_26 rfl rfl dX9_button_71 rfl ?_
      refine Vj_getR (q := 77) flX9_146 rfl rfl dX9_button_74 rfl ?_
      refine Vj_getR (q := 80) flX9_159 rfl rfl dX9_button_77 rfl ?_
      refine Vj_iloadn (q := 81) dX9_button_80 rfl rfl rfl ?_
      refine Vj_callSi (q := 84) (qX9_atn rfl (by decide) (j := j) (by omega)) (by decide) lkX9_152 stX9_at okX9_at dX9_button_81 rfl rfl (Nat.le_of_ble_eq_true rfl) ?_
      rw [(hP.2.2.2.2 j hj).2.2]
      exact Vr_iret rfl rfl dX9_button_84 (⟨by rw [spButton, h8b, if_pos rfl, if_neg (by decide), if_neg (by decide), if_pos rfl, ecl], h⟩)
    ·
      have z0 : ¬ what.toInt = 0 := toInt_ne hw.1
      have z1 : ¬ what.toInt = 1 := toInt_ne hw.2.1
      have z2 : ¬ what.toInt = 2 := toInt_ne hw.2.2
      refine Vj_tableOut (q := 85) dX9_button_14 (by omega) (by decide) ?_
      refine Vj_bipush (q := 87) (v := (-2)) dX9_button_85 rfl (by decide) ?_
      exact Vr_iret rfl rfl dX9_button_87 (⟨by rw [spButton, h8b, if_pos rfl, if_neg hw.1, if_neg hw.2.1, if_neg hw.2.2], h⟩)
  ·
    refine Vj_iconst (q := 12) (v := (-1)) dX9_button_11 rfl (by decide) ?_
    exact Vr_iret rfl rfl dX9_button_12 (⟨by rw [spButton, bI_z.mp h8]; rfl, h⟩)
set_option maxRecDepth 100000 in
theorem qX9_press {tx : List Nat} {ρ : Rm} {c d p : Nat} {ac : List (Nat × Nat × Nat)} {sl : Nat → Option (Nat × Nat × Nat)} {se : List (Nat × Nat × Nat)} {sd : Int64} {N : Nat} {σ : Mem} (h : RX tx ρ c d p ac sl se sd σ) (hv : okV N ρ c d p ac sl se) (x : Int32) : Ct shX 3 mX9_press [.ref 0, .int x] σ (PX (spPress ρ c d p ac x).1 tx ρ (spPress ρ c d p ac x).2.1 (spPress ρ c d p ac x).2.2.1 (spPress ρ c d p ac x).2.2.2.1 (spPress ρ c d p ac x).2.2.2.2 sl se sd) := by
  obtain ⟨hr, ⟨hc, hco⟩, ⟨hd, hdo⟩, hp, hN30, ⟨hal, hav⟩, hsv, hse⟩ := hv
  obtain ⟨hTx, hP, hTa, hRE, hNw, hAc, hSl, hSe, hSd⟩ := h
  have hp4 := p4_le hr.1
  have hn5 := hr.1
  have hB7 := hr.2.2.1
  have h : RX tx ρ c d p ac sl se sd σ := ⟨hTx, hP, hTa, hRE, hNw, hAc, hSl, hSe, hSd⟩
  refine Ct.of (by decide) (Nat.le_of_ble_eq_true rfl) (l := [some (.ref 0), some (.int x)]) rfl ?_
  refine Vj_aloadn (q := 1) dX9_press_0 rfl rfl rfl ?_
  refine Vj_getR (q := 4) flX9_26 rfl rfl dX9_press_1 rfl ?_
  refine Vj_iloadn (q := 5) dX9_press_4 rfl rfl rfl ?_
  refine Vj_callVi (q := 8) (qX2_hasButton hP x) (by decide) rfl rfl lkX9_143 viX2_hasButton okX2_hasButton dX9_press_5 rfl rfl (Nat.le_of_ble_eq_true rfl) ?_
  refine Vj_if_ne (q := 11) (tgt := 13) dX9_press_8 (by decide) rfl (fun h8 => ?_) (fun h8 => ?_)
  ·
    have h8b := bI_n.mp h8
    obtain ⟨j, hj, rfl, ecl⟩ := hT_x (by omega) h8b
    have hxc := cNx_lt hr hc hj
    have hxd := cNx_lt hr hd hj
    refine Vj_aloadn (q := 14) dX9_press_13 rfl rfl rfl ?_
    refine Vj_callV (q := 17) (qX9_rememberAct h) (by decide) rfl rfl lkX9_162 viX9_rememberAct okX9_rememberAct dX9_press_14 rfl rfl (Nat.le_of_ble_eq_true rfl) ?_
    rintro r1 σ1 ⟨rfl, h1⟩
    show Vj shX 3 mX9_press _ 17 _ [] σ1
    have hN1 := h1.2.2.2.2.1
    have hT1 := h1.2.2.1
    have hP1 := h1.2.1
    refine Vj_aloadn (q := 18) dX9_press_17 rfl rfl rfl ?_
    refine Vj_getR (q := 21) flX9_47 rfl rfl dX9_press_18 rfl ?_
    refine Vj_aloadn (q := 22) dX9_press_21 rfl rfl rfl ?_
    refine Vj_getR (q := 25) flX9_26 rfl rfl dX9_press_22 rfl ?_
    refine Vj_aloadn (q := 26) dX9_press_25 rfl rfl rfl ?_
    refine Vj_getR (q := 29) flX9_47 rfl rfl dX9_press_26 rfl ?_
    refine Vj_getI (q := 32) flX9_112 rfl rfl dX9_press_29 rfl ?_
    rw [hN1.1]
    refine Vj_iloadn (q := 33) dX9_press_32 rfl rfl rfl ?_
    refine Vj_callVi (q := 36) (qX2_behind (c := c) (b := j) (by omega) (by omega)) (by decide) rfl rfl lkX9_165 viX2_behind okX2_behind dX9_press_33 rfl rfl (Nat.le_of_ble_eq_true rfl) ?_
    rw [(hT1.2 c hc).2.2 j hj]
    refine Vj_putI (q := 39) flX9_112 rfl rfl dX9_press_36 rfl ?_
    refine Vj_aloadn (q := 40) dX9_press_39 rfl rfl rfl ?_
    refine Vj_getR (q := 43) flX9_47 rfl rfl dX9_press_40 rfl ?_
    refine Vj_aloadn (q := 44) dX9_press_43 rfl rfl rfl ?_
    refine Vj_getR (q := 47) flX9_26 rfl rfl dX9_press_44 rfl ?_
    refine Vj_aloadn (q := 48) dX9_press_47 rfl rfl rfl ?_
    refine Vj_getR (q := 51) flX9_47 rfl rfl dX9_press_48 rfl ?_
    refine Vj_getI (q := 54) flX9_116 rfl rfl dX9_press_51 rfl ?_
    rw [show (uI σ1 27 0 (nI (cNx ρ c j))).1 27 1 = nI d by simp [uI, upd, hN1.2.1]]
    refine Vj_iloadn (q := 55) dX9_press_54 rfl rfl rfl ?_
    refine Vj_callVi (q := 58) (qX2_behind (c := d) (b := j) (by omega) (by omega)) (by decide) rfl rfl lkX9_165 viX2_behind okX2_behind dX9_press_55 rfl rfl (Nat.le_of_ble_eq_true rfl) ?_
    rw [uI_ne (by decide), (hT1.2 d hd).2.2 j hj]
    refine Vj_putI (q := 61) flX9_116 rfl rfl dX9_press_58 rfl ?_
    refine Vj_aloadn (q := 62) dX9_press_61 rfl rfl rfl ?_
    refine Vj_getR (q := 65) flX9_47 rfl rfl dX9_press_62 rfl ?_
    refine Vj_dup (q := 66) dX9_press_65 rfl rfl ?_
    refine Vj_getI (q := 69) flX9_119 rfl rfl dX9_press_66 rfl ?_
    rw [show (uI (uI σ1 27 0 (nI (cNx ρ c j))) 27 1 (nI (cNx ρ d j))).1 27 2 = nI p by simp [uI, upd, hN1.2.2]]
    refine Vj_iconst (q := 70) (v := 1) dX9_press_69 rfl (by decide) ?_
    refine Vj_iadd (q := 71) dX9_press_70 rfl ?_
    rw [nI_1]
    refine Vj_putI (q := 74) flX9_119 rfl rfl dX9_press_71 rfl ?_
    refine Vj_aloadn (q := 75) dX9_press_74 rfl rfl rfl ?_
    refine Vj_getR (q := 78) flX9_26 rfl rfl dX9_press_75 rfl ?_
    refine Vj_aloadn (q := 79) dX9_press_78 rfl rfl rfl ?_
    refine Vj_getR (q := 82) flX9_47 rfl rfl dX9_press_79 rfl ?_
    refine Vj_getI (q := 85) flX9_112 rfl rfl dX9_press_82 rfl ?_
    rw [show (uI (uI (uI σ1 27 0 (nI (cNx ρ c j))) 27 1 (nI (cNx ρ d j))) 27 2 (nI (p + 1))).1 27 0 = nI (cNx ρ c j) by simp [uI, upd]]
    refine Vj_callVi (q := 88) (qX2_messOf (c := cNx ρ c j) (by omega)) (by decide) rfl rfl lkX9_168 viX2_messOf okX2_messOf dX9_press_85 rfl rfl (Nat.le_of_ble_eq_true rfl) ?_
    rw [uI_ne (by decide), uI_ne (by decide), uI_ne (by decide), mess_c hT1 hxc (cOk_nx hr hc hj hco)]
    refine Vr_iret rfl rfl dX9_press_88 ?_
    have e : spPress ρ c d p ac (nI j) = (nI (cDg (rN ρ) (cNx ρ c j) (rN ρ)), cNx ρ c j, cNx ρ d j, p + 1, pushA ac (c, d, p)) := by
      rw [spPress, h8b, if_pos rfl, ecl]
    rw [e]
    exact ⟨rfl, h1.now (((Eqo.rf.u rfl).u rfl).u rfl) (by unfold NwX; simp [uI, upd])⟩
  ·
    refine Vj_iconst (q := 12) (v := (-1)) dX9_press_11 rfl (by decide) ?_
    refine Vr_iret rfl rfl dX9_press_12 ?_
    have e : spPress ρ c d p ac x = (-1, c, d, p, ac) := by
      rw [spPress, bI_z.mp h8]
      rfl
    rw [e]
    exact ⟨rfl, h⟩
set_option maxRecDepth 100000 in
theorem qX9_miss {tx : List Nat} {ρ : Rm} {c d p : Nat} {ac : List (Nat × Nat × Nat)} {sl : Nat → Option (Nat × Nat × Nat)} {se : List (Nat × Nat × Nat)} {sd : Int64} {N : Nat} {σ : Mem} (h : RX tx ρ c d p ac sl se sd σ) (hv : okV N ρ c d p ac sl se) (x : Int32) : Ct shX 3 mX9_miss [.ref 0, .int x] σ (PX (spMiss ρ c d p ac x).1 tx ρ (spMiss ρ c d p ac x).2.1 (spMiss ρ c d p ac x).2.2.1 (spMiss ρ c d p ac x).2.2.2.1 (spMiss ρ c d p ac x).2.2.2.2 sl se sd) := by
  obtain ⟨hr, ⟨hc, hco⟩, ⟨hd, hdo⟩, hp, hN30, ⟨hal, hav⟩, hsv, hse⟩ := hv
  obtain ⟨hTx, hP, hTa, hRE, hNw, hAc, hSl, hSe, hSd⟩ := h
  have hp4 := p4_le hr.1
  have hn5 := hr.1
  have hB7 := hr.2.2.1
  have h : RX tx ρ c d p ac sl se sd σ := ⟨hTx, hP, hTa, hRE, hNw, hAc, hSl, hSe, hSd⟩
  refine Ct.of (by decide) (Nat.le_of_ble_eq_true rfl) (l := [some (.ref 0), some (.int x)]) rfl ?_
  refine Vj_aloadn (q := 1) dX9_miss_0 rfl rfl rfl ?_
  refine Vj_getR (q := 4) flX9_26 rfl rfl dX9_miss_1 rfl ?_
  refine Vj_iloadn (q := 5) dX9_miss_4 rfl rfl rfl ?_
  refine Vj_callVi (q := 8) (qX2_hasButton hP x) (by decide) rfl rfl lkX9_143 viX2_hasButton okX2_hasButton dX9_miss_5 rfl rfl (Nat.le_of_ble_eq_true rfl) ?_
  refine Vj_if_ne (q := 11) (tgt := 13) dX9_miss_8 (by decide) rfl (fun h8 => ?_) (fun h8 => ?_)
  ·
    have h8b := bI_n.mp h8
    obtain ⟨j, hj, rfl, ecl⟩ := hT_x (by omega) h8b
    have hxc := cNx_lt hr hc hj
    have hxd := cNx_lt hr hd hj
    refine Vj_aloadn (q := 14) dX9_miss_13 rfl rfl rfl ?_
    refine Vj_callV (q := 17) (qX9_rememberAct h) (by decide) rfl rfl lkX9_162 viX9_rememberAct okX9_rememberAct dX9_miss_14 rfl rfl (Nat.le_of_ble_eq_true rfl) ?_
    rintro r1 σ1 ⟨rfl, h1⟩
    show Vj shX 3 mX9_miss _ 17 _ [] σ1
    have hN1 := h1.2.2.2.2.1
    have hT1 := h1.2.2.1
    have hP1 := h1.2.1
    refine Vj_aloadn (q := 18) dX9_miss_17 rfl rfl rfl ?_
    refine Vj_getR (q := 21) flX9_47 rfl rfl dX9_miss_18 rfl ?_
    refine Vj_aloadn (q := 22) dX9_miss_21 rfl rfl rfl ?_
    refine Vj_getR (q := 25) flX9_26 rfl rfl dX9_miss_22 rfl ?_
    refine Vj_aloadn (q := 26) dX9_miss_25 rfl rfl rfl ?_
    refine Vj_getR (q := 29) flX9_47 rfl rfl dX9_miss_26 rfl ?_
    refine Vj_getI (q := 32) flX9_116 rfl rfl dX9_miss_29 rfl ?_
    rw [hN1.2.1]
    refine Vj_iloadn (q := 33) dX9_miss_32 rfl rfl rfl ?_
    refine Vj_callVi (q := 36) (qX2_behind (c := d) (b := j) (by omega) (by omega)) (by decide) rfl rfl lkX9_165 viX2_behind okX2_behind dX9_miss_33 rfl rfl (Nat.le_of_ble_eq_true rfl) ?_
    rw [(hT1.2 d hd).2.2 j hj]
    refine Vj_putI (q := 39) flX9_116 rfl rfl dX9_miss_36 rfl ?_
    refine Vj_aloadn (q := 40) dX9_miss_39 rfl rfl rfl ?_
    refine Vj_getR (q := 43) flX9_47 rfl rfl dX9_miss_40 rfl ?_
    refine Vj_dup (q := 44) dX9_miss_43 rfl rfl ?_
    refine Vj_getI (q := 47) flX9_119 rfl rfl dX9_miss_44 rfl ?_
    rw [show (uI σ1 27 1 (nI (cNx ρ d j))).1 27 2 = nI p by simp [uI, upd, hN1.2.2]]
    refine Vj_iconst (q := 48) (v := 1) dX9_miss_47 rfl (by decide) ?_
    refine Vj_iadd (q := 49) dX9_miss_48 rfl ?_
    rw [nI_1]
    refine Vj_putI (q := 52) flX9_119 rfl rfl dX9_miss_49 rfl ?_
    refine Vj_aloadn (q := 53) dX9_miss_52 rfl rfl rfl ?_
    refine Vj_getR (q := 56) flX9_26 rfl rfl dX9_miss_53 rfl ?_
    refine Vj_aloadn (q := 57) dX9_miss_56 rfl rfl rfl ?_
    refine Vj_getR (q := 60) flX9_47 rfl rfl dX9_miss_57 rfl ?_
    refine Vj_getI (q := 63) flX9_116 rfl rfl dX9_miss_60 rfl ?_
    rw [show (uI (uI σ1 27 1 (nI (cNx ρ d j))) 27 2 (nI (p + 1))).1 27 1 = nI (cNx ρ d j) by simp [uI, upd]]
    refine Vj_callVi (q := 66) (qX2_messOf (c := cNx ρ d j) (by omega)) (by decide) rfl rfl lkX9_168 viX2_messOf okX2_messOf dX9_miss_63 rfl rfl (Nat.le_of_ble_eq_true rfl) ?_
    rw [uI_ne (by decide), uI_ne (by decide), mess_c hT1 hxd (cOk_nx hr hd hj hdo)]
    refine Vr_iret rfl rfl dX9_miss_66 ?_
    have e : spMiss ρ c d p ac (nI j) = (nI (cDg (rN ρ) (cNx ρ d j) (rN ρ)), c, cNx ρ d j, p + 1, pushA ac (c, d, p)) := by
      rw [spMiss, h8b, if_pos rfl, ecl]
    rw [e]
    exact ⟨rfl, h1.now ((Eqo.rf.u rfl).u rfl) (by unfold NwX; simp [uI, upd, hN1.1])⟩
  ·
    refine Vj_iconst (q := 12) (v := (-1)) dX9_miss_11 rfl (by decide) ?_
    refine Vr_iret rfl rfl dX9_miss_12 ?_
    have e : spMiss ρ c d p ac x = (-1, c, d, p, ac) := by
      rw [spMiss, bI_z.mp h8]
      rfl
    rw [e]
    exact ⟨rfl, h⟩
set_option maxRecDepth 100000 in
theorem qX9_step {tx : List Nat} {ρ : Rm} {c d p : Nat} {ac : List (Nat × Nat × Nat)} {sl : Nat → Option (Nat × Nat × Nat)} {se : List (Nat × Nat × Nat)} {sd : Int64} {N : Nat} {σ : Mem} (h : RX tx ρ c d p ac sl se sd σ) (hv : okV N ρ c d p ac sl se) (x : Int32) : Ct shX 3 mX9_step [.ref 0, .int x] σ (PX (spStep ρ c d p ac x).1 tx ρ (spStep ρ c d p ac x).2.1 (spStep ρ c d p ac x).2.2.1 (spStep ρ c d p ac x).2.2.2.1 (spStep ρ c d p ac x).2.2.2.2 sl se sd) := by
  obtain ⟨hr, ⟨hc, hco⟩, ⟨hd, hdo⟩, hp, hN30, ⟨hal, hav⟩, hsv, hse⟩ := hv
  obtain ⟨hTx, hP, hTa, hRE, hNw, hAc, hSl, hSe, hSd⟩ := h
  have hp4 := p4_le hr.1
  have hn5 := hr.1
  have hB7 := hr.2.2.1
  have h : RX tx ρ c d p ac sl se sd σ := ⟨hTx, hP, hTa, hRE, hNw, hAc, hSl, hSe, hSd⟩
  refine Ct.of (by decide) (Nat.le_of_ble_eq_true rfl) (l := [some (.ref 0), some (.int x)]) rfl ?_
  refine Vj_aloadn (q := 1) dX9_step_0 rfl rfl rfl ?_
  refine Vj_getR (q := 4) flX9_26 rfl rfl dX9_step_1 rfl ?_
  refine Vj_iloadn (q := 5) dX9_step_4 rfl rfl rfl ?_
  refine Vj_callVi (q := 8) (qX2_hasThing hP x) (by decide) rfl rfl lkX9_131 viX2_hasThing okX2_hasThing dX9_step_5 rfl rfl (Nat.le_of_ble_eq_true rfl) ?_
  refine Vj_if_ne (q := 11) (tgt := 13) dX9_step_8 (by decide) rfl (fun h8 => ?_) (fun h8 => ?_)
  ·
    have h8b := bI_n.mp h8
    obtain ⟨j, hj, rfl, ecl⟩ := hT_x (by omega) h8b
    have hxc := cStp_lt hr hc hj
    refine Vj_aloadn (q := 14) dX9_step_13 rfl rfl rfl ?_
    refine Vj_callV (q := 17) (qX9_rememberAct h) (by decide) rfl rfl lkX9_162 viX9_rememberAct okX9_rememberAct dX9_step_14 rfl rfl (Nat.le_of_ble_eq_true rfl) ?_
    rintro r1 σ1 ⟨rfl, h1⟩
    show Vj shX 3 mX9_step _ 17 _ [] σ1
    have hN1 := h1.2.2.2.2.1
    have hT1 := h1.2.2.1
    have hP1 := h1.2.1
    refine Vj_aloadn (q := 18) dX9_step_17 rfl rfl rfl ?_
    refine Vj_getR (q := 21) flX9_47 rfl rfl dX9_step_18 rfl ?_
    refine Vj_aloadn (q := 22) dX9_step_21 rfl rfl rfl ?_
    refine Vj_getR (q := 25) flX9_26 rfl rfl dX9_step_22 rfl ?_
    refine Vj_aloadn (q := 26) dX9_step_25 rfl rfl rfl ?_
    refine Vj_getR (q := 29) flX9_47 rfl rfl dX9_step_26 rfl ?_
    refine Vj_getI (q := 32) flX9_112 rfl rfl dX9_step_29 rfl ?_
    rw [hN1.1]
    refine Vj_iloadn (q := 33) dX9_step_32 rfl rfl rfl ?_
    refine Vj_callVi (q := 36) (qX2_stepped hP1 (c := c) (by omega) hj) (by decide) rfl rfl lkX9_171 viX2_stepped okX2_stepped dX9_step_33 rfl rfl (Nat.le_of_ble_eq_true rfl) ?_
    refine Vj_putI (q := 39) flX9_112 rfl rfl dX9_step_36 rfl ?_
    have hP2 := hP1.uI (q := 27) (j := 0) (x := nI (cStp ρ c j)) rfl
    refine Vj_aloadn (q := 40) dX9_step_39 rfl rfl rfl ?_
    refine Vj_getR (q := 43) flX9_26 rfl rfl dX9_step_40 rfl ?_
    refine Vj_aloadn (q := 44) dX9_step_43 rfl rfl rfl ?_
    refine Vj_getR (q := 47) flX9_47 rfl rfl dX9_step_44 rfl ?_
    refine Vj_getI (q := 50) flX9_112 rfl rfl dX9_step_47 rfl ?_
    rw [show (uI σ1 27 0 (nI (cStp ρ c j))).1 27 0 = nI (cStp ρ c j) by simp [uI, upd]]
    refine Vj_iloadn (q := 51) dX9_step_50 rfl rfl rfl ?_
    refine Vj_callVi (q := 54) (qX2_stateIn hP2 (c := cStp ρ c j) (by omega) hj) (by decide) rfl rfl lkX9_139 viX2_stateIn okX2_stateIn dX9_step_51 rfl rfl (Nat.le_of_ble_eq_true rfl) ?_
    refine Vr_iret rfl rfl dX9_step_54 ?_
    have e : spStep ρ c d p ac (nI j) = (nI (cS (rN ρ) (cStp ρ c j) j), cStp ρ c j, d, p, pushA ac (c, d, p)) := by
      rw [spStep, h8b, if_pos rfl, ecl]
    rw [e]
    exact ⟨rfl, h1.now (Eqo.rf.u rfl) (by unfold NwX; simp [uI, upd, hN1.2.1, hN1.2.2])⟩
  ·
    refine Vj_iconst (q := 12) (v := (-1)) dX9_step_11 rfl (by decide) ?_
    refine Vr_iret rfl rfl dX9_step_12 ?_
    have e : spStep ρ c d p ac x = (-1, c, d, p, ac) := by
      rw [spStep, bI_z.mp h8]
      rfl
    rw [e]
    exact ⟨rfl, h⟩
theorem dfN_le (n c d : Nat) : ∀ k, dfN n c d k ≤ k
  | 0 => Nat.le_refl _
  | k + 1 => by have := dfN_le n c d k; rw [dfN]; split <;> omega
set_option maxRecDepth 100000 in
theorem qX9_find_loop {tx : List Nat} {ρ : Rm} {c d p : Nat} {ac : List (Nat × Nat × Nat)} {sl : Nat → Option (Nat × Nat × Nat)} {se : List (Nat × Nat × Nat)} {sd : Int64} {N : Nat} {σ : Mem} (h : RX tx ρ c d p ac sl se sd σ) (hv : okV N ρ c d p ac sl se) {Post : Option Value → Mem → Prop} (kk : Vj shX 3 mX9_find Post 57 [some (.ref 0), some (.int (nI (dfN (rN ρ) c d (rN ρ)))), some (.int (nI (rN ρ)))] [] σ) : ∀ k t : Nat, t + k = rN ρ → Vj shX 3 mX9_find Post 4 [some (.ref 0), some (.int (nI (dfN (rN ρ) c d t))), some (.int (nI t))] [] σ := by
  intro k
  obtain ⟨hr, ⟨hc, hco⟩, ⟨hd, hdo⟩, hp, hN30, ⟨hal, hav⟩, hsv, hse⟩ := hv
  obtain ⟨hTx, hP, hTa, hRE, hNw, hAc, hSl, hSe, hSd⟩ := h
  have hp4 := p4_le hr.1
  have hn5 := hr.1
  have hB7 := hr.2.2.1
  induction k with
  | zero =>
    intro t ht
    obtain rfl : t = rN ρ := by omega
    refine Vj_iloadn (q := 5) dX9_find_4 rfl rfl rfl ?_
    refine Vj_aloadn (q := 6) dX9_find_5 rfl rfl rfl ?_
    refine Vj_getR (q := 9) flX9_26 rfl rfl dX9_find_6 rfl ?_
    refine Vj_callVi (q := 12) (qX2_things hP) (by decide) rfl rfl lkX9_125 viX2_things okX2_things dX9_find_9 rfl rfl (Nat.le_of_ble_eq_true rfl) ?_
    refine Vj_icmp_ge (q := 15) (tgt := 57) dX9_find_12 (by decide) rfl (fun _ => ?_) (fun hz => absurd (nI_le (Nat.le_refl _) (by omega)) hz)
    exact kk
  | succ k ih =>
    intro t ht
    have s1 := cS_lt (rN ρ) c t
    have s2 := cS_lt (rN ρ) d t
    have hdf := dfN_le (rN ρ) c d t
    refine Vj_iloadn (q := 5) dX9_find_4 rfl rfl rfl ?_
    refine Vj_aloadn (q := 6) dX9_find_5 rfl rfl rfl ?_
    refine Vj_getR (q := 9) flX9_26 rfl rfl dX9_find_6 rfl ?_
    refine Vj_callVi (q := 12) (qX2_things hP) (by decide) rfl rfl lkX9_125 viX2_things okX2_things dX9_find_9 rfl rfl (Nat.le_of_ble_eq_true rfl) ?_
    refine Vj_icmp_ge (q := 15) (tgt := 57) dX9_find_12 (by decide) rfl (fun hz => absurd hz (nI_ge (by omega) (by omega))) (fun _ => ?_)
    refine Vj_aloadn (q := 16) dX9_find_15 rfl rfl rfl ?_
    refine Vj_getR (q := 19) flX9_26 rfl rfl dX9_find_16 rfl ?_
    refine Vj_aloadn (q := 20) dX9_find_19 rfl rfl rfl ?_
    refine Vj_getR (q := 23) flX9_47 rfl rfl dX9_find_20 rfl ?_
    refine Vj_getI (q := 26) flX9_112 rfl rfl dX9_find_23 rfl ?_
    rw [hNw.1]
    refine Vj_iloadn (q := 27) dX9_find_26 rfl rfl rfl ?_
    refine Vj_callVi (q := 30) (qX2_stateIn hP (c := c) (by omega) (by omega)) (by decide) rfl rfl lkX9_139 viX2_stateIn okX2_stateIn dX9_find_27 rfl rfl (Nat.le_of_ble_eq_true rfl) ?_
    refine Vj_aloadn (q := 31) dX9_find_30 rfl rfl rfl ?_
    refine Vj_getR (q := 34) flX9_26 rfl rfl dX9_find_31 rfl ?_
    refine Vj_aloadn (q := 35) dX9_find_34 rfl rfl rfl ?_
    refine Vj_getR (q := 38) flX9_47 rfl rfl dX9_find_35 rfl ?_
    refine Vj_getI (q := 41) flX9_116 rfl rfl dX9_find_38 rfl ?_
    rw [hNw.2.1]
    refine Vj_iloadn (q := 42) dX9_find_41 rfl rfl rfl ?_
    refine Vj_callVi (q := 45) (qX2_stateIn hP (c := d) (by omega) (by omega)) (by decide) rfl rfl lkX9_139 viX2_stateIn okX2_stateIn dX9_find_42 rfl rfl (Nat.le_of_ble_eq_true rfl) ?_
    refine Vj_icmp_eq (q := 48) (tgt := 51) dX9_find_45 (by decide) rfl (fun h45 => ?_) (fun h45 => ?_)
    ·
      refine Vs_iinc2 (q := 54) (z := none) dX9_find_51 rfl (by exact iinc_p _) (by decide) rfl ?_
      refine Vj_goto (q := 4) dX9_find_54 (by decide) ?_
      have e : dfN (rN ρ) c d (t + 1) = dfN (rN ρ) c d t := by rw [dfN, if_pos ((nI_eq (by omega) (by omega)).mp h45)]; rfl
      rw [nI_1, ← e]
      exact ih (t + 1) (by omega)
    ·
      refine Vs_iinc1 (q := 51) (z := none) dX9_find_48 rfl (by exact iinc_p _) (by decide) rfl ?_
      refine Vs_iinc2 (q := 54) (z := none) dX9_find_51 rfl (by exact iinc_p _) (by decide) rfl ?_
      refine Vj_goto (q := 4) dX9_find_54 (by decide) ?_
      have e : dfN (rN ρ) c d (t + 1) = dfN (rN ρ) c d t + 1 := by rw [dfN, if_neg (nI_ne_of (by omega) (by omega) h45)]
      rw [nI_1, nI_1, ← e]
      exact ih (t + 1) (by omega)
set_option maxRecDepth 100000 in
theorem qX9_find {tx : List Nat} {ρ : Rm} {c d p : Nat} {ac : List (Nat × Nat × Nat)} {sl : Nat → Option (Nat × Nat × Nat)} {se : List (Nat × Nat × Nat)} {sd : Int64} {N : Nat} {σ : Mem} (h : RX tx ρ c d p ac sl se sd σ) (hv : okV N ρ c d p ac sl se) : Ct shX 3 mX9_find [.ref 0] σ (PX (spFind ρ c d p ac).1 tx ρ (spFind ρ c d p ac).2.1 (spFind ρ c d p ac).2.2.1 (spFind ρ c d p ac).2.2.2.1 (spFind ρ c d p ac).2.2.2.2 sl se sd) := by
  obtain ⟨hr, ⟨hc, hco⟩, ⟨hd, hdo⟩, hp, hN30, ⟨hal, hav⟩, hsv, hse⟩ := hv
  obtain ⟨hTx, hP, hTa, hRE, hNw, hAc, hSl, hSe, hSd⟩ := h
  have hp4 := p4_le hr.1
  have hn5 := hr.1
  have hB7 := hr.2.2.1
  have h : RX tx ρ c d p ac sl se sd σ := ⟨hTx, hP, hTa, hRE, hNw, hAc, hSl, hSe, hSd⟩
  have hdf := dfN_le (rN ρ) c d (rN ρ)
  refine Ct.of (by decide) (Nat.le_of_ble_eq_true rfl) (l := [some (.ref 0), none, none]) rfl ?_
  refine Vj_iconst (q := 1) (v := 0) dX9_find_0 rfl (by decide) ?_
  refine Vs_istore1 (q := 2) dX9_find_1 rfl (by decide) rfl ?_
  refine Vj_iconst (q := 3) (v := 0) dX9_find_2 rfl (by decide) ?_
  refine Vs_istore2 (q := 4) dX9_find_3 rfl (by decide) rfl ?_
  refine qX9_find_loop h ⟨hr, ⟨hc, hco⟩, ⟨hd, hdo⟩, hp, hN30, ⟨hal, hav⟩, hsv, hse⟩ ?_ (rN ρ) 0 (by omega)
  refine Vj_iloadn (q := 58) dX9_find_57 rfl rfl rfl ?_
  refine Vj_if_ne (q := 61) (tgt := 64) dX9_find_58 (by decide) rfl (fun h58 => ?_) (fun h58 => ?_)
  ·
    refine Vj_aloadn (q := 65) dX9_find_64 rfl rfl rfl ?_
    refine Vj_callV (q := 68) (qX9_rememberAct h) (by decide) rfl rfl lkX9_162 viX9_rememberAct okX9_rememberAct dX9_find_65 rfl rfl (Nat.le_of_ble_eq_true rfl) ?_
    rintro r1 σ1 ⟨rfl, h1⟩
    show Vj shX 3 mX9_find _ 68 _ [] σ1
    have hN1 := h1.2.2.2.2.1
    have hT1 := h1.2.2.1
    have hP1 := h1.2.1
    refine Vj_aloadn (q := 69) dX9_find_68 rfl rfl rfl ?_
    refine Vj_getR (q := 72) flX9_47 rfl rfl dX9_find_69 rfl ?_
    refine Vj_aloadn (q := 73) dX9_find_72 rfl rfl rfl ?_
    refine Vj_getR (q := 76) flX9_47 rfl rfl dX9_find_73 rfl ?_
    refine Vj_getI (q := 79) flX9_112 rfl rfl dX9_find_76 rfl ?_
    rw [hN1.1]
    refine Vj_putI (q := 82) flX9_116 rfl rfl dX9_find_79 rfl ?_
    refine Vj_iloadn (q := 83) dX9_find_82 rfl rfl rfl ?_
    refine Vr_iret rfl rfl dX9_find_83 ?_
    have e : spFind ρ c d p ac = (nI (dfN (rN ρ) c d (rN ρ)), c, c, p, pushA ac (c, d, p)) := by
      rw [spFind, if_neg (fun z => h58 ((nI_z (by omega)).mpr z))]
    rw [e]
    exact ⟨rfl, h1.now (Eqo.rf.u rfl) (by unfold NwX; simp [uI, upd, hN1.1, hN1.2.2])⟩
  ·
    refine Vj_bipush (q := 63) (v := (-3)) dX9_find_61 rfl (by decide) ?_
    refine Vr_iret rfl rfl dX9_find_63 ?_
    have e : spFind ρ c d p ac = (-3, c, d, p, ac) := by
      rw [spFind, if_pos ((nI_z (by omega)).mp h58)]
    rw [e]
    exact ⟨rfl, h⟩
set_option maxRecDepth 100000 in
theorem qX9_undo {tx : List Nat} {ρ : Rm} {c d p : Nat} {ac : List (Nat × Nat × Nat)} {sl : Nat → Option (Nat × Nat × Nat)} {se : List (Nat × Nat × Nat)} {sd : Int64} {N : Nat} {σ : Mem} (h : RX tx ρ c d p ac sl se sd σ) (hv : okV N ρ c d p ac sl se) : Ct shX 2 mX9_undo [.ref 0] σ (PX (spUndo c d p ac).1 tx ρ (spUndo c d p ac).2.1 (spUndo c d p ac).2.2.1 (spUndo c d p ac).2.2.2.1 (spUndo c d p ac).2.2.2.2 sl se sd) := by
  obtain ⟨hr, ⟨hc, hco⟩, ⟨hd, hdo⟩, hp, hN30, ⟨hal, hav⟩, hsv, hse⟩ := hv
  obtain ⟨hTx, hP, hTa, hRE, hNw, hAc, hSl, hSe, hSd⟩ := h
  have hp4 := p4_le hr.1
  have hn5 := hr.1
  have hB7 := hr.2.2.1
  have h : RX tx ρ c d p ac sl se sd σ := ⟨hTx, hP, hTa, hRE, hNw, hAc, hSl, hSe, hSd⟩
  refine Ct.of (by decide) (Nat.le_of_ble_eq_true rfl) (l := [some (.ref 0)]) rfl ?_
  refine Vj_aloadn (q := 1) dX9_undo_0 rfl rfl rfl ?_
  refine Vj_getI (q := 4) flX9_121 rfl rfl dX9_undo_1 rfl ?_
  rw [hAc.1]
  refine Vj_if_ne (q := 7) (tgt := 10) dX9_undo_4 (by decide) rfl (fun h4 => ?_) (fun h4 => ?_)
  ·
    refine Vj_aloadn (q := 11) dX9_undo_10 rfl rfl rfl ?_
    refine Vj_dup (q := 12) dX9_undo_11 rfl rfl ?_
    refine Vj_getI (q := 15) flX9_121 rfl rfl dX9_undo_12 rfl ?_
    rw [hAc.1]
    refine Vj_iconst (q := 16) (v := 1) dX9_undo_15 rfl (by decide) ?_
    refine Vj_isub (q := 17) dX9_undo_16 rfl ?_
    have hl0 : ac.length ≠ 0 := fun z => h4 ((nI_z (by omega)).mpr z)
    rw [show nI ac.length - 1 = nI (ac.length - 1) from pk_sub (b := 1) (by omega)]
    have e11 : (uI σ 0 11 (nI (ac.length - 1))).1 0 11 = nI (ac.length - 1) := by simp [uI, upd]
    refine Vj_putI (q := 20) flX9_121 rfl rfl dX9_undo_17 rfl ?_
    refine Vj_aloadn (q := 21) dX9_undo_20 rfl rfl rfl ?_
    refine Vj_getR (q := 24) flX9_56 rfl rfl dX9_undo_21 rfl ?_
    refine Vj_aloadn (q := 25) dX9_undo_24 rfl rfl rfl ?_
    refine Vj_getI (q := 28) flX9_121 rfl rfl dX9_undo_25 rfl ?_
    rw [e11]
    refine Vj_aloadn (q := 29) dX9_undo_28 rfl rfl rfl ?_
    refine Vj_getR (q := 32) flX9_47 rfl rfl dX9_undo_29 rfl ?_
    refine Vj_callVv (q := 35) (qX6_fetch SSh_28 (i := ac.length - 1) (by omega)) (by decide) rfl rfl lkX9_174 viX6_fetch okX6_fetch dX9_undo_32 rfl rfl (Nat.le_of_ble_eq_true rfl) ?_
    refine Vj_aloadn (q := 36) dX9_undo_35 rfl rfl rfl ?_
    refine Vj_getI (q := 39) flX9_121 rfl rfl dX9_undo_36 rfl ?_
    rw [show (mFe 28 (ac.length - 1) (uI σ 0 11 (nI (ac.length - 1)))).1 0 11 = nI (ac.length - 1) by unfold mFe; rw [uI_ne (by decide), uI_ne (by decide), uI_ne (by decide)]; exact e11]
    refine Vr_iret rfl rfl dX9_undo_39 ?_
    have e : spUndo c d p ac = (nI (ac.length - 1), (ac.getD (ac.length - 1) (0, 0, 0)).1, (ac.getD (ac.length - 1) (0, 0, 0)).2.1, (ac.getD (ac.length - 1) (0, 0, 0)).2.2, ac.take (ac.length - 1)) := by
      rw [spUndo, if_neg hl0]
    rw [e]
    obtain ⟨z1, z2, z3⟩ := hAc.2.2 (ac.length - 1) (by omega)
    have hA : AcX (ac.take (ac.length - 1)) (uI σ 0 11 (nI (ac.length - 1))) := by
      have hlt : (ac.take (ac.length - 1)).length = ac.length - 1 := by rw [List.length_take]; omega
      refine ⟨by rw [hlt]; exact e11, by omega, fun i hi => ?_⟩
      rw [hlt] at hi
      have eg : (ac.take (ac.length - 1)).getD i (0, 0, 0) = ac.getD i (0, 0, 0) := by rw [List.getD, List.getD, List.getElem?_take, if_pos hi]
      rw [eg, uI_ne (by decide), uI_ne (by decide), uI_ne (by decide)]
      exact hAc.2.2 i (by omega)
    refine ⟨rfl, (h.acts (Eqo.rf.u rfl) hA).now (((Eqo.rf.u rfl).u rfl).u rfl) ?_⟩
    unfold NwX mFe
    rw [uI_ne (show 28 + 1 ≠ 0 by decide), uI_ne (show 28 + 2 ≠ 0 by decide), uI_ne (show 28 + 3 ≠ 0 by decide)]
    simp [uI_eq, upd, z1, z2, z3]
  ·
    refine Vj_bipush (q := 9) (v := (-3)) dX9_undo_7 rfl (by decide) ?_
    refine Vr_iret rfl rfl dX9_undo_9 ?_
    have e : spUndo c d p ac = (-3, c, d, p, ac) := by
      rw [spUndo, if_pos ((nI_z (by omega)).mp h4)]
    rw [e]
    exact ⟨rfl, h⟩
set_option maxRecDepth 100000 in
theorem qX9_keep {tx : List Nat} {ρ : Rm} {c d p : Nat} {ac : List (Nat × Nat × Nat)} {sl : Nat → Option (Nat × Nat × Nat)} {se : List (Nat × Nat × Nat)} {sd : Int64} {N : Nat} {σ : Mem} (h : RX tx ρ c d p ac sl se sd σ) (hv : okV N ρ c d p ac sl se) (x : Int32) : Ct shX 2 mX9_keep [.ref 0, .int x] σ (PX ((spKeep c d p sl x).1) tx ρ c d p ac (spKeep c d p sl x).2 se sd) := by
  obtain ⟨hr, ⟨hc, hco⟩, ⟨hd, hdo⟩, hp, hN30, ⟨hal, hav⟩, hsv, hse⟩ := hv
  obtain ⟨hTx, hP, hTa, hRE, hNw, hAc, hSl, hSe, hSd⟩ := h
  have hp4 := p4_le hr.1
  have hn5 := hr.1
  have hB7 := hr.2.2.1
  have h : RX tx ρ c d p ac sl se sd σ := ⟨hTx, hP, hTa, hRE, hNw, hAc, hSl, hSe, hSd⟩
  refine Ct.of (by decide) (Nat.le_of_ble_eq_true rfl) (l := [some (.ref 0), some (.int x)]) rfl ?_
  refine Vj_iloadn (q := 1) dX9_keep_0 rfl rfl rfl ?_
  refine Vj_if_lt (q := 4) (tgt := 9) dX9_keep_1 (by decide) rfl (fun h1 => ?_) (fun h1 => ?_)
  ·
    refine Vj_iconst (q := 10) (v := (-1)) dX9_keep_9 rfl (by decide) ?_
    refine Vr_iret rfl rfl dX9_keep_10 ?_
    have e : spKeep c d p sl x = (-1, sl) := by
      rw [spKeep, hT_n1 h1]
      rfl
    rw [e]
    exact ⟨rfl, h⟩
  ·
    refine Vj_iloadn (q := 5) dX9_keep_4 rfl rfl rfl ?_
    refine Vj_iconst (q := 6) (v := 2) dX9_keep_5 rfl (by decide) ?_
    refine Vj_icmp_lt (q := 9) (tgt := 11) dX9_keep_6 (by decide) rfl (fun h6 => ?_) (fun h6 => ?_)
    ·
      have hx2 : hT 2 x = true := hT_y h1 (fun z => Int32.not_le.mpr h6 z)
      obtain ⟨j, hj, rfl, ecl⟩ := hT_x (by decide) hx2
      refine Vj_aloadn (q := 12) dX9_keep_11 rfl rfl rfl ?_
      refine Vj_getR (q := 15) flX9_60 rfl rfl dX9_keep_12 rfl ?_
      refine Vj_iloadn (q := 16) dX9_keep_15 rfl rfl rfl ?_
      refine Vj_aloadn (q := 17) dX9_keep_16 rfl rfl rfl ?_
      refine Vj_getR (q := 20) flX9_47 rfl rfl dX9_keep_17 rfl ?_
      refine Vj_callVv (q := 23) (qX6_store SSh_32 (i := j) hj) (by decide) rfl rfl lkX9_288 viX6_store okX6_store dX9_keep_20 rfl rfl (Nat.le_of_ble_eq_true rfl) ?_
      refine Vj_aloadn (q := 24) dX9_keep_23 rfl rfl rfl ?_
      refine Vj_getR (q := 27) flX9_47 rfl rfl dX9_keep_24 rfl ?_
      refine Vj_getI (q := 30) flX9_119 rfl rfl dX9_keep_27 rfl ?_
      rw [show (mSt 32 j σ).1 27 2 = nI p by unfold mSt; rw [uI_ne (by decide), uI_ne (by decide), uI_ne (by decide)]; exact hNw.2.2]
      refine Vr_iret rfl rfl dX9_keep_30 ?_
      have e : spKeep c d p sl (nI j) = (nI p, slSet sl j (c, d, p)) := by
        rw [spKeep, hx2, if_pos rfl, ecl]
      rw [e]
      refine ⟨rfl, h.slots (((Eqo.rf.u rfl).u rfl).u rfl) (fun i hi => ?_)⟩
      have e1 : (mSt 32 j σ).1 33 = upd (σ.1 33) j (nI c) := by unfold mSt; rw [uI_ne (by decide), uI_ne (by decide), uI_eq, hNw.1]
      have e2 : (mSt 32 j σ).1 34 = upd (σ.1 34) j (nI d) := by unfold mSt; rw [uI_ne (by decide), uI_eq, uI_ne (by decide), hNw.2.1]
      have e3 : (mSt 32 j σ).1 35 = upd (σ.1 35) j (nI p) := by unfold mSt; rw [uI_eq, uI_ne (by decide), uI_ne (by decide), hNw.2.2]
      rw [e1, e2, e3, upd, upd, upd]
      simp only [slSet]
      by_cases ei : i = j
      · simp only [if_pos ei]
        exact ⟨fun u hu => (by cases hu; exact ⟨rfl, rfl, rfl⟩), fun z => (by cases z)⟩
      · simp only [if_neg ei]
        exact hSl i hi
    ·
      refine Vj_iconst (q := 10) (v := (-1)) dX9_keep_9 rfl (by decide) ?_
      refine Vr_iret rfl rfl dX9_keep_10 ?_
      have e : spKeep c d p sl x = (-1, sl) := by
        rw [spKeep, hT_n2 (Int32.not_lt.mp h6)]
        rfl
      rw [e]
      exact ⟨rfl, h⟩
set_option maxRecDepth 100000 in
theorem qX9_again {tx : List Nat} {ρ : Rm} {c d p : Nat} {ac : List (Nat × Nat × Nat)} {sl : Nat → Option (Nat × Nat × Nat)} {se : List (Nat × Nat × Nat)} {sd : Int64} {N : Nat} {σ : Mem} (h : RX tx ρ c d p ac sl se sd σ) (hv : okV N ρ c d p ac sl se) (x : Int32) : Ct shX 2 mX9_again [.ref 0, .int x] σ (PX (spAgain c d p ac sl x).1 tx ρ (spAgain c d p ac sl x).2.1 (spAgain c d p ac sl x).2.2.1 (spAgain c d p ac sl x).2.2.2.1 (spAgain c d p ac sl x).2.2.2.2 sl se sd) := by
  obtain ⟨hr, ⟨hc, hco⟩, ⟨hd, hdo⟩, hp, hN30, ⟨hal, hav⟩, hsv, hse⟩ := hv
  obtain ⟨hTx, hP, hTa, hRE, hNw, hAc, hSl, hSe, hSd⟩ := h
  have hp4 := p4_le hr.1
  have hn5 := hr.1
  have hB7 := hr.2.2.1
  have h : RX tx ρ c d p ac sl se sd σ := ⟨hTx, hP, hTa, hRE, hNw, hAc, hSl, hSe, hSd⟩
  refine Ct.of (by decide) (Nat.le_of_ble_eq_true rfl) (l := [some (.ref 0), some (.int x)]) rfl ?_
  refine Vj_iloadn (q := 1) dX9_again_0 rfl rfl rfl ?_
  refine Vj_if_lt (q := 4) (tgt := 9) dX9_again_1 (by decide) rfl (fun h1 => ?_) (fun h1 => ?_)
  ·
    refine Vj_iconst (q := 10) (v := (-1)) dX9_again_9 rfl (by decide) ?_
    refine Vr_iret rfl rfl dX9_again_10 ?_
    have e : spAgain c d p ac sl x = (-1, c, d, p, ac) := by
      rw [spAgain, hT_n1 h1]
      rfl
    rw [e]
    exact ⟨rfl, h⟩
  ·
    refine Vj_iloadn (q := 5) dX9_again_4 rfl rfl rfl ?_
    refine Vj_iconst (q := 6) (v := 2) dX9_again_5 rfl (by decide) ?_
    refine Vj_icmp_lt (q := 9) (tgt := 11) dX9_again_6 (by decide) rfl (fun h6 => ?_) (fun h6 => ?_)
    ·
      have hx2 : hT 2 x = true := hT_y h1 (fun z => Int32.not_le.mpr h6 z)
      obtain ⟨j, hj, rfl, ecl⟩ := hT_x (by decide) hx2
      refine Vj_aloadn (q := 12) dX9_again_11 rfl rfl rfl ?_
      refine Vj_getR (q := 15) flX9_60 rfl rfl dX9_again_12 rfl ?_
      refine Vj_iloadn (q := 16) dX9_again_15 rfl rfl rfl ?_
      refine Vj_callVi (q := 19) (qX6_holds hj) (by decide) rfl rfl lkX9_291 viX6_holds okX6_holds dX9_again_16 rfl rfl (Nat.le_of_ble_eq_true rfl) ?_
      rcases esl : sl j with _ | u
      ·
        have e35 := (hSl j hj).2 esl
        rw [e35, show bI (decide (¬ (-1 : Int32) = -1)) = 0 from rfl]
        refine Vj_if_ne (q := 22) (tgt := 25) dX9_again_19 (by decide) rfl (fun hz => absurd (by decide) hz) (fun _ => ?_)
        refine Vj_bipush (q := 24) (v := (-3)) dX9_again_22 rfl (by decide) ?_
        refine Vr_iret rfl rfl dX9_again_24 ?_
        have e : spAgain c d p ac sl (nI j) = (-3, c, d, p, ac) := by
          rw [spAgain, hx2, if_pos rfl, ecl, esl]
        rw [e]
        exact ⟨rfl, h⟩
      ·
        obtain ⟨e33, e34, e35⟩ := (hSl j hj).1 u esl
        have hu := hsv j u esl
        have hne : ¬ nI u.2.2 = -1 := fun z => by
          have h9 := nI_pos' (n := u.2.2) (by have := hu.2.2; omega)
          rw [z] at h9
          exact absurd h9 (by decide)
        rw [e35, decide_eq_true hne, show bI true = 1 from rfl]
        refine Vj_if_ne (q := 22) (tgt := 25) dX9_again_19 (by decide) rfl (fun _ => ?_) (fun hz => absurd hz (by decide))
        refine Vj_aloadn (q := 26) dX9_again_25 rfl rfl rfl ?_
        refine Vj_getR (q := 29) flX9_60 rfl rfl dX9_again_26 rfl ?_
        refine Vj_iloadn (q := 30) dX9_again_29 rfl rfl rfl ?_
        refine Vj_aloadn (q := 31) dX9_again_30 rfl rfl rfl ?_
        refine Vj_getR (q := 34) flX9_47 rfl rfl dX9_again_31 rfl ?_
        refine Vj_callVv (q := 37) (qX6_fetch SSh_32 (i := j) hj) (by decide) rfl rfl lkX9_174 viX6_fetch okX6_fetch dX9_again_34 rfl rfl (Nat.le_of_ble_eq_true rfl) ?_
        refine Vj_aloadn (q := 38) dX9_again_37 rfl rfl rfl ?_
        refine Vj_iconst (q := 39) (v := 0) dX9_again_38 rfl (by decide) ?_
        refine Vj_putI (q := 42) flX9_121 rfl rfl dX9_again_39 rfl ?_
        refine Vj_aloadn (q := 43) dX9_again_42 rfl rfl rfl ?_
        refine Vj_getR (q := 46) flX9_47 rfl rfl dX9_again_43 rfl ?_
        refine Vj_getI (q := 49) flX9_119 rfl rfl dX9_again_46 rfl ?_
        rw [show (uI (mFe 32 j σ) 0 11 0).1 27 2 = nI u.2.2 by rw [uI_ne (by decide)]; unfold mFe; rw [uI_eq, upd, if_pos rfl]; exact e35]
        refine Vr_iret rfl rfl dX9_again_49 ?_
        have e : spAgain c d p ac sl (nI j) = (nI u.2.2, u.1, u.2.1, u.2.2, []) := by
          rw [spAgain, hx2, if_pos rfl, ecl, esl]
        rw [e]
        refine ⟨rfl, (h.now (σ' := mFe 32 j σ) (((Eqo.rf.u rfl).u rfl).u rfl) ?_).acts (Eqo.rf.u rfl) ⟨by simp [uI, upd, nI_0], (by show 0 < 15; decide), fun i hi => absurd hi (Nat.not_lt_zero i)⟩⟩
        unfold NwX mFe
        simp [uI_eq, upd, e33, e34, e35]
    ·
      refine Vj_iconst (q := 10) (v := (-1)) dX9_again_9 rfl (by decide) ?_
      refine Vr_iret rfl rfl dX9_again_10 ?_
      have e : spAgain c d p ac sl x = (-1, c, d, p, ac) := by
        rw [spAgain, hT_n2 (Int32.not_lt.mp h6)]
        rfl
      rw [e]
      exact ⟨rfl, h⟩
set_option maxRecDepth 100000 in
theorem qX9_count {tx : List Nat} {ρ : Rm} {c d p : Nat} {ac : List (Nat × Nat × Nat)} {sl : Nat → Option (Nat × Nat × Nat)} {se : List (Nat × Nat × Nat)} {sd : Int64} {N : Nat} {σ : Mem} (h : RX tx ρ c d p ac sl se sd σ) (hv : okV N ρ c d p ac sl se) (x : Int32) : Ct shX 2 mX9_count [.ref 0, .int x] σ (PX (spCount tx ρ c d p ac se x) tx ρ c d p ac sl se sd) := by
  obtain ⟨hr, ⟨hc, hco⟩, ⟨hd, hdo⟩, hp, hN30, ⟨hal, hav⟩, hsv, hse⟩ := hv
  obtain ⟨hTx, hP, hTa, hRE, hNw, hAc, hSl, hSe, hSd⟩ := h
  have hp4 := p4_le hr.1
  have hn5 := hr.1
  have hB7 := hr.2.2.1
  have h : RX tx ρ c d p ac sl se sd σ := ⟨hTx, hP, hTa, hRE, hNw, hAc, hSl, hSe, hSd⟩
  refine Ct.of (by decide) (Nat.le_of_ble_eq_true rfl) (l := [some (.ref 0), some (.int x)]) rfl ?_
  refine Vj_iloadn (q := 1) dX9_count_0 rfl rfl rfl ?_
  by_cases hin : x.toInt < 0 ∨ 8 < x.toInt
  ·
    have e : spCount tx ρ c d p ac se x = -2 := by rw [spCount, if_neg (fun z => by rw [z] at hin; revert hin; decide), if_neg (fun z => by rw [z] at hin; revert hin; decide), if_neg (fun z => by rw [z] at hin; revert hin; decide), if_neg (fun z => by rw [z] at hin; revert hin; decide), if_neg (fun z => by rw [z] at hin; revert hin; decide), if_neg (fun z => by rw [z] at hin; revert hin; decide), if_neg (fun z => by rw [z] at hin; revert hin; decide), if_neg (fun z => by rw [z] at hin; revert hin; decide), if_neg (fun z => by rw [z] at hin; revert hin; decide)]
    refine Vj_tableOut (q := 142) dX9_count_1 hin (by decide) ?_
    refine Vj_bipush (q := 144) (v := (-2)) dX9_count_142 rfl (by decide) ?_
    exact Vr_iret rfl rfl dX9_count_144 (⟨by rw [e], h⟩)
  ·
    have hx9 : hT 9 x = true := by exact decide_eq_true ⟨by rw [Int32.le_iff_toInt_le]; show (0 : Int) ≤ _; omega, by rw [Int32.lt_iff_toInt_lt]; show _ < (9 : Int); omega⟩
    obtain ⟨j, hj, rfl, ecl⟩ := hT_x (by decide) hx9
    rcases (show j = 0 ∨ j = 1 ∨ j = 2 ∨ j = 3 ∨ j = 4 ∨ j = 5 ∨ j = 6 ∨ j = 7 ∨ j = 8 by omega) with rfl | rfl | rfl | rfl | rfl | rfl | rfl | rfl | rfl
    ·
      refine Vj_tableIn (q := 52) (off := 51) dX9_count_1 (by decide) (by decide) (by decide) (by decide) ?_
      refine Vj_aloadn (q := 53) dX9_count_52 rfl rfl rfl ?_
      refine Vj_getR (q := 56) flX9_10 rfl rfl dX9_count_53 rfl ?_
      refine Vj_callVi (q := 59) (qX8_size hTx) (by decide) rfl rfl lkX9_94 viX8_size okX8_size dX9_count_56 rfl rfl (Nat.le_of_ble_eq_true rfl) ?_
      exact Vr_iret rfl rfl dX9_count_59 (⟨rfl, h⟩)
    ·
      refine Vj_tableIn (q := 60) (off := 59) dX9_count_1 (by decide) (by decide) (by decide) (by decide) ?_
      refine Vj_aloadn (q := 61) dX9_count_60 rfl rfl rfl ?_
      refine Vj_getR (q := 64) flX9_26 rfl rfl dX9_count_61 rfl ?_
      refine Vj_callVi (q := 67) (qX2_things hP) (by decide) rfl rfl lkX9_125 viX2_things okX2_things dX9_count_64 rfl rfl (Nat.le_of_ble_eq_true rfl) ?_
      exact Vr_iret rfl rfl dX9_count_67 (⟨rfl, h⟩)
    ·
      refine Vj_tableIn (q := 68) (off := 67) dX9_count_1 (by decide) (by decide) (by decide) (by decide) ?_
      refine Vj_aloadn (q := 69) dX9_count_68 rfl rfl rfl ?_
      refine Vj_getR (q := 72) flX9_26 rfl rfl dX9_count_69 rfl ?_
      refine Vj_callVi (q := 75) (qX2_buttons hP) (by decide) rfl rfl lkX9_128 viX2_buttons okX2_buttons dX9_count_72 rfl rfl (Nat.le_of_ble_eq_true rfl) ?_
      exact Vr_iret rfl rfl dX9_count_75 (⟨rfl, h⟩)
    ·
      refine Vj_tableIn (q := 76) (off := 75) dX9_count_1 (by decide) (by decide) (by decide) (by decide) ?_
      refine Vj_aloadn (q := 77) dX9_count_76 rfl rfl rfl ?_
      refine Vj_getR (q := 80) flX9_26 rfl rfl dX9_count_77 rfl ?_
      refine Vj_aloadn (q := 81) dX9_count_80 rfl rfl rfl ?_
      refine Vj_getR (q := 84) flX9_47 rfl rfl dX9_count_81 rfl ?_
      refine Vj_getI (q := 87) flX9_112 rfl rfl dX9_count_84 rfl ?_
      rw [hNw.1]
      refine Vj_callVi (q := 90) (qX2_messOf (c := c) (by omega)) (by decide) rfl rfl lkX9_168 viX2_messOf okX2_messOf dX9_count_87 rfl rfl (Nat.le_of_ble_eq_true rfl) ?_
      rw [mess_c hTa hc hco]
      exact Vr_iret rfl rfl dX9_count_90 (⟨rfl, h⟩)
    ·
      refine Vj_tableIn (q := 91) (off := 90) dX9_count_1 (by decide) (by decide) (by decide) (by decide) ?_
      refine Vj_aloadn (q := 92) dX9_count_91 rfl rfl rfl ?_
      refine Vj_getR (q := 95) flX9_26 rfl rfl dX9_count_92 rfl ?_
      refine Vj_aloadn (q := 96) dX9_count_95 rfl rfl rfl ?_
      refine Vj_getR (q := 99) flX9_47 rfl rfl dX9_count_96 rfl ?_
      refine Vj_getI (q := 102) flX9_116 rfl rfl dX9_count_99 rfl ?_
      rw [hNw.2.1]
      refine Vj_callVi (q := 105) (qX2_messOf (c := d) (by omega)) (by decide) rfl rfl lkX9_168 viX2_messOf okX2_messOf dX9_count_102 rfl rfl (Nat.le_of_ble_eq_true rfl) ?_
      rw [mess_c hTa hd hdo]
      exact Vr_iret rfl rfl dX9_count_105 (⟨rfl, h⟩)
    ·
      refine Vj_tableIn (q := 106) (off := 105) dX9_count_1 (by decide) (by decide) (by decide) (by decide) ?_
      refine Vj_aloadn (q := 107) dX9_count_106 rfl rfl rfl ?_
      refine Vj_getR (q := 110) flX9_26 rfl rfl dX9_count_107 rfl ?_
      refine Vj_aloadn (q := 111) dX9_count_110 rfl rfl rfl ?_
      refine Vj_getR (q := 114) flX9_47 rfl rfl dX9_count_111 rfl ?_
      refine Vj_getI (q := 117) flX9_112 rfl rfl dX9_count_114 rfl ?_
      rw [hNw.1]
      refine Vj_callVi (q := 120) (qX2_lightsIn (c := c) (by omega)) (by decide) rfl rfl lkX9_285 viX2_lightsIn okX2_lightsIn dX9_count_117 rfl rfl (Nat.le_of_ble_eq_true rfl) ?_
      rw [(hTa.2 c hc).2.1]
      exact Vr_iret rfl rfl dX9_count_120 (⟨rfl, h⟩)
    ·
      refine Vj_tableIn (q := 121) (off := 120) dX9_count_1 (by decide) (by decide) (by decide) (by decide) ?_
      refine Vj_aloadn (q := 122) dX9_count_121 rfl rfl rfl ?_
      refine Vj_getR (q := 125) flX9_47 rfl rfl dX9_count_122 rfl ?_
      refine Vj_getI (q := 128) flX9_119 rfl rfl dX9_count_125 rfl ?_
      rw [hNw.2.2]
      exact Vr_iret rfl rfl dX9_count_128 (⟨rfl, h⟩)
    ·
      refine Vj_tableIn (q := 129) (off := 128) dX9_count_1 (by decide) (by decide) (by decide) (by decide) ?_
      refine Vj_aloadn (q := 130) dX9_count_129 rfl rfl rfl ?_
      refine Vj_getI (q := 133) flX9_121 rfl rfl dX9_count_130 rfl ?_
      rw [hAc.1]
      exact Vr_iret rfl rfl dX9_count_133 (⟨rfl, h⟩)
    ·
      refine Vj_tableIn (q := 134) (off := 133) dX9_count_1 (by decide) (by decide) (by decide) (by decide) ?_
      refine Vj_aloadn (q := 135) dX9_count_134 rfl rfl rfl ?_
      refine Vj_getR (q := 138) flX9_66 rfl rfl dX9_count_135 rfl ?_
      refine Vj_getI (q := 141) flX9_229 rfl rfl dX9_count_138 rfl ?_
      rw [hSe.1]
      exact Vr_iret rfl rfl dX9_count_141 (⟨rfl, h⟩)
theorem isR_n {n : Nat} {row : Int32} (hn : n < 7) (h : isR n row = true) : ∃ r, r < 10 ^ n ∧ row = nI r ∧ row.toNatClampNeg = r := by
  have h := of_decide_eq_true h
  obtain ⟨r, hr, rfl⟩ := nI_of (Int32.not_lt.mpr h.1)
  have hp : 10 ^ n < 2 ^ 31 := Nat.lt_of_le_of_lt (Nat.pow_le_pow_right (by decide) (show n ≤ 6 by omega)) (by decide)
  exact ⟨r, (nI_ltI hr hp).mp h.2, rfl, nI_clamp hr⟩
set_option maxRecDepth 100000 in
theorem qX9_isRow {σ : Mem} {n : Nat} (hn : n < 7) (row : Int32) : Ct shX 1 mX9_isRow [.int (nI n), .int row] σ (Ri (bI (isR n row)) σ) := by
  refine Ct.of (by decide) (Nat.le_of_ble_eq_true rfl) (l := [some (.int (nI n)), some (.int row)]) rfl ?_
  refine Vj_iloadn (q := 1) dX9_isRow_0 rfl rfl rfl ?_
  refine Vj_if_lt (q := 4) (tgt := 19) dX9_isRow_1 (by decide) rfl (fun h1 => ?_) (fun h1 => ?_)
  ·
    refine Vj_iconst (q := 20) (v := 0) dX9_isRow_19 rfl (by decide) ?_
    exact Vr_iret rfl rfl dX9_isRow_20 (⟨by rw [isR, decide_eq_false (fun z => absurd h1 (Int32.not_lt.mpr z.1))]; rfl, rfl⟩)
  ·
    refine Vj_iloadn (q := 5) dX9_isRow_4 rfl rfl rfl ?_
    refine Vj_getsTENS (q := 8) gsX9_272 dX9_isRow_5 rfl ?_
    refine Vj_iloadn (q := 9) dX9_isRow_8 rfl rfl rfl ?_
    refine Vj_callSi (q := 12) (qX9_atTENSn hn) (by decide) lkX9_152 stX9_at okX9_at dX9_isRow_9 rfl rfl (Nat.le_of_ble_eq_true rfl) ?_
    rw [tens_at _ hn]
    refine Vj_icmp_ge (q := 15) (tgt := 19) dX9_isRow_12 (by decide) rfl (fun h12 => ?_) (fun h12 => ?_)
    ·
      refine Vj_iconst (q := 20) (v := 0) dX9_isRow_19 rfl (by decide) ?_
      exact Vr_iret rfl rfl dX9_isRow_20 (⟨by rw [isR, decide_eq_false (fun z => absurd h12 (Int32.not_le.mpr z.2))]; rfl, rfl⟩)
    ·
      refine Vj_iconst (q := 16) (v := 1) dX9_isRow_15 rfl (by decide) ?_
      refine Vj_goto (q := 20) dX9_isRow_16 (by decide) ?_
      exact Vr_iret rfl rfl dX9_isRow_20 (⟨by rw [isR, decide_eq_true ⟨i_nlt h1, i_nle h12⟩]; rfl, rfl⟩)
set_option maxRecDepth 100000 in
theorem qX9_see {tx : List Nat} {ρ : Rm} {c d p : Nat} {ac : List (Nat × Nat × Nat)} {sl : Nat → Option (Nat × Nat × Nat)} {se : List (Nat × Nat × Nat)} {sd : Int64} {N : Nat} {σ : Mem} (h : RX tx ρ c d p ac sl se sd σ) (hv : okV N ρ c d p ac sl se) (n row li : Int32) : Ct shX 2 mX9_see [.ref 0, .int n, .int row, .int li] σ (PX ((spSee se n row li).1) tx ρ c d p ac sl (spSee se n row li).2 sd) := by
  obtain ⟨hr, ⟨hc, hco⟩, ⟨hd, hdo⟩, hp, hN30, ⟨hal, hav⟩, hsv, hse⟩ := hv
  obtain ⟨hTx, hP, hTa, hRE, hNw, hAc, hSl, hSe, hSd⟩ := h
  have hp4 := p4_le hr.1
  have hn5 := hr.1
  have hB7 := hr.2.2.1
  have h : RX tx ρ c d p ac sl se sd σ := ⟨hTx, hP, hTa, hRE, hNw, hAc, hSl, hSe, hSd⟩
  refine Ct.of (by decide) (Nat.le_of_ble_eq_true rfl) (l := [some (.ref 0), some (.int n), some (.int row), some (.int li)]) rfl ?_
  refine Vj_iloadn (q := 1) dX9_see_0 rfl rfl rfl ?_
  refine Vj_if_lt (q := 4) (tgt := 17) dX9_see_1 (by decide) rfl (fun h1 => ?_) (fun h1 => ?_)
  ·
    refine Vj_bipush (q := 19) (v := (-2)) dX9_see_17 rfl (by decide) ?_
    refine Vr_iret rfl rfl dX9_see_19 ?_
    have e : spSee se n row li = (-2, se) := by
      rw [spSee, if_pos (Or.inl h1)]
    rw [e]
    exact ⟨rfl, h⟩
  ·
    refine Vj_iloadn (q := 5) dX9_see_4 rfl rfl rfl ?_
    refine Vj_iconst (q := 6) (v := 3) dX9_see_5 rfl (by decide) ?_
    refine Vj_icmp_gt (q := 9) (tgt := 17) dX9_see_6 (by decide) rfl (fun h6 => ?_) (fun h6 => ?_)
    ·
      refine Vj_bipush (q := 19) (v := (-2)) dX9_see_17 rfl (by decide) ?_
      refine Vr_iret rfl rfl dX9_see_19 ?_
      have e : spSee se n row li = (-2, se) := by
        rw [spSee, if_pos (Or.inr (Or.inl h6))]
      rw [e]
      exact ⟨rfl, h⟩
    ·
      obtain ⟨k, hk, rfl⟩ := nI_of h1
      have hk4 : k < 4 := by have := (nI_leI (b := 3) hk (by decide)).mp (Int32.not_lt.mp h6); omega
      have ekc : (nI k).toNatClampNeg = k := nI_clamp hk
      refine Vj_iloadn (q := 10) dX9_see_9 rfl rfl rfl ?_
      refine Vj_iloadn (q := 11) dX9_see_10 rfl rfl rfl ?_
      refine Vj_callSi (q := 14) (qX9_isRow (n := k) (by omega) row) (by decide) lkX9_178 stX9_isRow okX9_isRow dX9_see_11 rfl rfl (Nat.le_of_ble_eq_true rfl) ?_
      refine Vj_if_ne (q := 17) (tgt := 20) dX9_see_14 (by decide) rfl (fun h14 => ?_) (fun h14 => ?_)
      ·
        refine Vj_iloadn (q := 21) dX9_see_20 rfl rfl rfl ?_
        refine Vj_if_lt (q := 24) (tgt := 30) dX9_see_21 (by decide) rfl (fun h21 => ?_) (fun h21 => ?_)
        ·
          refine Vj_bipush (q := 32) (v := (-2)) dX9_see_30 rfl (by decide) ?_
          refine Vr_iret rfl rfl dX9_see_32 ?_
          have e : spSee se (nI k) row li = (-2, se) := by
            rw [spSee, if_pos (Or.inr (Or.inr (Or.inr (Or.inl h21))))]
          rw [e]
          exact ⟨rfl, h⟩
        ·
          refine Vj_iloadn (q := 25) dX9_see_24 rfl rfl rfl ?_
          refine Vj_bipush (q := 27) (v := 15) dX9_see_25 rfl (by decide) ?_
          refine Vj_icmp_le (q := 30) (tgt := 33) dX9_see_27 (by decide) rfl (fun h27 => ?_) (fun h27 => ?_)
          ·
            have hno : ¬ (nI k < 0 ∨ 3 < nI k ∨ isR (nI k).toNatClampNeg row = false ∨ li < 0 ∨ 15 < li) := by
              rintro (z | z | z | z | z)
              · exact h1 z
              · exact h6 z
              · rw [ekc, bI_n.mp h14] at z; cases z
              · exact h21 z
              · exact Int32.not_le.mpr z h27
            refine Vj_aloadn (q := 34) dX9_see_33 rfl rfl rfl ?_
            refine Vj_getR (q := 37) flX9_66 rfl rfl dX9_see_34 rfl ?_
            refine Vj_getI (q := 40) flX9_229 rfl rfl dX9_see_37 rfl ?_
            rw [hSe.1]
            refine Vj_bipush (q := 42) (v := 6) dX9_see_40 rfl (by decide) ?_
            refine Vj_icmp_lt (q := 45) (tgt := 48) dX9_see_42 (by decide) rfl (fun h42 => ?_) (fun h42 => ?_)
            ·
              have hl6 : se.length < 6 := (nI_ltI (b := 6) (by have := hse.1; omega) (by decide)).mp h42
              obtain ⟨r, hrr, rfl, erc⟩ := isR_n (by omega) (bI_n.mp h14)
              obtain ⟨l, hl, rfl⟩ := nI_of h21
              have hl16 : l < 16 := by have := (nI_leI (b := 15) hl (by decide)).mp h27; omega
              have elc : (nI l).toNatClampNeg = l := nI_clamp hl
              refine Vj_aloadn (q := 49) dX9_see_48 rfl rfl rfl ?_
              refine Vj_getR (q := 52) flX9_66 rfl rfl dX9_see_49 rfl ?_
              refine Vj_iloadn (q := 53) dX9_see_52 rfl rfl rfl ?_
              refine Vj_iloadn (q := 54) dX9_see_53 rfl rfl rfl ?_
              refine Vj_iloadn (q := 55) dX9_see_54 rfl rfl rfl ?_
              refine Vj_callVv (q := 58) (qX5_add (k := se.length) (by omega) hSe.1 _ _ _) (by decide) rfl rfl lkX9_232 viX5_add okX5_add dX9_see_55 rfl rfl (Nat.le_of_ble_eq_true rfl) ?_
              refine Vj_aloadn (q := 59) dX9_see_58 rfl rfl rfl ?_
              refine Vj_getR (q := 62) flX9_66 rfl rfl dX9_see_59 rfl ?_
              refine Vj_getI (q := 65) flX9_229 rfl rfl dX9_see_62 rfl ?_
              rw [show (mSe se.length (nI k) (nI r) (nI l) σ).1 36 4 = nI (se.length + 1) by simp [mSe, uI, upd]]
              refine Vr_iret rfl rfl dX9_see_65 ?_
              have e : spSee se (nI k) (nI r) (nI l) = (nI (se.length + 1), se ++ [(k, r, l)]) := by
                rw [spSee, if_neg hno, if_neg (by omega), ekc, erc, elc]
              rw [e]
              refine ⟨rfl, h.seen ((((Eqo.rf.u rfl).u rfl).u rfl).u rfl) ⟨by simp [mSe, uI, upd], fun i hi => ?_⟩⟩
              have e1 : (mSe se.length (nI k) (nI r) (nI l) σ).1 37 = upd (σ.1 37) se.length (nI k) := by unfold mSe; rw [uI_ne (by decide), uI_ne (by decide), uI_ne (by decide), uI_eq]
              have e2 : (mSe se.length (nI k) (nI r) (nI l) σ).1 38 = upd (σ.1 38) se.length (nI r) := by unfold mSe; rw [uI_ne (by decide), uI_ne (by decide), uI_eq, uI_ne (by decide)]
              have e3 : (mSe se.length (nI k) (nI r) (nI l) σ).1 39 = upd (σ.1 39) se.length (nI l) := by unfold mSe; rw [uI_ne (by decide), uI_eq, uI_ne (by decide), uI_ne (by decide)]
              rw [e1, e2, e3, upd, upd, upd]
              rw [List.length_append, List.length_singleton] at hi
              by_cases e : i = se.length
              · subst e
                simp only [if_pos, getD_r, and_self]
              · rw [if_neg e, if_neg e, if_neg e, getD_l (by omega)]
                exact hSe.2 i (by omega)
            ·
              refine Vj_bipush (q := 47) (v := (-4)) dX9_see_45 rfl (by decide) ?_
              refine Vr_iret rfl rfl dX9_see_47 ?_
              have e : spSee se (nI k) row li = (-4, se) := by
                rw [spSee, if_neg hno, if_pos ((nI_leI (a := 6) (by decide) (by have := hse.1; omega)).mp (Int32.not_lt.mp h42))]
              rw [e]
              exact ⟨rfl, h⟩
          ·
            refine Vj_bipush (q := 32) (v := (-2)) dX9_see_30 rfl (by decide) ?_
            refine Vr_iret rfl rfl dX9_see_32 ?_
            have e : spSee se (nI k) row li = (-2, se) := by
              rw [spSee, if_pos (Or.inr (Or.inr (Or.inr (Or.inr (Int32.not_le.mp h27)))))]
            rw [e]
            exact ⟨rfl, h⟩
      ·
        refine Vj_bipush (q := 19) (v := (-2)) dX9_see_17 rfl (by decide) ?_
        refine Vr_iret rfl rfl dX9_see_19 ?_
        have e : spSee se (nI k) row li = (-2, se) := by
          rw [spSee, if_pos (Or.inr (Or.inr (Or.inl (by rw [ekc]; exact bI_z.mp h14))))]
        rw [e]
        exact ⟨rfl, h⟩
set_option maxRecDepth 100000 in
theorem qX9_unsee {tx : List Nat} {ρ : Rm} {c d p : Nat} {ac : List (Nat × Nat × Nat)} {sl : Nat → Option (Nat × Nat × Nat)} {se : List (Nat × Nat × Nat)} {sd : Int64} {N : Nat} {σ : Mem} (h : RX tx ρ c d p ac sl se sd σ) (hv : okV N ρ c d p ac sl se) : Ct shX 0 mX9_unsee [.ref 0] σ (PX (nI se.length) tx ρ c d p ac sl [] sd) := by
  obtain ⟨hr, ⟨hc, hco⟩, ⟨hd, hdo⟩, hp, hN30, ⟨hal, hav⟩, hsv, hse⟩ := hv
  obtain ⟨hTx, hP, hTa, hRE, hNw, hAc, hSl, hSe, hSd⟩ := h
  have hp4 := p4_le hr.1
  have hn5 := hr.1
  have hB7 := hr.2.2.1
  have h : RX tx ρ c d p ac sl se sd σ := ⟨hTx, hP, hTa, hRE, hNw, hAc, hSl, hSe, hSd⟩
  refine Ct.of (by decide) (Nat.le_of_ble_eq_true rfl) (l := [some (.ref 0), none]) rfl ?_
  refine Vj_aloadn (q := 1) dX9_unsee_0 rfl rfl rfl ?_
  refine Vj_getR (q := 4) flX9_66 rfl rfl dX9_unsee_1 rfl ?_
  refine Vj_getI (q := 7) flX9_229 rfl rfl dX9_unsee_4 rfl ?_
  rw [hSe.1]
  refine Vs_istore1 (q := 8) dX9_unsee_7 rfl (by decide) rfl ?_
  refine Vj_aloadn (q := 9) dX9_unsee_8 rfl rfl rfl ?_
  refine Vj_getR (q := 12) flX9_66 rfl rfl dX9_unsee_9 rfl ?_
  refine Vj_iconst (q := 13) (v := 0) dX9_unsee_12 rfl (by decide) ?_
  refine Vj_putI (q := 16) flX9_229 rfl rfl dX9_unsee_13 rfl ?_
  refine Vj_iloadn (q := 17) dX9_unsee_16 rfl rfl rfl ?_
  exact Vr_iret rfl rfl dX9_unsee_17 (⟨rfl, h.seen (Eqo.rf.u rfl) ⟨by simp [uI, upd, nI_0], fun i hi => absurd hi (Nat.not_lt_zero i)⟩⟩)
set_option maxRecDepth 100000 in
theorem qX9_seed {tx : List Nat} {ρ : Rm} {c d p : Nat} {ac : List (Nat × Nat × Nat)} {sl : Nat → Option (Nat × Nat × Nat)} {se : List (Nat × Nat × Nat)} {sd : Int64} {N : Nat} {σ : Mem} (h : RX tx ρ c d p ac sl se sd σ) (hv : okV N ρ c d p ac sl se) (v : Int64) : Ct shX 0 mX9_seed [.ref 0, .long v] σ (fun r σ' => r = some (.long sd) ∧ RX tx ρ c d p ac sl se v σ') := by
  obtain ⟨hTx, hP, hTa, hRE, hNw, hAc, hSl, hSe, hSd⟩ := h
  refine Ct.of (by decide) (Nat.le_of_ble_eq_true rfl) (l := [some (.ref 0), some (.long v), none, none, none]) rfl ?_
  refine Vj_aloadn (q := 1) dX9_seed_0 rfl rfl rfl ?_
  refine Vj_getL (q := 4) flX9_275 rfl rfl dX9_seed_1 rfl ?_
  rw [hSd]
  refine Vs_lstore3 (q := 5) dX9_seed_4 rfl (by decide) rfl ?_
  refine Vj_aloadn (q := 6) dX9_seed_5 rfl rfl rfl ?_
  refine Vj_lloadn (q := 7) dX9_seed_6 rfl rfl rfl ?_
  refine Vj_putL (q := 10) flX9_275 rfl rfl dX9_seed_7 rfl ?_
  refine Vj_lloadn (q := 11) dX9_seed_10 rfl rfl rfl ?_
  exact Vr_lret rfl dX9_seed_11 (⟨rfl, hTx.of rfl rfl, hP.of rfl rfl rfl rfl rfl, hTa.of rfl rfl rfl rfl, hRE.of rfl rfl, hNw.of rfl, hAc.of rfl rfl rfl rfl, hSl.of rfl rfl rfl, hSe.of rfl rfl rfl rfl, by simp [uL, vp_updL]⟩)
