/-! THE TEXT -/
def Tx (tx : List Nat) (σ : Mem) : Prop := σ.1 1 1 = nI tx.length ∧ tx.length ≤ 44 ∧ ∀ i, i < tx.length → σ.1 2 i = nI (tx.getD i 0) ∧ tx.getD i 0 < 256
theorem Tx.of {tx : List Nat} {σ σ' : Mem} (h : Tx tx σ) (h1 : σ'.1 1 = σ.1 1) (h2 : σ'.1 2 = σ.1 2) : Tx tx σ' := ⟨by rw [h1]; exact h.1, h.2.1, fun i hi => by rw [h2]; exact h.2.2 i hi⟩
/-- the figure at a place -/
def fg (tx : List Nat) (p : Nat) : Option Nat := if p < tx.length ∧ 48 ≤ tx.getD p 0 ∧ tx.getD p 0 ≤ 57 then some (tx.getD p 0 - 48) else none
def lt? (tx : List Nat) (p : Nat) : Option Nat := if p < tx.length then some (tx.getD p 0) else none
theorem oI_some (k : Nat) : oI (some k) = nI k := rfl
theorem oI_none : oI none = -1 := rfl
theorem fg_le {tx : List Nat} {p s : Nat} (h : fg tx p = some s) : s < 10 := by
  unfold fg at h
  split at h
  · cases h; omega
  · cases h

set_option maxRecDepth 100000 in
theorem qX8_size {tx : List Nat} {σ : Mem} (h : Tx tx σ) : Ct shX 0 mX8_size [.ref 1] σ (Ri (nI tx.length) σ) := by
  refine Ct.of (by decide) (Nat.le_of_ble_eq_true rfl) (l := [some (.ref 1)]) rfl ?_
  refine Vj_aloadn (q := 1) dX8_size_0 rfl rfl rfl ?_
  refine Vj_getI (q := 4) flX8_15 rfl rfl dX8_size_1 rfl ?_
  rw [h.1]
  exact Vr_iret rfl rfl dX8_size_4 (⟨rfl, rfl⟩)
set_option maxRecDepth 100000 in
theorem qX8_isFull {tx : List Nat} {σ : Mem} (h : Tx tx σ) : Ct shX 0 mX8_isFull [.ref 1] σ (Ri (bI (decide (44 ≤ tx.length))) σ) := by
  have h44 := h.2.1
  refine Ct.of (by decide) (Nat.le_of_ble_eq_true rfl) (l := [some (.ref 1)]) rfl ?_
  refine Vj_aloadn (q := 1) dX8_isFull_0 rfl rfl rfl ?_
  refine Vj_getI (q := 4) flX8_15 rfl rfl dX8_isFull_1 rfl ?_
  rw [h.1]
  refine Vj_bipush (q := 6) (v := 44) dX8_isFull_4 rfl (by decide) ?_
  refine Vj_icmp_lt (q := 9) (tgt := 13) dX8_isFull_6 (by decide) rfl (fun h6 => ?_) (fun h6 => ?_)
  ·
    refine Vj_iconst (q := 14) (v := 0) dX8_isFull_13 rfl (by decide) ?_
    exact Vr_iret rfl rfl dX8_isFull_14 (⟨by rw [decide_eq_false (by have := (nI_ltI (a := tx.length) (b := 44) (by omega) (by decide)).mp h6; omega)]; rfl, rfl⟩)
  ·
    refine Vj_iconst (q := 10) (v := 1) dX8_isFull_9 rfl (by decide) ?_
    refine Vj_goto (q := 14) dX8_isFull_10 (by decide) ?_
    exact Vr_iret rfl rfl dX8_isFull_14 (⟨by rw [decide_eq_true (by have := (nI_leI (a := 44) (b := tx.length) (by decide) (by omega)).mp (Int32.not_lt.mp h6); omega)]; rfl, rfl⟩)
set_option maxRecDepth 100000 in
theorem qX8_append {tx : List Nat} {σ : Mem} (h : Tx tx σ) (hf : tx.length < 44) (x : Int32) : Ct shX 1 mX8_append [.ref 1, .int x] σ (Rv (uI (uI σ 2 tx.length x) 1 1 (nI (tx.length + 1)))) := by
  refine Ct.of (by decide) (Nat.le_of_ble_eq_true rfl) (l := [some (.ref 1), some (.int x)]) rfl ?_
  refine Vj_aloadn (q := 1) dX8_append_0 rfl rfl rfl ?_
  refine Vj_getR (q := 4) flX8_9 rfl rfl dX8_append_1 rfl ?_
  refine Vj_aloadn (q := 5) dX8_append_4 rfl rfl rfl ?_
  refine Vj_getI (q := 8) flX8_15 rfl rfl dX8_append_5 rfl ?_
  rw [h.1]
  refine Vj_iloadn (q := 9) dX8_append_8 rfl rfl rfl ?_
  refine Vj_callSv (q := 12) (qX9_putn rfl (by decide) (j := tx.length) hf x) (by decide) lkX8_19 stX9_put okX9_put dX8_append_9 rfl rfl (Nat.le_of_ble_eq_true rfl) ?_
  refine Vj_aloadn (q := 13) dX8_append_12 rfl rfl rfl ?_
  refine Vj_dup (q := 14) dX8_append_13 rfl rfl ?_
  refine Vj_getI (q := 17) flX8_15 rfl rfl dX8_append_14 rfl ?_
  rw [uI_ne (by decide), h.1]
  refine Vj_iconst (q := 18) (v := 1) dX8_append_17 rfl (by decide) ?_
  refine Vj_iadd (q := 19) dX8_append_18 rfl ?_
  rw [nI_1]
  refine Vj_putI (q := 22) flX8_15 rfl rfl dX8_append_19 rfl ?_
  exact Vr_vret rfl dX8_append_22 (⟨rfl, rfl⟩)
set_option maxRecDepth 100000 in
theorem qX8_empty {σ : Mem} : Ct shX 0 mX8_empty [.ref 1] σ (Rv (uI σ 1 1 0)) := by
  refine Ct.of (by decide) (Nat.le_of_ble_eq_true rfl) (l := [some (.ref 1)]) rfl ?_
  refine Vj_aloadn (q := 1) dX8_empty_0 rfl rfl rfl ?_
  refine Vj_iconst (q := 2) (v := 0) dX8_empty_1 rfl (by decide) ?_
  refine Vj_putI (q := 5) flX8_15 rfl rfl dX8_empty_2 rfl ?_
  exact Vr_vret rfl dX8_empty_5 (⟨rfl, rfl⟩)
set_option maxRecDepth 100000 in
theorem qX8_letterAt {tx : List Nat} {σ : Mem} (h : Tx tx σ) {p : Nat} (hp : p < 1000) : Ct shX 1 mX8_letterAt [.ref 1, .int (nI p)] σ (Ri (oI (lt? tx p)) σ) := by
  have h44 := h.2.1
  refine Ct.of (by decide) (Nat.le_of_ble_eq_true rfl) (l := [some (.ref 1), some (.int (nI p))]) rfl ?_
  refine Vj_iloadn (q := 1) dX8_letterAt_0 rfl rfl rfl ?_
  refine Vj_if_lt (q := 4) (tgt := 23) dX8_letterAt_1 (by decide) rfl (fun hz => absurd hz (nI_pos (by omega))) (fun _ => ?_)
  refine Vj_iloadn (q := 5) dX8_letterAt_4 rfl rfl rfl ?_
  refine Vj_aloadn (q := 6) dX8_letterAt_5 rfl rfl rfl ?_
  refine Vj_getI (q := 9) flX8_15 rfl rfl dX8_letterAt_6 rfl ?_
  rw [h.1]
  refine Vj_icmp_ge (q := 12) (tgt := 23) dX8_letterAt_9 (by decide) rfl (fun h9 => ?_) (fun h9 => ?_)
  ·
    refine Vj_iconst (q := 24) (v := (-1)) dX8_letterAt_23 rfl (by decide) ?_
    exact Vr_iret rfl rfl dX8_letterAt_24 (⟨by rw [lt?, if_neg (by have := (nI_leI (by omega) (by omega)).mp h9; omega)]; rfl, rfl⟩)
  ·
    refine Vj_aloadn (q := 13) dX8_letterAt_12 rfl rfl rfl ?_
    refine Vj_getR (q := 16) flX8_9 rfl rfl dX8_letterAt_13 rfl ?_
    refine Vj_iloadn (q := 17) dX8_letterAt_16 rfl rfl rfl ?_
    refine Vj_callSi (q := 20) (qX9_atn rfl (by decide) (j := p) (by have := (nI_ltI (by omega) (by omega)).mp (Int32.not_le.mp h9); omega)) (by decide) lkX8_23 stX9_at okX9_at dX8_letterAt_17 rfl rfl (Nat.le_of_ble_eq_true rfl) ?_
    refine Vj_goto (q := 24) dX8_letterAt_20 (by decide) ?_
    exact Vr_iret rfl rfl dX8_letterAt_24 (⟨by have := (nI_ltI (by omega) (by omega)).mp (Int32.not_le.mp h9); rw [lt?, if_pos this, (h.2.2 p this).1]; rfl, rfl⟩)
set_option maxRecDepth 100000 in
theorem qX8_figureAt {tx : List Nat} {σ : Mem} (h : Tx tx σ) {p : Nat} (hp : p < 1000) : Ct shX 2 mX8_figureAt [.ref 1, .int (nI p)] σ (Ri (oI (fg tx p)) σ) := by
  refine Ct.of (by decide) (Nat.le_of_ble_eq_true rfl) (l := [some (.ref 1), some (.int (nI p)), none]) rfl ?_
  refine Vj_aloadn (q := 1) dX8_figureAt_0 rfl rfl rfl ?_
  refine Vj_iloadn (q := 2) dX8_figureAt_1 rfl rfl rfl ?_
  refine Vj_callVi (q := 5) (qX8_letterAt h hp) (by decide) rfl rfl lkX8_27 viX8_letterAt okX8_letterAt dX8_figureAt_2 rfl rfl (Nat.le_of_ble_eq_true rfl) ?_
  by_cases hl : p < tx.length
  ·
    have e : lt? tx p = some (tx.getD p 0) := if_pos hl
    have h256 := (h.2.2 p hl).2
    rw [e, oI_some]
    refine Vs_istore2 (q := 6) dX8_figureAt_5 rfl (by decide) rfl ?_
    refine Vj_iloadn (q := 7) dX8_figureAt_6 rfl rfl rfl ?_
    refine Vj_bipush (q := 9) (v := 48) dX8_figureAt_7 rfl (by decide) ?_
    refine Vj_icmp_lt (q := 12) (tgt := 25) dX8_figureAt_9 (by decide) rfl (fun h9 => ?_) (fun h9 => ?_)
    ·
      refine Vj_iconst (q := 26) (v := (-1)) dX8_figureAt_25 rfl (by decide) ?_
      exact Vr_iret rfl rfl dX8_figureAt_26 (⟨by rw [fg, if_neg (by have := (nI_ltI (a := tx.getD p 0) (b := 48) (by omega) (by decide)).mp h9; omega)]; rfl, rfl⟩)
    ·
      refine Vj_iloadn (q := 13) dX8_figureAt_12 rfl rfl rfl ?_
      refine Vj_bipush (q := 15) (v := 57) dX8_figureAt_13 rfl (by decide) ?_
      refine Vj_icmp_gt (q := 18) (tgt := 25) dX8_figureAt_15 (by decide) rfl (fun h15 => ?_) (fun h15 => ?_)
      ·
        refine Vj_iconst (q := 26) (v := (-1)) dX8_figureAt_25 rfl (by decide) ?_
        exact Vr_iret rfl rfl dX8_figureAt_26 (⟨by rw [fg, if_neg (by have := (nI_ltI (a := 57) (b := tx.getD p 0) (by decide) (by omega)).mp h15; omega)]; rfl, rfl⟩)
      ·
        refine Vj_iloadn (q := 19) dX8_figureAt_18 rfl rfl rfl ?_
        refine Vj_bipush (q := 21) (v := 48) dX8_figureAt_19 rfl (by decide) ?_
        refine Vj_isub (q := 22) dX8_figureAt_21 rfl ?_
        rw [show (48 : Int32) = nI 48 from rfl, pk_sub (show 48 ≤ tx.getD p 0 from (nI_leI (a := 48) (by decide) (by omega)).mp (Int32.not_lt.mp h9))]
        refine Vj_goto (q := 26) dX8_figureAt_22 (by decide) ?_
        exact Vr_iret rfl rfl dX8_figureAt_26 (⟨by rw [fg, if_pos ⟨hl, (nI_leI (a := 48) (by decide) (by omega)).mp (Int32.not_lt.mp h9), (nI_leI (b := 57) (by omega) (by decide)).mp (Int32.not_lt.mp h15)⟩]; rfl, rfl⟩)
  ·
    have e : lt? tx p = none := if_neg hl
    rw [e, oI_none]
    refine Vs_istore2 (q := 6) dX8_figureAt_5 rfl (by decide) rfl ?_
    refine Vj_iloadn (q := 7) dX8_figureAt_6 rfl rfl rfl ?_
    refine Vj_bipush (q := 9) (v := 48) dX8_figureAt_7 rfl (by decide) ?_
    refine Vj_icmp_lt (q := 12) (tgt := 25) dX8_figureAt_9 (by decide) rfl (fun _ => ?_) (fun hz => absurd (by decide) hz)
    refine Vj_iconst (q := 26) (v := (-1)) dX8_figureAt_25 rfl (by decide) ?_
    exact Vr_iret rfl rfl dX8_figureAt_26 (⟨by rw [fg, if_neg (fun z => hl z.1)]; rfl, rfl⟩)
/-! Reader -/
def pTh (tx : List Nat) (p : Nat) (L : List Nat) : Nat ⊕ (Nat × Nat) :=
  if 4 ≤ L.length then .inl 0 else
  match fg tx (p + 1) with
  | none => .inl 1
  | some s => if s < 2 ∨ 4 < s then .inl 1 else
    match fg tx (p + 2) with
    | none => .inl 2
    | some i => if s ≤ i then .inl 2 else .inr (s, i)
def mbX (L : List Nat) (t k a : Nat) : Bool := if k = 1 then decide (a < L.getD t 0) else if k = 3 then decide (a < L.length ∧ a ≠ t) else decide (a = 0)
def pBu (tx : List Nat) (p : Nat) (L : List Nat) (B : List (Nat × Nat × Nat)) : Nat ⊕ (Nat × Nat × Nat) :=
  if 6 ≤ B.length ∨ L.length = 0 then .inl 0 else
  match fg tx (p + 1) with
  | none => .inl 1
  | some t => if L.length ≤ t then .inl 1 else
    match fg tx (p + 2) with
    | none => .inl 2
    | some k => if 3 < k ∨ (k = 3 ∧ L.length < 2) then .inl 2 else
      match fg tx (p + 3) with
      | none => .inl 3
      | some a => if mbX L t k a = true then .inr (t, k, a) else .inl 3
def pTR : Nat ⊕ (Nat × Nat) → Int32
  | .inl g => nI g
  | .inr _ => nI 3
def pTM (n : Nat) (σ : Mem) : Nat ⊕ (Nat × Nat) → Mem
  | .inl _ => σ
  | .inr u => mT 4 n (nI u.1) (nI u.2) σ
def pBR : Nat ⊕ (Nat × Nat × Nat) → Int32
  | .inl g => nI g
  | .inr _ => nI 4
def pBM (n : Nat) (σ : Mem) : Nat ⊕ (Nat × Nat × Nat) → Mem
  | .inl _ => σ
  | .inr u => mB 4 n (nI u.1) (nI u.2.1) (nI u.2.2) σ

set_option maxRecDepth 100000 in
theorem qX3_readThing {tx : List Nat} {σ : Mem} (h : Tx tx σ) {L F : List Nat} {B : List (Nat × Nat × Nat)} (hD : PD 4 L F B σ) (hL : L.length < 5) (hB : B.length < 7) {p : Nat} (hp : p < 900) : Ct shX 3 mX3_readThing [.ref 3, .ref 1, .int (nI p)] σ (Ri (pTR (pTh tx p L)) (pTM L.length σ (pTh tx p L))) := by
  refine Ct.of (by decide) (Nat.le_of_ble_eq_true rfl) (l := [some (.ref 3), some (.ref 1), some (.int (nI p)), none, none]) rfl ?_
  refine Vj_aloadn (q := 1) dX3_readThing_0 rfl rfl rfl ?_
  refine Vj_getR (q := 4) flX3_12 rfl rfl dX3_readThing_1 rfl ?_
  refine Vj_getI (q := 7) flX3_18 rfl rfl dX3_readThing_4 rfl ?_
  rw [hD.1]
  refine Vj_iconst (q := 8) (v := 4) dX3_readThing_7 rfl (by decide) ?_
  refine Vj_icmp_lt (q := 11) (tgt := 13) dX3_readThing_8 (by decide) rfl (fun h8 => ?_) (fun h8 => ?_)
  ·
    have g8 := (nI_ltI (a := L.length) (b := 4) (by omega) (by decide)).mp h8
    refine Vj_aloadn (q := 14) dX3_readThing_13 rfl rfl rfl ?_
    refine Vj_iloadn (q := 15) dX3_readThing_14 rfl rfl rfl ?_
    refine Vj_iconst (q := 16) (v := 1) dX3_readThing_15 rfl (by decide) ?_
    refine Vj_iadd (q := 17) dX3_readThing_16 rfl ?_
    rw [show nI p + 1 = nI (p + 1) from nI_1 p]
    refine Vj_callVi (q := 20) (qX8_figureAt h (by omega)) (by decide) rfl rfl lkX3_42 viX8_figureAt okX8_figureAt dX3_readThing_17 rfl rfl (Nat.le_of_ble_eq_true rfl) ?_
    rcases f1 : fg tx (p + 1) with _ | s
    ·
      rw [oI_none]
      refine Vs_istore3 (q := 21) dX3_readThing_20 rfl (by decide) rfl ?_
      refine Vj_iloadn (q := 22) dX3_readThing_21 rfl rfl rfl ?_
      refine Vj_iconst (q := 23) (v := 2) dX3_readThing_22 rfl (by decide) ?_
      refine Vj_icmp_lt (q := 26) (tgt := 31) dX3_readThing_23 (by decide) rfl (fun _ => ?_) (fun hz => absurd (by decide) hz)
      refine Vj_iconst (q := 32) (v := 1) dX3_readThing_31 rfl (by decide) ?_
      refine Vr_iret rfl rfl dX3_readThing_32 ?_
      have e : pTh tx p L = .inl 1 := by
        unfold pTh
        rw [if_neg (by omega), f1]
      exact ⟨by rw [e]; rfl, by rw [e]; rfl⟩
    ·
      rw [oI_some]
      have s10 := fg_le f1
      refine Vs_istore3 (q := 21) dX3_readThing_20 rfl (by decide) rfl ?_
      refine Vj_iloadn (q := 22) dX3_readThing_21 rfl rfl rfl ?_
      refine Vj_iconst (q := 23) (v := 2) dX3_readThing_22 rfl (by decide) ?_
      refine Vj_icmp_lt (q := 26) (tgt := 31) dX3_readThing_23 (by decide) rfl (fun h23 => ?_) (fun h23 => ?_)
      ·
        refine Vj_iconst (q := 32) (v := 1) dX3_readThing_31 rfl (by decide) ?_
        refine Vr_iret rfl rfl dX3_readThing_32 ?_
        have e : pTh tx p L = .inl 1 := by
          unfold pTh
          rw [if_neg (by omega), f1]
          have := (nI_ltI (a := s) (b := 2) (by omega) (by decide)).mp h23
          exact if_pos (by omega)
        exact ⟨by rw [e]; rfl, by rw [e]; rfl⟩
      ·
        refine Vj_iloadn (q := 27) dX3_readThing_26 rfl rfl rfl ?_
        refine Vj_iconst (q := 28) (v := 4) dX3_readThing_27 rfl (by decide) ?_
        refine Vj_icmp_le (q := 31) (tgt := 33) dX3_readThing_28 (by decide) rfl (fun h28 => ?_) (fun h28 => ?_)
        ·
          have g23 := (nI_leI (a := 2) (b := s) (by decide) (by omega)).mp (Int32.not_lt.mp h23)
          have g28 := (nI_leI (a := s) (b := 4) (by omega) (by decide)).mp h28
          have gs : ¬ (s < 2 ∨ 4 < s) := by omega
          refine Vj_aloadn (q := 34) dX3_readThing_33 rfl rfl rfl ?_
          refine Vj_iloadn (q := 35) dX3_readThing_34 rfl rfl rfl ?_
          refine Vj_iconst (q := 36) (v := 2) dX3_readThing_35 rfl (by decide) ?_
          refine Vj_iadd (q := 37) dX3_readThing_36 rfl ?_
          rw [show nI p + 2 = nI (p + 2) from nI_add p 2]
          refine Vj_callVi (q := 40) (qX8_figureAt h (by omega)) (by decide) rfl rfl lkX3_42 viX8_figureAt okX8_figureAt dX3_readThing_37 rfl rfl (Nat.le_of_ble_eq_true rfl) ?_
          rcases f2 : fg tx (p + 2) with _ | i
          ·
            rw [oI_none]
            refine Vs_istore4 (q := 42) dX3_readThing_40 rfl (by decide) rfl ?_
            refine Vj_iload (q := 44) dX3_readThing_42 rfl rfl ?_
            refine Vj_if_lt (q := 47) (tgt := 53) dX3_readThing_44 (by decide) rfl (fun _ => ?_) (fun hz => absurd (by decide) hz)
            refine Vj_iconst (q := 54) (v := 2) dX3_readThing_53 rfl (by decide) ?_
            refine Vr_iret rfl rfl dX3_readThing_54 ?_
            have e : pTh tx p L = .inl 2 := by
              unfold pTh
              rw [if_neg (by omega), f1]
              simp only [if_neg gs, f2]
            exact ⟨by rw [e]; rfl, by rw [e]; rfl⟩
          ·
            rw [oI_some]
            have i10 := fg_le f2
            refine Vs_istore4 (q := 42) dX3_readThing_40 rfl (by decide) rfl ?_
            refine Vj_iload (q := 44) dX3_readThing_42 rfl rfl ?_
            refine Vj_if_lt (q := 47) (tgt := 53) dX3_readThing_44 (by decide) rfl (fun hz => absurd hz (nI_pos (by omega))) (fun _ => ?_)
            refine Vj_iload (q := 49) dX3_readThing_47 rfl rfl ?_
            refine Vj_iloadn (q := 50) dX3_readThing_49 rfl rfl rfl ?_
            refine Vj_icmp_lt (q := 53) (tgt := 55) dX3_readThing_50 (by decide) rfl (fun h50 => ?_) (fun h50 => ?_)
            ·
              refine Vj_aloadn (q := 56) dX3_readThing_55 rfl rfl rfl ?_
              refine Vj_getR (q := 59) flX3_12 rfl rfl dX3_readThing_56 rfl ?_
              refine Vj_iloadn (q := 60) dX3_readThing_59 rfl rfl rfl ?_
              refine Vj_iload (q := 62) dX3_readThing_60 rfl rfl ?_
              refine Vj_callVv (q := 65) (qX0_addThing PSh_4 (n := L.length) (by omega) hD.1 _ _) (by decide) rfl rfl lkX3_45 viX0_addThing okX0_addThing dX3_readThing_62 rfl rfl (Nat.le_of_ble_eq_true rfl) ?_
              refine Vj_iconst (q := 66) (v := 3) dX3_readThing_65 rfl (by decide) ?_
              refine Vr_iret rfl rfl dX3_readThing_66 ?_
              have e : pTh tx p L = .inr (s, i) := by
                unfold pTh
                rw [if_neg (by omega), f1]
                have := (nI_ltI (a := i) (b := s) (by omega) (by omega)).mp h50
                simp only [if_neg gs, f2, if_neg (show ¬ s ≤ i by omega)]
              exact ⟨by rw [e]; rfl, by rw [e]; rfl⟩
            ·
              refine Vj_iconst (q := 54) (v := 2) dX3_readThing_53 rfl (by decide) ?_
              refine Vr_iret rfl rfl dX3_readThing_54 ?_
              have e : pTh tx p L = .inl 2 := by
                unfold pTh
                rw [if_neg (by omega), f1]
                have := (nI_leI (a := s) (b := i) (by omega) (by omega)).mp (Int32.not_lt.mp h50)
                simp only [if_neg gs, f2, if_pos this]
              exact ⟨by rw [e]; rfl, by rw [e]; rfl⟩
        ·
          refine Vj_iconst (q := 32) (v := 1) dX3_readThing_31 rfl (by decide) ?_
          refine Vr_iret rfl rfl dX3_readThing_32 ?_
          have e : pTh tx p L = .inl 1 := by
            unfold pTh
            rw [if_neg (by omega), f1]
            have := (nI_ltI (a := 4) (b := s) (by decide) (by omega)).mp (Int32.not_le.mp h28)
            exact if_pos (by omega)
          exact ⟨by rw [e]; rfl, by rw [e]; rfl⟩
  ·
    have g8 := (nI_leI (a := 4) (b := L.length) (by decide) (by omega)).mp (Int32.not_lt.mp h8)
    refine Vj_iconst (q := 12) (v := 0) dX3_readThing_11 rfl (by decide) ?_
    refine Vr_iret rfl rfl dX3_readThing_12 ?_
    have e : pTh tx p L = .inl 0 := by
      unfold pTh
      rw [if_pos g8]
    exact ⟨by rw [e]; rfl, by rw [e]; rfl⟩
set_option maxRecDepth 100000 in
theorem qX3_mayBeExtra {σ : Mem} {L F : List Nat} {B : List (Nat × Nat × Nat)} (hD : PD 4 L F B σ) (hL : L.length < 5) (hs : ∀ u, u < L.length → L.getD u 0 < 10) {t k a : Nat} (ht : t < L.length) (hk4 : k < 10) (ha : a < 10) : Ct shX 1 mX3_mayBeExtra [.ref 3, .int (nI t), .int (nI k), .int (nI a)] σ (Ri (bI (mbX L t k a)) σ) := by
  have hst := hs t ht
  refine Ct.of (by decide) (Nat.le_of_ble_eq_true rfl) (l := [some (.ref 3), some (.int (nI t)), some (.int (nI k)), some (.int (nI a))]) rfl ?_
  refine Vj_iloadn (q := 1) dX3_mayBeExtra_0 rfl rfl rfl ?_
  rcases (show k = 1 ∨ k = 3 ∨ (k ≠ 1 ∧ k ≠ 3) by omega) with hk | hk | hk
  ·
    subst hk
    refine Vj_lookup (q := 28) (off := 27) dX3_mayBeExtra_1 (by decide) (by decide) (by decide) ?_
    refine Vj_iloadn (q := 29) dX3_mayBeExtra_28 rfl rfl rfl ?_
    refine Vj_aloadn (q := 30) dX3_mayBeExtra_29 rfl rfl rfl ?_
    refine Vj_getR (q := 33) flX3_12 rfl rfl dX3_mayBeExtra_30 rfl ?_
    refine Vj_getR (q := 36) flX3_57 rfl rfl dX3_mayBeExtra_33 rfl ?_
    refine Vj_iloadn (q := 37) dX3_mayBeExtra_36 rfl rfl rfl ?_
    refine Vj_callSi (q := 40) (qX9_atn rfl (by decide) (j := t) (by omega)) (by decide) lkX3_61 stX9_at okX9_at dX3_mayBeExtra_37 rfl rfl (Nat.le_of_ble_eq_true rfl) ?_
    rw [(hD.2.2.1 t ht).1]
    refine Vj_icmp_ge (q := 43) (tgt := 47) dX3_mayBeExtra_40 (by decide) rfl (fun h40 => ?_) (fun h40 => ?_)
    ·
      refine Vj_iconst (q := 48) (v := 0) dX3_mayBeExtra_47 rfl (by decide) ?_
      refine Vr_iret rfl rfl dX3_mayBeExtra_48 ?_
      have e : mbX L t 1 a = false := by
        simp only [mbX, if_pos rfl]
        exact decide_eq_false (by have := (nI_leI (by omega) (by omega)).mp h40; omega)
      exact ⟨by rw [e]; rfl, rfl⟩
    ·
      refine Vj_iconst (q := 44) (v := 1) dX3_mayBeExtra_43 rfl (by decide) ?_
      refine Vj_goto (q := 48) dX3_mayBeExtra_44 (by decide) ?_
      refine Vr_iret rfl rfl dX3_mayBeExtra_48 ?_
      have e : mbX L t 1 a = true := by
        simp only [mbX, if_pos rfl]
        exact decide_eq_true ((nI_ltI (by omega) (by omega)).mp (Int32.not_le.mp h40))
      exact ⟨by rw [e]; rfl, rfl⟩
  ·
    subst hk
    refine Vj_lookup (q := 49) (off := 48) dX3_mayBeExtra_1 (by decide) (by decide) (by decide) ?_
    refine Vj_iloadn (q := 50) dX3_mayBeExtra_49 rfl rfl rfl ?_
    refine Vj_aloadn (q := 51) dX3_mayBeExtra_50 rfl rfl rfl ?_
    refine Vj_getR (q := 54) flX3_12 rfl rfl dX3_mayBeExtra_51 rfl ?_
    refine Vj_getI (q := 57) flX3_18 rfl rfl dX3_mayBeExtra_54 rfl ?_
    rw [hD.1]
    refine Vj_icmp_ge (q := 60) (tgt := 69) dX3_mayBeExtra_57 (by decide) rfl (fun h57 => ?_) (fun h57 => ?_)
    ·
      refine Vj_iconst (q := 70) (v := 0) dX3_mayBeExtra_69 rfl (by decide) ?_
      refine Vr_iret rfl rfl dX3_mayBeExtra_70 ?_
      have e : mbX L t 3 a = false := by
        rw [mbX, if_neg (by decide), if_pos rfl]
        exact decide_eq_false (by have := (nI_leI (by omega) (by omega)).mp h57; omega)
      exact ⟨by rw [e]; rfl, rfl⟩
    ·
      refine Vj_iloadn (q := 61) dX3_mayBeExtra_60 rfl rfl rfl ?_
      refine Vj_iloadn (q := 62) dX3_mayBeExtra_61 rfl rfl rfl ?_
      refine Vj_icmp_eq (q := 65) (tgt := 69) dX3_mayBeExtra_62 (by decide) rfl (fun h62 => ?_) (fun h62 => ?_)
      ·
        refine Vj_iconst (q := 70) (v := 0) dX3_mayBeExtra_69 rfl (by decide) ?_
        refine Vr_iret rfl rfl dX3_mayBeExtra_70 ?_
        have e : mbX L t 3 a = false := by
          rw [mbX, if_neg (by decide), if_pos rfl]
          exact decide_eq_false (by have := (nI_eq (by omega) (by omega)).mp h62; omega)
        exact ⟨by rw [e]; rfl, rfl⟩
      ·
        refine Vj_iconst (q := 66) (v := 1) dX3_mayBeExtra_65 rfl (by decide) ?_
        refine Vj_goto (q := 70) dX3_mayBeExtra_66 (by decide) ?_
        refine Vr_iret rfl rfl dX3_mayBeExtra_70 ?_
        have e : mbX L t 3 a = true := by
          rw [mbX, if_neg (by decide), if_pos rfl]
          exact decide_eq_true ⟨(nI_ltI (by omega) (by omega)).mp (Int32.not_le.mp h57), nI_ne_of (by omega) (by omega) h62⟩
        exact ⟨by rw [e]; rfl, rfl⟩
  ·
    have e1 : ¬ (nI k).toInt = 1 := by rw [nI_toInt (by omega)]; omega
    have e3 : ¬ (nI k).toInt = 3 := by rw [nI_toInt (by omega)]; omega
    refine Vj_lookup (q := 71) (off := 70) dX3_mayBeExtra_1 (by decide) (by
    rw [show (#[((1 : Int), (27 : Int)), (3, 48)] : Array (Int × Int)).toList = [(1, 27), (3, 48)] from rfl, Op.lookupswitch.offset_cons, if_neg (fun z => e1 z.symm), Op.lookupswitch.offset_cons, if_neg (fun z => e3 z.symm)]; rfl) (by decide) ?_
    refine Vj_iloadn (q := 72) dX3_mayBeExtra_71 rfl rfl rfl ?_
    refine Vj_if_ne (q := 75) (tgt := 79) dX3_mayBeExtra_72 (by decide) rfl (fun h72 => ?_) (fun h72 => ?_)
    ·
      refine Vj_iconst (q := 80) (v := 0) dX3_mayBeExtra_79 rfl (by decide) ?_
      refine Vr_iret rfl rfl dX3_mayBeExtra_80 ?_
      have e : mbX L t k a = false := by
        rw [mbX, if_neg hk.1, if_neg hk.2]
        exact decide_eq_false (fun z => h72 (by rw [z]; rfl))
      exact ⟨by rw [e]; rfl, rfl⟩
    ·
      refine Vj_iconst (q := 76) (v := 1) dX3_mayBeExtra_75 rfl (by decide) ?_
      refine Vj_goto (q := 80) dX3_mayBeExtra_76 (by decide) ?_
      refine Vr_iret rfl rfl dX3_mayBeExtra_80 ?_
      have e : mbX L t k a = true := by
        rw [mbX, if_neg hk.1, if_neg hk.2]
        exact decide_eq_true ((nI_z (by omega)).mp h72)
      exact ⟨by rw [e]; rfl, rfl⟩
set_option maxRecDepth 100000 in
theorem qX3_readButton {tx : List Nat} {σ : Mem} (h : Tx tx σ) {L F : List Nat} {B : List (Nat × Nat × Nat)} (hD : PD 4 L F B σ) (hL : L.length < 5) (hB : B.length < 7) {p : Nat} (hp : p < 900) (hs : ∀ u, u < L.length → L.getD u 0 < 10) : Ct shX 3 mX3_readButton [.ref 3, .ref 1, .int (nI p)] σ (Ri (pBR (pBu tx p L B)) (pBM B.length σ (pBu tx p L B))) := by
  refine Ct.of (by decide) (Nat.le_of_ble_eq_true rfl) (l := [some (.ref 3), some (.ref 1), some (.int (nI p)), none, none, none]) rfl ?_
  refine Vj_aloadn (q := 1) dX3_readButton_0 rfl rfl rfl ?_
  refine Vj_getR (q := 4) flX3_12 rfl rfl dX3_readButton_1 rfl ?_
  refine Vj_getI (q := 7) flX3_22 rfl rfl dX3_readButton_4 rfl ?_
  rw [hD.2.1]
  refine Vj_bipush (q := 9) (v := 6) dX3_readButton_7 rfl (by decide) ?_
  refine Vj_icmp_ge (q := 12) (tgt := 22) dX3_readButton_9 (by decide) rfl (fun h9 => ?_) (fun h9 => ?_)
  ·
    refine Vj_iconst (q := 23) (v := 0) dX3_readButton_22 rfl (by decide) ?_
    refine Vr_iret rfl rfl dX3_readButton_23 ?_
    have e : pBu tx p L B = .inl 0 := by
      unfold pBu
      have := (nI_leI (a := 6) (b := B.length) (by decide) (by omega)).mp h9
      rw [if_pos (by omega)]
    exact ⟨by rw [e]; rfl, by rw [e]; rfl⟩
  ·
    refine Vj_aloadn (q := 13) dX3_readButton_12 rfl rfl rfl ?_
    refine Vj_getR (q := 16) flX3_12 rfl rfl dX3_readButton_13 rfl ?_
    refine Vj_getI (q := 19) flX3_18 rfl rfl dX3_readButton_16 rfl ?_
    rw [hD.1]
    refine Vj_if_ne (q := 22) (tgt := 24) dX3_readButton_19 (by decide) rfl (fun h19 => ?_) (fun h19 => ?_)
    ·
      have g9 := (nI_ltI (a := B.length) (b := 6) (by omega) (by decide)).mp (Int32.not_le.mp h9)
      have g19 : L.length ≠ 0 := fun z => h19 ((nI_z (by omega)).mpr z)
      refine Vj_aloadn (q := 25) dX3_readButton_24 rfl rfl rfl ?_
      refine Vj_iloadn (q := 26) dX3_readButton_25 rfl rfl rfl ?_
      refine Vj_iconst (q := 27) (v := 1) dX3_readButton_26 rfl (by decide) ?_
      refine Vj_iadd (q := 28) dX3_readButton_27 rfl ?_
      rw [show nI p + 1 = nI (p + 1) from nI_1 p]
      refine Vj_callVi (q := 31) (qX8_figureAt h (by omega)) (by decide) rfl rfl lkX3_42 viX8_figureAt okX8_figureAt dX3_readButton_28 rfl rfl (Nat.le_of_ble_eq_true rfl) ?_
      rcases f1 : fg tx (p + 1) with _ | t
      ·
        rw [oI_none]
        refine Vs_istore3 (q := 32) dX3_readButton_31 rfl (by decide) rfl ?_
        refine Vj_iloadn (q := 33) dX3_readButton_32 rfl rfl rfl ?_
        refine Vj_if_lt (q := 36) (tgt := 47) dX3_readButton_33 (by decide) rfl (fun _ => ?_) (fun hz => absurd (by decide) hz)
        refine Vj_iconst (q := 48) (v := 1) dX3_readButton_47 rfl (by decide) ?_
        refine Vr_iret rfl rfl dX3_readButton_48 ?_
        have e : pBu tx p L B = .inl 1 := by
          unfold pBu
          rw [if_neg (by omega), f1]
        exact ⟨by rw [e]; rfl, by rw [e]; rfl⟩
      ·
        rw [oI_some]
        have t10 := fg_le f1
        refine Vs_istore3 (q := 32) dX3_readButton_31 rfl (by decide) rfl ?_
        refine Vj_iloadn (q := 33) dX3_readButton_32 rfl rfl rfl ?_
        refine Vj_if_lt (q := 36) (tgt := 47) dX3_readButton_33 (by decide) rfl (fun hz => absurd hz (nI_pos (by omega))) (fun _ => ?_)
        refine Vj_iloadn (q := 37) dX3_readButton_36 rfl rfl rfl ?_
        refine Vj_aloadn (q := 38) dX3_readButton_37 rfl rfl rfl ?_
        refine Vj_getR (q := 41) flX3_12 rfl rfl dX3_readButton_38 rfl ?_
        refine Vj_getI (q := 44) flX3_18 rfl rfl dX3_readButton_41 rfl ?_
        rw [hD.1]
        refine Vj_icmp_lt (q := 47) (tgt := 49) dX3_readButton_44 (by decide) rfl (fun h44 => ?_) (fun h44 => ?_)
        ·
          have g44 := (nI_ltI (a := t) (b := L.length) (by omega) (by omega)).mp h44
          have n44 : ¬ L.length ≤ t := by omega
          refine Vj_aloadn (q := 50) dX3_readButton_49 rfl rfl rfl ?_
          refine Vj_iloadn (q := 51) dX3_readButton_50 rfl rfl rfl ?_
          refine Vj_iconst (q := 52) (v := 2) dX3_readButton_51 rfl (by decide) ?_
          refine Vj_iadd (q := 53) dX3_readButton_52 rfl ?_
          rw [show nI p + 2 = nI (p + 2) from nI_add p 2]
          refine Vj_callVi (q := 56) (qX8_figureAt h (by omega)) (by decide) rfl rfl lkX3_42 viX8_figureAt okX8_figureAt dX3_readButton_53 rfl rfl (Nat.le_of_ble_eq_true rfl) ?_
          rcases f2 : fg tx (p + 2) with _ | k
          ·
            rw [oI_none]
            refine Vs_istore4 (q := 58) dX3_readButton_56 rfl (by decide) rfl ?_
            refine Vj_iload (q := 60) dX3_readButton_58 rfl rfl ?_
            refine Vj_if_lt (q := 63) (tgt := 86) dX3_readButton_60 (by decide) rfl (fun _ => ?_) (fun hz => absurd (by decide) hz)
            refine Vj_iconst (q := 87) (v := 2) dX3_readButton_86 rfl (by decide) ?_
            refine Vr_iret rfl rfl dX3_readButton_87 ?_
            have e : pBu tx p L B = .inl 2 := by
              unfold pBu
              rw [if_neg (by omega), f1]
              simp only [if_neg n44, f2]
            exact ⟨by rw [e]; rfl, by rw [e]; rfl⟩
          ·
            rw [oI_some]
            have k10 := fg_le f2
            refine Vs_istore4 (q := 58) dX3_readButton_56 rfl (by decide) rfl ?_
            refine Vj_iload (q := 60) dX3_readButton_58 rfl rfl ?_
            refine Vj_if_lt (q := 63) (tgt := 86) dX3_readButton_60 (by decide) rfl (fun hz => absurd hz (nI_pos (by omega))) (fun _ => ?_)
            refine Vj_iload (q := 65) dX3_readButton_63 rfl rfl ?_
            refine Vj_iconst (q := 66) (v := 3) dX3_readButton_65 rfl (by decide) ?_
            refine Vj_icmp_gt (q := 69) (tgt := 86) dX3_readButton_66 (by decide) rfl (fun h66 => ?_) (fun h66 => ?_)
            ·
              refine Vj_iconst (q := 87) (v := 2) dX3_readButton_86 rfl (by decide) ?_
              refine Vr_iret rfl rfl dX3_readButton_87 ?_
              have e : pBu tx p L B = .inl 2 := by
                unfold pBu
                rw [if_neg (by omega), f1]
                have := (nI_ltI (a := 3) (b := k) (by decide) (by omega)).mp h66
                simp only [if_neg n44, f2]
                exact if_pos (Or.inl this)
              exact ⟨by rw [e]; rfl, by rw [e]; rfl⟩
            ·
              refine Vj_iload (q := 71) dX3_readButton_69 rfl rfl ?_
              refine Vj_iconst (q := 72) (v := 3) dX3_readButton_71 rfl (by decide) ?_
              refine Vj_icmp_ne (q := 75) (tgt := 88) dX3_readButton_72 (by decide) rfl (fun h72 => ?_) (fun h72 => ?_)
              ·
                have gk : ¬ (3 < k ∨ (k = 3 ∧ L.length < 2)) := by
                  have z1 := (nI_leI (a := k) (b := 3) (by omega) (by decide)).mp (Int32.not_lt.mp h66)
                  have z2 := nI_ne_of (a := k) (b := 3) (by omega) (by decide) h72
                  omega
                refine Vj_aloadn (q := 89) dX3_readButton_88 rfl rfl rfl ?_
                refine Vj_iloadn (q := 90) dX3_readButton_89 rfl rfl rfl ?_
                refine Vj_iconst (q := 91) (v := 3) dX3_readButton_90 rfl (by decide) ?_
                refine Vj_iadd (q := 92) dX3_readButton_91 rfl ?_
                rw [show nI p + 3 = nI (p + 3) from nI_add p 3]
                refine Vj_callVi (q := 95) (qX8_figureAt h (by omega)) (by decide) rfl rfl lkX3_42 viX8_figureAt okX8_figureAt dX3_readButton_92 rfl rfl (Nat.le_of_ble_eq_true rfl) ?_
                rcases f3 : fg tx (p + 3) with _ | a
                ·
                  rw [oI_none]
                  refine Vs_istore5 (q := 97) dX3_readButton_95 rfl (by decide) rfl ?_
                  refine Vj_iload (q := 99) dX3_readButton_97 rfl rfl ?_
                  refine Vj_if_lt (q := 102) (tgt := 114) dX3_readButton_99 (by decide) rfl (fun _ => ?_) (fun hz => absurd (by decide) hz)
                  refine Vj_iconst (q := 115) (v := 3) dX3_readButton_114 rfl (by decide) ?_
                  refine Vr_iret rfl rfl dX3_readButton_115 ?_
                  have e : pBu tx p L B = .inl 3 := by
                    unfold pBu
                    rw [if_neg (by omega), f1]
                    simp only [if_neg n44, f2, if_neg gk, f3]
                  exact ⟨by rw [e]; rfl, by rw [e]; rfl⟩
                ·
                  rw [oI_some]
                  have a10 := fg_le f3
                  refine Vs_istore5 (q := 97) dX3_readButton_95 rfl (by decide) rfl ?_
                  refine Vj_iload (q := 99) dX3_readButton_97 rfl rfl ?_
                  refine Vj_if_lt (q := 102) (tgt := 114) dX3_readButton_99 (by decide) rfl (fun hz => absurd hz (nI_pos (by omega))) (fun _ => ?_)
                  refine Vj_aloadn (q := 103) dX3_readButton_102 rfl rfl rfl ?_
                  refine Vj_iloadn (q := 104) dX3_readButton_103 rfl rfl rfl ?_
                  refine Vj_iload (q := 106) dX3_readButton_104 rfl rfl ?_
                  refine Vj_iload (q := 108) dX3_readButton_106 rfl rfl ?_
                  refine Vj_callVi (q := 111) (qX3_mayBeExtra hD hL hs g44 (by omega) a10) (by decide) rfl rfl lkX3_49 viX3_mayBeExtra okX3_mayBeExtra dX3_readButton_108 rfl rfl (Nat.le_of_ble_eq_true rfl) ?_
                  refine Vj_if_ne (q := 114) (tgt := 116) dX3_readButton_111 (by decide) rfl (fun h111 => ?_) (fun h111 => ?_)
                  ·
                    refine Vj_aloadn (q := 117) dX3_readButton_116 rfl rfl rfl ?_
                    refine Vj_getR (q := 120) flX3_12 rfl rfl dX3_readButton_117 rfl ?_
                    refine Vj_iloadn (q := 121) dX3_readButton_120 rfl rfl rfl ?_
                    refine Vj_iload (q := 123) dX3_readButton_121 rfl rfl ?_
                    refine Vj_iload (q := 125) dX3_readButton_123 rfl rfl ?_
                    refine Vj_callVv (q := 128) (qX0_addButton PSh_4 (n := B.length) (by omega) hD.2.1 _ _ _) (by decide) rfl rfl lkX3_53 viX0_addButton okX0_addButton dX3_readButton_125 rfl rfl (Nat.le_of_ble_eq_true rfl) ?_
                    refine Vj_iconst (q := 129) (v := 4) dX3_readButton_128 rfl (by decide) ?_
                    refine Vr_iret rfl rfl dX3_readButton_129 ?_
                    have e : pBu tx p L B = .inr (t, k, a) := by
                      unfold pBu
                      rw [if_neg (by omega), f1]
                      simp only [if_neg n44, f2, if_neg gk, f3]
                      exact if_pos (bI_n.mp h111)
                    exact ⟨by rw [e]; rfl, by rw [e]; rfl⟩
                  ·
                    refine Vj_iconst (q := 115) (v := 3) dX3_readButton_114 rfl (by decide) ?_
                    refine Vr_iret rfl rfl dX3_readButton_115 ?_
                    have e : pBu tx p L B = .inl 3 := by
                      unfold pBu
                      rw [if_neg (by omega), f1]
                      simp only [if_neg n44, f2, if_neg gk, f3]
                      exact if_neg (by rw [bI_z.mp h111]; decide)
                    exact ⟨by rw [e]; rfl, by rw [e]; rfl⟩
              ·
                refine Vj_aloadn (q := 76) dX3_readButton_75 rfl rfl rfl ?_
                refine Vj_getR (q := 79) flX3_12 rfl rfl dX3_readButton_76 rfl ?_
                refine Vj_getI (q := 82) flX3_18 rfl rfl dX3_readButton_79 rfl ?_
                rw [hD.1]
                refine Vj_iconst (q := 83) (v := 2) dX3_readButton_82 rfl (by decide) ?_
                refine Vj_icmp_ge (q := 86) (tgt := 88) dX3_readButton_83 (by decide) rfl (fun h83 => ?_) (fun h83 => ?_)
                ·
                  have gk : ¬ (3 < k ∨ (k = 3 ∧ L.length < 2)) := by
                    have z1 := (nI_leI (a := k) (b := 3) (by omega) (by decide)).mp (Int32.not_lt.mp h66)
                    have z2 := (nI_leI (a := 2) (b := L.length) (by decide) (by omega)).mp h83
                    omega
                  refine Vj_aloadn (q := 89) dX3_readButton_88 rfl rfl rfl ?_
                  refine Vj_iloadn (q := 90) dX3_readButton_89 rfl rfl rfl ?_
                  refine Vj_iconst (q := 91) (v := 3) dX3_readButton_90 rfl (by decide) ?_
                  refine Vj_iadd (q := 92) dX3_readButton_91 rfl ?_
                  rw [show nI p + 3 = nI (p + 3) from nI_add p 3]
                  refine Vj_callVi (q := 95) (qX8_figureAt h (by omega)) (by decide) rfl rfl lkX3_42 viX8_figureAt okX8_figureAt dX3_readButton_92 rfl rfl (Nat.le_of_ble_eq_true rfl) ?_
                  rcases f3 : fg tx (p + 3) with _ | a
                  ·
                    rw [oI_none]
                    refine Vs_istore5 (q := 97) dX3_readButton_95 rfl (by decide) rfl ?_
                    refine Vj_iload (q := 99) dX3_readButton_97 rfl rfl ?_
                    refine Vj_if_lt (q := 102) (tgt := 114) dX3_readButton_99 (by decide) rfl (fun _ => ?_) (fun hz => absurd (by decide) hz)
                    refine Vj_iconst (q := 115) (v := 3) dX3_readButton_114 rfl (by decide) ?_
                    refine Vr_iret rfl rfl dX3_readButton_115 ?_
                    have e : pBu tx p L B = .inl 3 := by
                      unfold pBu
                      rw [if_neg (by omega), f1]
                      simp only [if_neg n44, f2, if_neg gk, f3]
                    exact ⟨by rw [e]; rfl, by rw [e]; rfl⟩
                  ·
                    rw [oI_some]
                    have a10 := fg_le f3
                    refine Vs_istore5 (q := 97) dX3_readButton_95 rfl (by decide) rfl ?_
                    refine Vj_iload (q := 99) dX3_readButton_97 rfl rfl ?_
                    refine Vj_if_lt (q := 102) (tgt := 114) dX3_readButton_99 (by decide) rfl (fun hz => absurd hz (nI_pos (by omega))) (fun _ => ?_)
                    refine Vj_aloadn (q := 103) dX3_readButton_102 rfl rfl rfl ?_
                    refine Vj_iloadn (q := 104) dX3_readButton_103 rfl rfl rfl ?_
                    refine Vj_iload (q := 106) dX3_readButton_104 rfl rfl ?_
                    refine Vj_iload (q := 108) dX3_readButton_106 rfl rfl ?_
                    refine Vj_callVi (q := 111) (qX3_mayBeExtra hD hL hs g44 (by omega) a10) (by decide) rfl rfl lkX3_49 viX3_mayBeExtra okX3_mayBeExtra dX3_readButton_108 rfl rfl (Nat.le_of_ble_eq_true rfl) ?_
                    refine Vj_if_ne (q := 114) (tgt := 116) dX3_readButton_111 (by decide) rfl (fun h111 => ?_) (fun h111 => ?_)
                    ·
                      refine Vj_aloadn (q := 117) dX3_readButton_116 rfl rfl rfl ?_
                      refine Vj_getR (q := 120) flX3_12 rfl rfl dX3_readButton_117 rfl ?_
                      refine Vj_iloadn (q := 121) dX3_readButton_120 rfl rfl rfl ?_
                      refine Vj_iload (q := 123) dX3_readButton_121 rfl rfl ?_
                      refine Vj_iload (q := 125) dX3_readButton_123 rfl rfl ?_
                      refine Vj_callVv (q := 128) (qX0_addButton PSh_4 (n := B.length) (by omega) hD.2.1 _ _ _) (by decide) rfl rfl lkX3_53 viX0_addButton okX0_addButton dX3_readButton_125 rfl rfl (Nat.le_of_ble_eq_true rfl) ?_
                      refine Vj_iconst (q := 129) (v := 4) dX3_readButton_128 rfl (by decide) ?_
                      refine Vr_iret rfl rfl dX3_readButton_129 ?_
                      have e : pBu tx p L B = .inr (t, k, a) := by
                        unfold pBu
                        rw [if_neg (by omega), f1]
                        simp only [if_neg n44, f2, if_neg gk, f3]
                        exact if_pos (bI_n.mp h111)
                      exact ⟨by rw [e]; rfl, by rw [e]; rfl⟩
                    ·
                      refine Vj_iconst (q := 115) (v := 3) dX3_readButton_114 rfl (by decide) ?_
                      refine Vr_iret rfl rfl dX3_readButton_115 ?_
                      have e : pBu tx p L B = .inl 3 := by
                        unfold pBu
                        rw [if_neg (by omega), f1]
                        simp only [if_neg n44, f2, if_neg gk, f3]
                        exact if_neg (by rw [bI_z.mp h111]; decide)
                      exact ⟨by rw [e]; rfl, by rw [e]; rfl⟩
                ·
                  refine Vj_iconst (q := 87) (v := 2) dX3_readButton_86 rfl (by decide) ?_
                  refine Vr_iret rfl rfl dX3_readButton_87 ?_
                  have e : pBu tx p L B = .inl 2 := by
                    unfold pBu
                    rw [if_neg (by omega), f1]
                    have e3 := (nI_eq (a := k) (b := 3) (by omega) (by decide)).mp h72
                    have := (nI_ltI (a := L.length) (b := 2) (by omega) (by decide)).mp (Int32.not_le.mp h83)
                    simp only [if_neg n44, f2]
                    exact if_pos (Or.inr ⟨e3, this⟩)
                  exact ⟨by rw [e]; rfl, by rw [e]; rfl⟩
        ·
          refine Vj_iconst (q := 48) (v := 1) dX3_readButton_47 rfl (by decide) ?_
          refine Vr_iret rfl rfl dX3_readButton_48 ?_
          have e : pBu tx p L B = .inl 1 := by
            unfold pBu
            rw [if_neg (by omega), f1]
            have := (nI_leI (a := L.length) (b := t) (by omega) (by omega)).mp (Int32.not_lt.mp h44)
            exact if_pos this
          exact ⟨by rw [e]; rfl, by rw [e]; rfl⟩
    ·
      refine Vj_iconst (q := 23) (v := 0) dX3_readButton_22 rfl (by decide) ?_
      refine Vr_iret rfl rfl dX3_readButton_23 ?_
      have e : pBu tx p L B = .inl 0 := by
        unfold pBu
        have := (nI_z (by omega)).mp h19
        rw [if_pos (by omega)]
      exact ⟨by rw [e]; rfl, by rw [e]; rfl⟩
