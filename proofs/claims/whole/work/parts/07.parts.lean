/-! FiveRemotes$Parts: an object at q, its rows at q + 1 .. q + 5 -/
def PSh (q : Nat) : Prop := shX[q]? = some (.inr (0, [(0, 0), (0, 0), (2, q + 1), (2, q + 2), (2, q + 3), (2, q + 4), (2, q + 5)])) ∧ shX[q + 1]? = some (.inl (0, 4)) ∧ shX[q + 2]? = some (.inl (0, 4)) ∧ shX[q + 3]? = some (.inl (0, 6)) ∧ shX[q + 4]? = some (.inl (0, 6)) ∧ shX[q + 5]? = some (.inl (0, 6))
theorem PSh_4 : PSh 4 := ⟨rfl, rfl, rfl, rfl, rfl, rfl⟩
theorem PSh_11 : PSh 11 := ⟨rfl, rfl, rfl, rfl, rfl, rfl⟩
theorem PSh_43 : PSh 43 := ⟨rfl, rfl, rfl, rfl, rfl, rfl⟩
def mT (q n : Nat) (x y : Int32) (σ : Mem) : Mem := uI (uI (uI σ (q + 1) n x) (q + 2) n y) q 0 (nI (n + 1))
def mB (q n : Nat) (x y z : Int32) (σ : Mem) : Mem := uI (uI (uI (uI σ (q + 3) n x) (q + 4) n y) (q + 5) n z) q 1 (nI (n + 1))
theorem mT_ne {q n r : Nat} {x y : Int32} {σ : Mem} (h0 : r ≠ q) (h1 : r ≠ q + 1) (h2 : r ≠ q + 2) : (mT q n x y σ).1 r = σ.1 r := by
  unfold mT; rw [uI_ne h0, uI_ne h2, uI_ne h1]
theorem mB_ne {q n r : Nat} {x y z : Int32} {σ : Mem} (h0 : r ≠ q) (h1 : r ≠ q + 3) (h2 : r ≠ q + 4) (h3 : r ≠ q + 5) : (mB q n x y z σ).1 r = σ.1 r := by
  unfold mB; rw [uI_ne h0, uI_ne h3, uI_ne h2, uI_ne h1]
/-- what a Parts object tells -/
def PD (q : Nat) (L F : List Nat) (B : List (Nat × Nat × Nat)) (σ : Mem) : Prop := σ.1 q 0 = nI L.length ∧ σ.1 q 1 = nI B.length ∧ (∀ t, t < L.length → σ.1 (q + 1) t = nI (L.getD t 0) ∧ σ.1 (q + 2) t = nI (F.getD t 0)) ∧ ∀ b, b < B.length → σ.1 (q + 3) b = nI (B.getD b (0, 0, 0)).1 ∧ σ.1 (q + 4) b = nI (B.getD b (0, 0, 0)).2.1 ∧ σ.1 (q + 5) b = nI (B.getD b (0, 0, 0)).2.2
theorem PD.of {q : Nat} {L F : List Nat} {B : List (Nat × Nat × Nat)} {σ σ' : Mem} (h : PD q L F B σ) (he : ∀ i, i < 6 → σ'.1 (q + i) = σ.1 (q + i)) : PD q L F B σ' := by
  have e0 := he 0 (by decide)
  rw [Nat.add_zero] at e0
  refine ⟨by rw [e0]; exact h.1, by rw [e0]; exact h.2.1, fun t ht => ?_, fun b hb => ?_⟩
  · rw [he 1 (by decide), he 2 (by decide)]; exact h.2.2.1 t ht
  · rw [he 3 (by decide), he 4 (by decide), he 5 (by decide)]; exact h.2.2.2 b hb
theorem getD_l {α : Type} {L : List α} {x d : α} {t : Nat} (h : t < L.length) : (L ++ [x]).getD t d = L.getD t d := by
  simp [List.getD, List.getElem?_append_left h]
theorem getD_r {α : Type} {L : List α} {x d : α} : (L ++ [x]).getD L.length d = x := by
  simp [List.getD]
theorem PD.addT {q s i : Nat} {L F : List Nat} {B : List (Nat × Nat × Nat)} {σ : Mem} (h : PD q L F B σ) (hf : F.length = L.length) : PD q (L ++ [s]) (F ++ [i]) B (mT q L.length (nI s) (nI i) σ) := by
  refine ⟨by simp [mT, uI_eq, upd], ?_, fun t ht => ?_, fun b hb => ?_⟩
  · have : (mT q L.length (nI s) (nI i) σ).1 q 1 = σ.1 q 1 := by
      unfold mT; rw [uI_eq, upd, if_neg (by decide), uI_ne (by omega), uI_ne (by omega)]
    rw [this]; exact h.2.1
  · have e1 : (mT q L.length (nI s) (nI i) σ).1 (q + 1) = upd (σ.1 (q + 1)) L.length (nI s) := by unfold mT; rw [uI_ne (by omega), uI_ne (by omega), uI_eq]
    have e2 : (mT q L.length (nI s) (nI i) σ).1 (q + 2) = upd (σ.1 (q + 2)) L.length (nI i) := by unfold mT; rw [uI_ne (by omega), uI_eq, uI_ne (by omega)]
    rw [e1, e2]
    rw [List.length_append, List.length_singleton] at ht
    by_cases e : t = L.length
    · subst e
      refine ⟨by rw [upd, if_pos rfl, getD_r], ?_⟩
      rw [upd, if_pos rfl, ← hf, getD_r]
    · have ht' : t < L.length := by omega
      rw [upd, upd, if_neg e, if_neg e, getD_l ht', getD_l (by omega)]
      exact h.2.2.1 t ht'
  · rw [mT_ne (by omega) (by omega) (by omega), mT_ne (by omega) (by omega) (by omega), mT_ne (by omega) (by omega) (by omega)]
    exact h.2.2.2 b hb
theorem PD.addB {q : Nat} {L F : List Nat} {B : List (Nat × Nat × Nat)} {u : Nat × Nat × Nat} {σ : Mem} (h : PD q L F B σ) : PD q L F (B ++ [u]) (mB q B.length (nI u.1) (nI u.2.1) (nI u.2.2) σ) := by
  refine ⟨?_, by simp [mB, uI_eq, upd], fun t ht => ?_, fun b hb => ?_⟩
  · have : (mB q B.length (nI u.1) (nI u.2.1) (nI u.2.2) σ).1 q 0 = σ.1 q 0 := by
      unfold mB; rw [uI_eq, upd, if_neg (by decide), uI_ne (by omega), uI_ne (by omega), uI_ne (by omega)]
    rw [this]; exact h.1
  · rw [mB_ne (by omega) (by omega) (by omega) (by omega), mB_ne (by omega) (by omega) (by omega) (by omega)]
    exact h.2.2.1 t ht
  · have e1 : (mB q B.length (nI u.1) (nI u.2.1) (nI u.2.2) σ).1 (q + 3) = upd (σ.1 (q + 3)) B.length (nI u.1) := by unfold mB; rw [uI_ne (by omega), uI_ne (by omega), uI_ne (by omega), uI_eq]
    have e2 : (mB q B.length (nI u.1) (nI u.2.1) (nI u.2.2) σ).1 (q + 4) = upd (σ.1 (q + 4)) B.length (nI u.2.1) := by unfold mB; rw [uI_ne (by omega), uI_ne (by omega), uI_eq, uI_ne (by omega)]
    have e3 : (mB q B.length (nI u.1) (nI u.2.1) (nI u.2.2) σ).1 (q + 5) = upd (σ.1 (q + 5)) B.length (nI u.2.2) := by unfold mB; rw [uI_ne (by omega), uI_eq, uI_ne (by omega), uI_ne (by omega)]
    rw [e1, e2, e3]
    rw [List.length_append, List.length_singleton] at hb
    by_cases e : b = B.length
    · subst e
      simp only [upd, if_pos, getD_r, and_self]
    · have hb' : b < B.length := by omega
      rw [upd, upd, upd, if_neg e, if_neg e, if_neg e, getD_l hb']
      exact h.2.2.2 b hb'

set_option maxRecDepth 100000 in
theorem qX0_addThing {σ : Mem} {q n : Nat} (hq : PSh q) (hn : n < 4) (h0 : σ.1 q 0 = nI n) (x y : Int32) : Ct shX 1 mX0_addThing [.ref q, .int x, .int y] σ (Rv (mT q n x y σ)) := by
  refine Ct.of (by decide) (Nat.le_of_ble_eq_true rfl) (l := [some (.ref q), some (.int x), some (.int y)]) rfl ?_
  refine Vj_aloadn (q := 1) dX0_addThing_0 rfl rfl rfl ?_
  refine Vj_getR (q := 4) flX0_9 hq.1 rfl dX0_addThing_1 rfl ?_
  refine Vj_aloadn (q := 5) dX0_addThing_4 rfl rfl rfl ?_
  refine Vj_getI (q := 8) flX0_27 hq.1 rfl dX0_addThing_5 rfl ?_
  rw [h0]
  refine Vj_iloadn (q := 9) dX0_addThing_8 rfl rfl rfl ?_
  refine Vj_callSv (q := 12) (qX9_putn hq.2.1 (by decide) hn x) (by decide) lkX0_31 stX9_put okX9_put dX0_addThing_9 rfl rfl (Nat.le_of_ble_eq_true rfl) ?_
  refine Vj_aloadn (q := 13) dX0_addThing_12 rfl rfl rfl ?_
  refine Vj_getR (q := 16) flX0_15 hq.1 rfl dX0_addThing_13 rfl ?_
  refine Vj_aloadn (q := 17) dX0_addThing_16 rfl rfl rfl ?_
  refine Vj_getI (q := 20) flX0_27 hq.1 rfl dX0_addThing_17 rfl ?_
  rw [uI_ne (show q ≠ q + 1 by omega), h0]
  refine Vj_iloadn (q := 21) dX0_addThing_20 rfl rfl rfl ?_
  refine Vj_callSv (q := 24) (qX9_putn hq.2.2.1 (by decide) hn y) (by decide) lkX0_31 stX9_put okX9_put dX0_addThing_21 rfl rfl (Nat.le_of_ble_eq_true rfl) ?_
  refine Vj_aloadn (q := 25) dX0_addThing_24 rfl rfl rfl ?_
  refine Vj_dup (q := 26) dX0_addThing_25 rfl rfl ?_
  refine Vj_getI (q := 29) flX0_27 hq.1 rfl dX0_addThing_26 rfl ?_
  rw [uI_ne (show q ≠ q + 2 by omega), uI_ne (show q ≠ q + 1 by omega), h0]
  refine Vj_iconst (q := 30) (v := 1) dX0_addThing_29 rfl (by decide) ?_
  refine Vj_iadd (q := 31) dX0_addThing_30 rfl ?_
  rw [nI_1]
  refine Vj_putI (q := 34) flX0_27 hq.1 rfl dX0_addThing_31 rfl ?_
  exact Vr_vret rfl dX0_addThing_34 (⟨rfl, rfl⟩)
set_option maxRecDepth 100000 in
theorem qX0_addButton {σ : Mem} {q n : Nat} (hq : PSh q) (hn : n < 6) (h0 : σ.1 q 1 = nI n) (x y z : Int32) : Ct shX 1 mX0_addButton [.ref q, .int x, .int y, .int z] σ (Rv (mB q n x y z σ)) := by
  refine Ct.of (by decide) (Nat.le_of_ble_eq_true rfl) (l := [some (.ref q), some (.int x), some (.int y), some (.int z)]) rfl ?_
  refine Vj_aloadn (q := 1) dX0_addButton_0 rfl rfl rfl ?_
  refine Vj_getR (q := 4) flX0_18 hq.1 rfl dX0_addButton_1 rfl ?_
  refine Vj_aloadn (q := 5) dX0_addButton_4 rfl rfl rfl ?_
  refine Vj_getI (q := 8) flX0_35 hq.1 rfl dX0_addButton_5 rfl ?_
  rw [h0]
  refine Vj_iloadn (q := 9) dX0_addButton_8 rfl rfl rfl ?_
  refine Vj_callSv (q := 12) (qX9_putn hq.2.2.2.1 (by decide) hn x) (by decide) lkX0_31 stX9_put okX9_put dX0_addButton_9 rfl rfl (Nat.le_of_ble_eq_true rfl) ?_
  refine Vj_aloadn (q := 13) dX0_addButton_12 rfl rfl rfl ?_
  refine Vj_getR (q := 16) flX0_21 hq.1 rfl dX0_addButton_13 rfl ?_
  refine Vj_aloadn (q := 17) dX0_addButton_16 rfl rfl rfl ?_
  refine Vj_getI (q := 20) flX0_35 hq.1 rfl dX0_addButton_17 rfl ?_
  rw [uI_ne (show q ≠ q + 3 by omega), h0]
  refine Vj_iloadn (q := 21) dX0_addButton_20 rfl rfl rfl ?_
  refine Vj_callSv (q := 24) (qX9_putn hq.2.2.2.2.1 (by decide) hn y) (by decide) lkX0_31 stX9_put okX9_put dX0_addButton_21 rfl rfl (Nat.le_of_ble_eq_true rfl) ?_
  refine Vj_aloadn (q := 25) dX0_addButton_24 rfl rfl rfl ?_
  refine Vj_getR (q := 28) flX0_24 hq.1 rfl dX0_addButton_25 rfl ?_
  refine Vj_aloadn (q := 29) dX0_addButton_28 rfl rfl rfl ?_
  refine Vj_getI (q := 32) flX0_35 hq.1 rfl dX0_addButton_29 rfl ?_
  rw [uI_ne (show q ≠ q + 4 by omega), uI_ne (show q ≠ q + 3 by omega), h0]
  refine Vj_iloadn (q := 33) dX0_addButton_32 rfl rfl rfl ?_
  refine Vj_callSv (q := 36) (qX9_putn hq.2.2.2.2.2 (by decide) hn z) (by decide) lkX0_31 stX9_put okX9_put dX0_addButton_33 rfl rfl (Nat.le_of_ble_eq_true rfl) ?_
  refine Vj_aloadn (q := 37) dX0_addButton_36 rfl rfl rfl ?_
  refine Vj_dup (q := 38) dX0_addButton_37 rfl rfl ?_
  refine Vj_getI (q := 41) flX0_35 hq.1 rfl dX0_addButton_38 rfl ?_
  rw [uI_ne (show q ≠ q + 5 by omega), uI_ne (show q ≠ q + 4 by omega), uI_ne (show q ≠ q + 3 by omega), h0]
  refine Vj_iconst (q := 42) (v := 1) dX0_addButton_41 rfl (by decide) ?_
  refine Vj_iadd (q := 43) dX0_addButton_42 rfl ?_
  rw [nI_1]
  refine Vj_putI (q := 46) flX0_35 hq.1 rfl dX0_addButton_43 rfl ?_
  exact Vr_vret rfl dX0_addButton_46 (⟨rfl, rfl⟩)
/-- behind a copy -/
def CpP (L F : List Nat) (B : List (Nat × Nat × Nat)) (σ0 : Mem) : Option Value → Mem → Prop := fun r σ' => r = none ∧ PD 11 L F B σ' ∧ Eqo [11, 12, 13, 14, 15, 16] σ0 σ'
theorem take_s {α : Type} {L : List α} {d : α} {t : Nat} (h : t < L.length) : L.take (t + 1) = L.take t ++ [L.getD t d] := by
  rw [List.take_succ, List.getD, List.getElem?_eq_getElem h]; rfl
theorem Eqo.mT {S : List Nat} {σ σ' : Mem} {q n : Nat} {x y : Int32} (h : Eqo S σ σ') (h0 : S.contains q = true) (h1 : S.contains (q + 1) = true) (h2 : S.contains (q + 2) = true) : Eqo S σ (mT q n x y σ') := ((h.u h1).u h2).u h0
theorem Eqo.mB {S : List Nat} {σ σ' : Mem} {q n : Nat} {x y z : Int32} (h : Eqo S σ σ') (h0 : S.contains q = true) (h1 : S.contains (q + 3) = true) (h2 : S.contains (q + 4) = true) (h3 : S.contains (q + 5) = true) : Eqo S σ (mB q n x y z σ') := (((h.u h1).u h2).u h3).u h0
theorem Eqo.p {S : List Nat} {σ σ' : Mem} {p : Nat} (h : Eqo S σ σ') (hS : ∀ q ∈ S, 11 ≤ q ∧ q ≤ 16) (hp : p < 11 ∨ 16 < p) : σ'.1 p = σ.1 p := h.1 p fun z => by have := hS p z; omega

set_option maxRecDepth 100000 in
theorem qX0_copy_l2 {L F : List Nat} {B : List (Nat × Nat × Nat)} {σ0 : Mem} {p : Nat} (hp : PSh p) (hpp : p + 5 < 11 ∨ 16 < p) (hL : L.length < 5) (hF : F.length = L.length) (hB : B.length < 7) (hT : PD p L F B σ0) : ∀ k b (σ : Mem), b + k = B.length → PD 11 L F (B.take b) σ → Eqo [11, 12, 13, 14, 15, 16] σ0 σ → Vj shX 2 mX0_copy (CpP L F B σ0) 48 [some (.ref 11), some (.ref p), some (.int (nI b))] [] σ := by
  intro k
  induction k with
  | zero =>
    intro b σ hb hD hE
    have e0 := hE.p (fun q hq => by simp at hq; omega) (show p < 11 ∨ 16 < p by omega)
    refine Vj_iloadn (q := 49) dX0_copy_48 rfl rfl rfl ?_
    refine Vj_aloadn (q := 50) dX0_copy_49 rfl rfl rfl ?_
    refine Vj_getI (q := 53) flX0_35 hp.1 rfl dX0_copy_50 rfl ?_
    rw [e0, hT.2.1]
    refine Vj_icmp_ge (q := 56) (tgt := 90) dX0_copy_53 (by decide) rfl (fun _ => ?_) (fun hz => absurd (nI_le (by omega) (by omega)) hz)
    exact Vr_vret rfl dX0_copy_90 (⟨rfl, by rw [List.take_of_length_le (by omega)] at hD; exact hD, hE⟩)
  | succ k ih =>
    intro b σ hb hD hE
    have hbl : b < B.length := by omega
    have e0 := hE.p (fun q hq => by simp at hq; omega) (show p < 11 ∨ 16 < p by omega)
    have e3 := hE.p (fun q hq => by simp at hq; omega) (show p + 3 < 11 ∨ 16 < p + 3 by omega)
    have e4 := hE.p (fun q hq => by simp at hq; omega) (show p + 4 < 11 ∨ 16 < p + 4 by omega)
    have e5 := hE.p (fun q hq => by simp at hq; omega) (show p + 5 < 11 ∨ 16 < p + 5 by omega)
    obtain ⟨g3, g4, g5⟩ := hT.2.2.2 b hbl
    have hlen : (B.take b).length = b := by rw [List.length_take]; omega
    refine Vj_iloadn (q := 49) dX0_copy_48 rfl rfl rfl ?_
    refine Vj_aloadn (q := 50) dX0_copy_49 rfl rfl rfl ?_
    refine Vj_getI (q := 53) flX0_35 hp.1 rfl dX0_copy_50 rfl ?_
    rw [e0, hT.2.1]
    refine Vj_icmp_ge (q := 56) (tgt := 90) dX0_copy_53 (by decide) rfl (fun hz => absurd hz (nI_ge (by omega) (by omega))) (fun _ => ?_)
    refine Vj_aloadn (q := 57) dX0_copy_56 rfl rfl rfl ?_
    refine Vj_aloadn (q := 58) dX0_copy_57 rfl rfl rfl ?_
    refine Vj_getR (q := 61) flX0_18 hp.1 rfl dX0_copy_58 rfl ?_
    refine Vj_iloadn (q := 62) dX0_copy_61 rfl rfl rfl ?_
    refine Vj_callSi (q := 65) (qX9_atn hp.2.2.2.1 (by decide) (j := b) (by omega)) (by decide) lkX0_38 stX9_at okX9_at dX0_copy_62 rfl rfl (Nat.le_of_ble_eq_true rfl) ?_
    rw [e3, g3]
    refine Vj_aloadn (q := 66) dX0_copy_65 rfl rfl rfl ?_
    refine Vj_getR (q := 69) flX0_21 hp.1 rfl dX0_copy_66 rfl ?_
    refine Vj_iloadn (q := 70) dX0_copy_69 rfl rfl rfl ?_
    refine Vj_callSi (q := 73) (qX9_atn hp.2.2.2.2.1 (by decide) (j := b) (by omega)) (by decide) lkX0_38 stX9_at okX9_at dX0_copy_70 rfl rfl (Nat.le_of_ble_eq_true rfl) ?_
    rw [e4, g4]
    refine Vj_aloadn (q := 74) dX0_copy_73 rfl rfl rfl ?_
    refine Vj_getR (q := 77) flX0_24 hp.1 rfl dX0_copy_74 rfl ?_
    refine Vj_iloadn (q := 78) dX0_copy_77 rfl rfl rfl ?_
    refine Vj_callSi (q := 81) (qX9_atn hp.2.2.2.2.2 (by decide) (j := b) (by omega)) (by decide) lkX0_38 stX9_at okX9_at dX0_copy_78 rfl rfl (Nat.le_of_ble_eq_true rfl) ?_
    rw [e5, g5]
    refine Vj_callVv (q := 84) (qX0_addButton PSh_11 (n := b) (by omega) (by rw [hD.2.1, hlen]) _ _ _) (by decide) rfl rfl lkX0_46 viX0_addButton okX0_addButton dX0_copy_81 rfl rfl (Nat.le_of_ble_eq_true rfl) ?_
    refine Vs_iinc2 (q := 87) (z := none) dX0_copy_84 rfl (by exact iinc_p _) (by decide) rfl ?_
    refine Vj_goto (q := 48) dX0_copy_87 (by decide) ?_
    rw [nI_1]
    have hn := hD.addB (u := B.getD b (0, 0, 0))
    rw [hlen, ← take_s hbl] at hn
    exact ih (b + 1) _ (by omega) hn (hE.mB rfl rfl rfl rfl)
set_option maxRecDepth 100000 in
theorem qX0_copy_l1 {L F : List Nat} {B : List (Nat × Nat × Nat)} {σ0 : Mem} {p : Nat} (hp : PSh p) (hpp : p + 5 < 11 ∨ 16 < p) (hL : L.length < 5) (hF : F.length = L.length) (hB : B.length < 7) (hT : PD p L F B σ0) : ∀ k b (σ : Mem), b + k = L.length → PD 11 (L.take b) (F.take b) [] σ → Eqo [11, 12, 13, 14, 15, 16] σ0 σ → Vj shX 2 mX0_copy (CpP L F B σ0) 12 [some (.ref 11), some (.ref p), some (.int (nI b))] [] σ := by
  intro k
  induction k with
  | zero =>
    intro b σ hb hD hE
    have e0 := hE.p (fun q hq => by simp at hq; omega) (show p < 11 ∨ 16 < p by omega)
    refine Vj_iloadn (q := 13) dX0_copy_12 rfl rfl rfl ?_
    refine Vj_aloadn (q := 14) dX0_copy_13 rfl rfl rfl ?_
    refine Vj_getI (q := 17) flX0_27 hp.1 rfl dX0_copy_14 rfl ?_
    rw [e0, hT.1]
    refine Vj_icmp_ge (q := 20) (tgt := 46) dX0_copy_17 (by decide) rfl (fun _ => ?_) (fun hz => absurd (nI_le (by omega) (by omega)) hz)
    refine Vj_iconst (q := 47) (v := 0) dX0_copy_46 rfl (by decide) ?_
    refine Vs_istore2 (q := 48) dX0_copy_47 rfl (by decide) rfl ?_
    rw [List.take_of_length_le (by omega), List.take_of_length_le (by omega)] at hD
    exact qX0_copy_l2 hp hpp hL hF hB hT B.length 0 σ (by omega) hD hE
  | succ k ih =>
    intro b σ hb hD hE
    have hbl : b < L.length := by omega
    have e0 := hE.p (fun q hq => by simp at hq; omega) (show p < 11 ∨ 16 < p by omega)
    have e1 := hE.p (fun q hq => by simp at hq; omega) (show p + 1 < 11 ∨ 16 < p + 1 by omega)
    have e2 := hE.p (fun q hq => by simp at hq; omega) (show p + 2 < 11 ∨ 16 < p + 2 by omega)
    obtain ⟨g1, g2⟩ := hT.2.2.1 b hbl
    have hlen : (L.take b).length = b := by rw [List.length_take]; omega
    refine Vj_iloadn (q := 13) dX0_copy_12 rfl rfl rfl ?_
    refine Vj_aloadn (q := 14) dX0_copy_13 rfl rfl rfl ?_
    refine Vj_getI (q := 17) flX0_27 hp.1 rfl dX0_copy_14 rfl ?_
    rw [e0, hT.1]
    refine Vj_icmp_ge (q := 20) (tgt := 46) dX0_copy_17 (by decide) rfl (fun hz => absurd hz (nI_ge (by omega) (by omega))) (fun _ => ?_)
    refine Vj_aloadn (q := 21) dX0_copy_20 rfl rfl rfl ?_
    refine Vj_aloadn (q := 22) dX0_copy_21 rfl rfl rfl ?_
    refine Vj_getR (q := 25) flX0_9 hp.1 rfl dX0_copy_22 rfl ?_
    refine Vj_iloadn (q := 26) dX0_copy_25 rfl rfl rfl ?_
    refine Vj_callSi (q := 29) (qX9_atn hp.2.1 (by decide) (j := b) (by omega)) (by decide) lkX0_38 stX9_at okX9_at dX0_copy_26 rfl rfl (Nat.le_of_ble_eq_true rfl) ?_
    rw [e1, g1]
    refine Vj_aloadn (q := 30) dX0_copy_29 rfl rfl rfl ?_
    refine Vj_getR (q := 33) flX0_15 hp.1 rfl dX0_copy_30 rfl ?_
    refine Vj_iloadn (q := 34) dX0_copy_33 rfl rfl rfl ?_
    refine Vj_callSi (q := 37) (qX9_atn hp.2.2.1 (by decide) (j := b) (by omega)) (by decide) lkX0_38 stX9_at okX9_at dX0_copy_34 rfl rfl (Nat.le_of_ble_eq_true rfl) ?_
    rw [e2, g2]
    refine Vj_callVv (q := 40) (qX0_addThing PSh_11 (n := b) (by omega) (by rw [hD.1, hlen]) _ _) (by decide) rfl rfl lkX0_42 viX0_addThing okX0_addThing dX0_copy_37 rfl rfl (Nat.le_of_ble_eq_true rfl) ?_
    refine Vs_iinc2 (q := 43) (z := none) dX0_copy_40 rfl (by exact iinc_p _) (by decide) rfl ?_
    refine Vj_goto (q := 12) dX0_copy_43 (by decide) ?_
    rw [nI_1]
    have hn := hD.addT (s := L.getD b 0) (i := F.getD b 0) (by rw [List.length_take, List.length_take]; omega)
    rw [hlen, ← take_s hbl, ← take_s (show b < F.length by omega)] at hn
    exact ih (b + 1) _ (by omega) hn (hE.mT rfl rfl rfl)
set_option maxRecDepth 100000 in
theorem qX0_copy {L F : List Nat} {B : List (Nat × Nat × Nat)} {σ : Mem} {p : Nat} (hp : PSh p) (hpp : p + 5 < 11 ∨ 16 < p) (hL : L.length < 5) (hF : F.length = L.length) (hB : B.length < 7) (hT : PD p L F B σ) : Ct shX 2 mX0_copy [.ref 11, .ref p] σ (CpP L F B σ) := by
  refine Ct.of (by decide) (Nat.le_of_ble_eq_true rfl) (l := [some (.ref 11), some (.ref p), none]) rfl ?_
  refine Vj_aloadn (q := 1) dX0_copy_0 rfl rfl rfl ?_
  refine Vj_iconst (q := 2) (v := 0) dX0_copy_1 rfl (by decide) ?_
  refine Vj_putI (q := 5) flX0_27 rfl rfl dX0_copy_2 rfl ?_
  refine Vj_aloadn (q := 6) dX0_copy_5 rfl rfl rfl ?_
  refine Vj_iconst (q := 7) (v := 0) dX0_copy_6 rfl (by decide) ?_
  refine Vj_putI (q := 10) flX0_35 rfl rfl dX0_copy_7 rfl ?_
  refine Vj_iconst (q := 11) (v := 0) dX0_copy_10 rfl (by decide) ?_
  refine Vs_istore2 (q := 12) dX0_copy_11 rfl (by decide) rfl ?_
  refine qX0_copy_l1 hp hpp hL hF hB hT L.length 0 _ (by omega) ⟨?_, ?_, fun t ht => ?_, fun b hb => ?_⟩ ((Eqo.rf.u rfl).u rfl)
  · simp [uI, upd, nI_0]
  · simp [uI, upd, nI_0]
  · simp at ht
  · simp at hb
/-- the code of the first states -/
def cFi (n : Nat) (F : Nat → Nat) : Nat → Nat
  | 0 => 0
  | k + 1 => cW n (cFi n F k) k (F k)
theorem cFi_lt {n : Nat} (hn : n < 5) {F : Nat → Nat} (hF : ∀ t, t < n → F t < 4) : ∀ k, k ≤ n → cFi n F k < 4 ^ n
  | 0, _ => p4_pos n
  | k + 1, h => cW_lt n hn _ (cFi_lt hn hF k (by omega)) k (by omega) _ (hF k (by omega))
/-- the code of a mess that is told as figures -/
def cOf (ρ : Rm) : Nat → Int32 → Nat → Option Nat
  | 0, left, c => if left = 0 then some c else none
  | k + 1, left, c => if left % 10 < 0 ∨ nI (rS ρ k) ≤ left % 10 then none else cOf ρ k (left / 10) (cW (rN ρ) c k (left % 10).toNatClampNeg)
def oI : Option Nat → Int32
  | some c => nI c
  | none => -1
theorem dig_of {n : Nat} (hn : n < 2 ^ 31) {x : Int32} (h1 : ¬ x < 0) (h2 : x < nI n) : ∃ j, j < n ∧ x = nI j := by
  obtain ⟨j, hj, rfl⟩ := nI_of h1
  exact ⟨j, (nI_ltI hj hn).mp h2, rfl⟩

set_option maxRecDepth 100000 in
theorem qX2_firstCode_loop {ρ : Rm} {σ : Mem} (h : RP ρ σ) {F : Nat → Nat} (hF : ∀ t, t < rN ρ → F t < 4) (hf : ∀ t, t < rN ρ → σ.1 13 t = nI (F t)) : ∀ k t : Nat, t + k = rN ρ → Vj shX 2 mX2_firstCode (Ri (nI (cFi (rN ρ) F (rN ρ))) σ) 4 [some (.ref 10), some (.int (nI (cFi (rN ρ) F t))), some (.int (nI t))] [] σ := by
  intro k
  induction k with
  | zero =>
    intro t ht
    have hn := h.1.1
    obtain rfl : t = rN ρ := by omega
    refine Vj_iloadn (q := 5) dX2_firstCode_4 rfl rfl rfl ?_
    refine Vj_aloadn (q := 6) dX2_firstCode_5 rfl rfl rfl ?_
    refine Vj_getR (q := 9) flX2_12 rfl rfl dX2_firstCode_6 rfl ?_
    refine Vj_getI (q := 12) flX2_32 rfl rfl dX2_firstCode_9 rfl ?_
    rw [h.2.1]
    refine Vj_icmp_ge (q := 15) (tgt := 39) dX2_firstCode_12 (by decide) rfl (fun _ => ?_) (fun hz => absurd (nI_le (Nat.le_refl _) (by omega)) hz)
    refine Vj_iloadn (q := 40) dX2_firstCode_39 rfl rfl rfl ?_
    exact Vr_iret rfl rfl dX2_firstCode_40 (⟨rfl, rfl⟩)
  | succ k ih =>
    intro t ht
    have hn := h.1.1
    have hp4 := p4_le hn
    have hc := cFi_lt hn hF t (by omega)
    refine Vj_iloadn (q := 5) dX2_firstCode_4 rfl rfl rfl ?_
    refine Vj_aloadn (q := 6) dX2_firstCode_5 rfl rfl rfl ?_
    refine Vj_getR (q := 9) flX2_12 rfl rfl dX2_firstCode_6 rfl ?_
    refine Vj_getI (q := 12) flX2_32 rfl rfl dX2_firstCode_9 rfl ?_
    rw [h.2.1]
    refine Vj_icmp_ge (q := 15) (tgt := 39) dX2_firstCode_12 (by decide) rfl (fun hz => absurd hz (nI_ge (by omega) (by omega))) (fun _ => ?_)
    refine Vj_aloadn (q := 16) dX2_firstCode_15 rfl rfl rfl ?_
    refine Vj_iloadn (q := 17) dX2_firstCode_16 rfl rfl rfl ?_
    refine Vj_iloadn (q := 18) dX2_firstCode_17 rfl rfl rfl ?_
    refine Vj_aloadn (q := 19) dX2_firstCode_18 rfl rfl rfl ?_
    refine Vj_getR (q := 22) flX2_12 rfl rfl dX2_firstCode_19 rfl ?_
    refine Vj_getR (q := 25) flX2_87 rfl rfl dX2_firstCode_22 rfl ?_
    refine Vj_iloadn (q := 26) dX2_firstCode_25 rfl rfl rfl ?_
    refine Vj_callSi (q := 29) (qX9_atn rfl (by decide) (j := t) (by omega)) (by decide) lkX2_64 stX9_at okX9_at dX2_firstCode_26 rfl rfl (Nat.le_of_ble_eq_true rfl) ?_
    rw [hf t (by omega)]
    refine Vj_callVi (q := 32) (qX2_with h (by omega) (by omega) (hF t (by omega))) (by decide) rfl rfl lkX2_74 viX2_with okX2_with dX2_firstCode_29 rfl rfl (Nat.le_of_ble_eq_true rfl) ?_
    refine Vs_istore1 (q := 33) dX2_firstCode_32 rfl (by decide) rfl ?_
    refine Vs_iinc2 (q := 36) (z := none) dX2_firstCode_33 rfl (by exact iinc_p _) (by decide) rfl ?_
    refine Vj_goto (q := 4) dX2_firstCode_36 (by decide) ?_
    rw [nI_1]
    exact ih (t + 1) (by omega)
set_option maxRecDepth 100000 in
theorem qX2_firstCode {ρ : Rm} {σ : Mem} (h : RP ρ σ) {F : Nat → Nat} (hF : ∀ t, t < rN ρ → F t < 4) (hf : ∀ t, t < rN ρ → σ.1 13 t = nI (F t)) : Ct shX 2 mX2_firstCode [.ref 10] σ (Ri (nI (cFi (rN ρ) F (rN ρ))) σ) := by
  refine Ct.of (by decide) (Nat.le_of_ble_eq_true rfl) (l := [some (.ref 10), none, none]) rfl ?_
  refine Vj_iconst (q := 1) (v := 0) dX2_firstCode_0 rfl (by decide) ?_
  refine Vs_istore1 (q := 2) dX2_firstCode_1 rfl (by decide) rfl ?_
  refine Vj_iconst (q := 3) (v := 0) dX2_firstCode_2 rfl (by decide) ?_
  refine Vs_istore2 (q := 4) dX2_firstCode_3 rfl (by decide) rfl ?_
  exact qX2_firstCode_loop h hF hf (rN ρ) 0 (by omega)
set_option maxRecDepth 100000 in
theorem qX2_codeOf_loop {ρ : Rm} {σ : Mem} (h : RP ρ σ) (m : Int32) : ∀ (k c : Nat) (left : Int32) (z : Option Value), k ≤ rN ρ → c < 4 ^ rN ρ → Vj shX 2 mX2_codeOf (Ri (oI (cOf ρ k left c)) σ) 15 [some (.ref 10), some (.int m), some (.int left), some (.int (nI c)), some (.int (nI k - 1)), z] [] σ := by
  intro k
  induction k with
  | zero =>
    intro c left z ht hc
    have hn := h.1.1
    rw [cOf]
    refine Vj_iload (q := 17) dX2_codeOf_15 rfl rfl ?_
    refine Vj_if_lt (q := 20) (tgt := 65) dX2_codeOf_17 (by decide) rfl (fun _ => ?_) (fun hz => absurd (by decide) hz)
    refine Vj_iloadn (q := 66) dX2_codeOf_65 rfl rfl rfl ?_
    refine Vj_if_ne (q := 69) (tgt := 73) dX2_codeOf_66 (by decide) rfl (fun h66 => ?_) (fun h66 => ?_)
    ·
      refine Vj_iconst (q := 74) (v := (-1)) dX2_codeOf_73 rfl (by decide) ?_
      exact Vr_iret rfl rfl dX2_codeOf_74 (⟨by rw [if_neg h66]; rfl, rfl⟩)
    ·
      refine Vj_iloadn (q := 70) dX2_codeOf_69 rfl rfl rfl ?_
      refine Vj_goto (q := 74) dX2_codeOf_70 (by decide) ?_
      exact Vr_iret rfl rfl dX2_codeOf_74 (⟨by rw [if_pos h66]; rfl, rfl⟩)
  | succ k ih =>
    intro c left z ht hc
    have hn := h.1.1
    have hp4 := p4_le hn
    have hz := h.1.2.1 k (by omega)
    rw [nI_pred, cOf]
    refine Vj_iload (q := 17) dX2_codeOf_15 rfl rfl ?_
    refine Vj_if_lt (q := 20) (tgt := 65) dX2_codeOf_17 (by decide) rfl (fun hz => absurd hz (nI_pos (by omega))) (fun _ => ?_)
    refine Vj_iloadn (q := 21) dX2_codeOf_20 rfl rfl rfl ?_
    refine Vj_bipush (q := 23) (v := 10) dX2_codeOf_21 rfl (by decide) ?_
    refine Vj_irem (q := 24) dX2_codeOf_23 rfl (by decide) ?_
    refine Vs_istore5 (q := 26) dX2_codeOf_24 rfl (by decide) rfl ?_
    refine Vj_iload (q := 28) dX2_codeOf_26 rfl rfl ?_
    refine Vj_if_lt (q := 31) (tgt := 42) dX2_codeOf_28 (by decide) rfl (fun h28 => ?_) (fun h28 => ?_)
    ·
      refine Vj_iconst (q := 43) (v := (-1)) dX2_codeOf_42 rfl (by decide) ?_
      exact Vr_iret rfl rfl dX2_codeOf_43 (⟨by rw [if_pos (Or.inl h28)]; rfl, rfl⟩)
    ·
      refine Vj_iload (q := 33) dX2_codeOf_31 rfl rfl ?_
      refine Vj_aloadn (q := 34) dX2_codeOf_33 rfl rfl rfl ?_
      refine Vj_iload (q := 36) dX2_codeOf_34 rfl rfl ?_
      refine Vj_callVi (q := 39) (qX2_statesOf h (by omega)) (by decide) rfl rfl lkX2_47 viX2_statesOf okX2_statesOf dX2_codeOf_36 rfl rfl (Nat.le_of_ble_eq_true rfl) ?_
      refine Vj_icmp_lt (q := 42) (tgt := 44) dX2_codeOf_39 (by decide) rfl (fun h39 => ?_) (fun h39 => ?_)
      ·
        obtain ⟨j, hj, ej⟩ := dig_of (by omega) h28 h39
        rw [if_neg (by rintro (z | z); exact h28 z; exact Int32.not_le.mpr h39 z), ej, nI_clamp (by omega)]
        refine Vj_aloadn (q := 45) dX2_codeOf_44 rfl rfl rfl ?_
        refine Vj_iloadn (q := 46) dX2_codeOf_45 rfl rfl rfl ?_
        refine Vj_iload (q := 48) dX2_codeOf_46 rfl rfl ?_
        refine Vj_iload (q := 50) dX2_codeOf_48 rfl rfl ?_
        refine Vj_callVi (q := 53) (qX2_with h (by omega) (by omega) (by omega)) (by decide) rfl rfl lkX2_74 viX2_with okX2_with dX2_codeOf_50 rfl rfl (Nat.le_of_ble_eq_true rfl) ?_
        refine Vs_istore3 (q := 54) dX2_codeOf_53 rfl (by decide) rfl ?_
        refine Vj_iloadn (q := 55) dX2_codeOf_54 rfl rfl rfl ?_
        refine Vj_bipush (q := 57) (v := 10) dX2_codeOf_55 rfl (by decide) ?_
        refine Vj_idiv (q := 58) dX2_codeOf_57 rfl (by decide) ?_
        refine Vs_istore2 (q := 59) dX2_codeOf_58 rfl (by decide) rfl ?_
        refine Vs_iinc4 (q := 62) (z := none) dX2_codeOf_59 rfl (by exact iinc_m _) (by decide) rfl ?_
        refine Vj_goto (q := 15) dX2_codeOf_62 (by decide) ?_
        exact ih _ _ _ (by omega) (cW_lt _ hn c hc k (by omega) j (by omega))
      ·
        refine Vj_iconst (q := 43) (v := (-1)) dX2_codeOf_42 rfl (by decide) ?_
        exact Vr_iret rfl rfl dX2_codeOf_43 (⟨by rw [if_pos (Or.inr (Int32.not_lt.mp h39))]; rfl, rfl⟩)
set_option maxRecDepth 100000 in
theorem qX2_codeOf {ρ : Rm} {σ : Mem} (h : RP ρ σ) (m : Int32) : Ct shX 2 mX2_codeOf [.ref 10, .int m] σ (Ri (oI (cOf ρ (rN ρ) m 0)) σ) := by
  refine Ct.of (by decide) (Nat.le_of_ble_eq_true rfl) (l := [some (.ref 10), some (.int m), none, none, none, none]) rfl ?_
  refine Vj_iloadn (q := 1) dX2_codeOf_0 rfl rfl rfl ?_
  refine Vs_istore2 (q := 2) dX2_codeOf_1 rfl (by decide) rfl ?_
  refine Vj_iconst (q := 3) (v := 0) dX2_codeOf_2 rfl (by decide) ?_
  refine Vs_istore3 (q := 4) dX2_codeOf_3 rfl (by decide) rfl ?_
  refine Vj_aloadn (q := 5) dX2_codeOf_4 rfl rfl rfl ?_
  refine Vj_getR (q := 8) flX2_12 rfl rfl dX2_codeOf_5 rfl ?_
  refine Vj_getI (q := 11) flX2_32 rfl rfl dX2_codeOf_8 rfl ?_
  rw [h.2.1]
  refine Vj_iconst (q := 12) (v := 1) dX2_codeOf_11 rfl (by decide) ?_
  refine Vj_isub (q := 13) dX2_codeOf_12 rfl ?_
  refine Vs_istore4 (q := 15) dX2_codeOf_13 rfl (by decide) rfl ?_
  exact qX2_codeOf_loop h m (rN ρ) 0 m none (Nat.le_refl _) (p4_pos _)
def cOkk (ρ : Rm) (c : Nat) : Nat → Bool
  | 0 => true
  | k + 1 => cOkk ρ c k && decide (cS (rN ρ) c k < rS ρ k)
theorem cOkk_iff {ρ : Rm} {c : Nat} : ∀ k, cOkk ρ c k = true ↔ ∀ t, t < k → cS (rN ρ) c t < rS ρ t
  | 0 => by simp [cOkk]
  | k + 1 => by
    rw [cOkk, Bool.and_eq_true, cOkk_iff k, decide_eq_true_iff]
    constructor
    · rintro ⟨h1, h2⟩ t ht
      rcases Nat.lt_succ_iff_lt_or_eq.mp ht with h | rfl
      · exact h1 t h
      · exact h2
    · intro h
      exact ⟨fun t ht => h t (by omega), h k (by omega)⟩
theorem cOkk_n {ρ : Rm} {c : Nat} : cOkk ρ c (rN ρ) = cOk ρ c := by
  rw [Bool.eq_iff_iff, cOkk_iff, cOk_iff]
theorem i_or1 : ∀ t, t < 4 → ∀ l, l < 16 → (nI l ||| ((1 : Int32) <<< (nI t &&& 31))) = nI (l ||| 1 <<< t) := by decide +kernel
/-- the rows of a code's nexts, the first k buttons -/
def wNx (ρ : Rm) (c : Nat) : Nat → Mem → Mem
  | 0, σ => σ
  | k + 1, σ => uI (wNx ρ c k σ) 19 (c * 6 + k) (nI (cNx ρ c k))
theorem wNx_ne {ρ : Rm} {c q : Nat} {σ : Mem} (hq : q ≠ 19) : ∀ k, (wNx ρ c k σ).1 q = σ.1 q
  | 0 => rfl
  | k + 1 => by rw [wNx, uI_ne hq, wNx_ne hq k]
theorem wNx_at {ρ : Rm} {c : Nat} {σ : Mem} : ∀ k j, (wNx ρ c k σ).1 19 j = if c * 6 ≤ j ∧ j < c * 6 + k then nI (cNx ρ c (j - c * 6)) else σ.1 19 j
  | 0, j => by rw [wNx, if_neg (by omega)]
  | k + 1, j => by
    rw [wNx, uI_eq, upd, wNx_at k j]
    by_cases e : j = c * 6 + k
    · subst e
      rw [if_pos rfl, if_pos (by omega)]
      congr 2; omega
    · rw [if_neg e]
      by_cases e2 : c * 6 ≤ j ∧ j < c * 6 + k
      · rw [if_pos e2, if_pos (by omega)]
      · rw [if_neg e2, if_neg (by omega)]
theorem wNx_2 {ρ : Rm} {c : Nat} {σ : Mem} : ∀ k, (wNx ρ c k σ).2 = σ.2
  | 0 => rfl
  | k + 1 => by rw [wNx]; exact wNx_2 k
def tell (ρ : Rm) (c : Nat) (σ : Mem) : Mem := wNx ρ c (rB ρ) (uI (uI σ 17 c (if cOk ρ c then nI (cDg (rN ρ) c (rN ρ)) else -1)) 18 c (nI (cLi (rN ρ) c (rN ρ))))
theorem RP.wNx {ρ : Rm} {c k : Nat} {σ : Mem} (h : RP ρ σ) : RP ρ (wNx ρ c k σ) := h.of (wNx_ne (by decide) k) (wNx_ne (by decide) k) (wNx_ne (by decide) k) (wNx_ne (by decide) k) (wNx_ne (by decide) k)
theorem RP.uI {ρ : Rm} {q j : Nat} {x : Int32} {σ : Mem} (h : RP ρ σ) (hq : (q == 11 || q == 12 || q == 14 || q == 15 || q == 16) = false) : RP ρ (uI σ q j x) := by
  simp only [Bool.or_eq_false_iff, beq_eq_false_iff_ne] at hq
  exact h.of (uI_ne (by omega)) (uI_ne (by omega)) (uI_ne (by omega)) (uI_ne (by omega)) (uI_ne (by omega))

set_option maxRecDepth 100000 in
theorem qX2_tellCode_l2 {ρ : Rm} {σ : Mem} (h : RP ρ σ) {c : Nat} (hc : c < 4 ^ rN ρ) {z2 z3 z6 : Option Value} : ∀ k b : Nat, b + k = rB ρ → Vj shX 4 mX2_tellCode (Rv (wNx ρ c (rB ρ) σ)) 101 [some (.ref 10), some (.int (nI c)), z2, z3, some (.int (bI (cOk ρ c))), some (.int (nI b)), z6] [] (wNx ρ c b σ) := by
  intro k
  induction k with
  | zero =>
    intro b hb
    have hB := h.1.2.2.1
    have hR := RP.wNx (c := c) (k := b) h
    obtain rfl : b = rB ρ := by omega
    refine Vj_iload (q := 103) dX2_tellCode_101 rfl rfl ?_
    refine Vj_aloadn (q := 104) dX2_tellCode_103 rfl rfl rfl ?_
    refine Vj_getR (q := 107) flX2_12 rfl rfl dX2_tellCode_104 rfl ?_
    refine Vj_getI (q := 110) flX2_55 rfl rfl dX2_tellCode_107 rfl ?_
    rw [hR.2.2.1]
    refine Vj_icmp_ge (q := 113) (tgt := 149) dX2_tellCode_110 (by decide) rfl (fun _ => ?_) (fun hz => absurd (nI_le (Nat.le_refl _) (by omega)) hz)
    exact Vr_vret rfl dX2_tellCode_149 (⟨rfl, rfl⟩)
  | succ k ih =>
    intro b hb
    have hB := h.1.2.2.1
    have hp4 := p4_le h.1.1
    have hR := RP.wNx (c := c) (k := b) h
    refine Vj_iload (q := 103) dX2_tellCode_101 rfl rfl ?_
    refine Vj_aloadn (q := 104) dX2_tellCode_103 rfl rfl rfl ?_
    refine Vj_getR (q := 107) flX2_12 rfl rfl dX2_tellCode_104 rfl ?_
    refine Vj_getI (q := 110) flX2_55 rfl rfl dX2_tellCode_107 rfl ?_
    rw [hR.2.2.1]
    refine Vj_icmp_ge (q := 113) (tgt := 149) dX2_tellCode_110 (by decide) rfl (fun hz => absurd hz (nI_ge (by omega) (by omega))) (fun _ => ?_)
    refine Vj_aloadn (q := 114) dX2_tellCode_113 rfl rfl rfl ?_
    refine Vj_getR (q := 117) flX2_25 rfl rfl dX2_tellCode_114 rfl ?_
    refine Vj_iloadn (q := 118) dX2_tellCode_117 rfl rfl rfl ?_
    refine Vj_bipush (q := 120) (v := 6) dX2_tellCode_118 rfl (by decide) ?_
    refine Vj_imul (q := 121) dX2_tellCode_120 rfl ?_
    refine Vj_iload (q := 123) dX2_tellCode_121 rfl rfl ?_
    refine Vj_iadd (q := 124) dX2_tellCode_123 rfl ?_
    rw [show nI c * 6 + nI b = nI (c * 6 + b) by rw [show (6 : Int32) = nI 6 from rfl, pk_mul, nI_add]]
    refine Vj_iload (q := 126) dX2_tellCode_124 rfl rfl ?_
    refine Vj_if_eq (q := 129) (tgt := 139) dX2_tellCode_126 (by decide) rfl (fun h126 => ?_) (fun h126 => ?_)
    ·
      refine Vj_iloadn (q := 140) dX2_tellCode_139 rfl rfl rfl ?_
      refine Vj_callSv (q := 143) (qX9_putn rfl (by decide) (j := c * 6 + b) (by omega) _) (by decide) lkX2_51 stX9_put okX9_put dX2_tellCode_140 rfl rfl (Nat.le_of_ble_eq_true rfl) ?_
      refine Vs_iinc5 (q := 146) (z := none) dX2_tellCode_143 rfl (by exact iinc_p _) (by decide) rfl ?_
      refine Vj_goto (q := 101) dX2_tellCode_146 (by decide) ?_
      rw [nI_1]
      have e : cNx ρ c b = c := by rw [cNx, if_neg (by rw [bI_z.mp h126]; decide)]
      have hn := ih (b + 1) (by omega)
      rw [wNx, e] at hn
      exact hn
    ·
      refine Vj_aloadn (q := 130) dX2_tellCode_129 rfl rfl rfl ?_
      refine Vj_iloadn (q := 131) dX2_tellCode_130 rfl rfl rfl ?_
      refine Vj_iload (q := 133) dX2_tellCode_131 rfl rfl ?_
      refine Vj_callVi (q := 136) (qX2_done hR hc (by omega)) (by decide) rfl rfl lkX2_58 viX2_done okX2_done dX2_tellCode_133 rfl rfl (Nat.le_of_ble_eq_true rfl) ?_
      refine Vj_goto (q := 140) dX2_tellCode_136 (by decide) ?_
      refine Vj_callSv (q := 143) (qX9_putn rfl (by decide) (j := c * 6 + b) (by omega) _) (by decide) lkX2_51 stX9_put okX9_put dX2_tellCode_140 rfl rfl (Nat.le_of_ble_eq_true rfl) ?_
      refine Vs_iinc5 (q := 146) (z := none) dX2_tellCode_143 rfl (by exact iinc_p _) (by decide) rfl ?_
      refine Vj_goto (q := 101) dX2_tellCode_146 (by decide) ?_
      rw [nI_1]
      have e : cNx ρ c b = cDo ρ c b := by rw [cNx, if_pos (bI_n.mp h126)]
      have hn := ih (b + 1) (by omega)
      rw [wNx, e] at hn
      exact hn
set_option maxRecDepth 100000 in
theorem qX2_tellCode_t {ρ : Rm} {σ : Mem} (h : RP ρ σ) {c : Nat} (hc : c < 4 ^ rN ρ) {z2 z5 z6 : Option Value} (v x : Int32) (hx : x = nI (cLi (rN ρ) c (rN ρ))) : Vj shX 4 mX2_tellCode (Rv (wNx ρ c (rB ρ) (uI (uI σ 17 c v) 18 c (nI (cLi (rN ρ) c (rN ρ)))))) 86 [some (.ref 10), some (.int (nI c)), z2, some (.int x), some (.int (bI (cOk ρ c))), z5, z6] [.int v, .int (nI c), .ref 17] σ := by
  subst hx
  have hp4 := p4_le h.1.1
  refine Vj_callSv (q := 89) (qX9_putn rfl (by decide) (j := c) (by omega) _) (by decide) lkX2_51 stX9_put okX9_put dX2_tellCode_86 rfl rfl (Nat.le_of_ble_eq_true rfl) ?_
  refine Vj_aloadn (q := 90) dX2_tellCode_89 rfl rfl rfl ?_
  refine Vj_getR (q := 93) flX2_22 rfl rfl dX2_tellCode_90 rfl ?_
  refine Vj_iloadn (q := 94) dX2_tellCode_93 rfl rfl rfl ?_
  refine Vj_iloadn (q := 95) dX2_tellCode_94 rfl rfl rfl ?_
  refine Vj_callSv (q := 98) (qX9_putn rfl (by decide) (j := c) (by omega) _) (by decide) lkX2_51 stX9_put okX9_put dX2_tellCode_95 rfl rfl (Nat.le_of_ble_eq_true rfl) ?_
  refine Vj_iconst (q := 99) (v := 0) dX2_tellCode_98 rfl (by decide) ?_
  refine Vs_istore5 (q := 101) dX2_tellCode_99 rfl (by decide) rfl ?_
  exact qX2_tellCode_l2 ((h.uI rfl).uI rfl) hc (rB ρ) 0 (by omega)
set_option maxRecDepth 100000 in
theorem qX2_tellCode_l1 {ρ : Rm} {σ : Mem} (h : RP ρ σ) {c : Nat} (hc : c < 4 ^ rN ρ) : ∀ (k t : Nat) (z6 : Option Value), t + k = rN ρ → Vj shX 4 mX2_tellCode (Rv (tell ρ c σ)) 10 [some (.ref 10), some (.int (nI c)), some (.int (nI (cDg (rN ρ) c t))), some (.int (nI (cLi (rN ρ) c t))), some (.int (bI (cOkk ρ c t))), some (.int (nI t)), z6] [] σ := by
  intro k
  induction k with
  | zero =>
    intro t z6 ht
    have hn := h.1.1
    obtain rfl : t = rN ρ := by omega
    rw [cOkk_n]
    refine Vj_iload (q := 12) dX2_tellCode_10 rfl rfl ?_
    refine Vj_aloadn (q := 13) dX2_tellCode_12 rfl rfl rfl ?_
    refine Vj_getR (q := 16) flX2_12 rfl rfl dX2_tellCode_13 rfl ?_
    refine Vj_getI (q := 19) flX2_32 rfl rfl dX2_tellCode_16 rfl ?_
    rw [h.2.1]
    refine Vj_icmp_ge (q := 22) (tgt := 71) dX2_tellCode_19 (by decide) rfl (fun _ => ?_) (fun hz => absurd (nI_le (Nat.le_refl _) (by omega)) hz)
    refine Vj_aloadn (q := 72) dX2_tellCode_71 rfl rfl rfl ?_
    refine Vj_getR (q := 75) flX2_18 rfl rfl dX2_tellCode_72 rfl ?_
    refine Vj_iloadn (q := 76) dX2_tellCode_75 rfl rfl rfl ?_
    refine Vj_iload (q := 78) dX2_tellCode_76 rfl rfl ?_
    refine Vj_if_eq (q := 81) (tgt := 85) dX2_tellCode_78 (by decide) rfl (fun h78 => ?_) (fun h78 => ?_)
    ·
      refine Vj_iconst (q := 86) (v := (-1)) dX2_tellCode_85 rfl (by decide) ?_
      have e := bI_z.mp h78
      have ht := qX2_tellCode_t (z2 := some (.int (nI (cDg (rN ρ) c (rN ρ))))) (z5 := some (.int (nI (rN ρ)))) (z6 := z6) h hc (-1) (nI (cLi (rN ρ) c (rN ρ))) rfl
      rw [tell, if_neg (by rw [e]; decide)]
      exact ht
    ·
      refine Vj_iloadn (q := 82) dX2_tellCode_81 rfl rfl rfl ?_
      refine Vj_goto (q := 86) dX2_tellCode_82 (by decide) ?_
      have e := bI_n.mp h78
      have ht := qX2_tellCode_t (z2 := some (.int (nI (cDg (rN ρ) c (rN ρ))))) (z5 := some (.int (nI (rN ρ)))) (z6 := z6) h hc (nI (cDg (rN ρ) c (rN ρ))) (nI (cLi (rN ρ) c (rN ρ))) rfl
      rw [tell, if_pos e]
      exact ht
  | succ k ih =>
    intro t z6 ht
    have hn := h.1.1
    have hp4 := p4_le hn
    have hS := cS_lt (rN ρ) c t
    have hZ := h.1.2.1 t (by omega)
    have hl16 : cLi (rN ρ) c t < 16 := Nat.lt_of_lt_of_le (cLi_lt (rN ρ) c t) (Nat.pow_le_pow_right (by decide) (by omega) : 2 ^ t ≤ 2 ^ 4)
    have eD : cDg (rN ρ) c (t + 1) = cDg (rN ρ) c t * 10 + cS (rN ρ) c t := rfl
    refine Vj_iload (q := 12) dX2_tellCode_10 rfl rfl ?_
    refine Vj_aloadn (q := 13) dX2_tellCode_12 rfl rfl rfl ?_
    refine Vj_getR (q := 16) flX2_12 rfl rfl dX2_tellCode_13 rfl ?_
    refine Vj_getI (q := 19) flX2_32 rfl rfl dX2_tellCode_16 rfl ?_
    rw [h.2.1]
    refine Vj_icmp_ge (q := 22) (tgt := 71) dX2_tellCode_19 (by decide) rfl (fun hz => absurd hz (nI_ge (by omega) (by omega))) (fun _ => ?_)
    refine Vj_aloadn (q := 23) dX2_tellCode_22 rfl rfl rfl ?_
    refine Vj_iloadn (q := 24) dX2_tellCode_23 rfl rfl rfl ?_
    refine Vj_iload (q := 26) dX2_tellCode_24 rfl rfl ?_
    refine Vj_callVi (q := 29) (qX2_stateIn h (by omega) (by omega)) (by decide) rfl rfl lkX2_43 viX2_stateIn okX2_stateIn dX2_tellCode_26 rfl rfl (Nat.le_of_ble_eq_true rfl) ?_
    refine Vs_istore6 (q := 31) dX2_tellCode_29 rfl (by decide) rfl ?_
    refine Vj_iloadn (q := 32) dX2_tellCode_31 rfl rfl rfl ?_
    refine Vj_bipush (q := 34) (v := 10) dX2_tellCode_32 rfl (by decide) ?_
    refine Vj_imul (q := 35) dX2_tellCode_34 rfl ?_
    refine Vj_iload (q := 37) dX2_tellCode_35 rfl rfl ?_
    refine Vj_iadd (q := 38) dX2_tellCode_37 rfl ?_
    rw [show nI (cDg (rN ρ) c t) * 10 + nI (cS (rN ρ) c t) = nI (cDg (rN ρ) c (t + 1)) by rw [eD, show (10 : Int32) = nI 10 from rfl, pk_mul, nI_add]]
    refine Vs_istore2 (q := 39) dX2_tellCode_38 rfl (by decide) rfl ?_
    refine Vj_iload (q := 41) dX2_tellCode_39 rfl rfl ?_
    refine Vj_if_eq (q := 44) (tgt := 51) dX2_tellCode_41 (by decide) rfl (fun h41 => ?_) (fun h41 => ?_)
    ·
      have eL : cLi (rN ρ) c (t + 1) = cLi (rN ρ) c t := by rw [cLi, if_pos ((nI_z (by omega)).mp h41)]
      rw [← eL]
      refine Vj_iload (q := 53) dX2_tellCode_51 rfl rfl ?_
      refine Vj_aloadn (q := 54) dX2_tellCode_53 rfl rfl rfl ?_
      refine Vj_iload (q := 56) dX2_tellCode_54 rfl rfl ?_
      refine Vj_callVi (q := 59) (qX2_statesOf h (by omega)) (by decide) rfl rfl lkX2_47 viX2_statesOf okX2_statesOf dX2_tellCode_56 rfl rfl (Nat.le_of_ble_eq_true rfl) ?_
      refine Vj_icmp_lt (q := 62) (tgt := 65) dX2_tellCode_59 (by decide) rfl (fun h59 => ?_) (fun h59 => ?_)
      ·
        refine Vs_iinc5 (q := 68) (z := none) dX2_tellCode_65 rfl (by exact iinc_p _) (by decide) rfl ?_
        refine Vj_goto (q := 10) dX2_tellCode_68 (by decide) ?_
        rw [nI_1]
        have eO : cOkk ρ c (t + 1) = cOkk ρ c t := by rw [cOkk, decide_eq_true ((nI_ltI (by omega) (by omega)).mp h59), Bool.and_true]
        rw [← eO]
        exact ih (t + 1) _ (by omega)
      ·
        refine Vj_iconst (q := 63) (v := 0) dX2_tellCode_62 rfl (by decide) ?_
        refine Vs_istore4 (q := 65) dX2_tellCode_63 rfl (by decide) rfl ?_
        refine Vs_iinc5 (q := 68) (z := none) dX2_tellCode_65 rfl (by exact iinc_p _) (by decide) rfl ?_
        refine Vj_goto (q := 10) dX2_tellCode_68 (by decide) ?_
        rw [nI_1]
        have eO : cOkk ρ c (t + 1) = false := by rw [cOkk, decide_eq_false (fun z => h59 ((nI_ltI (by omega) (by omega)).mpr z)), Bool.and_false]
        have hi := ih (t + 1) (some (.int (nI (cS (rN ρ) c t)))) (by omega)
        rw [eO] at hi
        exact hi
    ·
      refine Vj_iloadn (q := 45) dX2_tellCode_44 rfl rfl rfl ?_
      refine Vj_iconst (q := 46) (v := 1) dX2_tellCode_45 rfl (by decide) ?_
      refine Vj_iload (q := 48) dX2_tellCode_46 rfl rfl ?_
      refine Vj_ishl (q := 49) dX2_tellCode_48 rfl ?_
      refine Vj_ior (q := 50) dX2_tellCode_49 rfl ?_
      refine Vs_istore3 (q := 51) dX2_tellCode_50 rfl (by decide) rfl ?_
      rw [i_or1 t (by omega) _ hl16] 
      have eL : cLi (rN ρ) c (t + 1) = cLi (rN ρ) c t ||| 1 <<< t := by rw [cLi, if_neg (fun z => h41 ((nI_z (by omega)).mpr z))]
      rw [← eL]
      refine Vj_iload (q := 53) dX2_tellCode_51 rfl rfl ?_
      refine Vj_aloadn (q := 54) dX2_tellCode_53 rfl rfl rfl ?_
      refine Vj_iload (q := 56) dX2_tellCode_54 rfl rfl ?_
      refine Vj_callVi (q := 59) (qX2_statesOf h (by omega)) (by decide) rfl rfl lkX2_47 viX2_statesOf okX2_statesOf dX2_tellCode_56 rfl rfl (Nat.le_of_ble_eq_true rfl) ?_
      refine Vj_icmp_lt (q := 62) (tgt := 65) dX2_tellCode_59 (by decide) rfl (fun h59 => ?_) (fun h59 => ?_)
      ·
        refine Vs_iinc5 (q := 68) (z := none) dX2_tellCode_65 rfl (by exact iinc_p _) (by decide) rfl ?_
        refine Vj_goto (q := 10) dX2_tellCode_68 (by decide) ?_
        rw [nI_1]
        have eO : cOkk ρ c (t + 1) = cOkk ρ c t := by rw [cOkk, decide_eq_true ((nI_ltI (by omega) (by omega)).mp h59), Bool.and_true]
        rw [← eO]
        exact ih (t + 1) _ (by omega)
      ·
        refine Vj_iconst (q := 63) (v := 0) dX2_tellCode_62 rfl (by decide) ?_
        refine Vs_istore4 (q := 65) dX2_tellCode_63 rfl (by decide) rfl ?_
        refine Vs_iinc5 (q := 68) (z := none) dX2_tellCode_65 rfl (by exact iinc_p _) (by decide) rfl ?_
        refine Vj_goto (q := 10) dX2_tellCode_68 (by decide) ?_
        rw [nI_1]
        have eO : cOkk ρ c (t + 1) = false := by rw [cOkk, decide_eq_false (fun z => h59 ((nI_ltI (by omega) (by omega)).mpr z)), Bool.and_false]
        have hi := ih (t + 1) (some (.int (nI (cS (rN ρ) c t)))) (by omega)
        rw [eO] at hi
        exact hi
set_option maxRecDepth 100000 in
theorem qX2_tellCode {ρ : Rm} {σ : Mem} (h : RP ρ σ) {c : Nat} (hc : c < 4 ^ rN ρ) : Ct shX 4 mX2_tellCode [.ref 10, .int (nI c)] σ (Rv (tell ρ c σ)) := by
  refine Ct.of (by decide) (Nat.le_of_ble_eq_true rfl) (l := [some (.ref 10), some (.int (nI c)), none, none, none, none, none]) rfl ?_
  refine Vj_iconst (q := 1) (v := 0) dX2_tellCode_0 rfl (by decide) ?_
  refine Vs_istore2 (q := 2) dX2_tellCode_1 rfl (by decide) rfl ?_
  refine Vj_iconst (q := 3) (v := 0) dX2_tellCode_2 rfl (by decide) ?_
  refine Vs_istore3 (q := 4) dX2_tellCode_3 rfl (by decide) rfl ?_
  refine Vj_iconst (q := 5) (v := 1) dX2_tellCode_4 rfl (by decide) ?_
  refine Vs_istore4 (q := 7) dX2_tellCode_5 rfl (by decide) rfl ?_
  refine Vj_iconst (q := 8) (v := 0) dX2_tellCode_7 rfl (by decide) ?_
  refine Vs_istore5 (q := 10) dX2_tellCode_8 rfl (by decide) rfl ?_
  exact qX2_tellCode_l1 h hc (rN ρ) 0 none (by omega)
