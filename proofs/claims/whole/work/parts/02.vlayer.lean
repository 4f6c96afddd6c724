/-! A program logic over pure memories: a system's cells are a fixed list (its shape), what they hold is a pair of functions (ints, longs) of cell and place; 'Vj' says of a method at an instruction that it comes to its end with Post; 'Ct' is a contract. Every row below is a row of the kit, said over these. -/
abbrev MI : Type := MethodName × ByteArray × Nat × Option FieldType
abbrev Mem : Type := (Nat → Nat → Int32) × (Nat → Nat → Int64)
abbrev Shp : Type := List ((Nat × Nat) ⊕ (Nat × List (Nat × Nat)))
abbrev Qe : Type := (Nat → Nat) × (Nat → Prop) × (Nat → ClassId) × (Nat → Nat → Nat) × ClassId × ClassId
def q_nestW : Cond → Bool
  | .fieldLinkNest .. => true
  | .methodLinkNest .. => true
  | _ => false
def lw_nest : List Cond := tables_1.filter q_nestW
def lw_big : List Cond := lw_tbl.filter goodWord
theorem big_of {w : Cond} (i : Nat) (h : lw_tbl[i]? = some w) (g : goodWord w = true) : w ∈ lw_big := List.mem_filter.mpr ⟨List.mem_of_getElem? h, g⟩
theorem nest_of {w : Cond} (i : Nat) (h : tables_1[i]? = some w) (g : q_nestW w = true) : w ∈ lw_nest := List.mem_filter.mpr ⟨List.mem_of_getElem? h, g⟩
theorem sub_of {ws : List Cond} (ps : List Nat) (hp : ws = ps.filterMap (fun i => lw_tbl[i]?)) (h : ws.all goodWord = true) : ∀ w ∈ ws, w ∈ lw_big := by
  intro w hw
  have h1 := List.all_eq_true.mp h w hw
  rw [hp] at hw
  obtain ⟨i, -, hi⟩ := List.mem_filterMap.mp hw
  exact big_of i hi h1
theorem big_good : ∀ w ∈ lw_big, (w.onTables && w.keeps) = true ∨ ∃ ty, w = .arrayClass ty := fun w h => good_of_word (List.mem_filter.mp h).2
def mWs (M : MI) : List Cond := .code M.1 M.2.1 M.2.2.1 M.2.2.2 :: lw_big
def rmd (d : Nat) : Room := { frames := d, cells := 0, slots := 0, locals := 36 * d }
/-! memories -/
def uI (σ : Mem) (q j : Nat) (x : Int32) : Mem := (fun q' => if q' = q then upd (σ.1 q) j x else σ.1 q', σ.2)
def uL (σ : Mem) (q j : Nat) (x : Int64) : Mem := (σ.1, fun q' => if q' = q then vp_updL (σ.2 q) j x else σ.2 q')
theorem uI_ne {σ : Mem} {q j i : Nat} {x : Int32} (h : i ≠ q) : (uI σ q j x).1 i = σ.1 i := by simp [uI, h]
theorem uI_eq {σ : Mem} {q j : Nat} {x : Int32} : (uI σ q j x).1 q = upd (σ.1 q) j x := by simp [uI]
theorem uL_ne {σ : Mem} {q j i : Nat} {x : Int64} (h : i ≠ q) : (uL σ q j x).2 i = σ.2 i := by simp [uL, h]
theorem uL_eq {σ : Mem} {q j : Nat} {x : Int64} : (uL σ q j x).2 q = vp_updL (σ.2 q) j x := by simp [uL]
def cvv (ad : Nat → Nat) : Value → Value
  | .ref a => .ref (ad a)
  | v => v
theorem cvv_cat (ad : Nat → Nat) (v : Value) : (cvv ad v).category = v.category := by cases v <;> rfl
def cvF (ad : Nat → Nat) (σ : Mem) (q k : Nat) (f : Nat × Nat) : Value := if f.1 = 0 then .int (σ.1 q k) else if f.1 = 1 then .long (σ.2 q k) else .ref (ad f.2)
def cvC (E : Qe) (σ : Mem) (q : Nat) : ((Nat × Nat) ⊕ (Nat × List (Nat × Nat))) → va_E
  | .inl x => .inl (if x.1 = 0 then E.2.2.2.2.1 else E.2.2.2.2.2, x.2, .inl (σ.1 q))
  | .inr o => .inr (o.1, o.2.mapIdx (fun k f => cvF E.1 σ q k f))
def wd (sh : Shp) (E : Qe) (σ : Mem) : va_W := sh.mapIdx (fun q c => (E.1 q, cvC E σ q c))
theorem wd_get {sh : Shp} {E : Qe} {σ : Mem} {q : Nat} {c : (Nat × Nat) ⊕ (Nat × List (Nat × Nat))} (h : sh[q]? = some c) : (wd sh E σ)[q]? = some (E.1 q, cvC E σ q c) := by
  simp [wd, List.getElem?_mapIdx, h]
theorem wd_some {sh : Shp} {E : Qe} {σ : Mem} {i : Nat} {p : Nat × va_E} (h : (wd sh E σ)[i]? = some p) : ∃ c, sh[i]? = some c ∧ p = (E.1 i, cvC E σ i c) := by
  simp only [wd, List.getElem?_mapIdx, Option.map_eq_some_iff] at h
  obtain ⟨c, h1, h2⟩ := h
  exact ⟨c, h1, h2.symm⟩
theorem wd_len {sh : Shp} {E : Qe} {σ : Mem} : (wd sh E σ).length = sh.length := by simp [wd]
theorem cvC_congr {E : Qe} {σ σ' : Mem} {i : Nat} {c : (Nat × Nat) ⊕ (Nat × List (Nat × Nat))} (h1 : σ.1 i = σ'.1 i) (h2 : σ.2 i = σ'.2 i) : cvC E σ i c = cvC E σ' i c := by
  cases c <;> simp [cvC, cvF, h1, h2]
theorem wd_ext {sh : Shp} {E : Qe} {σ σ' : Mem} {q : Nat} {e : va_E} {c0 : (Nat × Nat) ⊕ (Nat × List (Nat × Nat))} (hq : sh[q]? = some c0) (hc : cvC E σ' q c0 = e) (hne : ∀ i c, i ≠ q → cvC E σ i c = cvC E σ' i c) : (wd sh E σ).set q (E.1 q, e) = wd sh E σ' := by
  apply List.ext_getElem?
  intro i
  by_cases hi : i = q
  · subst hi
    have hl : i < (wd sh E σ).length := by rw [wd_len]; exact (List.getElem?_eq_some_iff.mp hq).1
    rw [List.getElem?_set_self hl, wd_get hq, hc]
  · rw [List.getElem?_set_ne (Ne.symm hi)]
    cases hs : sh[i]? with
    | none => simp [wd, List.getElem?_mapIdx, hs]
    | some c => rw [wd_get hs, wd_get hs, hne i c hi]
theorem wd_setA {sh : Shp} {E : Qe} {σ : Mem} {q kd n j : Nat} {x : Int32} (hq : sh[q]? = some (.inl (kd, n))) : (wd sh E σ).set q (E.1 q, .inl (if kd = 0 then E.2.2.2.2.1 else E.2.2.2.2.2, n, .inl (upd (σ.1 q) j x))) = wd sh E (uI σ q j x) :=
  wd_ext hq (by simp [cvC, uI_eq]) (fun i c hi => cvC_congr (uI_ne hi).symm rfl)
theorem wd_setF {sh : Shp} {E : Qe} {σ : Mem} {q ci k z : Nat} {fs : List (Nat × Nat)} {x : Int32} (hq : sh[q]? = some (.inr (ci, fs))) (hf : fs[k]? = some (0, z)) : (wd sh E σ).set q (E.1 q, .inr (ci, (fs.mapIdx (fun k f => cvF E.1 σ q k f)).set k (.int x))) = wd sh E (uI σ q k x) := by
  refine wd_ext hq ?_ (fun i c hi => cvC_congr (uI_ne hi).symm rfl)
  show Sum.inr (ci, fs.mapIdx (fun k' f => cvF E.1 (uI σ q k x) q k' f)) = _
  refine congrArg (fun l => Sum.inr (ci, l)) ?_
  apply List.ext_getElem?
  intro i
  by_cases hi : i = k
  · subst hi
    rw [List.getElem?_set_self (by simpa using (List.getElem?_eq_some_iff.mp hf).1), List.getElem?_mapIdx, hf]
    simp [cvF, uI_eq, upd]
  · rw [List.getElem?_set_ne (Ne.symm hi), List.getElem?_mapIdx, List.getElem?_mapIdx]
    cases fs[i]? with
    | none => rfl
    | some f => simp [cvF, uI, upd, hi]
theorem wd_setG {sh : Shp} {E : Qe} {σ : Mem} {q ci k z : Nat} {fs : List (Nat × Nat)} {x : Int64} (hq : sh[q]? = some (.inr (ci, fs))) (hf : fs[k]? = some (1, z)) : (wd sh E σ).set q (E.1 q, .inr (ci, (fs.mapIdx (fun k f => cvF E.1 σ q k f)).set k (.long x))) = wd sh E (uL σ q k x) := by
  refine wd_ext hq ?_ (fun i c hi => cvC_congr rfl (uL_ne hi).symm)
  show Sum.inr (ci, fs.mapIdx (fun k' f => cvF E.1 (uL σ q k x) q k' f)) = _
  refine congrArg (fun l => Sum.inr (ci, l)) ?_
  apply List.ext_getElem?
  intro i
  by_cases hi : i = k
  · subst hi
    rw [List.getElem?_set_self (by simpa using (List.getElem?_eq_some_iff.mp hf).1), List.getElem?_mapIdx, hf]
    simp [cvF, uL_eq, vp_updL]
  · rw [List.getElem?_set_ne (Ne.symm hi), List.getElem?_mapIdx, List.getElem?_mapIdx]
    cases fs[i]? with
    | none => rfl
    | some f => simp [cvF, uL, vp_updL, hi]
theorem wd_D {A : Nat → Prop} {sh : Shp} {E : Qe} {σ σ' : Mem} (h : va_D A (wd sh E σ)) : va_D A (wd sh E σ') := by
  refine ⟨fun i j p q hi hj hpq => ?_, fun k q hk => ?_⟩
  · obtain ⟨c1, a1, rfl⟩ := wd_some hi
    obtain ⟨c2, a2, rfl⟩ := wd_some hj
    exact h.1 i j _ _ (wd_get a1) (wd_get a2) hpq
  · obtain ⟨c, a, rfl⟩ := wd_some hk
    exact h.2 k (E.1 k, cvC E σ k c) (wd_get a)
/-! locals -/
def Lh (ls : Array Slot) (n : Nat) (ad : Nat → Nat) (l : List (Option Value)) : Prop := ls.size = n ∧ lv_wf ls ∧ ∀ (i : Nat) (v : Value), l[i]? = some (some v) → ls[i]? = some (.val (cvv ad v))
def prs (ad : Nat → Nat) : Nat → List (Option Value) → List (Nat × Value)
  | _, [] => []
  | o, none :: l => prs ad (o + 1) l
  | o, some v :: l => (o, cvv ad v) :: prs ad (o + 1) l
theorem prs_mem {ad : Nat → Nat} {i : Nat} {w : Value} : ∀ (l : List (Option Value)) (o : Nat), (i, w) ∈ prs ad o l ↔ ∃ j v, i = o + j ∧ l[j]? = some (some v) ∧ w = cvv ad v
  | [], o => by simp [prs]
  | none :: l, o => by
    rw [prs, prs_mem l (o + 1)]
    constructor
    · rintro ⟨j, v, rfl, h1, h2⟩
      exact ⟨j + 1, v, by omega, by simpa using h1, h2⟩
    · rintro ⟨j, v, rfl, h1, h2⟩
      cases j with
      | zero => simp at h1
      | succ j => exact ⟨j, v, by omega, by simpa using h1, h2⟩
  | some u :: l, o => by
    rw [prs, List.mem_cons, prs_mem l (o + 1)]
    constructor
    · rintro (h | ⟨j, v, rfl, h1, h2⟩)
      · cases h
        exact ⟨0, u, by omega, by simp, rfl⟩
      · exact ⟨j + 1, v, by omega, by simpa using h1, h2⟩
    · rintro ⟨j, v, rfl, h1, h2⟩
      cases j with
      | zero => simp at h1; subst h1; exact Or.inl (by rw [h2]; rfl)
      | succ j => exact Or.inr ⟨j, v, by omega, by simpa using h1, h2⟩
theorem Lh.has {ls : Array Slot} {n : Nat} {ad : Nat → Nat} {l : List (Option Value)} (h : Lh ls n ad l) : lv_has ls n (prs ad 0 l) := by
  refine ⟨h.1, h.2.1, fun q hq => ?_⟩
  obtain ⟨j, v, h1, h2, h3⟩ := (prs_mem (i := q.1) (w := q.2) l 0).mp hq
  rw [h3, h1, Nat.zero_add]
  exact h.2.2 j v h2
def okP (l : List (Option Value)) : Nat → Bool
  | 0 => true
  | i + 1 => match l[i]? with
    | some (some v) => !(v.category == 2)
    | _ => true
theorem okP_ne {l : List (Option Value)} {i j : Nat} {v : Value} (h : okP l i = true) (hj : l[j]? = some (some v)) (e : j + 1 = i) : ¬ v.category = 2 := by
  subst e
  simpa [okP, hj] using h
theorem Lh_back1 {ls' : Array Slot} {n : Nat} {ad : Nat → Nat} {l : List (Option Value)} {i : Nat} {v w : Value} (hw : w = cvv ad v) (hk : okP l i = true) (h : lv_has ls' n ((i, w) :: (prs ad 0 l).filter (fun q => !(q.1 == i) && !(q.1 + 1 == i && q.2.category == 2)))) : Lh ls' n ad (l.set i (some v)) := by
  refine ⟨h.1, h.2.1, fun j u hj => ?_⟩
  by_cases hji : j = i
  · subst hji
    have hl : j < l.length := by
      have := (List.getElem?_eq_some_iff.mp hj).1
      simpa using this
    rw [List.getElem?_set_self hl] at hj
    cases hj
    have := h.2.2 _ List.mem_cons_self
    rw [← hw]
    exact this
  · rw [List.getElem?_set_ne (Ne.symm hji)] at hj
    refine h.2.2 (j, cvv ad u) (List.mem_cons_of_mem _ (List.mem_filter.mpr ⟨(prs_mem l 0).mpr ⟨j, u, by omega, hj, rfl⟩, ?_⟩))
    simp [hji, cvv_cat]
    by_cases e : j + 1 = i
    · exact Or.inr (okP_ne hk hj e)
    · exact Or.inl e
theorem Lh_back2 {ls' : Array Slot} {n : Nat} {ad : Nat → Nat} {l : List (Option Value)} {i : Nat} {v w : Value} (hw : w = cvv ad v) (hk : okP l i = true) (h : lv_has ls' n ((i, w) :: (prs ad 0 l).filter (fun q => !(q.1 == i) && (!(q.1 == i + 1) && !(q.1 + 1 == i && q.2.category == 2))))) : Lh ls' n ad ((l.set i (some v)).set (i + 1) none) := by
  refine ⟨h.1, h.2.1, fun j u hj => ?_⟩
  by_cases hj2 : j = i + 1
  · subst hj2
    have hl : i + 1 < (l.set i (some v)).length := by
      have := (List.getElem?_eq_some_iff.mp hj).1
      simpa using this
    rw [List.getElem?_set_self hl] at hj
    cases hj
  · rw [List.getElem?_set_ne (Ne.symm hj2)] at hj
    by_cases hji : j = i
    · subst hji
      have hl : j < l.length := by
        have := (List.getElem?_eq_some_iff.mp hj).1
        simpa using this
      rw [List.getElem?_set_self hl] at hj
      cases hj
      have := h.2.2 _ List.mem_cons_self
      rw [← hw]
      exact this
    · rw [List.getElem?_set_ne (Ne.symm hji)] at hj
      refine h.2.2 (j, cvv ad u) (List.mem_cons_of_mem _ (List.mem_filter.mpr ⟨(prs_mem l 0).mpr ⟨j, u, by omega, hj, rfl⟩, ?_⟩))
      simp [hji, hj2, cvv_cat]
      by_cases e : j + 1 = i
      · exact Or.inr (okP_ne hk hj e)
      · exact Or.inl e
/-! a method's entry -/
def entL (av : List Value) : List (Option Value) := av.flatMap (fun v => if v.category = 2 then [some v, none] else [some v])
def entP (n : Nat) (av : List Value) : List (Option Value) := entL av ++ List.replicate (n - (entL av).length) none
theorem ent_mem (ad : Nat → Nat) : ∀ (av : List Value) (o i : Nat) (v : Value), (entL av)[i]? = some (some v) → (o + i, cvv ad v) ∈ lv_args o (av.map (cvv ad))
  | [], o, i, v, h => by simp [entL] at h
  | u :: av, o, i, v, h => by
    rw [List.map_cons, lv_args, cvv_cat]
    by_cases hc : u.category = 2
    · have e : entL (u :: av) = some u :: none :: entL av := by simp [entL, hc]
      rw [e] at h
      rw [if_pos hc]
      match i, h with
      | 0, h => simp at h; subst h; exact List.mem_cons_self
      | 1, h => simp at h
      | j + 2, h =>
        have := ent_mem ad av (o + 2) j v (by simpa using h)
        rw [show o + (j + 2) = o + 2 + j by omega]
        exact List.mem_cons_of_mem _ this
    · have e : entL (u :: av) = some u :: entL av := by simp [entL, hc]
      rw [e] at h
      rw [if_neg hc]
      match i, h with
      | 0, h => simp at h; subst h; exact List.mem_cons_self
      | j + 1, h =>
        have := ent_mem ad av (o + 1) j v (by simpa using h)
        rw [show o + (j + 1) = o + 1 + j by omega]
        exact List.mem_cons_of_mem _ this
theorem ent_pad {n i : Nat} {v : Value} {av : List Value} (h : (entP n av)[i]? = some (some v)) : (entL av)[i]? = some (some v) := by
  unfold entP at h
  by_cases hi : i < (entL av).length
  · rwa [List.getElem?_append_left hi] at h
  · rw [List.getElem?_append_right (by omega)] at h
    have := List.eq_of_mem_replicate (List.mem_of_getElem? h)
    cases this
theorem ent_len (ad : Nat → Nat) : ∀ av : List Value, (lg_sl (av.map (cvv ad))).length = (entL av).length
  | [] => rfl
  | u :: av => by
    have ih := ent_len ad av
    have e1 : lg_sl ((u :: av).map (cvv ad)) = lg_sl [cvv ad u] ++ lg_sl (av.map (cvv ad)) := by simp [lg_sl]
    have e2 : entL (u :: av) = entL [u] ++ entL av := by simp [entL]
    rw [e1, e2, List.length_append, List.length_append, ih]
    congr 1
    simp only [lg_sl, entL, List.flatMap_cons, List.flatMap_nil, List.append_nil, cvv_cat]
    split <;> rfl
theorem Lh_entry {ls : Array Slot} {n : Nat} {ad : Nat → Nat} {av : List Value} (h : lv_has ls n (lv_args 0 (av.map (cvv ad)))) : Lh ls n ad (entP n av) :=
  ⟨h.1, h.2.1, fun i v hi => by
    have := ent_mem ad av 0 i v (ent_pad hi)
    rw [Nat.zero_add] at this
    exact h.2.2 _ this⟩
/-! the static tables, the classes, the links of nest mates -/
def tTENS (j : Nat) : Int32 := [1, 10, 100, 1000, 10000, 100000, 1000000].getD j 0
def tORD (j : Nat) : Int32 := [1, 1, 2, 6, 24, 120, 720].getD j 0
def Sx (E : Qe) (U : State) (H : Heap) : Prop :=
  va_K (E.2.2.1, E.2.2.2.1) vwCl [(E.2.2.2.2.1, .int), (E.2.2.2.2.2, .boolean)] U ∧ (∀ w ∈ lw_nest, va_Nw w U) ∧
  (va_Z "FiveRemotes" "TENS" "[I" (.ref (E.1 1000)) E.2.1 U H ∧ va_T .int (E.1 1000) 7 (fun j => .int (tTENS j)) E.2.1 U H) ∧
  va_Z "FiveRemotes" "ORDERS" "[I" (.ref (E.1 1001)) E.2.1 U H ∧ va_T .int (E.1 1001) 7 (fun j => .int (tORD j)) E.2.1 U H
theorem nest_go {s U : State} (hW : s.WarmedH U.vm) (h : ∀ w ∈ lw_nest, va_Nw w s) : ∀ w ∈ lw_nest, va_Nw w U := by
  intro w hw
  have h1 := h w hw
  have hn := (List.mem_filter.mp hw).2
  cases w <;> first
    | exact va_Nw.warmF hW h1
    | exact va_Nw.warmM hW h1
    | (exfalso; revert hn; simp [q_nestW])
theorem nest_same {s U : State} (hv : s.vm = U.vm) (h : ∀ w ∈ lw_nest, va_Nw w s) : ∀ w ∈ lw_nest, va_Nw w U := by
  intro w hw
  have h1 := h w hw
  have hn := (List.mem_filter.mp hw).2
  cases w <;> first
    | exact va_Nw.same rfl hv h1
    | (exfalso; revert hn; simp [q_nestW])
theorem Sx.go {E : Qe} {s U : State} {H0 H : Heap} (hA : s.vm.Alike U.vm) (hN : ∀ w ∈ lw_nest, va_Nw w U) (hq : ∀ a : Nat, a < H0.size → ¬ E.2.1 a → H[a]? = H0[a]?) (h : Sx E s H0) : Sx E U H :=
  ⟨va_K.moved hA h.1, hN, ⟨(va_Z.moved hA h.2.2.1.1).kept hq, (va_T.moved hA h.2.2.1.2).kept hq⟩, (va_Z.moved hA h.2.2.2.1).kept hq, (va_T.moved hA h.2.2.2.2).kept hq⟩
def Cx (E : Qe) (M : MI) (p : Program) (s : State) (m : MethodId) (args : Array Value) (meth : Method) (c : Code) : Prop :=
  p.tables.exec = Jvm.exec ∧ c.code = M.2.1 ∧ c.maxLocals = M.2.2.1 ∧ meth.sig.returnType = M.2.2.2 ∧ meth.locks = false ∧ s.vm.findClass M.1.cls = some m.cls ∧ (∀ w ∈ mWs M, w.before args s = true) ∧ Sx E s s.heap
def Hx (sh : Shp) (E : Qe) (σ : Mem) (s : State) (H : Heap) (locs : List Loc) : Prop :=
  va_P (E.2.2.1, E.2.2.2.1) vwCl (wd sh E σ) H ∧ va_D E.2.1 (wd sh E σ) ∧ va_S E.2.1 s.heap H locs
def Qx (sh : Shp) (E : Qe) (Post : Option Value → Mem → Prop) : Array Value → State → Outcome → State → Prop := fun _ st oc t =>
  (∃ (r : Option Value) (σ' : Mem), oc = .returned (r.map (cvv E.1)) ∧ Post r σ' ∧ va_P (E.2.2.1, E.2.2.2.1) vwCl (wd sh E σ') t.heap) ∧ va_F E.2.1 st t
def Px (sh : Shp) (E : Qe) (σ : Mem) (U : State) : Prop := va_P (E.2.2.1, E.2.2.2.1) vwCl (wd sh E σ) U.heap ∧ va_D E.2.1 (wd sh E σ) ∧ Sx E U U.heap
/-- a contract: at any depth from k on -/
def Ct (sh : Shp) (k : Nat) (M : MI) (av : List Value) (σ : Mem) (Post : Option Value → Mem → Prop) : Prop :=
  ∀ d : Nat, k ≤ d → ∀ (E : Qe) (la : Launch), Met la M.1 (mWs M) (rmd d) (va_Pc (av.map (cvv E.1)) (Px sh E σ)) (Qx sh E Post) 0 0 E.2.1
/-- at an instruction: from here the method comes to its end with Post -/
def Vj (sh : Shp) (k : Nat) (M : MI) (Post : Option Value → Mem → Prop) (pc : Nat) (l : List (Option Value)) (st : List Value) (σ : Mem) : Prop :=
  ∀ d : Nat, k ≤ d → ∀ (E : Qe) (p : Program) (la : Launch) (e : Jvm.Env) (s : State) (m : MethodId) (args : Array Value) (below : List Frame) (meth : Method) (c : Code) (H : Heap) (locs : List Loc) (ls : Array Slot),
    Cx E M p s m args meth c → Hx sh E σ s H locs → Lh ls M.2.2.1 E.1 l →
    W p la e (rmd d) s m args below meth c H locs 0 0 (MQ below (Qx sh E Post) args s 0 0 E.2.1) (F0 m pc ls (st.map (cvv E.1)))
theorem Ct.of {sh : Shp} {k : Nat} {M : MI} {av : List Value} {σ : Mem} {Post : Option Value → Mem → Prop} {l : List (Option Value)} (hy : plainName M.1.cls = true) (hn : (entL av).length ≤ M.2.2.1) (hl : entP M.2.2.1 av = l) (h : Vj sh k M Post 0 l [] σ) : Ct sh k M av σ Post := by
  subst hl
  intro d hd E la
  refine Met.ofW (cc := M.2.1) (maxL := M.2.2.1) (ret := M.2.2.2) (ws' := lw_big) hy rfl ?_
  intro p e s m args below meth c s₁ B hml hv
  obtain ⟨rfl, hP, hD, hS⟩ := hv
  have hts := atoms_spec (ws := mWs M) B.pre
  have hC : Cx E M p s m (av.map (cvv E.1)).toArray meth c := ⟨B.exec, B.bytes, hml, B.returns, B.notSynchronized, findClass_of_methodNamed B.named, hts, hS⟩
  have hl := lv_entry (av.map (cvv E.1)) (n := M.2.2.1) (by rw [ent_len]; exact hn)
  rw [lg_entry_eq]
  exact h d hd E p la e s m _ below meth c s.heap [] _ hC ⟨hP, hD, va_S.rf⟩ (Lh_entry hl)

theorem Vj_iconst {sh : Shp} {kd : Nat} {M : MI} {Post : Option Value → Mem → Prop} {pc q : Nat} {l : List (Option Value)} {st : List Value} {σ : Mem} {n : Int} {v : Int32} (h : decode M.2.1 pc = .ok (.iconst n, 1)) (hp : pc + 1 = q) (hv : Int32.ofInt n = v) (k : Vj sh kd M Post q l (.int v :: st) σ) : Vj sh kd M Post pc l st σ := by
  subst hp
  intro d hd E p la e s m args below meth c H locs ls hC hH hL
  exact lv_iconst hC.1 hC.2.1 h hv (k d hd E p la e s m args below meth c H locs ls hC hH hL)
theorem Vj_bipush {sh : Shp} {kd : Nat} {M : MI} {Post : Option Value → Mem → Prop} {pc q : Nat} {l : List (Option Value)} {st : List Value} {σ : Mem} {n : Int} {v : Int32} (h : decode M.2.1 pc = .ok (.bipush n, 2)) (hp : pc + 2 = q) (hv : (Int8.ofInt n).toInt32 = v) (k : Vj sh kd M Post q l (.int v :: st) σ) : Vj sh kd M Post pc l st σ := by
  subst hp
  intro d hd E p la e s m args below meth c H locs ls hC hH hL
  exact lv_bipush hC.1 hC.2.1 h hv (k d hd E p la e s m args below meth c H locs ls hC hH hL)
theorem Vj_sipush {sh : Shp} {kd : Nat} {M : MI} {Post : Option Value → Mem → Prop} {pc q : Nat} {l : List (Option Value)} {st : List Value} {σ : Mem} {n : Int} {v : Int32} (h : decode M.2.1 pc = .ok (.sipush n, 3)) (hp : pc + 3 = q) (hv : (Int16.ofInt n).toInt32 = v) (k : Vj sh kd M Post q l (.int v :: st) σ) : Vj sh kd M Post pc l st σ := by
  subst hp
  intro d hd E p la e s m args below meth c H locs ls hC hH hL
  exact lv_sipush hC.1 hC.2.1 h hv (k d hd E p la e s m args below meth c H locs ls hC hH hL)
theorem Vj_lconst {sh : Shp} {kd : Nat} {M : MI} {Post : Option Value → Mem → Prop} {pc q : Nat} {l : List (Option Value)} {st : List Value} {σ : Mem} {n : Fin 2} {v : Int64} (h : decode M.2.1 pc = .ok (.lconst n, 1)) (hp : pc + 1 = q) (hv : Int64.ofNat (n : Nat) = v) (k : Vj sh kd M Post q l (.long v :: st) σ) : Vj sh kd M Post pc l st σ := by
  subst hp
  intro d hd E p la e s m args below meth c H locs ls hC hH hL
  exact lv_lconst hC.1 hC.2.1 h hv (k d hd E p la e s m args below meth c H locs ls hC hH hL)
theorem Vj_ldc2 {sh : Shp} {kd : Nat} {M : MI} {Post : Option Value → Mem → Prop} {pc q : Nat} {l : List (Option Value)} {st : List Value} {σ : Mem} {ix : Nat} {v : Int64} (h : decode M.2.1 pc = .ok (.ldc2_w ix, 3)) (hp : pc + 3 = q) (hw : Cond.constantLong M.1.cls ix v ∈ lw_big) (k : Vj sh kd M Post q l (.long v :: st) σ) : Vj sh kd M Post pc l st σ := by
  subst hp
  intro d hd E p la e s m args below meth c H locs ls hC hH hL
  exact lv_ldc2 hC.1 hC.2.1 hC.2.2.2.2.2.1 (hC.2.2.2.2.2.2.1 _ (List.mem_cons_of_mem _ hw)) h (k d hd E p la e s m args below meth c H locs ls hC hH hL)
theorem Vj_ldcw {sh : Shp} {kd : Nat} {M : MI} {Post : Option Value → Mem → Prop} {pc q : Nat} {l : List (Option Value)} {st : List Value} {σ : Mem} {ix : Nat} {v : Int32} (h : decode M.2.1 pc = .ok (.ldc_w ix, 3)) (hp : pc + 3 = q) (hw : Cond.constant M.1.cls ix v ∈ lw_big) (k : Vj sh kd M Post q l (.int v :: st) σ) : Vj sh kd M Post pc l st σ := by
  subst hp
  intro d hd E p la e s m args below meth c H locs ls hC hH hL
  intro T hT X
  obtain ⟨t, a, b⟩ := k d hd E p la e s m args below meth c H locs ls hC hH hL T hT X
  refine ⟨t, ?_, b⟩
  exact va_ldcwI X hC.1 hC.2.2.2.2.2.1 (hC.2.2.2.2.2.2.1 _ (List.mem_cons_of_mem _ hw)) (g := F0 m pc ls (st.map (cvv E.1))) rfl (by rw [hC.2.1]; exact h) t a
theorem Vj_iloadn {sh : Shp} {kd : Nat} {M : MI} {Post : Option Value → Mem → Prop} {pc q : Nat} {l : List (Option Value)} {st : List Value} {σ : Mem} {i : Nat} {k4 : Fin 4} {x : Int32} (h : decode M.2.1 pc = .ok (.iload_n k4, 1)) (hp : pc + 1 = q) (hi : (k4 : Nat) = i) (hl : l[i]? = some (some (.int x))) (k : Vj sh kd M Post q l (.int x :: st) σ) : Vj sh kd M Post pc l st σ := by
  subst hp
  intro d hd E p la e s m args below meth c H locs ls hC hH hL
  exact lv_iload_n hC.1 hC.2.1 h hi (hL.2.2 i _ hl) (k d hd E p la e s m args below meth c H locs ls hC hH hL)
theorem Vj_iload {sh : Shp} {kd : Nat} {M : MI} {Post : Option Value → Mem → Prop} {pc q : Nat} {l : List (Option Value)} {st : List Value} {σ : Mem} {i : Nat} {x : Int32} (h : decode M.2.1 pc = .ok (.iload i, 2)) (hp : pc + 2 = q) (hl : l[i]? = some (some (.int x))) (k : Vj sh kd M Post q l (.int x :: st) σ) : Vj sh kd M Post pc l st σ := by
  subst hp
  intro d hd E p la e s m args below meth c H locs ls hC hH hL
  exact lv_iload hC.1 hC.2.1 h (hL.2.2 i _ hl) (k d hd E p la e s m args below meth c H locs ls hC hH hL)
theorem Vj_lloadn {sh : Shp} {kd : Nat} {M : MI} {Post : Option Value → Mem → Prop} {pc q : Nat} {l : List (Option Value)} {st : List Value} {σ : Mem} {i : Nat} {k4 : Fin 4} {x : Int64} (h : decode M.2.1 pc = .ok (.lload_n k4, 1)) (hp : pc + 1 = q) (hi : (k4 : Nat) = i) (hl : l[i]? = some (some (.long x))) (k : Vj sh kd M Post q l (.long x :: st) σ) : Vj sh kd M Post pc l st σ := by
  subst hp
  intro d hd E p la e s m args below meth c H locs ls hC hH hL
  exact lv_lload_n hC.1 hC.2.1 h hi (hL.2.2 i _ hl) (k d hd E p la e s m args below meth c H locs ls hC hH hL)
theorem Vj_lload {sh : Shp} {kd : Nat} {M : MI} {Post : Option Value → Mem → Prop} {pc q : Nat} {l : List (Option Value)} {st : List Value} {σ : Mem} {i : Nat} {x : Int64} (h : decode M.2.1 pc = .ok (.lload i, 2)) (hp : pc + 2 = q) (hl : l[i]? = some (some (.long x))) (k : Vj sh kd M Post q l (.long x :: st) σ) : Vj sh kd M Post pc l st σ := by
  subst hp
  intro d hd E p la e s m args below meth c H locs ls hC hH hL
  exact lv_lload hC.1 hC.2.1 h (hL.2.2 i _ hl) (k d hd E p la e s m args below meth c H locs ls hC hH hL)
theorem Vj_aloadn {sh : Shp} {kd : Nat} {M : MI} {Post : Option Value → Mem → Prop} {pc q : Nat} {l : List (Option Value)} {st : List Value} {σ : Mem} {i : Nat} {k4 : Fin 4} {x : Nat} (h : decode M.2.1 pc = .ok (.aload_n k4, 1)) (hp : pc + 1 = q) (hi : (k4 : Nat) = i) (hl : l[i]? = some (some (.ref x))) (k : Vj sh kd M Post q l (.ref x :: st) σ) : Vj sh kd M Post pc l st σ := by
  subst hp
  intro d hd E p la e s m args below meth c H locs ls hC hH hL
  exact lv_aload_n hC.1 hC.2.1 h hi (hL.2.2 i _ hl) (k d hd E p la e s m args below meth c H locs ls hC hH hL)
theorem Vj_aload {sh : Shp} {kd : Nat} {M : MI} {Post : Option Value → Mem → Prop} {pc q : Nat} {l : List (Option Value)} {st : List Value} {σ : Mem} {i : Nat} {x : Nat} (h : decode M.2.1 pc = .ok (.aload i, 2)) (hp : pc + 2 = q) (hl : l[i]? = some (some (.ref x))) (k : Vj sh kd M Post q l (.ref x :: st) σ) : Vj sh kd M Post pc l st σ := by
  subst hp
  intro d hd E p la e s m args below meth c H locs ls hC hH hL
  exact lv_aload hC.1 hC.2.1 h (hL.2.2 i _ hl) (k d hd E p la e s m args below meth c H locs ls hC hH hL)
theorem Vj_istoren {sh : Shp} {kd : Nat} {M : MI} {Post : Option Value → Mem → Prop} {pc q : Nat} {l : List (Option Value)} {st : List Value} {σ : Mem} {i : Nat} {k4 : Fin 4} {x : Int32} (h : decode M.2.1 pc = .ok (.istore_n k4, 1)) (hp : pc + 1 = q) (hi : (k4 : Nat) = i) (hn : i < M.2.2.1) (hk : okP l i = true) (k : Vj sh kd M Post q (l.set i (some (.int x))) st σ) : Vj sh kd M Post pc l (.int x :: st) σ := by
  subst hp
  intro d hd E p la e s m args below meth c H locs ls hC hH hL
  exact lv_istore_n hC.1 hC.2.1 h hi hL.has hn rfl (fun ls' hl' => k d hd E p la e s m args below meth c H locs ls' hC hH (Lh_back1 rfl hk hl'))
theorem Vj_istore {sh : Shp} {kd : Nat} {M : MI} {Post : Option Value → Mem → Prop} {pc q : Nat} {l : List (Option Value)} {st : List Value} {σ : Mem} {i : Nat} {x : Int32} (h : decode M.2.1 pc = .ok (.istore i, 2)) (hp : pc + 2 = q) (hn : i < M.2.2.1) (hk : okP l i = true) (k : Vj sh kd M Post q (l.set i (some (.int x))) st σ) : Vj sh kd M Post pc l (.int x :: st) σ := by
  subst hp
  intro d hd E p la e s m args below meth c H locs ls hC hH hL
  exact lv_istore hC.1 hC.2.1 h hL.has hn rfl (fun ls' hl' => k d hd E p la e s m args below meth c H locs ls' hC hH (Lh_back1 rfl hk hl'))
theorem Vj_astoren {sh : Shp} {kd : Nat} {M : MI} {Post : Option Value → Mem → Prop} {pc q : Nat} {l : List (Option Value)} {st : List Value} {σ : Mem} {i : Nat} {k4 : Fin 4} {x : Nat} (h : decode M.2.1 pc = .ok (.astore_n k4, 1)) (hp : pc + 1 = q) (hi : (k4 : Nat) = i) (hn : i < M.2.2.1) (hk : okP l i = true) (k : Vj sh kd M Post q (l.set i (some (.ref x))) st σ) : Vj sh kd M Post pc l (.ref x :: st) σ := by
  subst hp
  intro d hd E p la e s m args below meth c H locs ls hC hH hL
  exact lv_astore_n hC.1 hC.2.1 h hi hL.has hn rfl (fun ls' hl' => k d hd E p la e s m args below meth c H locs ls' hC hH (Lh_back1 rfl hk hl'))
theorem Vj_astore {sh : Shp} {kd : Nat} {M : MI} {Post : Option Value → Mem → Prop} {pc q : Nat} {l : List (Option Value)} {st : List Value} {σ : Mem} {i : Nat} {x : Nat} (h : decode M.2.1 pc = .ok (.astore i, 2)) (hp : pc + 2 = q) (hn : i < M.2.2.1) (hk : okP l i = true) (k : Vj sh kd M Post q (l.set i (some (.ref x))) st σ) : Vj sh kd M Post pc l (.ref x :: st) σ := by
  subst hp
  intro d hd E p la e s m args below meth c H locs ls hC hH hL
  exact lv_astore hC.1 hC.2.1 h hL.has hn rfl (fun ls' hl' => k d hd E p la e s m args below meth c H locs ls' hC hH (Lh_back1 rfl hk hl'))
theorem Vj_lstoren {sh : Shp} {kd : Nat} {M : MI} {Post : Option Value → Mem → Prop} {pc q : Nat} {l : List (Option Value)} {st : List Value} {σ : Mem} {i : Nat} {k4 : Fin 4} {x : Int64} (h : decode M.2.1 pc = .ok (.lstore_n k4, 1)) (hp : pc + 1 = q) (hi : (k4 : Nat) = i) (hn : i + 1 < M.2.2.1) (hk : okP l i = true) (k : Vj sh kd M Post q ((l.set i (some (.long x))).set (i + 1) none) st σ) : Vj sh kd M Post pc l (.long x :: st) σ := by
  subst hp
  intro d hd E p la e s m args below meth c H locs ls hC hH hL
  exact lv_lstore_n hC.1 hC.2.1 h hi hL.has hn rfl (fun ls' hl' => k d hd E p la e s m args below meth c H locs ls' hC hH (Lh_back2 rfl hk hl'))
theorem Vj_lstore {sh : Shp} {kd : Nat} {M : MI} {Post : Option Value → Mem → Prop} {pc q : Nat} {l : List (Option Value)} {st : List Value} {σ : Mem} {i : Nat} {x : Int64} (h : decode M.2.1 pc = .ok (.lstore i, 2)) (hp : pc + 2 = q) (hn : i + 1 < M.2.2.1) (hk : okP l i = true) (k : Vj sh kd M Post q ((l.set i (some (.long x))).set (i + 1) none) st σ) : Vj sh kd M Post pc l (.long x :: st) σ := by
  subst hp
  intro d hd E p la e s m args below meth c H locs ls hC hH hL
  exact lv_lstore hC.1 hC.2.1 h hL.has hn rfl (fun ls' hl' => k d hd E p la e s m args below meth c H locs ls' hC hH (Lh_back2 rfl hk hl'))
theorem Vj_iinc {sh : Shp} {kd : Nat} {M : MI} {Post : Option Value → Mem → Prop} {pc q : Nat} {l : List (Option Value)} {st : List Value} {σ : Mem} {i : Nat} {n : Int} {x v : Int32} (h : decode M.2.1 pc = .ok (.iinc i n, 3)) (hp : pc + 3 = q) (hl : l[i]? = some (some (.int x))) (hv : x + Int32.ofInt n = v) (hn : i < M.2.2.1) (hk : okP l i = true) (k : Vj sh kd M Post q (l.set i (some (.int v))) st σ) : Vj sh kd M Post pc l st σ := by
  subst hp
  intro d hd E p la e s m args below meth c H locs ls hC hH hL
  have hm : (i, Value.int x) ∈ prs E.1 0 l := (prs_mem l 0).mpr ⟨i, .int x, by omega, hl, rfl⟩
  obtain ⟨kk, hkk⟩ := List.getElem?_of_mem hm
  exact lv_iinc hC.1 hC.2.1 h hL.has hkk hv hn rfl (fun ls' hl' => k d hd E p la e s m args below meth c H locs ls' hC hH (Lh_back1 rfl hk hl'))
theorem Vj_iadd {sh : Shp} {kd : Nat} {M : MI} {Post : Option Value → Mem → Prop} {pc q : Nat} {l : List (Option Value)} {st : List Value} {σ : Mem} {x y : Int32} (h : decode M.2.1 pc = .ok (.iadd, 1)) (hp : pc + 1 = q) (k : Vj sh kd M Post q l (.int (x + y) :: st) σ) : Vj sh kd M Post pc l (.int y :: .int x :: st) σ := by
  subst hp
  intro d hd E p la e s m args below meth c H locs ls hC hH hL
  exact lv_iadd hC.1 hC.2.1 h (k d hd E p la e s m args below meth c H locs ls hC hH hL)

theorem Vj_isub {sh : Shp} {kd : Nat} {M : MI} {Post : Option Value → Mem → Prop} {pc q : Nat} {l : List (Option Value)} {st : List Value} {σ : Mem} {x y : Int32} (h : decode M.2.1 pc = .ok (.isub, 1)) (hp : pc + 1 = q) (k : Vj sh kd M Post q l (.int (x - y) :: st) σ) : Vj sh kd M Post pc l (.int y :: .int x :: st) σ := by
  subst hp
  intro d hd E p la e s m args below meth c H locs ls hC hH hL
  exact lv_isub hC.1 hC.2.1 h (k d hd E p la e s m args below meth c H locs ls hC hH hL)

theorem Vj_imul {sh : Shp} {kd : Nat} {M : MI} {Post : Option Value → Mem → Prop} {pc q : Nat} {l : List (Option Value)} {st : List Value} {σ : Mem} {x y : Int32} (h : decode M.2.1 pc = .ok (.imul, 1)) (hp : pc + 1 = q) (k : Vj sh kd M Post q l (.int (x * y) :: st) σ) : Vj sh kd M Post pc l (.int y :: .int x :: st) σ := by
  subst hp
  intro d hd E p la e s m args below meth c H locs ls hC hH hL
  exact lv_imul hC.1 hC.2.1 h (k d hd E p la e s m args below meth c H locs ls hC hH hL)

theorem Vj_iand {sh : Shp} {kd : Nat} {M : MI} {Post : Option Value → Mem → Prop} {pc q : Nat} {l : List (Option Value)} {st : List Value} {σ : Mem} {x y : Int32} (h : decode M.2.1 pc = .ok (.iand, 1)) (hp : pc + 1 = q) (k : Vj sh kd M Post q l (.int (x &&& y) :: st) σ) : Vj sh kd M Post pc l (.int y :: .int x :: st) σ := by
  subst hp
  intro d hd E p la e s m args below meth c H locs ls hC hH hL
  exact lv_iand hC.1 hC.2.1 h (k d hd E p la e s m args below meth c H locs ls hC hH hL)

theorem Vj_ior {sh : Shp} {kd : Nat} {M : MI} {Post : Option Value → Mem → Prop} {pc q : Nat} {l : List (Option Value)} {st : List Value} {σ : Mem} {x y : Int32} (h : decode M.2.1 pc = .ok (.ior, 1)) (hp : pc + 1 = q) (k : Vj sh kd M Post q l (.int (x ||| y) :: st) σ) : Vj sh kd M Post pc l (.int y :: .int x :: st) σ := by
  subst hp
  intro d hd E p la e s m args below meth c H locs ls hC hH hL
  exact lv_ior hC.1 hC.2.1 h (k d hd E p la e s m args below meth c H locs ls hC hH hL)

theorem Vj_ixor {sh : Shp} {kd : Nat} {M : MI} {Post : Option Value → Mem → Prop} {pc q : Nat} {l : List (Option Value)} {st : List Value} {σ : Mem} {x y : Int32} (h : decode M.2.1 pc = .ok (.ixor, 1)) (hp : pc + 1 = q) (k : Vj sh kd M Post q l (.int (x ^^^ y) :: st) σ) : Vj sh kd M Post pc l (.int y :: .int x :: st) σ := by
  subst hp
  intro d hd E p la e s m args below meth c H locs ls hC hH hL
  exact lv_ixor hC.1 hC.2.1 h (k d hd E p la e s m args below meth c H locs ls hC hH hL)

theorem Vj_ladd {sh : Shp} {kd : Nat} {M : MI} {Post : Option Value → Mem → Prop} {pc q : Nat} {l : List (Option Value)} {st : List Value} {σ : Mem} {x y : Int64} (h : decode M.2.1 pc = .ok (.ladd, 1)) (hp : pc + 1 = q) (k : Vj sh kd M Post q l (.long (x + y) :: st) σ) : Vj sh kd M Post pc l (.long y :: .long x :: st) σ := by
  subst hp
  intro d hd E p la e s m args below meth c H locs ls hC hH hL
  exact lv_ladd hC.1 hC.2.1 h (k d hd E p la e s m args below meth c H locs ls hC hH hL)

theorem Vj_lmul {sh : Shp} {kd : Nat} {M : MI} {Post : Option Value → Mem → Prop} {pc q : Nat} {l : List (Option Value)} {st : List Value} {σ : Mem} {x y : Int64} (h : decode M.2.1 pc = .ok (.lmul, 1)) (hp : pc + 1 = q) (k : Vj sh kd M Post q l (.long (x * y) :: st) σ) : Vj sh kd M Post pc l (.long y :: .long x :: st) σ := by
  subst hp
  intro d hd E p la e s m args below meth c H locs ls hC hH hL
  exact lv_lmul hC.1 hC.2.1 h (k d hd E p la e s m args below meth c H locs ls hC hH hL)

theorem Vj_land {sh : Shp} {kd : Nat} {M : MI} {Post : Option Value → Mem → Prop} {pc q : Nat} {l : List (Option Value)} {st : List Value} {σ : Mem} {x y : Int64} (h : decode M.2.1 pc = .ok (.land, 1)) (hp : pc + 1 = q) (k : Vj sh kd M Post q l (.long (x &&& y) :: st) σ) : Vj sh kd M Post pc l (.long y :: .long x :: st) σ := by
  subst hp
  intro d hd E p la e s m args below meth c H locs ls hC hH hL
  exact lv_land hC.1 hC.2.1 h (k d hd E p la e s m args below meth c H locs ls hC hH hL)

theorem Vj_lor {sh : Shp} {kd : Nat} {M : MI} {Post : Option Value → Mem → Prop} {pc q : Nat} {l : List (Option Value)} {st : List Value} {σ : Mem} {x y : Int64} (h : decode M.2.1 pc = .ok (.lor, 1)) (hp : pc + 1 = q) (k : Vj sh kd M Post q l (.long (x ||| y) :: st) σ) : Vj sh kd M Post pc l (.long y :: .long x :: st) σ := by
  subst hp
  intro d hd E p la e s m args below meth c H locs ls hC hH hL
  exact lv_lor hC.1 hC.2.1 h (k d hd E p la e s m args below meth c H locs ls hC hH hL)

theorem Vj_ineg {sh : Shp} {kd : Nat} {M : MI} {Post : Option Value → Mem → Prop} {pc q : Nat} {l : List (Option Value)} {st : List Value} {σ : Mem} {x : Int32} (h : decode M.2.1 pc = .ok (.ineg, 1)) (hp : pc + 1 = q) (k : Vj sh kd M Post q l (.int (-x) :: st) σ) : Vj sh kd M Post pc l (.int x :: st) σ := by
  subst hp
  intro d hd E p la e s m args below meth c H locs ls hC hH hL
  exact lv_ineg hC.1 hC.2.1 h (k d hd E p la e s m args below meth c H locs ls hC hH hL)

theorem Vj_ishl {sh : Shp} {kd : Nat} {M : MI} {Post : Option Value → Mem → Prop} {pc q : Nat} {l : List (Option Value)} {st : List Value} {σ : Mem} {x y : Int32} (h : decode M.2.1 pc = .ok (.ishl, 1)) (hp : pc + 1 = q) (k : Vj sh kd M Post q l (.int (x <<< (y &&& 31)) :: st) σ) : Vj sh kd M Post pc l (.int y :: .int x :: st) σ := by
  subst hp
  intro d hd E p la e s m args below meth c H locs ls hC hH hL
  exact lv_ishl hC.1 hC.2.1 h (k d hd E p la e s m args below meth c H locs ls hC hH hL)

theorem Vj_ishr {sh : Shp} {kd : Nat} {M : MI} {Post : Option Value → Mem → Prop} {pc q : Nat} {l : List (Option Value)} {st : List Value} {σ : Mem} {x y : Int32} (h : decode M.2.1 pc = .ok (.ishr, 1)) (hp : pc + 1 = q) (k : Vj sh kd M Post q l (.int (x >>> (y &&& 31)) :: st) σ) : Vj sh kd M Post pc l (.int y :: .int x :: st) σ := by
  subst hp
  intro d hd E p la e s m args below meth c H locs ls hC hH hL
  exact lv_ishr hC.1 hC.2.1 h (k d hd E p la e s m args below meth c H locs ls hC hH hL)

theorem Vj_iushr {sh : Shp} {kd : Nat} {M : MI} {Post : Option Value → Mem → Prop} {pc q : Nat} {l : List (Option Value)} {st : List Value} {σ : Mem} {x y : Int32} (h : decode M.2.1 pc = .ok (.iushr, 1)) (hp : pc + 1 = q) (k : Vj sh kd M Post q l (.int ((x.toUInt32 >>> (y.toUInt32 &&& Int32.toUInt32 31)).toInt32) :: st) σ) : Vj sh kd M Post pc l (.int y :: .int x :: st) σ := by
  subst hp
  intro d hd E p la e s m args below meth c H locs ls hC hH hL
  exact lv_iushr hC.1 hC.2.1 h rfl (k d hd E p la e s m args below meth c H locs ls hC hH hL)

theorem Vj_i2l {sh : Shp} {kd : Nat} {M : MI} {Post : Option Value → Mem → Prop} {pc q : Nat} {l : List (Option Value)} {st : List Value} {σ : Mem} {x : Int32} (h : decode M.2.1 pc = .ok (.i2l, 1)) (hp : pc + 1 = q) (k : Vj sh kd M Post q l (.long x.toInt64 :: st) σ) : Vj sh kd M Post pc l (.int x :: st) σ := by
  subst hp
  intro d hd E p la e s m args below meth c H locs ls hC hH hL
  exact lv_i2l hC.1 hC.2.1 h rfl (k d hd E p la e s m args below meth c H locs ls hC hH hL)

theorem Vj_l2i {sh : Shp} {kd : Nat} {M : MI} {Post : Option Value → Mem → Prop} {pc q : Nat} {l : List (Option Value)} {st : List Value} {σ : Mem} {x : Int64} (h : decode M.2.1 pc = .ok (.l2i, 1)) (hp : pc + 1 = q) (k : Vj sh kd M Post q l (.int x.toInt32 :: st) σ) : Vj sh kd M Post pc l (.long x :: st) σ := by
  subst hp
  intro d hd E p la e s m args below meth c H locs ls hC hH hL
  exact lv_l2i hC.1 hC.2.1 h rfl (k d hd E p la e s m args below meth c H locs ls hC hH hL)

theorem Vj_lushr {sh : Shp} {kd : Nat} {M : MI} {Post : Option Value → Mem → Prop} {pc q : Nat} {l : List (Option Value)} {st : List Value} {σ : Mem} {x : Int64} {y : Int32} (h : decode M.2.1 pc = .ok (.lushr, 1)) (hp : pc + 1 = q) (k : Vj sh kd M Post q l (.long ((x.toUInt64 >>> (y.toInt64.toUInt64 &&& Int64.toUInt64 63)).toInt64) :: st) σ) : Vj sh kd M Post pc l (.int y :: .long x :: st) σ := by
  subst hp
  intro d hd E p la e s m args below meth c H locs ls hC hH hL
  exact lv_lushr hC.1 hC.2.1 h rfl (k d hd E p la e s m args below meth c H locs ls hC hH hL)

theorem Vj_lshl {sh : Shp} {kd : Nat} {M : MI} {Post : Option Value → Mem → Prop} {pc q : Nat} {l : List (Option Value)} {st : List Value} {σ : Mem} {x : Int64} {y : Int32} (h : decode M.2.1 pc = .ok (.lshl, 1)) (hp : pc + 1 = q) (k : Vj sh kd M Post q l (.long (x <<< (y.toInt64 &&& 63)) :: st) σ) : Vj sh kd M Post pc l (.int y :: .long x :: st) σ := by
  subst hp
  intro d hd E p la e s m args below meth c H locs ls hC hH hL
  exact lv_lshl hC.1 hC.2.1 h rfl (k d hd E p la e s m args below meth c H locs ls hC hH hL)

theorem Vj_lcmp {sh : Shp} {kd : Nat} {M : MI} {Post : Option Value → Mem → Prop} {pc q : Nat} {l : List (Option Value)} {st : List Value} {σ : Mem} {x y : Int64} (h : decode M.2.1 pc = .ok (.lcmp, 1)) (hp : pc + 1 = q) (k : Vj sh kd M Post q l (.int (lg_cmp x y) :: st) σ) : Vj sh kd M Post pc l (.long y :: .long x :: st) σ := by
  subst hp
  intro d hd E p la e s m args below meth c H locs ls hC hH hL
  exact W.lcmp hC.1 hC.2.1 h (k d hd E p la e s m args below meth c H locs ls hC hH hL)

theorem Vj_idiv {sh : Shp} {kd : Nat} {M : MI} {Post : Option Value → Mem → Prop} {pc q : Nat} {l : List (Option Value)} {st : List Value} {σ : Mem} {x y : Int32} (h : decode M.2.1 pc = .ok (.idiv, 1)) (hp : pc + 1 = q) (hne : ¬ y = 0) (k : Vj sh kd M Post q l (.int (x / y) :: st) σ) : Vj sh kd M Post pc l (.int y :: .int x :: st) σ := by
  subst hp
  intro d hd E p la e s m args below meth c H locs ls hC hH hL
  exact lv_idiv hC.1 hC.2.1 h hne (k d hd E p la e s m args below meth c H locs ls hC hH hL)

theorem Vj_irem {sh : Shp} {kd : Nat} {M : MI} {Post : Option Value → Mem → Prop} {pc q : Nat} {l : List (Option Value)} {st : List Value} {σ : Mem} {x y : Int32} (h : decode M.2.1 pc = .ok (.irem, 1)) (hp : pc + 1 = q) (hne : ¬ y = 0) (k : Vj sh kd M Post q l (.int (x % y) :: st) σ) : Vj sh kd M Post pc l (.int y :: .int x :: st) σ := by
  subst hp
  intro d hd E p la e s m args below meth c H locs ls hC hH hL
  have k1 := k d hd E p la e s m args below meth c H locs ls hC hH hL
  rw [show x % y = x - x / y * y from (irem_eq_mod x y).symm] at k1
  exact lv_irem hC.1 hC.2.1 h hne k1

theorem Vj_lrem {sh : Shp} {kd : Nat} {M : MI} {Post : Option Value → Mem → Prop} {pc q : Nat} {l : List (Option Value)} {st : List Value} {σ : Mem} {x y : Int64} (h : decode M.2.1 pc = .ok (.lrem, 1)) (hp : pc + 1 = q) (hne : ¬ y = 0) (k : Vj sh kd M Post q l (.long (x - x / y * y) :: st) σ) : Vj sh kd M Post pc l (.long y :: .long x :: st) σ := by
  subst hp
  intro d hd E p la e s m args below meth c H locs ls hC hH hL
  exact lv_lrem hC.1 hC.2.1 h hne (k d hd E p la e s m args below meth c H locs ls hC hH hL)

theorem Vj_dup {sh : Shp} {kd : Nat} {M : MI} {Post : Option Value → Mem → Prop} {pc q : Nat} {l : List (Option Value)} {st : List Value} {σ : Mem} {v : Value} (h : decode M.2.1 pc = .ok (.dup, 1)) (hp : pc + 1 = q) (hv : v.category = 1) (k : Vj sh kd M Post q l (v :: v :: st) σ) : Vj sh kd M Post pc l (v :: st) σ := by
  subst hp
  intro d hd E p la e s m args below meth c H locs ls hC hH hL
  exact lv_dup hC.1 hC.2.1 h ((cvv_cat _ v).trans hv) (k d hd E p la e s m args below meth c H locs ls hC hH hL)

theorem Vj_pop {sh : Shp} {kd : Nat} {M : MI} {Post : Option Value → Mem → Prop} {pc q : Nat} {l : List (Option Value)} {st : List Value} {σ : Mem} {v : Value} (h : decode M.2.1 pc = .ok (.pop, 1)) (hp : pc + 1 = q) (hv : v.category = 1) (k : Vj sh kd M Post q l (st) σ) : Vj sh kd M Post pc l (v :: st) σ := by
  subst hp
  intro d hd E p la e s m args below meth c H locs ls hC hH hL
  exact lv_pop hC.1 hC.2.1 h ((cvv_cat _ v).trans hv) (k d hd E p la e s m args below meth c H locs ls hC hH hL)

theorem Vj_dup2 {sh : Shp} {kd : Nat} {M : MI} {Post : Option Value → Mem → Prop} {pc q : Nat} {l : List (Option Value)} {st : List Value} {σ : Mem} {v u : Value} (h : decode M.2.1 pc = .ok (.dup2, 1)) (hp : pc + 1 = q) (hv : v.category = 1) (hu : u.category = 1) (k : Vj sh kd M Post q l (v :: u :: v :: u :: st) σ) : Vj sh kd M Post pc l (v :: u :: st) σ := by
  subst hp
  intro d hd E p la e s m args below meth c H locs ls hC hH hL
  exact lv_dup2_11 hC.1 hC.2.1 h ((cvv_cat _ v).trans hv) ((cvv_cat _ u).trans hu) (k d hd E p la e s m args below meth c H locs ls hC hH hL)

theorem Vj_goto {sh : Shp} {kd : Nat} {M : MI} {Post : Option Value → Mem → Prop} {pc q : Nat} {l : List (Option Value)} {st : List Value} {σ : Mem} {off : Int} (h : decode M.2.1 pc = .ok (.goto off, 3)) (ht : (pc : Int) + off = (q : Int)) (k : Vj sh kd M Post q l st σ) : Vj sh kd M Post pc l st σ := by
  intro d hd E p la e s m args below meth c H locs ls hC hH hL
  exact lv_goto hC.1 hC.2.1 h ht (k d hd E p la e s m args below meth c H locs ls hC hH hL)
theorem Vj_if_eq {sh : Shp} {kd : Nat} {M : MI} {Post : Option Value → Mem → Prop} {pc q : Nat} {l : List (Option Value)} {st : List Value} {σ : Mem} {x : Int32} {off : Int} {tgt : Nat} (h : decode M.2.1 pc = .ok (.ifCond .eq off, 3)) (ht : (pc : Int) + off = (tgt : Int)) (hp : pc + 3 = q) (kt : x = 0 → Vj sh kd M Post tgt l st σ) (kf : ¬ x = 0 → Vj sh kd M Post q l st σ) : Vj sh kd M Post pc l (.int x :: st) σ := by
  subst hp
  intro d hd E p la e s m args below meth c H locs ls hC hH hL
  exact lv_if_eq hC.1 hC.2.1 h ht (fun z => kt z d hd E p la e s m args below meth c H locs ls hC hH hL) (fun z => kf z d hd E p la e s m args below meth c H locs ls hC hH hL)
theorem Vj_if_ne {sh : Shp} {kd : Nat} {M : MI} {Post : Option Value → Mem → Prop} {pc q : Nat} {l : List (Option Value)} {st : List Value} {σ : Mem} {x : Int32} {off : Int} {tgt : Nat} (h : decode M.2.1 pc = .ok (.ifCond .ne off, 3)) (ht : (pc : Int) + off = (tgt : Int)) (hp : pc + 3 = q) (kt : ¬ x = 0 → Vj sh kd M Post tgt l st σ) (kf : x = 0 → Vj sh kd M Post q l st σ) : Vj sh kd M Post pc l (.int x :: st) σ := by
  subst hp
  intro d hd E p la e s m args below meth c H locs ls hC hH hL
  exact lv_if_ne hC.1 hC.2.1 h ht (fun z => kt z d hd E p la e s m args below meth c H locs ls hC hH hL) (fun z => kf z d hd E p la e s m args below meth c H locs ls hC hH hL)
theorem Vj_if_lt {sh : Shp} {kd : Nat} {M : MI} {Post : Option Value → Mem → Prop} {pc q : Nat} {l : List (Option Value)} {st : List Value} {σ : Mem} {x : Int32} {off : Int} {tgt : Nat} (h : decode M.2.1 pc = .ok (.ifCond .lt off, 3)) (ht : (pc : Int) + off = (tgt : Int)) (hp : pc + 3 = q) (kt : x < 0 → Vj sh kd M Post tgt l st σ) (kf : ¬ x < 0 → Vj sh kd M Post q l st σ) : Vj sh kd M Post pc l (.int x :: st) σ := by
  subst hp
  intro d hd E p la e s m args below meth c H locs ls hC hH hL
  exact lv_if_lt hC.1 hC.2.1 h ht (fun z => kt z d hd E p la e s m args below meth c H locs ls hC hH hL) (fun z => kf z d hd E p la e s m args below meth c H locs ls hC hH hL)
theorem Vj_if_ge {sh : Shp} {kd : Nat} {M : MI} {Post : Option Value → Mem → Prop} {pc q : Nat} {l : List (Option Value)} {st : List Value} {σ : Mem} {x : Int32} {off : Int} {tgt : Nat} (h : decode M.2.1 pc = .ok (.ifCond .ge off, 3)) (ht : (pc : Int) + off = (tgt : Int)) (hp : pc + 3 = q) (kt : 0 ≤ x → Vj sh kd M Post tgt l st σ) (kf : ¬ 0 ≤ x → Vj sh kd M Post q l st σ) : Vj sh kd M Post pc l (.int x :: st) σ := by
  subst hp
  intro d hd E p la e s m args below meth c H locs ls hC hH hL
  exact lv_if_ge hC.1 hC.2.1 h ht (fun z => kt z d hd E p la e s m args below meth c H locs ls hC hH hL) (fun z => kf z d hd E p la e s m args below meth c H locs ls hC hH hL)
theorem Vj_if_gt {sh : Shp} {kd : Nat} {M : MI} {Post : Option Value → Mem → Prop} {pc q : Nat} {l : List (Option Value)} {st : List Value} {σ : Mem} {x : Int32} {off : Int} {tgt : Nat} (h : decode M.2.1 pc = .ok (.ifCond .gt off, 3)) (ht : (pc : Int) + off = (tgt : Int)) (hp : pc + 3 = q) (kt : 0 < x → Vj sh kd M Post tgt l st σ) (kf : ¬ 0 < x → Vj sh kd M Post q l st σ) : Vj sh kd M Post pc l (.int x :: st) σ := by
  subst hp
  intro d hd E p la e s m args below meth c H locs ls hC hH hL
  exact lv_if_gt hC.1 hC.2.1 h ht (fun z => kt z d hd E p la e s m args below meth c H locs ls hC hH hL) (fun z => kf z d hd E p la e s m args below meth c H locs ls hC hH hL)
theorem Vj_if_le {sh : Shp} {kd : Nat} {M : MI} {Post : Option Value → Mem → Prop} {pc q : Nat} {l : List (Option Value)} {st : List Value} {σ : Mem} {x : Int32} {off : Int} {tgt : Nat} (h : decode M.2.1 pc = .ok (.ifCond .le off, 3)) (ht : (pc : Int) + off = (tgt : Int)) (hp : pc + 3 = q) (kt : x ≤ 0 → Vj sh kd M Post tgt l st σ) (kf : ¬ x ≤ 0 → Vj sh kd M Post q l st σ) : Vj sh kd M Post pc l (.int x :: st) σ := by
  subst hp
  intro d hd E p la e s m args below meth c H locs ls hC hH hL
  exact lv_if_le hC.1 hC.2.1 h ht (fun z => kt z d hd E p la e s m args below meth c H locs ls hC hH hL) (fun z => kf z d hd E p la e s m args below meth c H locs ls hC hH hL)
theorem Vj_icmp_eq {sh : Shp} {kd : Nat} {M : MI} {Post : Option Value → Mem → Prop} {pc q : Nat} {l : List (Option Value)} {st : List Value} {σ : Mem} {x y : Int32} {off : Int} {tgt : Nat} (h : decode M.2.1 pc = .ok (.if_icmp .eq off, 3)) (ht : (pc : Int) + off = (tgt : Int)) (hp : pc + 3 = q) (kt : x = y → Vj sh kd M Post tgt l st σ) (kf : ¬ x = y → Vj sh kd M Post q l st σ) : Vj sh kd M Post pc l (.int y :: .int x :: st) σ := by
  subst hp
  intro d hd E p la e s m args below meth c H locs ls hC hH hL
  exact lv_icmp_eq hC.1 hC.2.1 h ht (fun z => kt z d hd E p la e s m args below meth c H locs ls hC hH hL) (fun z => kf z d hd E p la e s m args below meth c H locs ls hC hH hL)
theorem Vj_icmp_ne {sh : Shp} {kd : Nat} {M : MI} {Post : Option Value → Mem → Prop} {pc q : Nat} {l : List (Option Value)} {st : List Value} {σ : Mem} {x y : Int32} {off : Int} {tgt : Nat} (h : decode M.2.1 pc = .ok (.if_icmp .ne off, 3)) (ht : (pc : Int) + off = (tgt : Int)) (hp : pc + 3 = q) (kt : ¬ x = y → Vj sh kd M Post tgt l st σ) (kf : x = y → Vj sh kd M Post q l st σ) : Vj sh kd M Post pc l (.int y :: .int x :: st) σ := by
  subst hp
  intro d hd E p la e s m args below meth c H locs ls hC hH hL
  exact lv_icmp_ne hC.1 hC.2.1 h ht (fun z => kt z d hd E p la e s m args below meth c H locs ls hC hH hL) (fun z => kf z d hd E p la e s m args below meth c H locs ls hC hH hL)
theorem Vj_icmp_lt {sh : Shp} {kd : Nat} {M : MI} {Post : Option Value → Mem → Prop} {pc q : Nat} {l : List (Option Value)} {st : List Value} {σ : Mem} {x y : Int32} {off : Int} {tgt : Nat} (h : decode M.2.1 pc = .ok (.if_icmp .lt off, 3)) (ht : (pc : Int) + off = (tgt : Int)) (hp : pc + 3 = q) (kt : x < y → Vj sh kd M Post tgt l st σ) (kf : ¬ x < y → Vj sh kd M Post q l st σ) : Vj sh kd M Post pc l (.int y :: .int x :: st) σ := by
  subst hp
  intro d hd E p la e s m args below meth c H locs ls hC hH hL
  exact lv_icmp_lt hC.1 hC.2.1 h ht (fun z => kt z d hd E p la e s m args below meth c H locs ls hC hH hL) (fun z => kf z d hd E p la e s m args below meth c H locs ls hC hH hL)
theorem Vj_icmp_ge {sh : Shp} {kd : Nat} {M : MI} {Post : Option Value → Mem → Prop} {pc q : Nat} {l : List (Option Value)} {st : List Value} {σ : Mem} {x y : Int32} {off : Int} {tgt : Nat} (h : decode M.2.1 pc = .ok (.if_icmp .ge off, 3)) (ht : (pc : Int) + off = (tgt : Int)) (hp : pc + 3 = q) (kt : y ≤ x → Vj sh kd M Post tgt l st σ) (kf : ¬ y ≤ x → Vj sh kd M Post q l st σ) : Vj sh kd M Post pc l (.int y :: .int x :: st) σ := by
  subst hp
  intro d hd E p la e s m args below meth c H locs ls hC hH hL
  exact lv_icmp_ge hC.1 hC.2.1 h ht (fun z => kt z d hd E p la e s m args below meth c H locs ls hC hH hL) (fun z => kf z d hd E p la e s m args below meth c H locs ls hC hH hL)
theorem Vj_icmp_gt {sh : Shp} {kd : Nat} {M : MI} {Post : Option Value → Mem → Prop} {pc q : Nat} {l : List (Option Value)} {st : List Value} {σ : Mem} {x y : Int32} {off : Int} {tgt : Nat} (h : decode M.2.1 pc = .ok (.if_icmp .gt off, 3)) (ht : (pc : Int) + off = (tgt : Int)) (hp : pc + 3 = q) (kt : y < x → Vj sh kd M Post tgt l st σ) (kf : ¬ y < x → Vj sh kd M Post q l st σ) : Vj sh kd M Post pc l (.int y :: .int x :: st) σ := by
  subst hp
  intro d hd E p la e s m args below meth c H locs ls hC hH hL
  exact lv_icmp_gt hC.1 hC.2.1 h ht (fun z => kt z d hd E p la e s m args below meth c H locs ls hC hH hL) (fun z => kf z d hd E p la e s m args below meth c H locs ls hC hH hL)
theorem Vj_icmp_le {sh : Shp} {kd : Nat} {M : MI} {Post : Option Value → Mem → Prop} {pc q : Nat} {l : List (Option Value)} {st : List Value} {σ : Mem} {x y : Int32} {off : Int} {tgt : Nat} (h : decode M.2.1 pc = .ok (.if_icmp .le off, 3)) (ht : (pc : Int) + off = (tgt : Int)) (hp : pc + 3 = q) (kt : x ≤ y → Vj sh kd M Post tgt l st σ) (kf : ¬ x ≤ y → Vj sh kd M Post q l st σ) : Vj sh kd M Post pc l (.int y :: .int x :: st) σ := by
  subst hp
  intro d hd E p la e s m args below meth c H locs ls hC hH hL
  exact lv_icmp_le hC.1 hC.2.1 h ht (fun z => kt z d hd E p la e s m args below meth c H locs ls hC hH hL) (fun z => kf z d hd E p la e s m args below meth c H locs ls hC hH hL)
theorem Vj_ifnull {sh : Shp} {kd : Nat} {M : MI} {Post : Option Value → Mem → Prop} {pc q : Nat} {l : List (Option Value)} {st : List Value} {σ : Mem} {x : Nat} {off : Int} (h : decode M.2.1 pc = .ok (.ifnull off, 3)) (hp : pc + 3 = q) (k : Vj sh kd M Post q l st σ) : Vj sh kd M Post pc l (.ref x :: st) σ := by
  subst hp
  intro d hd E p la e s m args below meth c H locs ls hC hH hL
  exact lv_ifnull hC.1 hC.2.1 h (k d hd E p la e s m args below meth c H locs ls hC hH hL)
theorem Vj_lookup {sh : Shp} {kd : Nat} {M : MI} {Post : Option Value → Mem → Prop} {pc q : Nat} {l : List (Option Value)} {st : List Value} {σ : Mem} {dflt : Int} {ps : Array (Int × Int)} {len : Nat} {x : Int32} {off : Int} (h : decode M.2.1 pc = .ok (.lookupswitch dflt ps, len)) (hs : (ps.toList.zip (ps.toList.drop 1)).all (fun (a, next) => a.1 < next.1) = true) (ho : Op.lookupswitch.offset ps.toList dflt x.toInt = off) (ht : (pc : Int) + off = (q : Int)) (k : Vj sh kd M Post q l st σ) : Vj sh kd M Post pc l (.int x :: st) σ := by
  intro d hd E p la e s m args below meth c H locs ls hC hH hL
  exact lv_lookup hC.1 hC.2.1 h hs ho ht (k d hd E p la e s m args below meth c H locs ls hC hH hL)
theorem Vj_tableOut {sh : Shp} {kd : Nat} {M : MI} {Post : Option Value → Mem → Prop} {pc q : Nat} {l : List (Option Value)} {st : List Value} {σ : Mem} {dflt lo hi : Int} {offs : Array Int} {len : Nat} {x : Int32} (h : decode M.2.1 pc = .ok (.tableswitch dflt lo hi offs, len)) (hx : x.toInt < lo ∨ hi < x.toInt) (ht : (pc : Int) + dflt = (q : Int)) (k : Vj sh kd M Post q l st σ) : Vj sh kd M Post pc l (.int x :: st) σ := by
  intro d hd E p la e s m args below meth c H locs ls hC hH hL
  exact lv_tableOut hC.1 hC.2.1 h hx ht (k d hd E p la e s m args below meth c H locs ls hC hH hL)
theorem Vj_tableIn {sh : Shp} {kd : Nat} {M : MI} {Post : Option Value → Mem → Prop} {pc q : Nat} {l : List (Option Value)} {st : List Value} {σ : Mem} {dflt lo hi : Int} {offs : Array Int} {len : Nat} {x : Int32} {off : Int} (h : decode M.2.1 pc = .ok (.tableswitch dflt lo hi offs, len)) (h1 : ¬ x.toInt < lo) (h2 : ¬ hi < x.toInt) (ho : offs[(x.toInt - lo).toNat]? = some off) (ht : (pc : Int) + off = (q : Int)) (k : Vj sh kd M Post q l st σ) : Vj sh kd M Post pc l (.int x :: st) σ := by
  intro d hd E p la e s m args below meth c H locs ls hC hH hL
  exact lv_tableIn hC.1 hC.2.1 h h1 h2 ho ht (k d hd E p la e s m args below meth c H locs ls hC hH hL)
/-! arrays -/
theorem Hx.setI {sh : Shp} {E : Qe} {σ : Mem} {s : State} {H1 : Heap} {locs1 : List Loc} {q n : Nat} {kd : Nat} {j : Nat} {x : Int32} (hq : sh[q]? = some (.inl (kd, n)))
    (hP : va_P (E.2.2.1, E.2.2.2.1) vwCl ((wd sh E σ).set q (E.1 q, .inl (if kd = 0 then E.2.2.2.2.1 else E.2.2.2.2.2, n, .inl (upd (σ.1 q) j x)))) H1) (hD : va_D E.2.1 (wd sh E σ)) (hS : va_S E.2.1 s.heap H1 locs1) : Hx sh E (uI σ q j x) s H1 locs1 := by
  rw [wd_setA hq] at hP
  exact ⟨hP, wd_D hD, hS⟩
theorem Vj_iald {sh : Shp} {kd : Nat} {M : MI} {Post : Option Value → Mem → Prop} {pc q : Nat} {l : List (Option Value)} {st : List Value} {σ : Mem} {a n : Nat} {i : Int32} (hq : sh[a]? = some (.inl (0, n))) (hin : vp_in i n) (h : decode M.2.1 pc = .ok (.iaload, 1)) (hp : pc + 1 = q) (k : Vj sh kd M Post q l (.int (σ.1 a i.toNatClampNeg) :: st) σ) : Vj sh kd M Post pc l (.int i :: .ref a :: st) σ := by
  subst hp
  intro d hd E p la e s m args below meth c H locs ls hC hH hL
  exact va_iald hC.1 hC.2.1 hC.2.2.2.2.2.2.2.1 hH.1 a 0 (wd_get hq) rfl hin h (k d hd E p la e s m args below meth c H locs ls hC hH hL)
theorem Vj_zald {sh : Shp} {kd : Nat} {M : MI} {Post : Option Value → Mem → Prop} {pc q : Nat} {l : List (Option Value)} {st : List Value} {σ : Mem} {a n : Nat} {i : Int32} (hq : sh[a]? = some (.inl (1, n))) (hin : vp_in i n) (h : decode M.2.1 pc = .ok (.baload, 1)) (hp : pc + 1 = q) (k : Vj sh kd M Post q l (.int (σ.1 a i.toNatClampNeg) :: st) σ) : Vj sh kd M Post pc l (.int i :: .ref a :: st) σ := by
  subst hp
  intro d hd E p la e s m args below meth c H locs ls hC hH hL
  exact va_zald hC.1 hC.2.1 hC.2.2.2.2.2.2.2.1 hH.1 a 1 (wd_get hq) rfl hin h (k d hd E p la e s m args below meth c H locs ls hC hH hL)
theorem Vj_iast {sh : Shp} {kd : Nat} {M : MI} {Post : Option Value → Mem → Prop} {pc q : Nat} {l : List (Option Value)} {st : List Value} {σ : Mem} {a n : Nat} {i x : Int32} (hq : sh[a]? = some (.inl (0, n))) (hin : vp_in i n) (h : decode M.2.1 pc = .ok (.iastore, 1)) (hp : pc + 1 = q) (k : Vj sh kd M Post q l st (uI σ a i.toNatClampNeg x)) : Vj sh kd M Post pc l (.int x :: .int i :: .ref a :: st) σ := by
  subst hp
  intro d hd E p la e s m args below meth c H locs ls hC hH hL
  exact va_iast hC.1 hC.2.1 hC.2.2.2.2.2.2.2.1 hH.1 hH.2.1 hH.2.2 a 0 (wd_get hq) rfl hin h (fun H1 locs1 hP1 hD1 hS1 => k d hd E p la e s m args below meth c H1 locs1 ls hC (Hx.setI hq hP1 hH.2.1 hS1) hL)
theorem Vj_zast {sh : Shp} {kd : Nat} {M : MI} {Post : Option Value → Mem → Prop} {pc q : Nat} {l : List (Option Value)} {st : List Value} {σ : Mem} {a n : Nat} {i x : Int32} (hq : sh[a]? = some (.inl (1, n))) (hin : vp_in i n) (h : decode M.2.1 pc = .ok (.bastore, 1)) (hp : pc + 1 = q) (k : Vj sh kd M Post q l st (uI σ a i.toNatClampNeg (vp_nar .boolean x))) : Vj sh kd M Post pc l (.int x :: .int i :: .ref a :: st) σ := by
  subst hp
  intro d hd E p la e s m args below meth c H locs ls hC hH hL
  exact va_zast hC.1 hC.2.1 hC.2.2.2.2.2.2.2.1 hH.1 hH.2.1 hH.2.2 a 1 (wd_get hq) rfl hin h (fun H1 locs1 hP1 hD1 hS1 => k d hd E p la e s m args below meth c H1 locs1 ls hC (Hx.setI hq hP1 hH.2.1 hS1) hL)
theorem Vj_alen {sh : Shp} {kd : Nat} {M : MI} {Post : Option Value → Mem → Prop} {pc q : Nat} {l : List (Option Value)} {st : List Value} {σ : Mem} {a n : Nat} {v : Int32} (hq : sh[a]? = some (.inl (0, n))) (hv : Int32.ofNat n = v) (h : decode M.2.1 pc = .ok (.arraylength, 1)) (hp : pc + 1 = q) (k : Vj sh kd M Post q l (.int v :: st) σ) : Vj sh kd M Post pc l (.ref a :: st) σ := by
  subst hp
  intro d hd E p la e s m args below meth c H locs ls hC hH hL
  exact va_alen hC.1 hC.2.1 hC.2.2.2.2.2.2.2.1 hH.1 a 0 (wd_get hq) rfl hv h (k d hd E p la e s m args below meth c H locs ls hC hH hL)
theorem Vj_aldTENS {sh : Shp} {kd : Nat} {M : MI} {Post : Option Value → Mem → Prop} {pc q : Nat} {l : List (Option Value)} {st : List Value} {σ : Mem} {i : Int32} (hin : vp_in i 7) (h : decode M.2.1 pc = .ok (.iaload, 1)) (hp : pc + 1 = q) (k : Vj sh kd M Post q l (.int (tTENS i.toNatClampNeg) :: st) σ) : Vj sh kd M Post pc l (.int i :: .ref 1000 :: st) σ := by
  subst hp
  intro d hd E p la e s m args below meth c H locs ls hC hH hL
  exact va_ti hC.1 hC.2.1 hC.2.2.2.2.2.2.2.2.2.1.2 hH.2.2 hin rfl h (k d hd E p la e s m args below meth c H locs ls hC hH hL)
theorem Vj_alenTENS {sh : Shp} {kd : Nat} {M : MI} {Post : Option Value → Mem → Prop} {pc q : Nat} {l : List (Option Value)} {st : List Value} {σ : Mem} (h : decode M.2.1 pc = .ok (.arraylength, 1)) (hp : pc + 1 = q) (k : Vj sh kd M Post q l (.int 7 :: st) σ) : Vj sh kd M Post pc l (.ref 1000 :: st) σ := by
  subst hp
  intro d hd E p la e s m args below meth c H locs ls hC hH hL
  exact va_tlen hC.1 hC.2.1 hC.2.2.2.2.2.2.2.2.2.1.2 hH.2.2 (by decide) h (k d hd E p la e s m args below meth c H locs ls hC hH hL)
theorem Vj_getsTENS {sh : Shp} {kd : Nat} {M : MI} {Post : Option Value → Mem → Prop} {pc q : Nat} {l : List (Option Value)} {st : List Value} {σ : Mem} {ix : Nat} (hw : Cond.fieldLink M.1.cls ix "FiveRemotes" "TENS" "[I" ∈ lw_big) (h : decode M.2.1 pc = .ok (.getstatic ix, 3)) (hp : pc + 3 = q) (k : Vj sh kd M Post q l (.ref 1000 :: st) σ) : Vj sh kd M Post pc l st σ := by
  subst hp
  intro d hd E p la e s m args below meth c H locs ls hC hH hL
  exact va_gets hC.1 hC.2.1 hC.2.2.2.2.2.2.2.2.2.1.1 hH.2.2 hC.2.2.2.2.2.1 (hC.2.2.2.2.2.2.1 _ (List.mem_cons_of_mem _ hw)) (fun _ h => h) h (k d hd E p la e s m args below meth c H locs ls hC hH hL)
theorem Vj_aldORDERS {sh : Shp} {kd : Nat} {M : MI} {Post : Option Value → Mem → Prop} {pc q : Nat} {l : List (Option Value)} {st : List Value} {σ : Mem} {i : Int32} (hin : vp_in i 7) (h : decode M.2.1 pc = .ok (.iaload, 1)) (hp : pc + 1 = q) (k : Vj sh kd M Post q l (.int (tORD i.toNatClampNeg) :: st) σ) : Vj sh kd M Post pc l (.int i :: .ref 1001 :: st) σ := by
  subst hp
  intro d hd E p la e s m args below meth c H locs ls hC hH hL
  exact va_ti hC.1 hC.2.1 hC.2.2.2.2.2.2.2.2.2.2.2 hH.2.2 hin rfl h (k d hd E p la e s m args below meth c H locs ls hC hH hL)
theorem Vj_alenORDERS {sh : Shp} {kd : Nat} {M : MI} {Post : Option Value → Mem → Prop} {pc q : Nat} {l : List (Option Value)} {st : List Value} {σ : Mem} (h : decode M.2.1 pc = .ok (.arraylength, 1)) (hp : pc + 1 = q) (k : Vj sh kd M Post q l (.int 7 :: st) σ) : Vj sh kd M Post pc l (.ref 1001 :: st) σ := by
  subst hp
  intro d hd E p la e s m args below meth c H locs ls hC hH hL
  exact va_tlen hC.1 hC.2.1 hC.2.2.2.2.2.2.2.2.2.2.2 hH.2.2 (by decide) h (k d hd E p la e s m args below meth c H locs ls hC hH hL)
theorem Vj_getsORDERS {sh : Shp} {kd : Nat} {M : MI} {Post : Option Value → Mem → Prop} {pc q : Nat} {l : List (Option Value)} {st : List Value} {σ : Mem} {ix : Nat} (hw : Cond.fieldLink M.1.cls ix "FiveRemotes" "ORDERS" "[I" ∈ lw_big) (h : decode M.2.1 pc = .ok (.getstatic ix, 3)) (hp : pc + 3 = q) (k : Vj sh kd M Post q l (.ref 1001 :: st) σ) : Vj sh kd M Post pc l st σ := by
  subst hp
  intro d hd E p la e s m args below meth c H locs ls hC hH hL
  exact va_gets hC.1 hC.2.1 hC.2.2.2.2.2.2.2.2.2.2.1 hH.2.2 hC.2.2.2.2.2.1 (hC.2.2.2.2.2.2.1 _ (List.mem_cons_of_mem _ hw)) (fun _ h => h) h (k d hd E p la e s m args below meth c H locs ls hC hH hL)
/-! fields -/
def FLk (own : String) (ix ci k : Nat) (fin : Bool) (ty : FieldType) : Prop := ∃ (C : String) (T : u_T) (N : Nat) (ty0 : Nat → FieldType), vwCl[ci]? = some (C, T, N) ∧ k < N ∧ (∀ w ∈ u_ws C T N, w ∈ lw_big) ∧ (∀ k, k < N → parseFieldDescriptor (T k).2.2.1 = some (ty0 k)) ∧ (∀ a, a < N → ∀ b, b < N → a ≠ b → (T a).2.1 ≠ (T b).2.1) ∧ (T k).2.2.2 = fin ∧ parseFieldDescriptor (T k).2.2.1 = some ty ∧
  (Cond.fieldLink own ix (T k).1 (T k).2.1 (T k).2.2.1 ∈ lw_big ∨ ∃ host : String, Cond.fieldLinkNest own ix (T k).1 (T k).2.1 (T k).2.2.1 host ∈ lw_nest)
theorem ts_u {E : Qe} {M : MI} {p : Program} {s : State} {m : MethodId} {args : Array Value} {meth : Method} {c : Code} (hC : Cx E M p s m args meth c) {w : Cond} (hw : w ∈ lw_big) : w.before args s = true := hC.2.2.2.2.2.2.1 _ (List.mem_cons_of_mem _ hw)
theorem ts_n {E : Qe} {M : MI} {p : Program} {s : State} {m : MethodId} {args : Array Value} {meth : Method} {c : Code} (hC : Cx E M p s m args meth c) {w : Cond} (ho : w.onTables = true) (hw : w ∈ lw_nest) : w.before args s = true := va_Nw.use ho (hC.2.2.2.2.2.2.2.2.1 _ hw)
theorem Vj_getI {sh : Shp} {kd : Nat} {M : MI} {Post : Option Value → Mem → Prop} {pc q : Nat} {l : List (Option Value)} {st : List Value} {σ : Mem} {a ix ci j z : Nat} {fs : List (Nat × Nat)} {fin : Bool} {ty : FieldType} (hf : FLk M.1.cls ix ci j fin ty) (hq : sh[a]? = some (.inr (ci, fs))) (hj : fs[j]? = some (0, z)) (h : decode M.2.1 pc = .ok (.getfield ix, 3)) (hp : pc + 3 = q) (k : Vj sh kd M Post q l (.int (σ.1 a j) :: st) σ) : Vj sh kd M Post pc l (.ref a :: st) σ := by
  subst hp
  intro d hd E p la e s m args below meth c H locs ls hC hH hL
  obtain ⟨C, T, N, ty0, h1, h2, h3, h4, h5, h6, h7, h8⟩ := hf
  have hv : (fs.mapIdx (fun k f => cvF E.1 σ a k f))[j]? = some (cvv E.1 (.int (σ.1 a j))) := by rw [List.getElem?_mapIdx, hj]; rfl
  rcases h8 with h8 | ⟨host, h8⟩
  · exact va_get hC.1 hC.2.1 (Ts := lw_big) (fun w hw => ts_u hC hw) h3 hC.2.2.2.2.2.1 hC.2.2.2.2.2.2.2.1 hH.1 a (wd_get hq) h1 j h2 (ts_u hC h8) (fun _ h => h) hv h (k d hd E p la e s m args below meth c H locs ls hC hH hL)
  · exact va_getN hC.1 hC.2.1 (Ts := lw_big) (fun w hw => ts_u hC hw) h3 hC.2.2.2.2.2.1 hC.2.2.2.2.2.2.2.1 hH.1 a (wd_get hq) h1 j h2 (ts_n hC rfl h8) (fun _ h => h) hv h (k d hd E p la e s m args below meth c H locs ls hC hH hL)
theorem Vj_getL {sh : Shp} {kd : Nat} {M : MI} {Post : Option Value → Mem → Prop} {pc q : Nat} {l : List (Option Value)} {st : List Value} {σ : Mem} {a ix ci j z : Nat} {fs : List (Nat × Nat)} {fin : Bool} {ty : FieldType} (hf : FLk M.1.cls ix ci j fin ty) (hq : sh[a]? = some (.inr (ci, fs))) (hj : fs[j]? = some (1, z)) (h : decode M.2.1 pc = .ok (.getfield ix, 3)) (hp : pc + 3 = q) (k : Vj sh kd M Post q l (.long (σ.2 a j) :: st) σ) : Vj sh kd M Post pc l (.ref a :: st) σ := by
  subst hp
  intro d hd E p la e s m args below meth c H locs ls hC hH hL
  obtain ⟨C, T, N, ty0, h1, h2, h3, h4, h5, h6, h7, h8⟩ := hf
  have hv : (fs.mapIdx (fun k f => cvF E.1 σ a k f))[j]? = some (cvv E.1 (.long (σ.2 a j))) := by rw [List.getElem?_mapIdx, hj]; rfl
  rcases h8 with h8 | ⟨host, h8⟩
  · exact va_get hC.1 hC.2.1 (Ts := lw_big) (fun w hw => ts_u hC hw) h3 hC.2.2.2.2.2.1 hC.2.2.2.2.2.2.2.1 hH.1 a (wd_get hq) h1 j h2 (ts_u hC h8) (fun _ h => h) hv h (k d hd E p la e s m args below meth c H locs ls hC hH hL)
  · exact va_getN hC.1 hC.2.1 (Ts := lw_big) (fun w hw => ts_u hC hw) h3 hC.2.2.2.2.2.1 hC.2.2.2.2.2.2.2.1 hH.1 a (wd_get hq) h1 j h2 (ts_n hC rfl h8) (fun _ h => h) hv h (k d hd E p la e s m args below meth c H locs ls hC hH hL)
theorem Vj_getR {sh : Shp} {kd : Nat} {M : MI} {Post : Option Value → Mem → Prop} {pc q : Nat} {l : List (Option Value)} {st : List Value} {σ : Mem} {a ix ci j z : Nat} {fs : List (Nat × Nat)} {fin : Bool} {ty : FieldType} (hf : FLk M.1.cls ix ci j fin ty) (hq : sh[a]? = some (.inr (ci, fs))) (hj : fs[j]? = some (2, z)) (h : decode M.2.1 pc = .ok (.getfield ix, 3)) (hp : pc + 3 = q) (k : Vj sh kd M Post q l (.ref (z) :: st) σ) : Vj sh kd M Post pc l (.ref a :: st) σ := by
  subst hp
  intro d hd E p la e s m args below meth c H locs ls hC hH hL
  obtain ⟨C, T, N, ty0, h1, h2, h3, h4, h5, h6, h7, h8⟩ := hf
  have hv : (fs.mapIdx (fun k f => cvF E.1 σ a k f))[j]? = some (cvv E.1 (.ref (z))) := by rw [List.getElem?_mapIdx, hj]; rfl
  rcases h8 with h8 | ⟨host, h8⟩
  · exact va_get hC.1 hC.2.1 (Ts := lw_big) (fun w hw => ts_u hC hw) h3 hC.2.2.2.2.2.1 hC.2.2.2.2.2.2.2.1 hH.1 a (wd_get hq) h1 j h2 (ts_u hC h8) (fun _ h => h) hv h (k d hd E p la e s m args below meth c H locs ls hC hH hL)
  · exact va_getN hC.1 hC.2.1 (Ts := lw_big) (fun w hw => ts_u hC hw) h3 hC.2.2.2.2.2.1 hC.2.2.2.2.2.2.2.1 hH.1 a (wd_get hq) h1 j h2 (ts_n hC rfl h8) (fun _ h => h) hv h (k d hd E p la e s m args below meth c H locs ls hC hH hL)
theorem Vj_putI {sh : Shp} {kd : Nat} {M : MI} {Post : Option Value → Mem → Prop} {pc q : Nat} {l : List (Option Value)} {st : List Value} {σ : Mem} {a ix ci j z : Nat} {x : Int32} {fs : List (Nat × Nat)} (hf : FLk M.1.cls ix ci j false .int) (hq : sh[a]? = some (.inr (ci, fs))) (hj : fs[j]? = some (0, z)) (h : decode M.2.1 pc = .ok (.putfield ix, 3)) (hp : pc + 3 = q) (k : Vj sh kd M Post q l st (uI σ a j x)) : Vj sh kd M Post pc l (.int x :: .ref a :: st) σ := by
  subst hp
  intro d hd E p la e s m args below meth c H locs ls hC hH hL
  obtain ⟨C, T, N, ty0, h1, h2, h3, h4, h5, h6, h7, h8⟩ := hf
  have hl : j < (fs.mapIdx (fun k f => cvF E.1 σ a k f)).length := by rw [List.length_mapIdx]; exact (List.getElem?_eq_some_iff.mp hj).1
  rcases h8 with h8 | ⟨host, h8⟩
  · exact va_put hC.1 hC.2.1 (Ts := lw_big) (fun w hw => ts_u hC hw) h3 ty0 h4 h5 hC.2.2.2.2.2.1 hC.2.2.2.2.2.2.2.1 hH.1 hH.2.1 hH.2.2 a (wd_get hq) h1 j h2 (ts_u hC h8) (fun _ h => h) h6 h7 rfl rfl hl h (fun H1 locs1 hP1 hD1 hS1 => k d hd E p la e s m args below meth c H1 locs1 ls hC ⟨by rw [← wd_setF hq hj]; exact hP1, wd_D hH.2.1, hS1⟩ hL)
  · exact va_putN hC.1 hC.2.1 (Ts := lw_big) (fun w hw => ts_u hC hw) h3 ty0 h4 h5 hC.2.2.2.2.2.1 hC.2.2.2.2.2.2.2.1 hH.1 hH.2.1 hH.2.2 a (wd_get hq) h1 j h2 (ts_n hC rfl h8) (fun _ h => h) h6 h7 rfl rfl hl h (fun H1 locs1 hP1 hD1 hS1 => k d hd E p la e s m args below meth c H1 locs1 ls hC ⟨by rw [← wd_setF hq hj]; exact hP1, wd_D hH.2.1, hS1⟩ hL)
theorem Vj_putL {sh : Shp} {kd : Nat} {M : MI} {Post : Option Value → Mem → Prop} {pc q : Nat} {l : List (Option Value)} {st : List Value} {σ : Mem} {a ix ci j z : Nat} {x : Int64} {fs : List (Nat × Nat)} (hf : FLk M.1.cls ix ci j false .long) (hq : sh[a]? = some (.inr (ci, fs))) (hj : fs[j]? = some (1, z)) (h : decode M.2.1 pc = .ok (.putfield ix, 3)) (hp : pc + 3 = q) (k : Vj sh kd M Post q l st (uL σ a j x)) : Vj sh kd M Post pc l (.long x :: .ref a :: st) σ := by
  subst hp
  intro d hd E p la e s m args below meth c H locs ls hC hH hL
  obtain ⟨C, T, N, ty0, h1, h2, h3, h4, h5, h6, h7, h8⟩ := hf
  have hl : j < (fs.mapIdx (fun k f => cvF E.1 σ a k f)).length := by rw [List.length_mapIdx]; exact (List.getElem?_eq_some_iff.mp hj).1
  rcases h8 with h8 | ⟨host, h8⟩
  · exact va_put hC.1 hC.2.1 (Ts := lw_big) (fun w hw => ts_u hC hw) h3 ty0 h4 h5 hC.2.2.2.2.2.1 hC.2.2.2.2.2.2.2.1 hH.1 hH.2.1 hH.2.2 a (wd_get hq) h1 j h2 (ts_u hC h8) (fun _ h => h) h6 h7 rfl rfl hl h (fun H1 locs1 hP1 hD1 hS1 => k d hd E p la e s m args below meth c H1 locs1 ls hC ⟨by rw [← wd_setG hq hj]; exact hP1, wd_D hH.2.1, hS1⟩ hL)
  · exact va_putN hC.1 hC.2.1 (Ts := lw_big) (fun w hw => ts_u hC hw) h3 ty0 h4 h5 hC.2.2.2.2.2.1 hC.2.2.2.2.2.2.2.1 hH.1 hH.2.1 hH.2.2 a (wd_get hq) h1 j h2 (ts_n hC rfl h8) (fun _ h => h) h6 h7 rfl rfl hl h (fun H1 locs1 hP1 hD1 hS1 => k d hd E p la e s m args below meth c H1 locs1 ls hC ⟨by rw [← wd_setG hq hj]; exact hP1, wd_D hH.2.1, hS1⟩ hL)
/-! calls -/
def MOk (M : MI) (n : Nat) : Prop := Cond.code M.1 M.2.1 M.2.2.1 M.2.2.2 ∈ lw_big ∧ Cond.initialized M.1.cls ∈ lw_big ∧ (M.1.cls ≠ "java/lang/invoke/MethodHandle" ∧ M.1.cls ≠ "java/lang/invoke/VarHandle" ∧ (parseMethodDescriptor M.1.desc).map (fun d => d.parameters.length) = some n) ∧ M.2.2.1 ≤ 17
def MVi (M : MI) : Prop := Cond.instanceMethod M.1 ∈ lw_big ∧ Cond.selects M.1.cls M.1 M.1 ∈ lw_big
def LKm (own : String) (ix : Nat) (M : MI) : Prop := Cond.methodLink own ix M.1 ∈ lw_big ∨ ∃ host : String, Cond.methodLinkNest own ix M.1 host ∈ lw_nest
theorem good_in {M M' : MI} {n : Nat} (h : MOk M' n) : GoodIn (mWs M) (mWs M') := by
  intro w hw
  rcases List.mem_cons.mp hw with rfl | hw
  · exact ⟨List.mem_cons_of_mem _ h.1, big_good _ h.1⟩
  · exact ⟨List.mem_cons_of_mem _ hw, big_good _ hw⟩
theorem Px_blind {sh : Shp} {E : Qe} {σ : Mem} {av : List Value} : FrameBlind (va_Pc av (Px sh E σ)) := fun a U g mk h =>
  ⟨h.1, h.2.1, h.2.2.1, Sx.go (s := U) (U := U.calling g mk a) (Vm.Alike.refl U.vm) (nest_same (s := U) (U := U.calling g mk a) rfl h.2.2.2.2.1) (fun _ _ _ => rfl) h.2.2.2⟩
theorem Px_now {sh : Shp} {E : Qe} {σ : Mem} {s U : State} {H : Heap} {locs : List Loc} (hH : Hx sh E σ s H locs) (hS : Sx E s s.heap) (hU : U.heap = H) (hW : s.WarmedH U.vm) : Px sh E σ U := by
  refine ⟨by rw [hU]; exact hH.1, hH.2.1, ?_⟩
  rw [hU]
  exact Sx.go hW.alike (nest_go hW hS.2.1) (fun a h1 h2 => hH.2.2.2.1 a h1 h2) hS
theorem cat_sum (ad : Nat → Nat) (st : List Value) : ((st.map (cvv ad)).map fun v => v.category).sum = (st.map fun v => v.category).sum := by
  induction st with
  | nil => rfl
  | cons v st ih => simp only [List.map_cons, List.sum_cons, ih, cvv_cat]
theorem Vj_back {sh : Shp} {kd d : Nat} {M : MI} {Post Mid : Option Value → Mem → Prop} {pc : Nat} {l : List (Option Value)} {rest : List Value} {st0 : List Value} {σ : Mem} {E : Qe} {p : Program} {la : Launch} {e : Jvm.Env} {s : State} {m : MethodId} {args a : Array Value} {below : List Frame} {meth : Method} {c : Code} {H : Heap} {locs : List Loc} {ls : Array Slot} (hd : kd ≤ d)
    (hC : Cx E M p s m args meth c) (hH : Hx sh E σ s H locs) (hL : Lh ls M.2.2.1 E.1 l)
    (hr : va_Run p la e (rmd d) s m args below meth c H locs 0 0 0 0 (F0 m pc ls st0) (rest.map (cvv E.1)) (Qx sh E Mid a) E.2.1)
    (k : ∀ r σ', Mid r σ' → Vj sh kd M Post (pc + 3) l (r.toList ++ rest) σ') : W p la e (rmd d) s m args below meth c H locs 0 0 (MQ below (Qx sh E Post) args s 0 0 E.2.1) (F0 m pc ls st0) := by
  intro T hT X
  obtain ⟨v, st₀, t, T', L, h0, X', hLo, e1, e2, ⟨⟨r, σ', hv, hp, hPt⟩, hz, hk⟩, st⟩ := hr T hT X
  cases hv
  rw [h0] at hz hk
  have hS : va_S E.2.1 s.heap H locs := hH.2.2
  have hS' : va_S E.2.1 s.heap T'.heap (locs ++ L) := ⟨Nat.le_trans hS.1 (by rw [e1]; exact hz), fun q h1 h2 => by rw [e1, hk q (Nat.lt_of_lt_of_le h1 hS.1) h2]; exact hS.2.1 q h1 h2, fun q hq => by
    rcases List.mem_append.mp hq with h | h
    · exact hS.2.2 q h
    · exact hLo q h⟩
  obtain ⟨t2, a1, b1⟩ := k r σ' hp d hd E p la e s m args below meth c T'.heap (locs ++ L) ls hC ⟨by rw [e1]; exact hPt, wd_D hH.2.1, hS'⟩ hL T' rfl X'
  refine ⟨t2, st t2 ?_, b1⟩
  cases r <;> exact a1
theorem Vj_callV {sh : Shp} {kd k' : Nat} {M M' : MI} {Post Mid : Option Value → Mem → Prop} {pc q ix a ci N : Nat} {T : u_T} {fs : List (Nat × Nat)} {l : List (Option Value)} {av rest st0 : List Value} {σ : Mem} (hc : Ct sh k' M' (.ref a :: av) σ Mid) (hk : k' + 1 ≤ kd) (hq : sh[a]? = some (.inr (ci, fs))) (hcl : vwCl[ci]? = some (M'.1.cls, T, N)) (hLk : LKm M.1.cls ix M') (hV : MVi M') (hM : MOk M' av.length)
    (h : decode M.2.1 pc = .ok (.invokevirtual ix, 3)) (hp : pc + 3 = q) (hst : st0 = av.reverse ++ .ref a :: rest) (hcat : (rest.map fun v => v.category).sum ≤ 8) (k : ∀ r σ', Mid r σ' → Vj sh kd M Post q l (r.toList ++ rest) σ') : Vj sh kd M Post pc l st0 σ := by
  subst hp
  subst hst
  intro d hd E p la e s m args below meth c H locs ls hC hH hL
  obtain ⟨d', rfl⟩ : ∃ d', d = d' + 1 := ⟨d - 1, by omega⟩
  have hMet := hc d' (by omega) E la
  have hG := good_in (M := M) hM
  have hpre : PreV s H M'.1.cls (E.1 a) (va_Pc ((Value.ref a :: av).map (cvv E.1)) (Px sh E σ)) (av.map (cvv E.1)) := ⟨Px_blind, va_recv hC.2.2.2.2.2.2.2.1 hH.1 hcl (wd_get hq), fun U hU hW => ⟨rfl, Px_now hH hC.2.2.2.2.2.2.2 hU hW⟩⟩
  have hR : (rmd d').frames + 1 ≤ (rmd (d' + 1)).frames ∧ 8 + (M'.2.2.1 + 11) + (rmd d').locals ≤ (rmd (d' + 1)).locals := ⟨Nat.le_refl _, by have := hM.2.2.2; simp only [rmd]; omega⟩
  have hst : (av.reverse ++ Value.ref a :: rest).map (cvv E.1) = (av.map (cvv E.1)).reverse ++ Value.ref (E.1 a) :: rest.map (cvv E.1) := by simp [cvv]
  have hroom := lv_room (m := m) (pc := pc) (ls := ls) (rest := (av.reverse ++ Value.ref a :: rest).map (cvv E.1)) (st := rest.map (cvv E.1)) (by rw [cat_sum]; exact hcat)
  rcases hLk with hl | ⟨host, hl⟩
  · exact Vj_back hd hC hH hL (va_runV ⟨hC.1, hC.2.1, hC.2.2.1, hC.2.2.2.2.2.1, hC.2.2.2.2.2.2.1⟩ hMet ⟨callB_of av.length hC.2.2.2.2.2.2.1 hG rfl rfl rfl (ts_u hC hM.2.1) (ts_u hC hl) hM.2.2.1 hR, ts_u hC hV.1, ts_u hC hV.2⟩ hpre rfl (by simp) hL.1 hst hroom h ⟨Nat.zero_le _, Nat.zero_le _⟩) k
  · exact Vj_back hd hC hH hL (va_runVN ⟨hC.1, hC.2.1, hC.2.2.1, hC.2.2.2.2.2.1, hC.2.2.2.2.2.2.1⟩ hMet ⟨va_cnB av.length hC.2.2.2.2.2.2.1 hG rfl rfl rfl (hC.2.2.2.2.2.2.2.2.1 _ hl) (ts_u hC hM.2.1) hM.2.2.1 hR, ts_u hC hV.1, ts_u hC hV.2⟩ hpre rfl (by simp) hL.1 hst hroom h ⟨Nat.zero_le _, Nat.zero_le _⟩) k
theorem Vj_callS {sh : Shp} {kd k' : Nat} {M M' : MI} {Post Mid : Option Value → Mem → Prop} {pc q ix : Nat} {l : List (Option Value)} {av rest st0 : List Value} {σ : Mem} (hc : Ct sh k' M' av σ Mid) (hk : k' + 1 ≤ kd) (hLk : LKm M.1.cls ix M') (hV : Cond.static M'.1 ∈ lw_big) (hM : MOk M' av.length)
    (h : decode M.2.1 pc = .ok (.invokestatic ix, 3)) (hp : pc + 3 = q) (hst : st0 = av.reverse ++ rest) (hcat : (rest.map fun v => v.category).sum ≤ 8) (k : ∀ r σ', Mid r σ' → Vj sh kd M Post q l (r.toList ++ rest) σ') : Vj sh kd M Post pc l st0 σ := by
  subst hp
  subst hst
  intro d hd E p la e s m args below meth c H locs ls hC hH hL
  obtain ⟨d', rfl⟩ : ∃ d', d = d' + 1 := ⟨d - 1, by omega⟩
  have hMet := hc d' (by omega) E la
  have hG := good_in (M := M) hM
  have hpre : PreS s H (va_Pc (av.map (cvv E.1)) (Px sh E σ)) (av.map (cvv E.1)) := ⟨Px_blind, fun U hU hW => ⟨rfl, Px_now hH hC.2.2.2.2.2.2.2 hU hW⟩⟩
  have hR : (rmd d').frames + 1 ≤ (rmd (d' + 1)).frames ∧ 8 + (M'.2.2.1 + 11) + (rmd d').locals ≤ (rmd (d' + 1)).locals := ⟨Nat.le_refl _, by have := hM.2.2.2; simp only [rmd]; omega⟩
  have hst : (av.reverse ++ rest).map (cvv E.1) = (av.map (cvv E.1)).reverse ++ rest.map (cvv E.1) := by simp
  have hroom := lv_room (m := m) (pc := pc) (ls := ls) (rest := (av.reverse ++ rest).map (cvv E.1)) (st := rest.map (cvv E.1)) (by rw [cat_sum]; exact hcat)
  rcases hLk with hl | ⟨host, hl⟩
  · exact Vj_back hd hC hH hL (va_runS ⟨hC.1, hC.2.1, hC.2.2.1, hC.2.2.2.2.2.1, hC.2.2.2.2.2.2.1⟩ hMet ⟨callB_of av.length hC.2.2.2.2.2.2.1 hG rfl rfl rfl (ts_u hC hM.2.1) (ts_u hC hl) hM.2.2.1 hR, ts_u hC hV⟩ hpre rfl (by simp) hL.1 hst hroom h ⟨Nat.zero_le _, Nat.zero_le _⟩) k
  · exact Vj_back hd hC hH hL (va_runSN ⟨hC.1, hC.2.1, hC.2.2.1, hC.2.2.2.2.2.1, hC.2.2.2.2.2.2.1⟩ hMet ⟨va_cnB av.length hC.2.2.2.2.2.2.1 hG rfl rfl rfl (hC.2.2.2.2.2.2.2.2.1 _ hl) (ts_u hC hM.2.1) hM.2.2.1 hR, ts_u hC hV, trivial⟩ hpre rfl (by simp) hL.1 hst hroom h ⟨Nat.zero_le _, Nat.zero_le _⟩) k

def LKj (own : String) (ix : Nat) (y : MethodName) (code : Cond) : Prop := Cond.methodLink own ix y ∈ lw_big ∧ Cond.static y ∈ lw_big ∧ code ∈ lw_big
theorem Vj_mmax {sh : Shp} {kd : Nat} {M : MI} {Post : Option Value → Mem → Prop} {pc q : Nat} {l : List (Option Value)} {st : List Value} {σ : Mem} {ix : Nat} {x y : Int32} (hl : LKj M.1.cls ix Lib.Math.max.name (Cond.code Lib.Math.max.name Lib.Math.max.code 2 (some .int))) (hi : Cond.initialized "java/lang/Math" ∈ lw_big) (hk : 1 ≤ kd) (h : decode M.2.1 pc = .ok (.invokestatic ix, 3)) (hp : pc + 3 = q) (hcat : (st.map fun v => v.category).sum ≤ 8) (k : Vj sh kd M Post q l (.int (if x < y then y else x) :: st) σ) : Vj sh kd M Post pc l (.int y :: .int x :: st) σ := by
  subst hp
  intro d hd E p la e s m args below meth c H locs ls hC hH hL
  have h36 : 36 ≤ (rmd d).locals := by simp only [rmd]; omega
  have h1 : 1 ≤ (rmd d).frames := by simp only [rmd]; omega
  have hc8 := cat_sum E.1 st
  exact va_mmax hC.1 hC.2.1 (hC.2.2.1.trans hL.1.symm) hC.2.2.2.2.2.1 (ts_u hC hl.1) (ts_u hC hl.2.1) (ts_u hC hi) (ts_u hC hl.2.2) h1 (by omega) (Nat.zero_le _) (Nat.zero_le _) h (k d hd E p la e s m args below meth c H locs ls hC hH hL)
theorem Vj_mabs {sh : Shp} {kd : Nat} {M : MI} {Post : Option Value → Mem → Prop} {pc q : Nat} {l : List (Option Value)} {st : List Value} {σ : Mem} {ix : Nat} {x : Int32} (hl : LKj M.1.cls ix Lib.Math.abs.name (Cond.code Lib.Math.abs.name Lib.Math.abs.code 1 (some .int))) (hi : Cond.initialized "java/lang/Math" ∈ lw_big) (hk : 1 ≤ kd) (h : decode M.2.1 pc = .ok (.invokestatic ix, 3)) (hp : pc + 3 = q) (hcat : (st.map fun v => v.category).sum ≤ 8) (k : Vj sh kd M Post q l (.int (if 0 ≤ x then x else 0 - x) :: st) σ) : Vj sh kd M Post pc l (.int x :: st) σ := by
  subst hp
  intro d hd E p la e s m args below meth c H locs ls hC hH hL
  have h36 : 36 ≤ (rmd d).locals := by simp only [rmd]; omega
  have h1 : 1 ≤ (rmd d).frames := by simp only [rmd]; omega
  have hc8 := cat_sum E.1 st
  exact va_mabs hC.1 hC.2.1 (hC.2.2.1.trans hL.1.symm) hC.2.2.2.2.2.1 (ts_u hC hl.1) (ts_u hC hl.2.1) (ts_u hC hi) (ts_u hC hl.2.2) h1 (by omega) (Nat.zero_le _) (Nat.zero_le _) h (k d hd E p la e s m args below meth c H locs ls hC hH hL)
/-! ends -/
theorem Vj_iret {sh : Shp} {kd : Nat} {M : MI} {Post : Option Value → Mem → Prop} {pc q : Nat} {l : List (Option Value)} {st : List Value} {σ : Mem} {v : Int32} {ty : FieldType} (hr : M.2.2.2 = some ty) (hn : narrow ty (.int v) = .int v) (h : decode M.2.1 pc = .ok (.ireturn, 1)) (hP : Post (some (.int v)) σ) : Vj sh kd M Post pc l [.int v] σ := by
  intro d hd E p la e s m args below meth c H locs ls hC hH hL
  exact W.zret hC.1 hC.2.1 (hC.2.2.2.1.trans hr) hn (fun t ht hW => ⟨⟨some (.int v), σ, rfl, hP, by rw [ht]; exact hH.1⟩, hH.2.2.F ht⟩) hH.2.2.2.2 h (hlocks := hC.2.2.2.2.1)
theorem Vj_lret {sh : Shp} {kd : Nat} {M : MI} {Post : Option Value → Mem → Prop} {pc q : Nat} {l : List (Option Value)} {st : List Value} {σ : Mem} {v : Int64} (hr : M.2.2.2 = some .long) (h : decode M.2.1 pc = .ok (.lreturn, 1)) (hP : Post (some (.long v)) σ) : Vj sh kd M Post pc l [.long v] σ := by
  intro d hd E p la e s m args below meth c H locs ls hC hH hL
  exact W.lret hC.1 hC.2.1 (hC.2.2.2.1.trans hr) (fun t ht hW => ⟨⟨some (.long v), σ, rfl, hP, by rw [ht]; exact hH.1⟩, hH.2.2.F ht⟩) hH.2.2.2.2 h (hlocks := hC.2.2.2.2.1)
theorem Vj_vret {sh : Shp} {kd : Nat} {M : MI} {Post : Option Value → Mem → Prop} {pc q : Nat} {l : List (Option Value)} {st : List Value} {σ : Mem} (hr : M.2.2.2 = none) (h : decode M.2.1 pc = .ok (.return_, 1)) (hP : Post none σ) : Vj sh kd M Post pc l [] σ := by
  intro d hd E p la e s m args below meth c H locs ls hC hH hL
  exact W.vret hC.1 hC.2.1 (hC.2.2.2.1.trans hr) (fun t ht hW => ⟨⟨none, σ, rfl, hP, by rw [ht]; exact hH.1⟩, hH.2.2.F ht⟩) hH.2.2.2.2 h (hlocks := hC.2.2.2.2.1)
theorem Vs_istore0 {sh : Shp} {kd : Nat} {M : MI} {Post : Option Value → Mem → Prop} {pc q : Nat} {r : List (Option Value)} {st : List Value} {σ : Mem} {z : Option Value} {x : Int32} (h : decode M.2.1 pc = .ok (.istore_n 0, 1)) (hp : pc + 1 = q) (hn : 0 < M.2.2.1) (k : Vj sh kd M Post q (some (.int x) :: r) st σ) : Vj sh kd M Post pc (z :: r) (.int x :: st) σ := Vj_istoren (i := 0) h hp rfl hn rfl k
theorem Vs_astore0 {sh : Shp} {kd : Nat} {M : MI} {Post : Option Value → Mem → Prop} {pc q : Nat} {r : List (Option Value)} {st : List Value} {σ : Mem} {z : Option Value} {x : Nat} (h : decode M.2.1 pc = .ok (.astore_n 0, 1)) (hp : pc + 1 = q) (hn : 0 < M.2.2.1) (k : Vj sh kd M Post q (some (.ref x) :: r) st σ) : Vj sh kd M Post pc (z :: r) (.ref x :: st) σ := Vj_astoren (i := 0) h hp rfl hn rfl k
theorem Vs_iinc0 {sh : Shp} {kd : Nat} {M : MI} {Post : Option Value → Mem → Prop} {pc q : Nat} {r : List (Option Value)} {st : List Value} {σ : Mem} {z : Option Value} {n : Int} {x v : Int32} (h : decode M.2.1 pc = .ok (.iinc 0 n, 3)) (hp : pc + 3 = q) (hv : x + Int32.ofInt n = v) (hn : 0 < M.2.2.1) (k : Vj sh kd M Post q (some (.int v) :: r) st σ) : Vj sh kd M Post pc (some (.int x) :: r) st σ := Vj_iinc (i := 0) h hp rfl hv hn rfl k
theorem Vs_lstore0 {sh : Shp} {kd : Nat} {M : MI} {Post : Option Value → Mem → Prop} {pc q : Nat} {r : List (Option Value)} {st : List Value} {σ : Mem} {z : Option Value} {z2 : Option Value} {x : Int64} (h : decode M.2.1 pc = .ok (.lstore_n 0, 1)) (hp : pc + 1 = q) (hn : 0 + 1 < M.2.2.1) (k : Vj sh kd M Post q (some (.long x) :: none :: r) st σ) : Vj sh kd M Post pc (z :: z2 :: r) (.long x :: st) σ := Vj_lstoren (i := 0) h hp rfl hn rfl k
theorem Vs_istore1 {sh : Shp} {kd : Nat} {M : MI} {Post : Option Value → Mem → Prop} {pc q : Nat} {r : List (Option Value)} {st : List Value} {σ : Mem} {a0 z : Option Value} {x : Int32} (h : decode M.2.1 pc = .ok (.istore_n 1, 1)) (hp : pc + 1 = q) (hn : 1 < M.2.2.1) (hk : okP [a0] 1 = true) (k : Vj sh kd M Post q (a0 :: some (.int x) :: r) st σ) : Vj sh kd M Post pc (a0 :: z :: r) (.int x :: st) σ := Vj_istoren (i := 1) h hp rfl hn hk k
theorem Vs_astore1 {sh : Shp} {kd : Nat} {M : MI} {Post : Option Value → Mem → Prop} {pc q : Nat} {r : List (Option Value)} {st : List Value} {σ : Mem} {a0 z : Option Value} {x : Nat} (h : decode M.2.1 pc = .ok (.astore_n 1, 1)) (hp : pc + 1 = q) (hn : 1 < M.2.2.1) (hk : okP [a0] 1 = true) (k : Vj sh kd M Post q (a0 :: some (.ref x) :: r) st σ) : Vj sh kd M Post pc (a0 :: z :: r) (.ref x :: st) σ := Vj_astoren (i := 1) h hp rfl hn hk k
theorem Vs_iinc1 {sh : Shp} {kd : Nat} {M : MI} {Post : Option Value → Mem → Prop} {pc q : Nat} {r : List (Option Value)} {st : List Value} {σ : Mem} {a0 z : Option Value} {n : Int} {x v : Int32} (h : decode M.2.1 pc = .ok (.iinc 1 n, 3)) (hp : pc + 3 = q) (hv : x + Int32.ofInt n = v) (hn : 1 < M.2.2.1) (hk : okP [a0] 1 = true) (k : Vj sh kd M Post q (a0 :: some (.int v) :: r) st σ) : Vj sh kd M Post pc (a0 :: some (.int x) :: r) st σ := Vj_iinc (i := 1) h hp rfl hv hn hk k
theorem Vs_lstore1 {sh : Shp} {kd : Nat} {M : MI} {Post : Option Value → Mem → Prop} {pc q : Nat} {r : List (Option Value)} {st : List Value} {σ : Mem} {a0 z : Option Value} {z2 : Option Value} {x : Int64} (h : decode M.2.1 pc = .ok (.lstore_n 1, 1)) (hp : pc + 1 = q) (hn : 1 + 1 < M.2.2.1) (hk : okP [a0] 1 = true) (k : Vj sh kd M Post q (a0 :: some (.long x) :: none :: r) st σ) : Vj sh kd M Post pc (a0 :: z :: z2 :: r) (.long x :: st) σ := Vj_lstoren (i := 1) h hp rfl hn hk k
theorem Vs_istore2 {sh : Shp} {kd : Nat} {M : MI} {Post : Option Value → Mem → Prop} {pc q : Nat} {r : List (Option Value)} {st : List Value} {σ : Mem} {a0 a1 z : Option Value} {x : Int32} (h : decode M.2.1 pc = .ok (.istore_n 2, 1)) (hp : pc + 1 = q) (hn : 2 < M.2.2.1) (hk : okP [a0, a1] 2 = true) (k : Vj sh kd M Post q (a0 :: a1 :: some (.int x) :: r) st σ) : Vj sh kd M Post pc (a0 :: a1 :: z :: r) (.int x :: st) σ := Vj_istoren (i := 2) h hp rfl hn hk k
theorem Vs_astore2 {sh : Shp} {kd : Nat} {M : MI} {Post : Option Value → Mem → Prop} {pc q : Nat} {r : List (Option Value)} {st : List Value} {σ : Mem} {a0 a1 z : Option Value} {x : Nat} (h : decode M.2.1 pc = .ok (.astore_n 2, 1)) (hp : pc + 1 = q) (hn : 2 < M.2.2.1) (hk : okP [a0, a1] 2 = true) (k : Vj sh kd M Post q (a0 :: a1 :: some (.ref x) :: r) st σ) : Vj sh kd M Post pc (a0 :: a1 :: z :: r) (.ref x :: st) σ := Vj_astoren (i := 2) h hp rfl hn hk k
theorem Vs_iinc2 {sh : Shp} {kd : Nat} {M : MI} {Post : Option Value → Mem → Prop} {pc q : Nat} {r : List (Option Value)} {st : List Value} {σ : Mem} {a0 a1 z : Option Value} {n : Int} {x v : Int32} (h : decode M.2.1 pc = .ok (.iinc 2 n, 3)) (hp : pc + 3 = q) (hv : x + Int32.ofInt n = v) (hn : 2 < M.2.2.1) (hk : okP [a0, a1] 2 = true) (k : Vj sh kd M Post q (a0 :: a1 :: some (.int v) :: r) st σ) : Vj sh kd M Post pc (a0 :: a1 :: some (.int x) :: r) st σ := Vj_iinc (i := 2) h hp rfl hv hn hk k
theorem Vs_lstore2 {sh : Shp} {kd : Nat} {M : MI} {Post : Option Value → Mem → Prop} {pc q : Nat} {r : List (Option Value)} {st : List Value} {σ : Mem} {a0 a1 z : Option Value} {z2 : Option Value} {x : Int64} (h : decode M.2.1 pc = .ok (.lstore_n 2, 1)) (hp : pc + 1 = q) (hn : 2 + 1 < M.2.2.1) (hk : okP [a0, a1] 2 = true) (k : Vj sh kd M Post q (a0 :: a1 :: some (.long x) :: none :: r) st σ) : Vj sh kd M Post pc (a0 :: a1 :: z :: z2 :: r) (.long x :: st) σ := Vj_lstoren (i := 2) h hp rfl hn hk k
theorem Vs_istore3 {sh : Shp} {kd : Nat} {M : MI} {Post : Option Value → Mem → Prop} {pc q : Nat} {r : List (Option Value)} {st : List Value} {σ : Mem} {a0 a1 a2 z : Option Value} {x : Int32} (h : decode M.2.1 pc = .ok (.istore_n 3, 1)) (hp : pc + 1 = q) (hn : 3 < M.2.2.1) (hk : okP [a0, a1, a2] 3 = true) (k : Vj sh kd M Post q (a0 :: a1 :: a2 :: some (.int x) :: r) st σ) : Vj sh kd M Post pc (a0 :: a1 :: a2 :: z :: r) (.int x :: st) σ := Vj_istoren (i := 3) h hp rfl hn hk k
theorem Vs_astore3 {sh : Shp} {kd : Nat} {M : MI} {Post : Option Value → Mem → Prop} {pc q : Nat} {r : List (Option Value)} {st : List Value} {σ : Mem} {a0 a1 a2 z : Option Value} {x : Nat} (h : decode M.2.1 pc = .ok (.astore_n 3, 1)) (hp : pc + 1 = q) (hn : 3 < M.2.2.1) (hk : okP [a0, a1, a2] 3 = true) (k : Vj sh kd M Post q (a0 :: a1 :: a2 :: some (.ref x) :: r) st σ) : Vj sh kd M Post pc (a0 :: a1 :: a2 :: z :: r) (.ref x :: st) σ := Vj_astoren (i := 3) h hp rfl hn hk k
theorem Vs_iinc3 {sh : Shp} {kd : Nat} {M : MI} {Post : Option Value → Mem → Prop} {pc q : Nat} {r : List (Option Value)} {st : List Value} {σ : Mem} {a0 a1 a2 z : Option Value} {n : Int} {x v : Int32} (h : decode M.2.1 pc = .ok (.iinc 3 n, 3)) (hp : pc + 3 = q) (hv : x + Int32.ofInt n = v) (hn : 3 < M.2.2.1) (hk : okP [a0, a1, a2] 3 = true) (k : Vj sh kd M Post q (a0 :: a1 :: a2 :: some (.int v) :: r) st σ) : Vj sh kd M Post pc (a0 :: a1 :: a2 :: some (.int x) :: r) st σ := Vj_iinc (i := 3) h hp rfl hv hn hk k
theorem Vs_lstore3 {sh : Shp} {kd : Nat} {M : MI} {Post : Option Value → Mem → Prop} {pc q : Nat} {r : List (Option Value)} {st : List Value} {σ : Mem} {a0 a1 a2 z : Option Value} {z2 : Option Value} {x : Int64} (h : decode M.2.1 pc = .ok (.lstore_n 3, 1)) (hp : pc + 1 = q) (hn : 3 + 1 < M.2.2.1) (hk : okP [a0, a1, a2] 3 = true) (k : Vj sh kd M Post q (a0 :: a1 :: a2 :: some (.long x) :: none :: r) st σ) : Vj sh kd M Post pc (a0 :: a1 :: a2 :: z :: z2 :: r) (.long x :: st) σ := Vj_lstoren (i := 3) h hp rfl hn hk k
theorem Vs_istore4 {sh : Shp} {kd : Nat} {M : MI} {Post : Option Value → Mem → Prop} {pc q : Nat} {r : List (Option Value)} {st : List Value} {σ : Mem} {a0 a1 a2 a3 z : Option Value} {x : Int32} (h : decode M.2.1 pc = .ok (.istore 4, 2)) (hp : pc + 2 = q) (hn : 4 < M.2.2.1) (hk : okP [a0, a1, a2, a3] 4 = true) (k : Vj sh kd M Post q (a0 :: a1 :: a2 :: a3 :: some (.int x) :: r) st σ) : Vj sh kd M Post pc (a0 :: a1 :: a2 :: a3 :: z :: r) (.int x :: st) σ := Vj_istore (i := 4) h hp hn hk k
theorem Vs_astore4 {sh : Shp} {kd : Nat} {M : MI} {Post : Option Value → Mem → Prop} {pc q : Nat} {r : List (Option Value)} {st : List Value} {σ : Mem} {a0 a1 a2 a3 z : Option Value} {x : Nat} (h : decode M.2.1 pc = .ok (.astore 4, 2)) (hp : pc + 2 = q) (hn : 4 < M.2.2.1) (hk : okP [a0, a1, a2, a3] 4 = true) (k : Vj sh kd M Post q (a0 :: a1 :: a2 :: a3 :: some (.ref x) :: r) st σ) : Vj sh kd M Post pc (a0 :: a1 :: a2 :: a3 :: z :: r) (.ref x :: st) σ := Vj_astore (i := 4) h hp hn hk k
theorem Vs_iinc4 {sh : Shp} {kd : Nat} {M : MI} {Post : Option Value → Mem → Prop} {pc q : Nat} {r : List (Option Value)} {st : List Value} {σ : Mem} {a0 a1 a2 a3 z : Option Value} {n : Int} {x v : Int32} (h : decode M.2.1 pc = .ok (.iinc 4 n, 3)) (hp : pc + 3 = q) (hv : x + Int32.ofInt n = v) (hn : 4 < M.2.2.1) (hk : okP [a0, a1, a2, a3] 4 = true) (k : Vj sh kd M Post q (a0 :: a1 :: a2 :: a3 :: some (.int v) :: r) st σ) : Vj sh kd M Post pc (a0 :: a1 :: a2 :: a3 :: some (.int x) :: r) st σ := Vj_iinc (i := 4) h hp rfl hv hn hk k
theorem Vs_istore5 {sh : Shp} {kd : Nat} {M : MI} {Post : Option Value → Mem → Prop} {pc q : Nat} {r : List (Option Value)} {st : List Value} {σ : Mem} {a0 a1 a2 a3 a4 z : Option Value} {x : Int32} (h : decode M.2.1 pc = .ok (.istore 5, 2)) (hp : pc + 2 = q) (hn : 5 < M.2.2.1) (hk : okP [a0, a1, a2, a3, a4] 5 = true) (k : Vj sh kd M Post q (a0 :: a1 :: a2 :: a3 :: a4 :: some (.int x) :: r) st σ) : Vj sh kd M Post pc (a0 :: a1 :: a2 :: a3 :: a4 :: z :: r) (.int x :: st) σ := Vj_istore (i := 5) h hp hn hk k
theorem Vs_astore5 {sh : Shp} {kd : Nat} {M : MI} {Post : Option Value → Mem → Prop} {pc q : Nat} {r : List (Option Value)} {st : List Value} {σ : Mem} {a0 a1 a2 a3 a4 z : Option Value} {x : Nat} (h : decode M.2.1 pc = .ok (.astore 5, 2)) (hp : pc + 2 = q) (hn : 5 < M.2.2.1) (hk : okP [a0, a1, a2, a3, a4] 5 = true) (k : Vj sh kd M Post q (a0 :: a1 :: a2 :: a3 :: a4 :: some (.ref x) :: r) st σ) : Vj sh kd M Post pc (a0 :: a1 :: a2 :: a3 :: a4 :: z :: r) (.ref x :: st) σ := Vj_astore (i := 5) h hp hn hk k
theorem Vs_iinc5 {sh : Shp} {kd : Nat} {M : MI} {Post : Option Value → Mem → Prop} {pc q : Nat} {r : List (Option Value)} {st : List Value} {σ : Mem} {a0 a1 a2 a3 a4 z : Option Value} {n : Int} {x v : Int32} (h : decode M.2.1 pc = .ok (.iinc 5 n, 3)) (hp : pc + 3 = q) (hv : x + Int32.ofInt n = v) (hn : 5 < M.2.2.1) (hk : okP [a0, a1, a2, a3, a4] 5 = true) (k : Vj sh kd M Post q (a0 :: a1 :: a2 :: a3 :: a4 :: some (.int v) :: r) st σ) : Vj sh kd M Post pc (a0 :: a1 :: a2 :: a3 :: a4 :: some (.int x) :: r) st σ := Vj_iinc (i := 5) h hp rfl hv hn hk k
theorem Vs_istore6 {sh : Shp} {kd : Nat} {M : MI} {Post : Option Value → Mem → Prop} {pc q : Nat} {r : List (Option Value)} {st : List Value} {σ : Mem} {a0 a1 a2 a3 a4 a5 z : Option Value} {x : Int32} (h : decode M.2.1 pc = .ok (.istore 6, 2)) (hp : pc + 2 = q) (hn : 6 < M.2.2.1) (hk : okP [a0, a1, a2, a3, a4, a5] 6 = true) (k : Vj sh kd M Post q (a0 :: a1 :: a2 :: a3 :: a4 :: a5 :: some (.int x) :: r) st σ) : Vj sh kd M Post pc (a0 :: a1 :: a2 :: a3 :: a4 :: a5 :: z :: r) (.int x :: st) σ := Vj_istore (i := 6) h hp hn hk k
theorem Vs_astore6 {sh : Shp} {kd : Nat} {M : MI} {Post : Option Value → Mem → Prop} {pc q : Nat} {r : List (Option Value)} {st : List Value} {σ : Mem} {a0 a1 a2 a3 a4 a5 z : Option Value} {x : Nat} (h : decode M.2.1 pc = .ok (.astore 6, 2)) (hp : pc + 2 = q) (hn : 6 < M.2.2.1) (hk : okP [a0, a1, a2, a3, a4, a5] 6 = true) (k : Vj sh kd M Post q (a0 :: a1 :: a2 :: a3 :: a4 :: a5 :: some (.ref x) :: r) st σ) : Vj sh kd M Post pc (a0 :: a1 :: a2 :: a3 :: a4 :: a5 :: z :: r) (.ref x :: st) σ := Vj_astore (i := 6) h hp hn hk k
theorem Vs_iinc6 {sh : Shp} {kd : Nat} {M : MI} {Post : Option Value → Mem → Prop} {pc q : Nat} {r : List (Option Value)} {st : List Value} {σ : Mem} {a0 a1 a2 a3 a4 a5 z : Option Value} {n : Int} {x v : Int32} (h : decode M.2.1 pc = .ok (.iinc 6 n, 3)) (hp : pc + 3 = q) (hv : x + Int32.ofInt n = v) (hn : 6 < M.2.2.1) (hk : okP [a0, a1, a2, a3, a4, a5] 6 = true) (k : Vj sh kd M Post q (a0 :: a1 :: a2 :: a3 :: a4 :: a5 :: some (.int v) :: r) st σ) : Vj sh kd M Post pc (a0 :: a1 :: a2 :: a3 :: a4 :: a5 :: some (.int x) :: r) st σ := Vj_iinc (i := 6) h hp rfl hv hn hk k
theorem Vs_istore7 {sh : Shp} {kd : Nat} {M : MI} {Post : Option Value → Mem → Prop} {pc q : Nat} {r : List (Option Value)} {st : List Value} {σ : Mem} {a0 a1 a2 a3 a4 a5 a6 z : Option Value} {x : Int32} (h : decode M.2.1 pc = .ok (.istore 7, 2)) (hp : pc + 2 = q) (hn : 7 < M.2.2.1) (hk : okP [a0, a1, a2, a3, a4, a5, a6] 7 = true) (k : Vj sh kd M Post q (a0 :: a1 :: a2 :: a3 :: a4 :: a5 :: a6 :: some (.int x) :: r) st σ) : Vj sh kd M Post pc (a0 :: a1 :: a2 :: a3 :: a4 :: a5 :: a6 :: z :: r) (.int x :: st) σ := Vj_istore (i := 7) h hp hn hk k
theorem Vs_astore7 {sh : Shp} {kd : Nat} {M : MI} {Post : Option Value → Mem → Prop} {pc q : Nat} {r : List (Option Value)} {st : List Value} {σ : Mem} {a0 a1 a2 a3 a4 a5 a6 z : Option Value} {x : Nat} (h : decode M.2.1 pc = .ok (.astore 7, 2)) (hp : pc + 2 = q) (hn : 7 < M.2.2.1) (hk : okP [a0, a1, a2, a3, a4, a5, a6] 7 = true) (k : Vj sh kd M Post q (a0 :: a1 :: a2 :: a3 :: a4 :: a5 :: a6 :: some (.ref x) :: r) st σ) : Vj sh kd M Post pc (a0 :: a1 :: a2 :: a3 :: a4 :: a5 :: a6 :: z :: r) (.ref x :: st) σ := Vj_astore (i := 7) h hp hn hk k
theorem Vs_iinc7 {sh : Shp} {kd : Nat} {M : MI} {Post : Option Value → Mem → Prop} {pc q : Nat} {r : List (Option Value)} {st : List Value} {σ : Mem} {a0 a1 a2 a3 a4 a5 a6 z : Option Value} {n : Int} {x v : Int32} (h : decode M.2.1 pc = .ok (.iinc 7 n, 3)) (hp : pc + 3 = q) (hv : x + Int32.ofInt n = v) (hn : 7 < M.2.2.1) (hk : okP [a0, a1, a2, a3, a4, a5, a6] 7 = true) (k : Vj sh kd M Post q (a0 :: a1 :: a2 :: a3 :: a4 :: a5 :: a6 :: some (.int v) :: r) st σ) : Vj sh kd M Post pc (a0 :: a1 :: a2 :: a3 :: a4 :: a5 :: a6 :: some (.int x) :: r) st σ := Vj_iinc (i := 7) h hp rfl hv hn hk k
theorem Vs_istore8 {sh : Shp} {kd : Nat} {M : MI} {Post : Option Value → Mem → Prop} {pc q : Nat} {r : List (Option Value)} {st : List Value} {σ : Mem} {a0 a1 a2 a3 a4 a5 a6 a7 z : Option Value} {x : Int32} (h : decode M.2.1 pc = .ok (.istore 8, 2)) (hp : pc + 2 = q) (hn : 8 < M.2.2.1) (hk : okP [a0, a1, a2, a3, a4, a5, a6, a7] 8 = true) (k : Vj sh kd M Post q (a0 :: a1 :: a2 :: a3 :: a4 :: a5 :: a6 :: a7 :: some (.int x) :: r) st σ) : Vj sh kd M Post pc (a0 :: a1 :: a2 :: a3 :: a4 :: a5 :: a6 :: a7 :: z :: r) (.int x :: st) σ := Vj_istore (i := 8) h hp hn hk k
theorem Vs_astore8 {sh : Shp} {kd : Nat} {M : MI} {Post : Option Value → Mem → Prop} {pc q : Nat} {r : List (Option Value)} {st : List Value} {σ : Mem} {a0 a1 a2 a3 a4 a5 a6 a7 z : Option Value} {x : Nat} (h : decode M.2.1 pc = .ok (.astore 8, 2)) (hp : pc + 2 = q) (hn : 8 < M.2.2.1) (hk : okP [a0, a1, a2, a3, a4, a5, a6, a7] 8 = true) (k : Vj sh kd M Post q (a0 :: a1 :: a2 :: a3 :: a4 :: a5 :: a6 :: a7 :: some (.ref x) :: r) st σ) : Vj sh kd M Post pc (a0 :: a1 :: a2 :: a3 :: a4 :: a5 :: a6 :: a7 :: z :: r) (.ref x :: st) σ := Vj_astore (i := 8) h hp hn hk k
theorem Vs_iinc8 {sh : Shp} {kd : Nat} {M : MI} {Post : Option Value → Mem → Prop} {pc q : Nat} {r : List (Option Value)} {st : List Value} {σ : Mem} {a0 a1 a2 a3 a4 a5 a6 a7 z : Option Value} {n : Int} {x v : Int32} (h : decode M.2.1 pc = .ok (.iinc 8 n, 3)) (hp : pc + 3 = q) (hv : x + Int32.ofInt n = v) (hn : 8 < M.2.2.1) (hk : okP [a0, a1, a2, a3, a4, a5, a6, a7] 8 = true) (k : Vj sh kd M Post q (a0 :: a1 :: a2 :: a3 :: a4 :: a5 :: a6 :: a7 :: some (.int v) :: r) st σ) : Vj sh kd M Post pc (a0 :: a1 :: a2 :: a3 :: a4 :: a5 :: a6 :: a7 :: some (.int x) :: r) st σ := Vj_iinc (i := 8) h hp rfl hv hn hk k
theorem Vs_istore9 {sh : Shp} {kd : Nat} {M : MI} {Post : Option Value → Mem → Prop} {pc q : Nat} {r : List (Option Value)} {st : List Value} {σ : Mem} {a0 a1 a2 a3 a4 a5 a6 a7 a8 z : Option Value} {x : Int32} (h : decode M.2.1 pc = .ok (.istore 9, 2)) (hp : pc + 2 = q) (hn : 9 < M.2.2.1) (hk : okP [a0, a1, a2, a3, a4, a5, a6, a7, a8] 9 = true) (k : Vj sh kd M Post q (a0 :: a1 :: a2 :: a3 :: a4 :: a5 :: a6 :: a7 :: a8 :: some (.int x) :: r) st σ) : Vj sh kd M Post pc (a0 :: a1 :: a2 :: a3 :: a4 :: a5 :: a6 :: a7 :: a8 :: z :: r) (.int x :: st) σ := Vj_istore (i := 9) h hp hn hk k
theorem Vs_astore9 {sh : Shp} {kd : Nat} {M : MI} {Post : Option Value → Mem → Prop} {pc q : Nat} {r : List (Option Value)} {st : List Value} {σ : Mem} {a0 a1 a2 a3 a4 a5 a6 a7 a8 z : Option Value} {x : Nat} (h : decode M.2.1 pc = .ok (.astore 9, 2)) (hp : pc + 2 = q) (hn : 9 < M.2.2.1) (hk : okP [a0, a1, a2, a3, a4, a5, a6, a7, a8] 9 = true) (k : Vj sh kd M Post q (a0 :: a1 :: a2 :: a3 :: a4 :: a5 :: a6 :: a7 :: a8 :: some (.ref x) :: r) st σ) : Vj sh kd M Post pc (a0 :: a1 :: a2 :: a3 :: a4 :: a5 :: a6 :: a7 :: a8 :: z :: r) (.ref x :: st) σ := Vj_astore (i := 9) h hp hn hk k
theorem Vs_iinc9 {sh : Shp} {kd : Nat} {M : MI} {Post : Option Value → Mem → Prop} {pc q : Nat} {r : List (Option Value)} {st : List Value} {σ : Mem} {a0 a1 a2 a3 a4 a5 a6 a7 a8 z : Option Value} {n : Int} {x v : Int32} (h : decode M.2.1 pc = .ok (.iinc 9 n, 3)) (hp : pc + 3 = q) (hv : x + Int32.ofInt n = v) (hn : 9 < M.2.2.1) (hk : okP [a0, a1, a2, a3, a4, a5, a6, a7, a8] 9 = true) (k : Vj sh kd M Post q (a0 :: a1 :: a2 :: a3 :: a4 :: a5 :: a6 :: a7 :: a8 :: some (.int v) :: r) st σ) : Vj sh kd M Post pc (a0 :: a1 :: a2 :: a3 :: a4 :: a5 :: a6 :: a7 :: a8 :: some (.int x) :: r) st σ := Vj_iinc (i := 9) h hp rfl hv hn hk k
theorem Vs_istore10 {sh : Shp} {kd : Nat} {M : MI} {Post : Option Value → Mem → Prop} {pc q : Nat} {r : List (Option Value)} {st : List Value} {σ : Mem} {a0 a1 a2 a3 a4 a5 a6 a7 a8 a9 z : Option Value} {x : Int32} (h : decode M.2.1 pc = .ok (.istore 10, 2)) (hp : pc + 2 = q) (hn : 10 < M.2.2.1) (hk : okP [a0, a1, a2, a3, a4, a5, a6, a7, a8, a9] 10 = true) (k : Vj sh kd M Post q (a0 :: a1 :: a2 :: a3 :: a4 :: a5 :: a6 :: a7 :: a8 :: a9 :: some (.int x) :: r) st σ) : Vj sh kd M Post pc (a0 :: a1 :: a2 :: a3 :: a4 :: a5 :: a6 :: a7 :: a8 :: a9 :: z :: r) (.int x :: st) σ := Vj_istore (i := 10) h hp hn hk k
theorem Vs_astore10 {sh : Shp} {kd : Nat} {M : MI} {Post : Option Value → Mem → Prop} {pc q : Nat} {r : List (Option Value)} {st : List Value} {σ : Mem} {a0 a1 a2 a3 a4 a5 a6 a7 a8 a9 z : Option Value} {x : Nat} (h : decode M.2.1 pc = .ok (.astore 10, 2)) (hp : pc + 2 = q) (hn : 10 < M.2.2.1) (hk : okP [a0, a1, a2, a3, a4, a5, a6, a7, a8, a9] 10 = true) (k : Vj sh kd M Post q (a0 :: a1 :: a2 :: a3 :: a4 :: a5 :: a6 :: a7 :: a8 :: a9 :: some (.ref x) :: r) st σ) : Vj sh kd M Post pc (a0 :: a1 :: a2 :: a3 :: a4 :: a5 :: a6 :: a7 :: a8 :: a9 :: z :: r) (.ref x :: st) σ := Vj_astore (i := 10) h hp hn hk k
theorem Vs_iinc10 {sh : Shp} {kd : Nat} {M : MI} {Post : Option Value → Mem → Prop} {pc q : Nat} {r : List (Option Value)} {st : List Value} {σ : Mem} {a0 a1 a2 a3 a4 a5 a6 a7 a8 a9 z : Option Value} {n : Int} {x v : Int32} (h : decode M.2.1 pc = .ok (.iinc 10 n, 3)) (hp : pc + 3 = q) (hv : x + Int32.ofInt n = v) (hn : 10 < M.2.2.1) (hk : okP [a0, a1, a2, a3, a4, a5, a6, a7, a8, a9] 10 = true) (k : Vj sh kd M Post q (a0 :: a1 :: a2 :: a3 :: a4 :: a5 :: a6 :: a7 :: a8 :: a9 :: some (.int v) :: r) st σ) : Vj sh kd M Post pc (a0 :: a1 :: a2 :: a3 :: a4 :: a5 :: a6 :: a7 :: a8 :: a9 :: some (.int x) :: r) st σ := Vj_iinc (i := 10) h hp rfl hv hn hk k
theorem Vs_istore11 {sh : Shp} {kd : Nat} {M : MI} {Post : Option Value → Mem → Prop} {pc q : Nat} {r : List (Option Value)} {st : List Value} {σ : Mem} {a0 a1 a2 a3 a4 a5 a6 a7 a8 a9 a10 z : Option Value} {x : Int32} (h : decode M.2.1 pc = .ok (.istore 11, 2)) (hp : pc + 2 = q) (hn : 11 < M.2.2.1) (hk : okP [a0, a1, a2, a3, a4, a5, a6, a7, a8, a9, a10] 11 = true) (k : Vj sh kd M Post q (a0 :: a1 :: a2 :: a3 :: a4 :: a5 :: a6 :: a7 :: a8 :: a9 :: a10 :: some (.int x) :: r) st σ) : Vj sh kd M Post pc (a0 :: a1 :: a2 :: a3 :: a4 :: a5 :: a6 :: a7 :: a8 :: a9 :: a10 :: z :: r) (.int x :: st) σ := Vj_istore (i := 11) h hp hn hk k
theorem Vs_astore11 {sh : Shp} {kd : Nat} {M : MI} {Post : Option Value → Mem → Prop} {pc q : Nat} {r : List (Option Value)} {st : List Value} {σ : Mem} {a0 a1 a2 a3 a4 a5 a6 a7 a8 a9 a10 z : Option Value} {x : Nat} (h : decode M.2.1 pc = .ok (.astore 11, 2)) (hp : pc + 2 = q) (hn : 11 < M.2.2.1) (hk : okP [a0, a1, a2, a3, a4, a5, a6, a7, a8, a9, a10] 11 = true) (k : Vj sh kd M Post q (a0 :: a1 :: a2 :: a3 :: a4 :: a5 :: a6 :: a7 :: a8 :: a9 :: a10 :: some (.ref x) :: r) st σ) : Vj sh kd M Post pc (a0 :: a1 :: a2 :: a3 :: a4 :: a5 :: a6 :: a7 :: a8 :: a9 :: a10 :: z :: r) (.ref x :: st) σ := Vj_astore (i := 11) h hp hn hk k
theorem Vs_iinc11 {sh : Shp} {kd : Nat} {M : MI} {Post : Option Value → Mem → Prop} {pc q : Nat} {r : List (Option Value)} {st : List Value} {σ : Mem} {a0 a1 a2 a3 a4 a5 a6 a7 a8 a9 a10 z : Option Value} {n : Int} {x v : Int32} (h : decode M.2.1 pc = .ok (.iinc 11 n, 3)) (hp : pc + 3 = q) (hv : x + Int32.ofInt n = v) (hn : 11 < M.2.2.1) (hk : okP [a0, a1, a2, a3, a4, a5, a6, a7, a8, a9, a10] 11 = true) (k : Vj sh kd M Post q (a0 :: a1 :: a2 :: a3 :: a4 :: a5 :: a6 :: a7 :: a8 :: a9 :: a10 :: some (.int v) :: r) st σ) : Vj sh kd M Post pc (a0 :: a1 :: a2 :: a3 :: a4 :: a5 :: a6 :: a7 :: a8 :: a9 :: a10 :: some (.int x) :: r) st σ := Vj_iinc (i := 11) h hp rfl hv hn hk k
theorem Vs_istore12 {sh : Shp} {kd : Nat} {M : MI} {Post : Option Value → Mem → Prop} {pc q : Nat} {r : List (Option Value)} {st : List Value} {σ : Mem} {a0 a1 a2 a3 a4 a5 a6 a7 a8 a9 a10 a11 z : Option Value} {x : Int32} (h : decode M.2.1 pc = .ok (.istore 12, 2)) (hp : pc + 2 = q) (hn : 12 < M.2.2.1) (hk : okP [a0, a1, a2, a3, a4, a5, a6, a7, a8, a9, a10, a11] 12 = true) (k : Vj sh kd M Post q (a0 :: a1 :: a2 :: a3 :: a4 :: a5 :: a6 :: a7 :: a8 :: a9 :: a10 :: a11 :: some (.int x) :: r) st σ) : Vj sh kd M Post pc (a0 :: a1 :: a2 :: a3 :: a4 :: a5 :: a6 :: a7 :: a8 :: a9 :: a10 :: a11 :: z :: r) (.int x :: st) σ := Vj_istore (i := 12) h hp hn hk k
theorem Vs_astore12 {sh : Shp} {kd : Nat} {M : MI} {Post : Option Value → Mem → Prop} {pc q : Nat} {r : List (Option Value)} {st : List Value} {σ : Mem} {a0 a1 a2 a3 a4 a5 a6 a7 a8 a9 a10 a11 z : Option Value} {x : Nat} (h : decode M.2.1 pc = .ok (.astore 12, 2)) (hp : pc + 2 = q) (hn : 12 < M.2.2.1) (hk : okP [a0, a1, a2, a3, a4, a5, a6, a7, a8, a9, a10, a11] 12 = true) (k : Vj sh kd M Post q (a0 :: a1 :: a2 :: a3 :: a4 :: a5 :: a6 :: a7 :: a8 :: a9 :: a10 :: a11 :: some (.ref x) :: r) st σ) : Vj sh kd M Post pc (a0 :: a1 :: a2 :: a3 :: a4 :: a5 :: a6 :: a7 :: a8 :: a9 :: a10 :: a11 :: z :: r) (.ref x :: st) σ := Vj_astore (i := 12) h hp hn hk k
theorem Vs_iinc12 {sh : Shp} {kd : Nat} {M : MI} {Post : Option Value → Mem → Prop} {pc q : Nat} {r : List (Option Value)} {st : List Value} {σ : Mem} {a0 a1 a2 a3 a4 a5 a6 a7 a8 a9 a10 a11 z : Option Value} {n : Int} {x v : Int32} (h : decode M.2.1 pc = .ok (.iinc 12 n, 3)) (hp : pc + 3 = q) (hv : x + Int32.ofInt n = v) (hn : 12 < M.2.2.1) (hk : okP [a0, a1, a2, a3, a4, a5, a6, a7, a8, a9, a10, a11] 12 = true) (k : Vj sh kd M Post q (a0 :: a1 :: a2 :: a3 :: a4 :: a5 :: a6 :: a7 :: a8 :: a9 :: a10 :: a11 :: some (.int v) :: r) st σ) : Vj sh kd M Post pc (a0 :: a1 :: a2 :: a3 :: a4 :: a5 :: a6 :: a7 :: a8 :: a9 :: a10 :: a11 :: some (.int x) :: r) st σ := Vj_iinc (i := 12) h hp rfl hv hn hk k
