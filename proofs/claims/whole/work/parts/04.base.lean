/-! shapes: the cells of the class and of the reference, in the order in which they are made -/
abbrev shX : Shp := [.inr (9, [(2, 1), (2, 3), (2, 10), (2, 20), (2, 25), (2, 27), (2, 28), (2, 32), (2, 36), (2, 41), (2, 42), (0, 0), (1, 0)]), .inr (8, [(2, 2), (0, 0)]), .inl (0, 44), .inr (3, [(2, 4)]), .inr (0, [(0, 0), (0, 0), (2, 5), (2, 6), (2, 7), (2, 8), (2, 9)]), .inl (0, 4), .inl (0, 4), .inl (0, 6), .inl (0, 6), .inl (0, 6), .inr (2, [(2, 11), (2, 17), (2, 18), (2, 19), (0, 0)]), .inr (0, [(0, 0), (0, 0), (2, 12), (2, 13), (2, 14), (2, 15), (2, 16)]), .inl (0, 4), .inl (0, 4), .inl (0, 6), .inl (0, 6), .inl (0, 6), .inl (0, 256), .inl (0, 256), .inl (0, 1536), .inr (1, [(2, 21), (2, 22), (2, 23), (2, 24), (0, 0)]), .inl (0, 257), .inl (0, 1536), .inl (0, 256), .inl (0, 256), .inr (4, [(2, 26), (0, 0)]), .inl (0, 6), .inr (7, [(0, 0), (0, 0), (0, 0)]), .inr (6, [(2, 29), (2, 30), (2, 31)]), .inl (0, 14), .inl (0, 14), .inl (0, 14), .inr (6, [(2, 33), (2, 34), (2, 35)]), .inl (0, 2), .inl (0, 2), .inl (0, 2), .inr (5, [(2, 37), (2, 38), (2, 39), (2, 40), (0, 0), (0, 0)]), .inl (0, 6), .inl (0, 6), .inl (0, 6), .inl (0, 256), .inl (0, 16), .inl (0, 7), .inr (0, [(0, 0), (0, 0), (2, 44), (2, 45), (2, 46), (2, 47), (2, 48)]), .inl (0, 4), .inl (0, 4), .inl (0, 6), .inl (0, 6), .inl (0, 6)]
abbrev shM : Shp := [.inr (10, [(0, 0), (0, 0), (0, 0), (2, 1), (2, 2), (2, 3), (2, 4), (2, 5), (2, 6), (0, 0), (0, 0), (0, 0), (2, 7), (2, 8), (2, 9), (0, 0), (0, 0), (2, 10), (0, 0), (0, 0), (0, 0), (0, 0), (0, 0), (2, 11), (2, 12), (0, 0), (2, 13), (2, 14), (2, 15), (2, 16), (2, 17), (1, 0), (2, 18), (2, 19)]), .inl (0, 4), .inl (0, 4), .inl (0, 6), .inl (0, 6), .inl (0, 6), .inl (0, 1536), .inl (0, 4), .inl (0, 4), .inl (0, 18), .inl (0, 44), .inl (0, 42), .inl (0, 256), .inl (0, 6), .inl (0, 6), .inl (0, 6), .inl (0, 16), .inl (0, 64), .inl (1, 2), .inl (0, 6)]
abbrev Ri (x : Int32) (s : Mem) : Option Value → Mem → Prop := fun r σ2 => r = some (.int x) ∧ σ2 = s
abbrev Rl (x : Int64) (s : Mem) : Option Value → Mem → Prop := fun r σ2 => r = some (.long x) ∧ σ2 = s
abbrev Rv (s : Mem) : Option Value → Mem → Prop := fun r σ2 => r = none ∧ σ2 = s
theorem iinc_p (x : Int32) : x + Int32.ofInt 1 = x + 1 := congrArg (fun z => x + z) (by decide)
theorem iinc_m (x : Int32) : x + Int32.ofInt (-1) = x - 1 := by rw [Int32.sub_eq_add_neg]; exact congrArg (fun z => x + z) (by decide)
theorem Vj_callVi {sh : Shp} {kd k' : Nat} {M M' : MI} {Post : Option Value → Mem → Prop} {pc q ix a ci N : Nat} {T : u_T} {fs : List (Nat × Nat)} {l : List (Option Value)} {av rest st0 : List Value} {σ σ' : Mem} {x : Int32} (hc : Ct sh k' M' (.ref a :: av) σ (Ri x σ')) (hk : k' + 1 ≤ kd) (hq : sh[a]? = some (.inr (ci, fs))) (hcl : vwCl[ci]? = some (M'.1.cls, T, N)) (hLk : LKm M.1.cls ix M') (hV : MVi M') (hM : MOk M' av.length) (h : decode M.2.1 pc = .ok (.invokevirtual ix, 3)) (hp : pc + 3 = q) (hst : st0 = av.reverse ++ .ref a :: rest) (hcat : (rest.map fun v => v.category).sum ≤ 8) (k : Vj sh kd M Post q l (.int x :: rest) σ') : Vj sh kd M Post pc l st0 σ := Vj_callV hc hk hq hcl hLk hV hM h hp hst hcat (by rintro r σ2 ⟨rfl, rfl⟩; exact k)
theorem Vj_callSi {sh : Shp} {kd k' : Nat} {M M' : MI} {Post : Option Value → Mem → Prop} {pc q ix : Nat} {l : List (Option Value)} {av rest st0 : List Value} {σ σ' : Mem} {x : Int32} (hc : Ct sh k' M' av σ (Ri x σ')) (hk : k' + 1 ≤ kd) (hLk : LKm M.1.cls ix M') (hV : Cond.static M'.1 ∈ lw_big) (hM : MOk M' av.length) (h : decode M.2.1 pc = .ok (.invokestatic ix, 3)) (hp : pc + 3 = q) (hst : st0 = av.reverse ++ rest) (hcat : (rest.map fun v => v.category).sum ≤ 8) (k : Vj sh kd M Post q l (.int x :: rest) σ') : Vj sh kd M Post pc l st0 σ := Vj_callS hc hk hLk hV hM h hp hst hcat (by rintro r σ2 ⟨rfl, rfl⟩; exact k)
theorem Vj_callVl {sh : Shp} {kd k' : Nat} {M M' : MI} {Post : Option Value → Mem → Prop} {pc q ix a ci N : Nat} {T : u_T} {fs : List (Nat × Nat)} {l : List (Option Value)} {av rest st0 : List Value} {σ σ' : Mem} {x : Int64} (hc : Ct sh k' M' (.ref a :: av) σ (Rl x σ')) (hk : k' + 1 ≤ kd) (hq : sh[a]? = some (.inr (ci, fs))) (hcl : vwCl[ci]? = some (M'.1.cls, T, N)) (hLk : LKm M.1.cls ix M') (hV : MVi M') (hM : MOk M' av.length) (h : decode M.2.1 pc = .ok (.invokevirtual ix, 3)) (hp : pc + 3 = q) (hst : st0 = av.reverse ++ .ref a :: rest) (hcat : (rest.map fun v => v.category).sum ≤ 8) (k : Vj sh kd M Post q l (.long x :: rest) σ') : Vj sh kd M Post pc l st0 σ := Vj_callV hc hk hq hcl hLk hV hM h hp hst hcat (by rintro r σ2 ⟨rfl, rfl⟩; exact k)
theorem Vj_callSl {sh : Shp} {kd k' : Nat} {M M' : MI} {Post : Option Value → Mem → Prop} {pc q ix : Nat} {l : List (Option Value)} {av rest st0 : List Value} {σ σ' : Mem} {x : Int64} (hc : Ct sh k' M' av σ (Rl x σ')) (hk : k' + 1 ≤ kd) (hLk : LKm M.1.cls ix M') (hV : Cond.static M'.1 ∈ lw_big) (hM : MOk M' av.length) (h : decode M.2.1 pc = .ok (.invokestatic ix, 3)) (hp : pc + 3 = q) (hst : st0 = av.reverse ++ rest) (hcat : (rest.map fun v => v.category).sum ≤ 8) (k : Vj sh kd M Post q l (.long x :: rest) σ') : Vj sh kd M Post pc l st0 σ := Vj_callS hc hk hLk hV hM h hp hst hcat (by rintro r σ2 ⟨rfl, rfl⟩; exact k)
theorem Vj_callVv {sh : Shp} {kd k' : Nat} {M M' : MI} {Post : Option Value → Mem → Prop} {pc q ix a ci N : Nat} {T : u_T} {fs : List (Nat × Nat)} {l : List (Option Value)} {av rest st0 : List Value} {σ σ' : Mem} (hc : Ct sh k' M' (.ref a :: av) σ (Rv σ')) (hk : k' + 1 ≤ kd) (hq : sh[a]? = some (.inr (ci, fs))) (hcl : vwCl[ci]? = some (M'.1.cls, T, N)) (hLk : LKm M.1.cls ix M') (hV : MVi M') (hM : MOk M' av.length) (h : decode M.2.1 pc = .ok (.invokevirtual ix, 3)) (hp : pc + 3 = q) (hst : st0 = av.reverse ++ .ref a :: rest) (hcat : (rest.map fun v => v.category).sum ≤ 8) (k : Vj sh kd M Post q l (rest) σ') : Vj sh kd M Post pc l st0 σ := Vj_callV hc hk hq hcl hLk hV hM h hp hst hcat (by rintro r σ2 ⟨rfl, rfl⟩; exact k)
theorem Vj_callSv {sh : Shp} {kd k' : Nat} {M M' : MI} {Post : Option Value → Mem → Prop} {pc q ix : Nat} {l : List (Option Value)} {av rest st0 : List Value} {σ σ' : Mem} (hc : Ct sh k' M' av σ (Rv σ')) (hk : k' + 1 ≤ kd) (hLk : LKm M.1.cls ix M') (hV : Cond.static M'.1 ∈ lw_big) (hM : MOk M' av.length) (h : decode M.2.1 pc = .ok (.invokestatic ix, 3)) (hp : pc + 3 = q) (hst : st0 = av.reverse ++ rest) (hcat : (rest.map fun v => v.category).sum ≤ 8) (k : Vj sh kd M Post q l (rest) σ') : Vj sh kd M Post pc l st0 σ := Vj_callS hc hk hLk hV hM h hp hst hcat (by rintro r σ2 ⟨rfl, rfl⟩; exact k)
theorem Vr_iret {sh : Shp} {kd : Nat} {M : MI} {Post : Option Value → Mem → Prop} {pc : Nat} {l : List (Option Value)} {σ : Mem} {v : Int32} {ty : FieldType} (hr : M.2.2.2 = some ty) (hn : narrow ty (.int v) = .int v) (h : decode M.2.1 pc = .ok (.ireturn, 1)) (hP : Post (some (.int v)) σ) : Vj sh kd M Post pc l [.int v] σ := Vj_iret (q := 0) (st := []) hr hn h hP
theorem Vr_lret {sh : Shp} {kd : Nat} {M : MI} {Post : Option Value → Mem → Prop} {pc : Nat} {l : List (Option Value)} {σ : Mem} {v : Int64} (hr : M.2.2.2 = some .long) (h : decode M.2.1 pc = .ok (.lreturn, 1)) (hP : Post (some (.long v)) σ) : Vj sh kd M Post pc l [.long v] σ := Vj_lret (q := 0) (st := []) hr h hP
theorem Vr_vret {sh : Shp} {kd : Nat} {M : MI} {Post : Option Value → Mem → Prop} {pc : Nat} {l : List (Option Value)} {σ : Mem} (hr : M.2.2.2 = none) (h : decode M.2.1 pc = .ok (.return_, 1)) (hP : Post none σ) : Vj sh kd M Post pc l [] σ := Vj_vret (q := 0) (st := []) hr h hP
/-- a switch's way out: x is none of lo .. hi -/
theorem sw_out (lo : Int) (n : Nat) {x : Int32} (h : ∀ j : Nat, j < n → ¬ x.toInt = lo + j) : x.toInt < lo ∨ lo + n - 1 < x.toInt := by
  rcases Int.lt_or_le x.toInt lo with h1 | h1
  · exact Or.inl h1
  · right
    rcases Int.lt_or_le (lo + n - 1) x.toInt with h2 | h2
    · exact h2
    · exact absurd (by omega) (h (x.toInt - lo).toNat (by omega))
theorem toInt_ne {x k : Int32} (h : ¬ x = k) : ¬ x.toInt = k.toInt := fun e => h (Int32.toInt_inj.mp e)
/-- what at answers -/
def rd (n : Nat) (f : Nat → Int32) (i : Int32) : Int32 := if 0 ≤ i ∧ i < nI n then f i.toNatClampNeg else 0
/-- what put leaves -/
def wr (σ : Mem) (q n : Nat) (i x : Int32) : Mem := if 0 ≤ i ∧ i < nI n then uI σ q i.toNatClampNeg x else σ
theorem rd_in {n j : Nat} {f : Nat → Int32} (h : j < n) (hn : n < 2 ^ 31) : rd n f (nI j) = f j := by
  rw [rd, if_pos ⟨nI_pos' (by omega), nI_lt h hn⟩, nI_clamp (by omega)]
theorem wr_in {σ : Mem} {q n j : Nat} {x : Int32} (h : j < n) (hn : n < 2 ^ 31) : wr σ q n (nI j) x = uI σ q j x := by
  rw [wr, if_pos ⟨nI_pos' (by omega), nI_lt h hn⟩, nI_clamp (by omega)]
theorem i_nlt {x y : Int32} (h : ¬ x < y) : y ≤ x := Int32.not_lt.mp h
theorem i_nle {x y : Int32} (h : ¬ x ≤ y) : y < x := Int32.not_le.mp h
theorem at_in {n : Nat} {i : Int32} (hn : n < 2 ^ 31) (h0 : ¬ i < 0) (h1 : ¬ nI n ≤ i) : vp_in i n := by
  obtain ⟨j, hj, rfl⟩ := nI_of h0
  have h2 : ¬ n ≤ j := fun z => h1 (nI_le z hj)
  exact vp_in_nI (by omega) hn
set_option maxRecDepth 100000 in
theorem qX9_at {σ : Mem} {q n : Nat} (hq : shX[q]? = some (.inl (0, n))) (hn : n < 2 ^ 31) (i : Int32) : Ct shX 0 mX9_at [.ref q, .int i] σ (Ri (rd n (σ.1 q) i) σ) := by
  refine Ct.of (by decide) (Nat.le_of_ble_eq_true rfl) (l := [some (.ref q), some (.int i)]) rfl ?_
  refine Vj_aloadn dX9_at_0 rfl rfl rfl ?_
  refine Vj_ifnull dX9_at_1 rfl ?_
  refine Vj_iloadn dX9_at_4 rfl rfl rfl ?_
  refine Vj_if_lt (tgt := 20) dX9_at_5 (by decide) rfl (fun h5 => ?_) (fun h5 => ?_)
  ·
    have hz : ¬ (0 ≤ i ∧ i < nI n) := fun z => absurd h5 (Int32.not_lt.mpr z.1)
    refine Vj_iconst (v := 0) dX9_at_20 rfl (by decide) ?_
    exact Vr_iret rfl rfl dX9_at_21 ⟨by rw [rd, if_neg hz], rfl⟩
  ·
    refine Vj_iloadn dX9_at_8 rfl rfl rfl ?_
    refine Vj_aloadn dX9_at_9 rfl rfl rfl ?_
    refine Vj_alen hq rfl dX9_at_10 rfl ?_
    refine Vj_icmp_ge (tgt := 20) dX9_at_11 (by decide) rfl (fun h11 => ?_) (fun h11 => ?_)
    ·
      have hz : ¬ (0 ≤ i ∧ i < nI n) := fun z => absurd h11 (Int32.not_le.mpr z.2)
      refine Vj_iconst (v := 0) dX9_at_20 rfl (by decide) ?_
      exact Vr_iret rfl rfl dX9_at_21 ⟨by rw [rd, if_neg hz], rfl⟩
    ·
      refine Vj_aloadn dX9_at_14 rfl rfl rfl ?_
      refine Vj_iloadn dX9_at_15 rfl rfl rfl ?_
      refine Vj_iald hq (at_in hn h5 h11) dX9_at_16 rfl ?_
      refine Vj_goto (q := 21) dX9_at_17 (by decide) ?_
      exact Vr_iret rfl rfl dX9_at_21 (⟨by rw [rd, if_pos ⟨i_nlt h5, i_nle h11⟩], rfl⟩)
theorem qX9_atn {σ : Mem} {q n : Nat} (hq : shX[q]? = some (.inl (0, n))) (hn : n < 2 ^ 31) {j : Nat} (hj : j < n) : Ct shX 0 mX9_at [.ref q, .int (nI j)] σ (Ri (σ.1 q j) σ) := by
  have h := qX9_at (σ := σ) hq hn (nI j)
  rwa [rd_in hj hn] at h
set_option maxRecDepth 100000 in
theorem qX9_atTENS {σ : Mem} (i : Int32) : Ct shX 0 mX9_at [.ref 1000, .int i] σ (Ri (rd 7 tTENS i) σ) := by
  refine Ct.of (by decide) (Nat.le_of_ble_eq_true rfl) (l := [some (.ref 1000), some (.int i)]) rfl ?_
  refine Vj_aloadn dX9_at_0 rfl rfl rfl ?_
  refine Vj_ifnull dX9_at_1 rfl ?_
  refine Vj_iloadn dX9_at_4 rfl rfl rfl ?_
  refine Vj_if_lt (tgt := 20) dX9_at_5 (by decide) rfl (fun h5 => ?_) (fun h5 => ?_)
  ·
    have hz : ¬ (0 ≤ i ∧ i < nI 7) := fun z => absurd h5 (Int32.not_lt.mpr z.1)
    refine Vj_iconst (v := 0) dX9_at_20 rfl (by decide) ?_
    exact Vr_iret rfl rfl dX9_at_21 ⟨by rw [rd, if_neg hz], rfl⟩
  ·
    refine Vj_iloadn dX9_at_8 rfl rfl rfl ?_
    refine Vj_aloadn dX9_at_9 rfl rfl rfl ?_
    refine Vj_alenTENS dX9_at_10 rfl ?_
    refine Vj_icmp_ge (tgt := 20) dX9_at_11 (by decide) rfl (fun h11 => ?_) (fun h11 => ?_)
    ·
      have hz : ¬ (0 ≤ i ∧ i < nI 7) := fun z => absurd h11 (Int32.not_le.mpr z.2)
      refine Vj_iconst (v := 0) dX9_at_20 rfl (by decide) ?_
      exact Vr_iret rfl rfl dX9_at_21 ⟨by rw [rd, if_neg hz], rfl⟩
    ·
      refine Vj_aloadn dX9_at_14 rfl rfl rfl ?_
      refine Vj_iloadn dX9_at_15 rfl rfl rfl ?_
      refine Vj_aldTENS (at_in (n := 7) (by decide) h5 h11) dX9_at_16 rfl ?_
      refine Vj_goto (q := 21) dX9_at_17 (by decide) ?_
      exact Vr_iret rfl rfl dX9_at_21 (⟨by rw [rd, if_pos ⟨i_nlt h5, i_nle h11⟩], rfl⟩)
theorem qX9_atTENSn {σ : Mem} {j : Nat} (hj : j < 7) : Ct shX 0 mX9_at [.ref 1000, .int (nI j)] σ (Ri (tTENS j) σ) := by
  have h := qX9_atTENS (σ := σ) (nI j)
  rwa [rd_in hj (by decide)] at h
set_option maxRecDepth 100000 in
theorem qX9_atORDERS {σ : Mem} (i : Int32) : Ct shX 0 mX9_at [.ref 1001, .int i] σ (Ri (rd 7 tORD i) σ) := by
  refine Ct.of (by decide) (Nat.le_of_ble_eq_true rfl) (l := [some (.ref 1001), some (.int i)]) rfl ?_
  refine Vj_aloadn dX9_at_0 rfl rfl rfl ?_
  refine Vj_ifnull dX9_at_1 rfl ?_
  refine Vj_iloadn dX9_at_4 rfl rfl rfl ?_
  refine Vj_if_lt (tgt := 20) dX9_at_5 (by decide) rfl (fun h5 => ?_) (fun h5 => ?_)
  ·
    have hz : ¬ (0 ≤ i ∧ i < nI 7) := fun z => absurd h5 (Int32.not_lt.mpr z.1)
    refine Vj_iconst (v := 0) dX9_at_20 rfl (by decide) ?_
    exact Vr_iret rfl rfl dX9_at_21 ⟨by rw [rd, if_neg hz], rfl⟩
  ·
    refine Vj_iloadn dX9_at_8 rfl rfl rfl ?_
    refine Vj_aloadn dX9_at_9 rfl rfl rfl ?_
    refine Vj_alenORDERS dX9_at_10 rfl ?_
    refine Vj_icmp_ge (tgt := 20) dX9_at_11 (by decide) rfl (fun h11 => ?_) (fun h11 => ?_)
    ·
      have hz : ¬ (0 ≤ i ∧ i < nI 7) := fun z => absurd h11 (Int32.not_le.mpr z.2)
      refine Vj_iconst (v := 0) dX9_at_20 rfl (by decide) ?_
      exact Vr_iret rfl rfl dX9_at_21 ⟨by rw [rd, if_neg hz], rfl⟩
    ·
      refine Vj_aloadn dX9_at_14 rfl rfl rfl ?_
      refine Vj_iloadn dX9_at_15 rfl rfl rfl ?_
      refine Vj_aldORDERS (at_in (n := 7) (by decide) h5 h11) dX9_at_16 rfl ?_
      refine Vj_goto (q := 21) dX9_at_17 (by decide) ?_
      exact Vr_iret rfl rfl dX9_at_21 (⟨by rw [rd, if_pos ⟨i_nlt h5, i_nle h11⟩], rfl⟩)
theorem qX9_atORDERSn {σ : Mem} {j : Nat} (hj : j < 7) : Ct shX 0 mX9_at [.ref 1001, .int (nI j)] σ (Ri (tORD j) σ) := by
  have h := qX9_atORDERS (σ := σ) (nI j)
  rwa [rd_in hj (by decide)] at h
set_option maxRecDepth 100000 in
theorem qX9_put {σ : Mem} {q n : Nat} (hq : shX[q]? = some (.inl (0, n))) (hn : n < 2 ^ 31) (i x : Int32) : Ct shX 0 mX9_put [.ref q, .int i, .int x] σ (Rv (wr σ q n i x)) := by
  refine Ct.of (by decide) (Nat.le_of_ble_eq_true rfl) (l := [some (.ref q), some (.int i), some (.int x)]) rfl ?_
  refine Vj_aloadn dX9_put_0 rfl rfl rfl ?_
  refine Vj_ifnull dX9_put_1 rfl ?_
  refine Vj_iloadn dX9_put_4 rfl rfl rfl ?_
  refine Vj_if_lt (tgt := 18) dX9_put_5 (by decide) rfl (fun h5 => ?_) (fun h5 => ?_)
  ·
    exact Vr_vret rfl dX9_put_18 ⟨rfl, by rw [wr, if_neg (fun z => absurd h5 (Int32.not_lt.mpr z.1))]⟩
  ·
    refine Vj_iloadn dX9_put_8 rfl rfl rfl ?_
    refine Vj_aloadn dX9_put_9 rfl rfl rfl ?_
    refine Vj_alen hq rfl dX9_put_10 rfl ?_
    refine Vj_icmp_ge (tgt := 18) dX9_put_11 (by decide) rfl (fun h11 => ?_) (fun h11 => ?_)
    ·
      exact Vr_vret rfl dX9_put_18 ⟨rfl, by rw [wr, if_neg (fun z => absurd h11 (Int32.not_le.mpr z.2))]⟩
    ·
      refine Vj_aloadn dX9_put_14 rfl rfl rfl ?_
      refine Vj_iloadn dX9_put_15 rfl rfl rfl ?_
      refine Vj_iloadn dX9_put_16 rfl rfl rfl ?_
      refine Vj_iast hq (at_in hn h5 h11) dX9_put_17 rfl ?_
      exact Vr_vret rfl dX9_put_18 ⟨rfl, by rw [wr, if_pos ⟨i_nlt h5, i_nle h11⟩]⟩
theorem qX9_putn {σ : Mem} {q n : Nat} (hq : shX[q]? = some (.inl (0, n))) (hn : n < 2 ^ 31) {j : Nat} (hj : j < n) (x : Int32) : Ct shX 0 mX9_put [.ref q, .int (nI j), .int x] σ (Rv (uI σ q j x)) := by
  have h := qX9_put (σ := σ) hq hn (nI j) x
  rwa [wr_in hj hn] at h
