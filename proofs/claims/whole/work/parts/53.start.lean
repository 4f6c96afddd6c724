/-! the law from its entry -/
theorem big_in {w : Cond} (h : w ∈ lw_big) : w ∈ lw_tbl := (List.mem_filter.mp h).1
theorem nest_in {w : Cond} (h : w ∈ lw_nest) : w ∈ lw_tbl := List.mem_append_right _ (List.mem_filter.mp h).1
theorem nest_at {w : Cond} (h : w ∈ lw_nest) : w.onTables = true := by
  have hn := (List.mem_filter.mp h).2
  cases w <;> first
    | rfl
    | (exfalso; revert hn; simp [q_nestW])
theorem st_TENS {s : State} {args : Array Value} {A : Nat → Prop} (hs : ∀ c ∈ flatC (Jvm.Cond.and given_1 narrow_1), c.before args s = true) (hts : ∀ w ∈ lw_tbl, w.before args s = true) (hA : ∀ a : Nat, a < s.heap.size → ¬ A a) : ∃ t : Nat, va_Z "FiveRemotes" "TENS" "[I" (.ref t) A s s.heap ∧ va_T .int t 7 (fun j => .int (tTENS j)) A s s.heap := by
  obtain ⟨t, ht, hT⟩ := va_Tof (tm := (.static "FiveRemotes" "TENS" "[I")) (ty := .int) (N := 7) (f := fun j => .int (tTENS j)) (A := A) (by decide) (hs (.arrayOf (.static "FiveRemotes" "TENS" "[I") .int) (by decide +kernel)) (va_eqt (hs (.eq (.length (.static "FiveRemotes" "TENS" "[I")) (.int 7)) (by decide +kernel))) (fun j hj => by
    rcases (show j = 0 ∨ j = 1 ∨ j = 2 ∨ j = 3 ∨ j = 4 ∨ j = 5 ∨ j = 6 by omega) with rfl | rfl | rfl | rfl | rfl | rfl | rfl
    · exact va_eqt (hs (.eq (.elem (.static "FiveRemotes" "TENS" "[I") (.int 0)) (.int 1)) (by decide +kernel))
    · exact va_eqt (hs (.eq (.elem (.static "FiveRemotes" "TENS" "[I") (.int 1)) (.int 10)) (by decide +kernel))
    · exact va_eqt (hs (.eq (.elem (.static "FiveRemotes" "TENS" "[I") (.int 2)) (.int 100)) (by decide +kernel))
    · exact va_eqt (hs (.eq (.elem (.static "FiveRemotes" "TENS" "[I") (.int 3)) (.int 1000)) (by decide +kernel))
    · exact va_eqt (hs (.eq (.elem (.static "FiveRemotes" "TENS" "[I") (.int 4)) (.int 10000)) (by decide +kernel))
    · exact va_eqt (hs (.eq (.elem (.static "FiveRemotes" "TENS" "[I") (.int 5)) (.int 100000)) (by decide +kernel))
    · exact va_eqt (hs (.eq (.elem (.static "FiveRemotes" "TENS" "[I") (.int 6)) (.int 1000000)) (by decide +kernel))) hA
  exact ⟨t, va_Zref (hts _ la_TENS) (hts _ (big_in in_FR)) ht hA, hT⟩
theorem st_ORDERS {s : State} {args : Array Value} {A : Nat → Prop} (hs : ∀ c ∈ flatC (Jvm.Cond.and given_1 narrow_1), c.before args s = true) (hts : ∀ w ∈ lw_tbl, w.before args s = true) (hA : ∀ a : Nat, a < s.heap.size → ¬ A a) : ∃ t : Nat, va_Z "FiveRemotes" "ORDERS" "[I" (.ref t) A s s.heap ∧ va_T .int t 7 (fun j => .int (tORD j)) A s s.heap := by
  obtain ⟨t, ht, hT⟩ := va_Tof (tm := (.static "FiveRemotes" "ORDERS" "[I")) (ty := .int) (N := 7) (f := fun j => .int (tORD j)) (A := A) (by decide) (hs (.arrayOf (.static "FiveRemotes" "ORDERS" "[I") .int) (by decide +kernel)) (va_eqt (hs (.eq (.length (.static "FiveRemotes" "ORDERS" "[I")) (.int 7)) (by decide +kernel))) (fun j hj => by
    rcases (show j = 0 ∨ j = 1 ∨ j = 2 ∨ j = 3 ∨ j = 4 ∨ j = 5 ∨ j = 6 by omega) with rfl | rfl | rfl | rfl | rfl | rfl | rfl
    · exact va_eqt (hs (.eq (.elem (.static "FiveRemotes" "ORDERS" "[I") (.int 0)) (.int 1)) (by decide +kernel))
    · exact va_eqt (hs (.eq (.elem (.static "FiveRemotes" "ORDERS" "[I") (.int 1)) (.int 1)) (by decide +kernel))
    · exact va_eqt (hs (.eq (.elem (.static "FiveRemotes" "ORDERS" "[I") (.int 2)) (.int 2)) (by decide +kernel))
    · exact va_eqt (hs (.eq (.elem (.static "FiveRemotes" "ORDERS" "[I") (.int 3)) (.int 6)) (by decide +kernel))
    · exact va_eqt (hs (.eq (.elem (.static "FiveRemotes" "ORDERS" "[I") (.int 4)) (.int 24)) (by decide +kernel))
    · exact va_eqt (hs (.eq (.elem (.static "FiveRemotes" "ORDERS" "[I") (.int 5)) (.int 120)) (by decide +kernel))
    · exact va_eqt (hs (.eq (.elem (.static "FiveRemotes" "ORDERS" "[I") (.int 6)) (.int 720)) (by decide +kernel))) hA
  exact ⟨t, va_Zref (hts _ la_ORDERS) (hts _ (big_in in_FR)) ht hA, hT⟩
theorem arr_of {s : State} {args : Array Value} {ty : FieldType} (h : (Cond.arrayClass ty).before args s = true) : ∃ cA : ClassId, ArrOfT s cA ty ∧ s.vm.findClass ("[" ++ ty.toString) = some cA := by
  obtain ⟨cA, kA, comp, h1, h2, h3⟩ := Cond.arrayClass_spec h
  exact ⟨cA, fun n z => ⟨fun k h => (by cases h), kA, h2, comp, h3⟩, h1⟩
theorem cls_of {s : State} {args : Array Value} (hts : ∀ w ∈ lw_tbl, w.before args s = true) : ∀ k : Nat, ∃ (cC : ClassId) (iS : Nat → Nat), ∀ q, vwCl[k]? = some q → u_Kn s q.1 q.2.1 q.2.2 cC iS := by
  intro k
  match k with
    | 0 =>
      obtain ⟨cC, iS, hK⟩ := u_known (C := RX0) (T := TX0) (N := 7) hts (fun w hw => big_in (inX0 w hw)) (hts _ (big_in ibX0))
      exact ⟨cC, iS, fun q hq => by cases hq; exact hK⟩
    | 1 =>
      obtain ⟨cC, iS, hK⟩ := u_known (C := RX1) (T := TX1) (N := 5) hts (fun w hw => big_in (inX1 w hw)) (hts _ (big_in ibX1))
      exact ⟨cC, iS, fun q hq => by cases hq; exact hK⟩
    | 2 =>
      obtain ⟨cC, iS, hK⟩ := u_known (C := RX2) (T := TX2) (N := 5) hts (fun w hw => big_in (inX2 w hw)) (hts _ (big_in ibX2))
      exact ⟨cC, iS, fun q hq => by cases hq; exact hK⟩
    | 3 =>
      obtain ⟨cC, iS, hK⟩ := u_known (C := RX3) (T := TX3) (N := 1) hts (fun w hw => big_in (inX3 w hw)) (hts _ (big_in ibX3))
      exact ⟨cC, iS, fun q hq => by cases hq; exact hK⟩
    | 4 =>
      obtain ⟨cC, iS, hK⟩ := u_known (C := RX4) (T := TX4) (N := 2) hts (fun w hw => big_in (inX4 w hw)) (hts _ (big_in ibX4))
      exact ⟨cC, iS, fun q hq => by cases hq; exact hK⟩
    | 5 =>
      obtain ⟨cC, iS, hK⟩ := u_known (C := RX5) (T := TX5) (N := 6) hts (fun w hw => big_in (inX5 w hw)) (hts _ (big_in ibX5))
      exact ⟨cC, iS, fun q hq => by cases hq; exact hK⟩
    | 6 =>
      obtain ⟨cC, iS, hK⟩ := u_known (C := RX6) (T := TX6) (N := 3) hts (fun w hw => big_in (inX6 w hw)) (hts _ (big_in ibX6))
      exact ⟨cC, iS, fun q hq => by cases hq; exact hK⟩
    | 7 =>
      obtain ⟨cC, iS, hK⟩ := u_known (C := RX7) (T := TX7) (N := 3) hts (fun w hw => big_in (inX7 w hw)) (hts _ (big_in ibX7))
      exact ⟨cC, iS, fun q hq => by cases hq; exact hK⟩
    | 8 =>
      obtain ⟨cC, iS, hK⟩ := u_known (C := RX8) (T := TX8) (N := 2) hts (fun w hw => big_in (inX8 w hw)) (hts _ (big_in ibX8))
      exact ⟨cC, iS, fun q hq => by cases hq; exact hK⟩
    | 9 =>
      obtain ⟨cC, iS, hK⟩ := u_known (C := RX9) (T := TX9) (N := 13) hts (fun w hw => big_in (inX9 w hw)) (hts _ (big_in ibX9))
      exact ⟨cC, iS, fun q hq => by cases hq; exact hK⟩
    | 10 =>
      obtain ⟨cC, iS, hK⟩ := u_known (C := RX10) (T := TX10) (N := 34) hts (fun w hw => big_in (inX10 w hw)) (hts _ (big_in ibX10))
      exact ⟨cC, iS, fun q hq => by cases hq; exact hK⟩
    | k + 11 => exact ⟨0, fun _ => 0, fun q hq => by simp [vwCl] at hq⟩
theorem wdk_B (ad : Nat → Nat) (B B' : Nat → Prop) (F : u_F) (σ : Mem) : ∀ (sh : Shp) (i : Nat), wdk (ad, B, F) σ i sh = wdk (ad, B', F) σ i sh
  | [], _ => rfl
  | x :: r, i => by
    rw [wdk, wdk, wdk_B ad B B' F σ r (i + 1)]
    cases x <;> rfl
theorem wd_B (ad : Nat → Nat) (B B' : Nat → Prop) (F : u_F) (σ : Mem) (sh : Shp) : wd sh (ad, B, F) σ = wd sh (ad, B', F) σ := by
  rw [wd_k, wd_k]; exact wdk_B ad B B' F σ sh 0
theorem BX_e {E : Qe} (B B' : Nat → Prop) {h0 : Nat} : BX E B h0 = BX E B' h0 := by
  funext ws
  refine propext ⟨fun h => ?_, fun h => ?_⟩
  · obtain ⟨ad, σ, h1, h2, h3, h4, h5⟩ := h
    exact ⟨ad, σ, h1, h2, h3, h4.trans (wd_B ad B B' E.2.2 σ shX), h5⟩
  · obtain ⟨ad, σ, h1, h2, h3, h4, h5⟩ := h
    exact ⟨ad, σ, h1, h2, h3, h4.trans (wd_B ad B' B E.2.2 σ shX), h5⟩
theorem BM_e {E : Qe} (B B' : Nat → Prop) {h0 : Nat} : BM E B h0 = BM E B' h0 := by
  funext ws
  refine propext ⟨fun h => ?_, fun h => ?_⟩
  · obtain ⟨ad, h1, h2, h3, h4⟩ := h
    exact ⟨ad, h1, h2, h3, h4.trans (wd_B ad B B' E.2.2 s_M0 shM)⟩
  · obtain ⟨ad, h1, h2, h3, h4⟩ := h
    exact ⟨ad, h1, h2, h3, h4.trans (wd_B ad B' B E.2.2 s_M0 shM)⟩

theorem st_S {p : Program} {s : State} {m : MethodId} {meth : Method} {c : Code} {b L : Nat} {xs : Nat → Int32} (C0 : lw_At p s m meth c b L xs) : ∃ (F : u_F) (e0 : Nat → Nat), Sx (e0, LwA s, F) s s.heap := by
  obtain ⟨hx, hb, hr, hml, hown, hts, hX, hbl, hlocks, hgv⟩ := C0
  have hnA : ∀ a : Nat, a < s.heap.size → ¬ LwA s a := fun a h z => absurd h (Nat.not_lt.mpr z)
  have hs := flat_of_before _ hgv
  obtain ⟨tT, hT1, hT2⟩ := st_TENS hs hts hnA
  obtain ⟨tO, hO1, hO2⟩ := st_ORDERS hs hts hnA
  obtain ⟨cI, hI1, hI2⟩ := arr_of (hts _ (big_in ac_int))
  obtain ⟨cZ, hZ1, hZ2⟩ := arr_of (hts _ (big_in ac_boolean))
  obtain ⟨F, hF⟩ : ∃ F : u_F, va_K (F.1, F.2.1) vwCl [(F.2.2.1, .int), (F.2.2.2, .boolean)] s := by
    have h := cls_of hts
    refine ⟨(fun k => (h k).choose, fun k => (h k).choose_spec.choose, cI, cZ), fun k q hq => (h k).choose_spec.choose_spec q hq, fun k q hq => ?_⟩
    match k, hq with
    | 0, hq => cases hq; exact ⟨hI1, hI2⟩
    | 1, hq => cases hq; exact ⟨hZ1, hZ2⟩
    | k + 2, hq => simp at hq
  have hN : ∀ w ∈ lw_nest, va_Nw w s := fun w hw => va_Nw.of (nest_at hw) (hts w (nest_in hw))
  have hSx : ∀ ad : Nat → Nat, ad 1000 = tT → ad 1001 = tO → Sx (ad, LwA s, F) s s.heap := by
    intro ad h1 h2
    unfold Sx
    simp only [h1, h2]
    exact ⟨hF, hN, ⟨hT1, hT2⟩, hO1, hO2⟩
  exact ⟨F, fun i => if i = 1000 then tT else tO, hSx _ rfl rfl⟩
theorem Sx.ad {A : Nat → Prop} {F : u_F} {ad ad' : Nat → Nat} {s : State} {H : Heap} (h : Sx (ad, A, F) s H) (h0 : ad' 1000 = ad 1000) (h1 : ad' 1001 = ad 1001) : Sx (ad', A, F) s H := by
  unfold Sx at h ⊢
  simp only at h ⊢
  rw [h0, h1]
  exact h
theorem st_ok : okV 0 ([], []) 0 0 0 [] (fun _ => none) [] := by
  have hcV : cV ([], []) 0 := ⟨by decide, by decide⟩
  exact ⟨okR_0, hcV, hcV, Nat.le_refl _, by decide, ⟨by decide, fun i hi => absurd hi (Nat.not_lt_zero i)⟩, fun i u hu => (by cases hu), by decide, fun i hi => absurd hi (Nat.not_lt_zero i)⟩
theorem st_loop {p : Program} {l : Launch} {e : Env} {s : State} {m : MethodId} {below : List Frame} {meth : Method} {c : Code} {b L : Nat} {xs : Nat → Int32} {F : u_F} {aX aM : Nat → Nat} {H : Heap} {locs : List Loc} {ls : Array Slot} {cc ss : Nat} {σ : Mem} (C0 : lw_At p s m meth c b L xs) (hL : L ≤ 384) (hSx : Sx (aX, LwA s, F) s s.heap) (h1 : aM 1000 = aX 1000) (h2 : aM 1001 = aX 1001) (hRX : RX [] ([], []) 0 0 0 [] (fun _ => none) [] 0 σ) (hP : va_P (F.1, F.2.1) vwCl (w2 s F aX aM σ s_M0) H) (hD : va_D (LwA s) (w2 s F aX aM σ s_M0)) (hS : va_S (LwA s) s.heap H locs) (hl : lv_has ls 4 [(3, .int 0), (2, .ref (aM 0)), (1, .ref (aX 0)), (0, .ref b)]) (hc : cc ≤ 600000) (hs : ss ≤ 7302250) : W p l e room_1 s m #[Value.ref b] below meth c H locs cc ss (lw_Z below #[Value.ref b] s) (F0 m 18 ls []) := by
  refine W.widen (k := 600000) (n := 7302250) hc hs ?_
  have hC : Cl p s m meth c b L xs F aX aM := ⟨C0, hSx, h1, h2⟩
  refine law_loop hC hL (la := l) (e := e) (below := below) L 0 0 [] ([], []) 0 0 0 [] (fun _ => none) [] 0 σ s_M0 (by omega) (by omega) (Nat.le_refl _) hRX RM_0 st_ok H locs ls hP hD hS ⟨hl.1, hl.2.1, fun i v hv => ?_⟩
  match i, hv with
  | 0, hv => cases hv; exact hl.2.2 (0, .ref b) (by simp)
  | 1, hv => cases hv; exact hl.2.2 (1, .ref (aX 0)) (by simp)
  | 2, hv => cases hv; exact hl.2.2 (2, .ref (aM 0)) (by simp)
  | 3, hv => cases hv; exact hl.2.2 (3, .int 0) (by simp)
  | i + 4, hv => simp at hv
theorem C0_big {p : Program} {s : State} {m : MethodId} {meth : Method} {c : Code} {b L : Nat} {xs : Nat → Int32} (C0 : lw_At p s m meth c b L xs) : ∀ w ∈ lw_big, w.before #[Value.ref b] s = true := fun w hw => C0.2.2.2.2.2.1 w (big_in hw)
theorem C0_fix {p : Program} {s : State} {m : MethodId} {meth : Method} {c : Code} {b L : Nat} {xs : Nat → Int32} (C0 : lw_At p s m meth c b L xs) : CallFix p m c code 4 s #[Value.ref b] lw_big R_law := ⟨C0.1, C0.2.1, C0.2.2.2.1, C0.2.2.2.2.1, C0_big C0⟩
theorem C0_A {s : State} : ∀ q : Nat, s.heap.size ≤ q → LwA s q := fun _ h => h
theorem BX_all {E : Qe} {A : Nat → Prop} (h0 : Nat) (B : Nat → Prop) : Cn 6 48 4877 mX9_init [.ref h0] (E.1, B, E.2.2) [(h0, .inr (9, [.null, .null, .null, .null, .null, .null, .null, .null, .null, .null, .null, .int 0, .long 0]))] (BX E A h0) := by
  rw [BX_e A B]; exact nX9_init h0 B
theorem BM_all {E : Qe} {A : Nat → Prop} (h0 : Nat) (B : Nat → Prop) : Cn 1 19 2036 mX10_init [.ref h0] (E.1, B, E.2.2) [(h0, .inr (10, [.int 0, .int 0, .int 0, .null, .null, .null, .null, .null, .null, .int 0, .int 0, .int 0, .null, .null, .null, .int 0, .int 0, .null, .int 0, .int 0, .int 0, .int 0, .int 0, .null, .null, .int 0, .null, .null, .null, .null, .null, .long 0, .null, .null]))] (BM E A h0) := by
  rw [BM_e A B]; exact nX10_init h0 B
/-- from the second constructor's call -/
theorem st_M2 {p : Program} {l : Launch} {e : Env} {s : State} {m : MethodId} {below : List Frame} {meth : Method} {c : Code} {b L : Nat} {xs : Nat → Int32} {F : u_F} {aX : Nat → Nat} {H : Heap} {locs : List Loc} {ls : Array Slot} {q1 cc ss : Nat} {wr : va_W} (C0 : lw_At p s m meth c b L xs) (hSx : Sx (aX, LwA s, F) s s.heap) (hc : cc + 19 ≤ 600000) (hs : ss + 2036 ≤ 7302250) (hP : va_P (F.1, F.2.1) vwCl (wr ++ [(q1, .inr (10, [.int 0, .int 0, .int 0, .null, .null, .null, .null, .null, .null, .int 0, .int 0, .int 0, .null, .null, .null, .int 0, .int 0, .null, .int 0, .int 0, .int 0, .int 0, .int 0, .null, .null, .int 0, .null, .null, .null, .null, .null, .long 0, .null, .null]))]) H) (hD : va_D (LwA s) (wr ++ [(q1, .inr (10, [.int 0, .int 0, .int 0, .null, .null, .null, .null, .null, .null, .int 0, .int 0, .int 0, .null, .null, .null, .int 0, .int 0, .null, .int 0, .int 0, .int 0, .int 0, .int 0, .null, .null, .int 0, .null, .null, .null, .null, .null, .long 0, .null, .null]))])) (hS : va_S (LwA s) s.heap H locs) (hl : ls.size = 4)
    (kk : ∀ (aM : Nat → Nat) (H : Heap) (locs : List Loc), aM 0 = q1 → aM 1000 = aX 1000 → aM 1001 = aX 1001 → va_P (F.1, F.2.1) vwCl (wr ++ wd shM (aM, LwA s, F) s_M0) H → va_D (LwA s) (wr ++ wd shM (aM, LwA s, F) s_M0) → va_S (LwA s) s.heap H locs → W p l e room_1 s m #[Value.ref b] below meth c H locs (cc + 19) (ss + 2036) (lw_Z below #[Value.ref b] s) (F0 m 15 ls [.ref q1])) : W p l e room_1 s m #[Value.ref b] below meth c H locs cc ss (lw_Z below #[Value.ref b] s) (F0 m 12 ls [.ref q1, .ref q1]) := by
  have hfix := C0_fix C0
  refine W_init (E := (aX, LwA s, F)) (k' := 1) (d' := 8) (av := []) (rest := [.ref q1]) (wr := wr) (wc := [(q1, .inr (10, [.int 0, .int 0, .int 0, .null, .null, .null, .null, .null, .null, .int 0, .int 0, .int 0, .null, .null, .null, .int 0, .int 0, .null, .int 0, .int 0, .int 0, .int 0, .int 0, .null, .null, .int 0, .null, .null, .null, .null, .null, .long 0, .null, .null]))]) (Mid := BM (aX, LwA s, F) (LwA s) q1) hfix hSx C0_A (fun B => BM_all q1 B) (by decide) ⟨by decide, by decide⟩ liL_12 okX10_init imX10_init rfl hc hs dL_law_12 rfl (Nat.le_of_ble_eq_true rfl) hl hP hD hS ?_
  intro w1 H locs hm hP hD hS
  obtain ⟨aM, hm0, hm1, hm2, hw⟩ := hm
  subst hw
  exact kk aM H locs hm0 hm1 hm2 hP hD hS
/-- from the first constructor's call -/
theorem st_X3 {p : Program} {l : Launch} {e : Env} {s : State} {m : MethodId} {below : List Frame} {meth : Method} {c : Code} {b L : Nat} {xs : Nat → Int32} {F : u_F} {e0 : Nat → Nat} {H : Heap} {locs : List Loc} {ls : Array Slot} {q1 cc ss : Nat} {wr : va_W} (C0 : lw_At p s m meth c b L xs) (hSx : Sx (e0, LwA s, F) s s.heap) (hc : cc + 48 ≤ 600000) (hs : ss + 4877 ≤ 7302250) (hP : va_P (F.1, F.2.1) vwCl (wr ++ [(q1, .inr (9, [.null, .null, .null, .null, .null, .null, .null, .null, .null, .null, .null, .int 0, .long 0]))]) H) (hD : va_D (LwA s) (wr ++ [(q1, .inr (9, [.null, .null, .null, .null, .null, .null, .null, .null, .null, .null, .null, .int 0, .long 0]))])) (hS : va_S (LwA s) s.heap H locs) (hl : ls.size = 4)
    (kk : ∀ (w1 : va_W) (H : Heap) (locs : List Loc), BX (e0, LwA s, F) (LwA s) q1 w1 → va_P (F.1, F.2.1) vwCl (wr ++ w1) H → va_D (LwA s) (wr ++ w1) → va_S (LwA s) s.heap H locs → W p l e room_1 s m #[Value.ref b] below meth c H locs (cc + 48) (ss + 4877) (lw_Z below #[Value.ref b] s) (F0 m 7 ls [.ref q1])) : W p l e room_1 s m #[Value.ref b] below meth c H locs cc ss (lw_Z below #[Value.ref b] s) (F0 m 4 ls [.ref q1, .ref q1]) := by
  have hfix := C0_fix C0
  exact W_init (E := (e0, LwA s, F)) (k' := 6) (d' := 8) (av := []) (rest := [.ref q1]) (wr := wr) (wc := [(q1, .inr (9, [.null, .null, .null, .null, .null, .null, .null, .null, .null, .null, .null, .int 0, .long 0]))]) (Mid := BX (e0, LwA s, F) (LwA s) q1) hfix hSx C0_A (fun B => BX_all q1 B) (by decide) ⟨by decide, by decide⟩ liL_9 okX9_init imX9_init rfl hc hs dL_law_4 rfl (Nat.le_of_ble_eq_true rfl) hl hP hD hS kk
theorem st_X2 {p : Program} {l : Launch} {e : Env} {s : State} {m : MethodId} {below : List Frame} {meth : Method} {c : Code} {b L : Nat} {xs : Nat → Int32} {F : u_F} {e0 : Nat → Nat} {H : Heap} {locs : List Loc} {ls : Array Slot} {q1 cc ss : Nat} {wr : va_W} (C0 : lw_At p s m meth c b L xs) (hSx : Sx (e0, LwA s, F) s s.heap) (hc : cc + 48 ≤ 600000) (hs : ss + 4877 ≤ 7302250) (hP : va_P (F.1, F.2.1) vwCl (wr ++ [(q1, .inr (9, [.null, .null, .null, .null, .null, .null, .null, .null, .null, .null, .null, .int 0, .long 0]))]) H) (hD : va_D (LwA s) (wr ++ [(q1, .inr (9, [.null, .null, .null, .null, .null, .null, .null, .null, .null, .null, .null, .int 0, .long 0]))])) (hS : va_S (LwA s) s.heap H locs) (hl : ls.size = 4)
    (kk : ∀ (aX : Nat → Nat) (σ : Mem) (H : Heap) (locs : List Loc), aX 0 = q1 → aX 1000 = e0 1000 → aX 1001 = e0 1001 → RX [] ([], []) 0 0 0 [] (fun _ => none) [] 0 σ → va_P (F.1, F.2.1) vwCl (wr ++ wd shX (aX, LwA s, F) σ) H → va_D (LwA s) (wr ++ wd shX (aX, LwA s, F) σ) → va_S (LwA s) s.heap H locs → W p l e room_1 s m #[Value.ref b] below meth c H locs (cc + 48) (ss + 4877) (lw_Z below #[Value.ref b] s) (F0 m 7 ls [.ref q1])) : W p l e room_1 s m #[Value.ref b] below meth c H locs cc ss (lw_Z below #[Value.ref b] s) (F0 m 4 ls [.ref q1, .ref q1]) := by
  refine st_X3 C0 hSx hc hs hP hD hS hl (fun w1 H locs hm hP hD hS => ?_)
  exact Exists.elim hm fun aX hm => Exists.elim hm fun σ hm => by
    have hw : w1 = wd shX (aX, LwA s, F) σ := hm.2.2.2.1
    rw [hw] at hP hD
    exact kk aX σ H locs hm.1 hm.2.1 hm.2.2.1 hm.2.2.2.2 hP hD hS
/-- the second object -/
theorem st_M1 {p : Program} {l : Launch} {e : Env} {s : State} {m : MethodId} {below : List Frame} {meth : Method} {c : Code} {b L : Nat} {xs : Nat → Int32} {F : u_F} {aX : Nat → Nat} {H : Heap} {locs : List Loc} {ls : Array Slot} {cc ss : Nat} {wr : va_W} (C0 : lw_At p s m meth c b L xs) (hSx : Sx (aX, LwA s, F) s s.heap) (hc : cc + 1 ≤ 600000) (hs : ss + 34 ≤ 7302250) (hP : va_P (F.1, F.2.1) vwCl wr H) (hD : va_D (LwA s) wr) (hS : va_S (LwA s) s.heap H locs)
    (kk : ∀ (q1 : Nat) (H : Heap), va_P (F.1, F.2.1) vwCl (wr ++ [(q1, .inr (10, [.int 0, .int 0, .int 0, .null, .null, .null, .null, .null, .null, .int 0, .int 0, .int 0, .null, .null, .null, .int 0, .int 0, .null, .int 0, .int 0, .int 0, .int 0, .int 0, .null, .null, .int 0, .null, .null, .null, .null, .null, .long 0, .null, .null]))]) H → va_D (LwA s) (wr ++ [(q1, .inr (10, [.int 0, .int 0, .int 0, .null, .null, .null, .null, .null, .null, .int 0, .int 0, .int 0, .null, .null, .null, .int 0, .int 0, .null, .int 0, .int 0, .int 0, .int 0, .int 0, .null, .null, .int 0, .null, .null, .null, .null, .null, .long 0, .null, .null]))]) → va_S (LwA s) s.heap H locs → W p l e room_1 s m #[Value.ref b] below meth c H locs (cc + 1) (ss + 34) (lw_Z below #[Value.ref b] s) (F0 m 11 ls [.ref q1])) : W p l e room_1 s m #[Value.ref b] below meth c H locs cc ss (lw_Z below #[Value.ref b] s) (F0 m 8 ls []) := by
  have hbig := C0_big C0
  exact va_new (ci := 10) (fs := [.int 0, .int 0, .int 0, .null, .null, .null, .null, .null, .null, .int 0, .int 0, .int 0, .null, .null, .null, .int 0, .int 0, .null, .int 0, .int 0, .int 0, .int 0, .int 0, .null, .null, .int 0, .null, .null, .null, .null, .null, .long 0, .null, .null]) (C := RX10) (T := TX10) (N := 34) C0.1 C0.2.1 (Ts := lw_big) hbig inX10 tyX10 tyX10_ok C0.2.2.2.2.1 (hbig _ clL_10) (hbig _ ibX10) (hbig _ okX10_init.2.1) hSx.1 hP hD hS C0_A rfl (by decide) hc hs dL_law_8 kk
/-- the first object -/
theorem st_X1 {p : Program} {l : Launch} {e : Env} {s : State} {m : MethodId} {below : List Frame} {meth : Method} {c : Code} {b L : Nat} {xs : Nat → Int32} {F : u_F} {aX : Nat → Nat} {H : Heap} {locs : List Loc} {ls : Array Slot} {cc ss : Nat} {wr : va_W} (C0 : lw_At p s m meth c b L xs) (hSx : Sx (aX, LwA s, F) s s.heap) (hc : cc + 1 ≤ 600000) (hs : ss + 13 ≤ 7302250) (hP : va_P (F.1, F.2.1) vwCl wr H) (hD : va_D (LwA s) wr) (hS : va_S (LwA s) s.heap H locs)
    (kk : ∀ (q1 : Nat) (H : Heap), va_P (F.1, F.2.1) vwCl (wr ++ [(q1, .inr (9, [.null, .null, .null, .null, .null, .null, .null, .null, .null, .null, .null, .int 0, .long 0]))]) H → va_D (LwA s) (wr ++ [(q1, .inr (9, [.null, .null, .null, .null, .null, .null, .null, .null, .null, .null, .null, .int 0, .long 0]))]) → va_S (LwA s) s.heap H locs → W p l e room_1 s m #[Value.ref b] below meth c H locs (cc + 1) (ss + 13) (lw_Z below #[Value.ref b] s) (F0 m 3 ls [.ref q1])) : W p l e room_1 s m #[Value.ref b] below meth c H locs cc ss (lw_Z below #[Value.ref b] s) (F0 m 0 ls []) := by
  have hbig := C0_big C0
  exact va_new (ci := 9) (fs := [.null, .null, .null, .null, .null, .null, .null, .null, .null, .null, .null, .int 0, .long 0]) (C := RX9) (T := TX9) (N := 13) C0.1 C0.2.1 (Ts := lw_big) hbig inX9 tyX9 tyX9_ok C0.2.2.2.2.1 (hbig _ clL_7) (hbig _ ibX9) (hbig _ okX9_init.2.1) hSx.1 hP hD hS C0_A rfl (by decide) hc hs dL_law_0 kk
theorem whole_start {p : Program} {e : Env} {s : State} {m : MethodId} {below : List Frame} {meth : Method} {c : Code} (l : Launch) (hflags : l.flags = flags0) {b L : Nat} {xs : Nat → Int32} (hL : L ≤ 384) (C0 : lw_At p s m meth c b L xs) : W p l e room_1 s m #[Value.ref b] below meth c s.heap [] 0 0 (lw_Z below #[Value.ref b] s) (entryFrame m ([Value.ref b] : List Value).toArray 4) := by
  obtain ⟨F, e0, hSx⟩ := st_S C0
  have hx := C0.1
  have hb := C0.2.1
  have hS : va_S (LwA s) s.heap s.heap [] := va_S.rf
  have hP : va_P (F.1, F.2.1) vwCl [] s.heap := fun k q h => by simp at h
  have hD : va_D (LwA s) [] := ⟨fun i j p q h => by simp at h, fun k q h => by simp at h⟩
  have hl := lv_entry ([.ref b]) (n := 4) (Nat.le_of_ble_eq_true rfl)
  rw [lg_entry_eq]
  generalize (lg_sl ([.ref b]) ++ List.replicate (4 - (lg_sl ([.ref b])).length) Slot.unset).toArray = ls at hl ⊢
  have hl : lv_has ls 4 [(0, .ref b)] := hl
  refine st_X1 C0 hSx (by omega) (by omega) hP hD hS ?_
  intro q0 H hP1 hD1 hS1
  refine lv_dup hx hb dL_law_3 rfl ?_
  refine st_X2 C0 hSx (by omega) (by omega) hP1 hD1 hS1 hl.1 ?_
  clear hP1 hD1 hS1
  intro aX σ H locs h0 h1 h2 hRX hP2 hD2 hS2
  rw [List.nil_append] at hP2 hD2
  subst h0
  refine lv_astore_n (lv' := [(1, .ref (aX 0)), (0, .ref b)]) hx hb dL_law_7 rfl hl (by decide) rfl ?_
  clear hl
  intro ls hl1
  have hSX : Sx (aX, LwA s, F) s s.heap := hSx.ad h1 h2
  refine st_M1 C0 hSX (by omega) (by omega) hP2 hD2 hS2 ?_
  clear hP2 hD2 hS2
  intro q1 H hP3 hD3 hS3
  refine lv_dup hx hb dL_law_11 rfl ?_
  refine st_M2 C0 hSX (by omega) (by omega) hP3 hD3 hS3 hl1.1 ?_
  clear hP3 hD3 hS3
  intro aM H locs h3 h4 h5 hP4 hD4 hS4
  subst h3
  refine lv_astore_n (lv' := [(2, .ref (aM 0)), (1, .ref (aX 0)), (0, .ref b)]) hx hb dL_law_15 rfl hl1 (by decide) rfl ?_
  clear hl1
  intro ls hl2
  refine lv_iconst (v := 0) hx hb dL_law_16 (by decide) ?_
  refine lv_istore_n (lv' := [(3, .int 0), (2, .ref (aM 0)), (1, .ref (aX 0)), (0, .ref b)]) hx hb dL_law_17 rfl hl2 (by decide) rfl ?_
  clear hl2
  intro ls hl3
  exact st_loop C0 hL hSX h4 h5 hRX hP4 hD4 hS4 hl3 (by omega) (by omega)
-- ===== YOUR PART ENDS =====
set_option maxHeartbeats 4000000 in
theorem lw_walk (l : Launch) (hflags : l.flags = flags0) (b : Addr) (xs : List Int32) : MetFree l x (headSpec (Jvm.Cond.code x code maxLocals ret :: tables_1) room_1) (lw_P b xs) (fun _ _ _ _ _ => True) lw_Q := by
  refine MetFree.of_bodyS (code := code) (maxLocals := maxLocals) (ret := ret) (by decide) ?_ ?_
  · intro args s m h hn
    obtain ⟨meth, c, h1, h2, h3, h4, h5, h6, -, -⟩ := Cond.code_spec hn (atoms_spec (ws := Jvm.Cond.code x code maxLocals ret :: tables_1) h _ List.mem_cons_self)
    exact ⟨meth, c, h1, h2, h3, h4, h5, h6⟩
  · intro p e s m args below meth c s₁ B hml0 hP _
    obtain ⟨rfl, hx, hbd, hgv⟩ := hP
    obtain ⟨scr, harrAt, hlist, hof, hsmall⟩ := hx
    obtain ⟨hcb, hkn, -, -⟩ := State.arrayAt?_spec harrAt
    have hown : s.vm.findClass R_law = some m.cls := findClass_of_methodNamed B.named
    have hts0 : ∀ c ∈ (Jvm.Cond.code x code maxLocals ret :: tables_1), c.before #[Value.ref b] s = true := atoms_spec (ws := Jvm.Cond.code x code maxLocals ret :: tables_1) B.pre
    have hts : ∀ w ∈ lw_tbl, w.before #[Value.ref b] s = true := k2_hts_sels lw_privs (fun w hw => hts0 w (List.mem_cons_of_mem _ hw)) lw_privs_ok
    have hml : c.maxLocals = 4 := B.maxLocals_eq (hts0 _ List.mem_cons_self)
    have X₀ : Stand p l e room_1 s m #[Value.ref b] below meth c s₁ [] 0 0 := Stand.of_body B
    have hh0 : s₁.heap = s.heap := by rw [B.state]; rfl
    have hsz : scr.slots.size = xs.length := by rw [← Array.length_toList, hlist, List.length_map]
    have hval : ∀ j : Nat, j < xs.length → scr.slots[j]? = some (.int (xs.getD j 0)) := fun j hj => by
      rw [← Array.getElem?_toList, hlist]
      simp [hj]
    have hbl : b < s.heap.size := (Array.getElem?_eq_some_iff.mp hcb).1
    have hX : va_X b xs.length (fun j => xs.getD j 0) s s.heap := ⟨scr, hcb, hof, hkn, hsz, hval⟩
    have K : W p l e room_1 s m #[Value.ref b] below meth c s₁.heap [] 0 0 (lw_Z below #[Value.ref b] s) (entryFrame m ([Value.ref b] : List Value).toArray 4) := by
      rw [hh0]
      exact whole_start l hflags hbd ⟨B.exec, B.bytes, B.returns, hml, hown, hts, hX, hbl, B.notSynchronized, hgv⟩
    obtain ⟨t, a1, o, b1, b2, b3⟩ := K s₁ rfl X₀
    exact ⟨t, o, a1, b1, b2, b3⟩
theorem lw_pre_spec {args : Array Value} {s : State} (h : (Jvm.Cond.and given_1 narrow_1).before args s = true) (hr : rest_1_c.before args s = true) : ∃ (b : Addr) (xs : List Int32), lw_P b xs args s := by
  have hs := flat_of_before _ h
  have hq := flat_of_before _ hr
  have hc : (Cond.count 1).before args s = true := hs _ (by decide +kernel)
  have harr : (Cond.arrayOf (.arg 0) .int).before args s = true := hs _ (by decide +kernel)
  have hle : (Cond.le (.length (.arg 0)) (.int 384)).before args s = true := hs _ (by decide +kernel)
  have hlen : (Cond.isInt (.length (.arg 0))).before args s = true := hq _ (by decide +kernel)
  have hall : (Cond.all (.arg 0) (.isInt (.elem (.arg 0) (.index 0)))).before args s = true := hq _ (by decide +kernel)
  obtain ⟨b, xs, hb, hx⟩ := State.ints_of_pre rfl harr hlen hall
  have hsm : xs.length < 2 ^ 31 := hx.choose_spec.2.2.2
  have hev : (Term.length (.arg 0)).eval args s none [] s = some (.int xs.length.toInt32) := hx.length_eval hb
  have hv := Cond.le_ints hev (show (Term.int 384).eval args s none [] s = some (.int 384) from rfl)
  have hd : xs.length.toInt32 ≤ 384 := by
    simpa [Cond.before, Cond.holds, hv] using hle
  have hN : xs.length ≤ 384 := (Int32.ofNat_le_ofNat hsm (by decide)).mp (show Int32.ofNat xs.length ≤ Int32.ofNat 384 from hd)
  exact ⟨b, xs, Cond.one_arg hc (show args[0]? = some (.ref b) from hb), hx, hN, h⟩
theorem lw_comes (l : Launch) (hflags : l.flags = flags0) : Comes l x (Jvm.Cond.code x code maxLocals ret :: tables_1) room_1 (fun tb e args s => Calls_1 tb e args s ∧ rest_1 tb e args s ∧ Pre_1 tb e args s)
    (fun _ _ args s o t => lw_Q args s o t) := by
  intro p e ha hc hk s m args below hf hfit hheap happ hpre
  obtain ⟨b, xs, hP⟩ := lw_pre_spec hpre.2.2 hpre.2.1
  obtain ⟨k, o, h1, h2, h3, hQ⟩ := lw_walk l hflags b xs p e ha hc hk s m args below hf ((Spec.applies_iff_loose hf).mp happ).1 hP trivial
  exact ⟨k, o, h1, h2, h3, hQ⟩
theorem lw_frame {s t : State} {o : Outcome} {args : Array Value} (h : Framed s o t [] 600000 7302250) :
    Framed s o t (fieldLocs frame_1_writes args s ++ arrayLocs frame_1_arrays args s ++ staticLocs frame_1_statics s) 600000 7302250 := h
theorem lw_limb (L : Cond) (hL : ∀ (args : Array Value) (s t : State), L.after args s (.returned (some (.int 1))) t = true) :
    ArmFor flags0 classFile x code maxLocals ret World_1 tables_1 room_1 Calls_1 rest_1 Pre_1
      (fun tb e a s o t => postC L tb e a s o t ∧ Framed s o t (fieldLocs frame_1_writes a s ++ arrayLocs frame_1_arrays a s ++ staticLocs frame_1_statics s) 600000 7302250) := by
  intro l hflags _ _ p e ha hc hk s m args below hf hfit hheap happ hpre
  obtain ⟨k, o, h1, h2, h3, rfl, hF⟩ := lw_comes l hflags p e ha hc hk s m args below hf hfit hheap happ hpre
  exact ⟨k, _, h1, h2, h3, hL args s _, lw_frame hF⟩
theorem i_vc : Claimed_1_1 ∧ Claimed_1_2 := ⟨lw_limb limb_1_1 (fun args s t => by simp [limb_1_1, Cond.after, Cond.holds, Cond.value]), lw_limb limb_1_2 (fun args s t => Cond.after_iff.mpr (by
  first | (rw [show limb_1_2 = Cond.eq .result (.int 1) from rfl, Cond.eq_ints (x := 1) (y := 1) rfl rfl]; simp; done) | (simp [limb_1_2, Cond.value, Term.eval]; done)))⟩
