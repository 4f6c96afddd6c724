/-! the law from its entry -/
theorem big_in {w : Cond} (h : w ∈ lw_big) : w ∈ lw_tbl := (List.mem_filter.mp h).1
theorem nest_in {w : Cond} (h : w ∈ lw_nest) : w ∈ lw_tbl := List.mem_append_right _ (List.mem_filter.mp h).1
theorem nest_at {w : Cond} (h : w ∈ lw_nest) : w.onTables = true := by
  have hn := (List.mem_filter.mp h).2
  cases w <;> first
    | rfl
    | (exfalso; revert hn; simp [q_nestW])
theorem st_TENS {s : State} {args : Array Value} {A : Nat → Prop} (hs : ∀ c ∈ flatC (Jvm.Cond.and given_1 narrow_1), c.before args s = true) (hts : ∀ w ∈ lw_tbl, w.before args s = true) (hA : ∀ a : Nat, a < s.heap.size → ¬ A a) : ∃ t : Nat, va_Z "FiveRemotes" "TENS" "[I" (.ref t) A s s.heap ∧ va_T .int t 7 (fun j => .int (tTENS j)) A s s.heap := by
  obtain ⟨t, ht, hT⟩ := va_Tof (tm := (.static "FiveRemotes" "TENS" "[I")) (ty := .int) (N := 7) (f := fun j => .int (tTENS j)) (A := A) (by decide) (hs (.arrayOf (.static "FiveRemotes" "TENS" "[I") .int) (by decide +kernel)) (va_eqt (hs (.eq (.length (.static "FiveRemotes" "TENS" "[I")) (.int 7)) (by decide +kernel))) (fun j hj => by
    rcases (show j = 0 ∨ j = 1 ∨ j = 2 ∨ j = 3 ∨ j = 4 ∨ j = 5 ∨ j = 6 by omega) with rfl | rfl | rfl | rfl | rfl | rfl | rfl
    · exact va_eqt (hs (.eq (.elem (.static "FiveRemotes" "TENS" "[I") (.int 0)) (.int 1)) (by decide +kernel))
    · exact va_eqt (hs (.eq (.elem (.static "FiveRemotes" "TENS" "[I") (.int 1)) (.int 10)) (by decide +kernel))
    · exact va_eqt (hs (.eq (.elem (.static "FiveRemotes" "TENS" "[I") (.int 2)) (.int 100)) (by decide +kernel))
    · exact va_eqt (hs (.eq (.elem (.static "FiveRemotes" "TENS" "[I") (.int 3)) (.int 1000)) (by decide +kernel))
    · exact va_eqt (hs (.eq (.elem (.static "FiveRemotes" "TENS" "[I") (.int 4)) (.int 10000)) (by decide +kernel))
    · exact va_eqt (hs (.eq (.elem (.static "FiveRemotes" "TENS" "[I") (.int 5)) (.int 100000)) (by decide +kernel))
    · exact va_eqt (hs (.eq (.elem (.static "FiveRemotes" "TENS" "[I") (.int 6)) (.int 1000000)) (by decide +kernel))) hA
  exact ⟨t, va_Zref (hts _ la_TENS) (hts _ (big_in in_FR)) ht hA, hT⟩
theorem st_ORDERS {s : State} {args : Array Value} {A : Nat → Prop} (hs : ∀ c ∈ flatC (Jvm.Cond.and given_1 narrow_1), c.before args s = true) (hts : ∀ w ∈ lw_tbl, w.before args s = true) (hA : ∀ a : Nat, a < s.heap.size → ¬ A a) : ∃ t : Nat, va_Z "FiveRemotes" "ORDERS" "[I" (.ref t) A s s.heap ∧ va_T .int t 7 (fun j => .int (tORD j)) A s s.heap := by
  obtain ⟨t, ht, hT⟩ := va_Tof (tm := (.static "FiveRemotes" "ORDERS" "[I")) (ty := .int) (N := 7) (f := fun j => .int (tORD j)) (A := A) (by decide) (hs (.arrayOf (.static "FiveRemotes" "ORDERS" "[I") .int) (by decide +kernel)) (va_eqt (hs (.eq (.length (.static "FiveRemotes" "ORDERS" "[I")) (.int 7)) (by decide +kernel))) (fun j hj => by
    rcases (show j = 0 ∨ j = 1 ∨ j = 2 ∨ j = 3 ∨ j = 4 ∨ j = 5 ∨ j = 6 by omega) with rfl | rfl | rfl | rfl | rfl | rfl | rfl
    · exact va_eqt (hs (.eq (.elem (.static "FiveRemotes" "ORDERS" "[I") (.int 0)) (.int 1)) (by decide +kernel))
    · exact va_eqt (hs (.eq (.elem (.static "FiveRemotes" "ORDERS" "[I") (.int 1)) (.int 1)) (by decide +kernel))
    · exact va_eqt (hs (.eq (.elem (.static "FiveRemotes" "ORDERS" "[I") (.int 2)) (.int 2)) (by decide +kernel))
    · exact va_eqt (hs (.eq (.elem (.static "FiveRemotes" "ORDERS" "[I") (.int 3)) (.int 6)) (by decide +kernel))
    · exact va_eqt (hs (.eq (.elem (.static "FiveRemotes" "ORDERS" "[I") (.int 4)) (.int 24)) (by decide +kernel))
    · exact va_eqt (hs (.eq (.elem (.static "FiveRemotes" "ORDERS" "[I") (.int 5)) (.int 120)) (by decide +kernel))
    · exact va_eqt (hs (.eq (.elem (.static "FiveRemotes" "ORDERS" "[I") (.int 6)) (.int 720)) (by decide +kernel))) hA
  exact ⟨t, va_Zref (hts _ la_ORDERS) (hts _ (big_in in_FR)) ht hA, hT⟩
theorem arr_of {s : State} {args : Array Value} {ty : FieldType} (h : (Cond.arrayClass ty).before args s = true) : ∃ cA : ClassId, ArrOfT s cA ty ∧ s.vm.findClass ("[" ++ ty.toString) = some cA := by
  obtain ⟨cA, kA, comp, h1, h2, h3⟩ := Cond.arrayClass_spec h
  exact ⟨cA, fun n z => ⟨fun k h => (by cases h), kA, h2, comp, h3⟩, h1⟩
theorem cls_of {s : State} {args : Array Value} (hts : ∀ w ∈ lw_tbl, w.before args s = true) : ∀ k : Nat, ∃ (cC : ClassId) (iS : Nat → Nat), ∀ q, vwCl[k]? = some q → u_Kn s q.1 q.2.1 q.2.2 cC iS := by
  intro k
  match k with
    | 0 => by
      obtain ⟨cC, iS, hK⟩ := u_known (C := RX0) (T := TX0) (N := 7) hts (fun w hw => big_in (inX0 w hw)) (hts _ (big_in ibX0))
      exact ⟨cC, iS, fun q hq => by cases hq; exact hK⟩
    | 1 => by
      obtain ⟨cC, iS, hK⟩ := u_known (C := RX1) (T := TX1) (N := 5) hts (fun w hw => big_in (inX1 w hw)) (hts _ (big_in ibX1))
      exact ⟨cC, iS, fun q hq => by cases hq; exact hK⟩
    | 2 => by
      obtain ⟨cC, iS, hK⟩ := u_known (C := RX2) (T := TX2) (N := 5) hts (fun w hw => big_in (inX2 w hw)) (hts _ (big_in ibX2))
      exact ⟨cC, iS, fun q hq => by cases hq; exact hK⟩
    | 3 => by
      obtain ⟨cC, iS, hK⟩ := u_known (C := RX3) (T := TX3) (N := 1) hts (fun w hw => big_in (inX3 w hw)) (hts _ (big_in ibX3))
      exact ⟨cC, iS, fun q hq => by cases hq; exact hK⟩
    | 4 => by
      obtain ⟨cC, iS, hK⟩ := u_known (C := RX4) (T := TX4) (N := 2) hts (fun w hw => big_in (inX4 w hw)) (hts _ (big_in ibX4))
      exact ⟨cC, iS, fun q hq => by cases hq; exact hK⟩
    | 5 => by
      obtain ⟨cC, iS, hK⟩ := u_known (C := RX5) (T := TX5) (N := 6) hts (fun w hw => big_in (inX5 w hw)) (hts _ (big_in ibX5))
      exact ⟨cC, iS, fun q hq => by cases hq; exact hK⟩
    | 6 => by
      obtain ⟨cC, iS, hK⟩ := u_known (C := RX6) (T := TX6) (N := 3) hts (fun w hw => big_in (inX6 w hw)) (hts _ (big_in ibX6))
      exact ⟨cC, iS, fun q hq => by cases hq; exact hK⟩
    | 7 => by
      obtain ⟨cC, iS, hK⟩ := u_known (C := RX7) (T := TX7) (N := 3) hts (fun w hw => big_in (inX7 w hw)) (hts _ (big_in ibX7))
      exact ⟨cC, iS, fun q hq => by cases hq; exact hK⟩
    | 8 => by
      obtain ⟨cC, iS, hK⟩ := u_known (C := RX8) (T := TX8) (N := 2) hts (fun w hw => big_in (inX8 w hw)) (hts _ (big_in ibX8))
      exact ⟨cC, iS, fun q hq => by cases hq; exact hK⟩
    | 9 => by
      obtain ⟨cC, iS, hK⟩ := u_known (C := RX9) (T := TX9) (N := 13) hts (fun w hw => big_in (inX9 w hw)) (hts _ (big_in ibX9))
      exact ⟨cC, iS, fun q hq => by cases hq; exact hK⟩
    | 10 => by
      obtain ⟨cC, iS, hK⟩ := u_known (C := RX10) (T := TX10) (N := 34) hts (fun w hw => big_in (inX10 w hw)) (hts _ (big_in ibX10))
      exact ⟨cC, iS, fun q hq => by cases hq; exact hK⟩
    | k + 11 => exact ⟨0, fun _ => 0, fun q hq => by simp [vwCl] at hq⟩
theorem wdk_B (ad : Nat → Nat) (B B' : Nat → Prop) (F : u_F) (σ : Mem) : ∀ (sh : Shp) (i : Nat), wdk (ad, B, F) σ i sh = wdk (ad, B', F) σ i sh
  | [], _ => rfl
  | x :: r, i => by
    rw [wdk, wdk, wdk_B ad B B' F σ r (i + 1)]
    cases x <;> rfl
theorem wd_B (ad : Nat → Nat) (B B' : Nat → Prop) (F : u_F) (σ : Mem) (sh : Shp) : wd sh (ad, B, F) σ = wd sh (ad, B', F) σ := by
  rw [wd_k, wd_k]; exact wdk_B ad B B' F σ sh 0
theorem BX_e {E : Qe} (B B' : Nat → Prop) {h0 : Nat} : BX E B h0 = BX E B' h0 := by
  funext ws
  refine propext ⟨fun h => ?_, fun h => ?_⟩
  · obtain ⟨ad, σ, h1, h2, h3, h4, h5⟩ := h
    exact ⟨ad, σ, h1, h2, h3, h4.trans (wd_B ad B B' E.2.2 σ shX), h5⟩
  · obtain ⟨ad, σ, h1, h2, h3, h4, h5⟩ := h
    exact ⟨ad, σ, h1, h2, h3, h4.trans (wd_B ad B' B E.2.2 σ shX), h5⟩
theorem BM_e {E : Qe} (B B' : Nat → Prop) {h0 : Nat} : BM E B h0 = BM E B' h0 := by
  funext ws
  refine propext ⟨fun h => ?_, fun h => ?_⟩
  · obtain ⟨ad, h1, h2, h3, h4⟩ := h
    exact ⟨ad, h1, h2, h3, h4.trans (wd_B ad B B' E.2.2 s_M0 shM)⟩
  · obtain ⟨ad, h1, h2, h3, h4⟩ := h
    exact ⟨ad, h1, h2, h3, h4.trans (wd_B ad B' B E.2.2 s_M0 shM)⟩

