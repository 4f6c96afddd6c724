/-! one call on both sides -/
theorem uV.up {ρ : Rm} {N : Nat} {u : Nat × Nat × Nat} (h : uV ρ N u) : uV ρ (N + 1) u := ⟨h.1, h.2.1, by have := h.2.2; omega⟩

theorem okV.up {N : Nat} {ρ : Rm} {c d p : Nat} {ac : List (Nat × Nat × Nat)} {sl : Nat → Option (Nat × Nat × Nat)} {se : List (Nat × Nat × Nat)} (h : okV N ρ c d p ac sl se) (hN : N < 1000) : okV (N + 1) ρ c d p ac sl se := by
  obtain ⟨hr, hc, hd, hp, hN30, ⟨hal, hav⟩, hsv, hse⟩ := h
  exact ⟨hr, hc, hd, by omega, by omega, ⟨hal, fun i hi => (hav i hi).up⟩, fun i u hu => (hsv i u hu).up, hse⟩
theorem okV.now {N : Nat} {ρ : Rm} {c d p : Nat} {ac : List (Nat × Nat × Nat)} {sl : Nat → Option (Nat × Nat × Nat)} {se : List (Nat × Nat × Nat)} (h : okV N ρ c d p ac sl se) (hN : N < 1000) {c' d' p' : Nat} (hc : cV ρ c') (hd : cV ρ d') (hp : p' ≤ N + 1) : okV (N + 1) ρ c' d' p' ac sl se := by
  obtain ⟨hr, -, -, -, hN30, ⟨hal, hav⟩, hsv, hse⟩ := h.up hN
  exact ⟨hr, hc, hd, hp, hN30, ⟨hal, hav⟩, hsv, hse⟩
theorem okV.acts {N : Nat} {ρ : Rm} {c d p : Nat} {ac : List (Nat × Nat × Nat)} {sl : Nat → Option (Nat × Nat × Nat)} {se : List (Nat × Nat × Nat)} (h : okV N ρ c d p ac sl se) {ac' : List (Nat × Nat × Nat)} (h1 : ac'.length < 15) (h2 : ∀ i, i < ac'.length → uV ρ N (ac'.getD i (0, 0, 0))) : okV N ρ c d p ac' sl se := by
  obtain ⟨hr, hc, hd, hp, hN30, -, hsv, hse⟩ := h
  exact ⟨hr, hc, hd, hp, hN30, ⟨h1, h2⟩, hsv, hse⟩
theorem okV.push {N : Nat} {ρ : Rm} {c d p : Nat} {ac : List (Nat × Nat × Nat)} {sl : Nat → Option (Nat × Nat × Nat)} {se : List (Nat × Nat × Nat)} (h : okV N ρ c d p ac sl se) (hN : N < 1000) : (pushA ac (c, d, p)).length < 15 ∧ ∀ i, i < (pushA ac (c, d, p)).length → uV ρ (N + 1) ((pushA ac (c, d, p)).getD i (0, 0, 0)) := by
  obtain ⟨hr, hc, hd, hp, hN30, ⟨hal, hav⟩, hsv, hse⟩ := h
  have hL := pushA_len (u := (c, d, p)) hal
  refine ⟨by rw [hL]; split <;> omega, fun i hi => ?_⟩
  by_cases e : i + 1 = (pushA ac (c, d, p)).length
  · rw [pushA_e hal e]
    exact ⟨hc, hd, by show p ≤ N + 1; omega⟩
  · rw [pushA_g hal (by omega)]
    refine (hav _ ?_).up
    rw [hL] at hi e
    split at hi <;> simp_all <;> omega
theorem okV.seen {N : Nat} {ρ : Rm} {c d p : Nat} {ac : List (Nat × Nat × Nat)} {sl : Nat → Option (Nat × Nat × Nat)} {se : List (Nat × Nat × Nat)} (h : okV N ρ c d p ac sl se) {se' : List (Nat × Nat × Nat)} (h1 : seV se') : okV N ρ c d p ac sl se' := by
  obtain ⟨hr, hc, hd, hp, hN30, ha, hsv, -⟩ := h
  exact ⟨hr, hc, hd, hp, hN30, ha, hsv, h1⟩
theorem okV.slots {N : Nat} {ρ : Rm} {c d p : Nat} {ac : List (Nat × Nat × Nat)} {sl : Nat → Option (Nat × Nat × Nat)} {se : List (Nat × Nat × Nat)} (h : okV N ρ c d p ac sl se) {sl' : Nat → Option (Nat × Nat × Nat)} (h1 : ∀ i u, sl' i = some u → uV ρ N u) : okV N ρ c d p ac sl' se := by
  obtain ⟨hr, hc, hd, hp, hN30, ha, -, hse⟩ := h
  exact ⟨hr, hc, hd, hp, hN30, ha, h1, hse⟩
theorem Ct.up {sh : Shp} {k k2 : Nat} {M : MI} {av : List Value} {σ : Mem} {Post : Option Value → Mem → Prop} (h : Ct sh k M av σ Post) (hk : k ≤ k2) : Ct sh k2 M av σ Post := fun d hd => h d (Nat.le_trans hk hd)
/-- x.m(args) and m.m(args) answer alike, and go alike -/
def sBth (mX mM : MI) (av : List Value) (N : Nat) (σ τ : Mem) : Prop := ∃ (v : Int32) (tx : List Nat) (ρ : Rm) (c d p : Nat) (ac : List (Nat × Nat × Nat)) (sl : Nat → Option (Nat × Nat × Nat)) (se : List (Nat × Nat × Nat)) (sd : Int64),
  Ct shX 8 mX (.ref 0 :: av) σ (PX v tx ρ c d p ac sl se sd) ∧ Ct shM 8 mM (.ref 0 :: av) τ (PM v tx ρ c d p ac sl se sd) ∧ okV (N + 1) ρ c d p ac sl se

theorem s_wipe {tx : List Nat} {ρ : Rm} {c d p : Nat} {ac : List (Nat × Nat × Nat)} {sl : Nat → Option (Nat × Nat × Nat)} {se : List (Nat × Nat × Nat)} {sd : Int64} {N : Nat} {σ τ : Mem} (h : RX tx ρ c d p ac sl se sd σ) (g : RM tx ρ c d p ac sl se sd τ) (hv : okV N ρ c d p ac sl se) (hN : N < 1000) : sBth mX9_wipe mX10_wipe [] N σ τ :=
  ⟨_, _, _, _, _, _, _, _, _, _, (qX9_wipe h hv ).up (by decide), (qX10_wipe g hv ).up (by decide), hv.up hN⟩
theorem s_fault {tx : List Nat} {ρ : Rm} {c d p : Nat} {ac : List (Nat × Nat × Nat)} {sl : Nat → Option (Nat × Nat × Nat)} {se : List (Nat × Nat × Nat)} {sd : Int64} {N : Nat} {σ τ : Mem} (h : RX tx ρ c d p ac sl se sd σ) (g : RM tx ρ c d p ac sl se sd τ) (hv : okV N ρ c d p ac sl se) (hN : N < 1000) : sBth mX9_fault mX10_fault [] N σ τ :=
  ⟨_, _, _, _, _, _, _, _, _, _, (qX9_fault h hv ).up (by decide), (qX10_fault g hv ).up (by decide), hv.up hN⟩
theorem s_thing {tx : List Nat} {ρ : Rm} {c d p : Nat} {ac : List (Nat × Nat × Nat)} {sl : Nat → Option (Nat × Nat × Nat)} {se : List (Nat × Nat × Nat)} {sd : Int64} {N : Nat} {σ τ : Mem} (h : RX tx ρ c d p ac sl se sd σ) (g : RM tx ρ c d p ac sl se sd τ) (hv : okV N ρ c d p ac sl se) (hN : N < 1000) (x y : Int32) : sBth mX9_thing mX10_thing [.int x, .int y] N σ τ :=
  ⟨_, _, _, _, _, _, _, _, _, _, (qX9_thing h hv x y).up (by decide), (qX10_thing g hv x y).up (by decide), hv.up hN⟩
theorem s_button {tx : List Nat} {ρ : Rm} {c d p : Nat} {ac : List (Nat × Nat × Nat)} {sl : Nat → Option (Nat × Nat × Nat)} {se : List (Nat × Nat × Nat)} {sd : Int64} {N : Nat} {σ τ : Mem} (h : RX tx ρ c d p ac sl se sd σ) (g : RM tx ρ c d p ac sl se sd τ) (hv : okV N ρ c d p ac sl se) (hN : N < 1000) (x y : Int32) : sBth mX9_button mX10_button [.int x, .int y] N σ τ :=
  ⟨_, _, _, _, _, _, _, _, _, _, (qX9_button h hv x y).up (by decide), (qX10_button g hv x y).up (by decide), hv.up hN⟩
theorem s_after {tx : List Nat} {ρ : Rm} {c d p : Nat} {ac : List (Nat × Nat × Nat)} {sl : Nat → Option (Nat × Nat × Nat)} {se : List (Nat × Nat × Nat)} {sd : Int64} {N : Nat} {σ τ : Mem} (h : RX tx ρ c d p ac sl se sd σ) (g : RM tx ρ c d p ac sl se sd τ) (hv : okV N ρ c d p ac sl se) (hN : N < 1000) (x y : Int32) : sBth mX9_after mX10_after [.int x, .int y] N σ τ :=
  ⟨_, _, _, _, _, _, _, _, _, _, (qX9_after h hv x y).up (by decide), (qX10_after g hv x y).up (by decide), hv.up hN⟩
theorem s_all {tx : List Nat} {ρ : Rm} {c d p : Nat} {ac : List (Nat × Nat × Nat)} {sl : Nat → Option (Nat × Nat × Nat)} {se : List (Nat × Nat × Nat)} {sd : Int64} {N : Nat} {σ τ : Mem} (h : RX tx ρ c d p ac sl se sd σ) (g : RM tx ρ c d p ac sl se sd τ) (hv : okV N ρ c d p ac sl se) (hN : N < 1000) : sBth mX9_all mX10_all [] N σ τ :=
  ⟨_, _, _, _, _, _, _, _, _, _, (qX9_all h hv ).up (by decide), (qX10_all g hv ).up (by decide), hv.up hN⟩
theorem s_fewest {tx : List Nat} {ρ : Rm} {c d p : Nat} {ac : List (Nat × Nat × Nat)} {sl : Nat → Option (Nat × Nat × Nat)} {se : List (Nat × Nat × Nat)} {sd : Int64} {N : Nat} {σ τ : Mem} (h : RX tx ρ c d p ac sl se sd σ) (g : RM tx ρ c d p ac sl se sd τ) (hv : okV N ρ c d p ac sl se) (hN : N < 1000) (x y : Int32) : sBth mX9_fewest mX10_fewest [.int x, .int y] N σ τ :=
  ⟨_, _, _, _, _, _, _, _, _, _, (qX9_fewest h hv x y).up (by decide), (qX10_fewest g hv x y).up (by decide), hv.up hN⟩
theorem s_worst {tx : List Nat} {ρ : Rm} {c d p : Nat} {ac : List (Nat × Nat × Nat)} {sl : Nat → Option (Nat × Nat × Nat)} {se : List (Nat × Nat × Nat)} {sd : Int64} {N : Nat} {σ τ : Mem} (h : RX tx ρ c d p ac sl se sd σ) (g : RM tx ρ c d p ac sl se sd τ) (hv : okV N ρ c d p ac sl se) (hN : N < 1000) (x y : Int32) : sBth mX9_worst mX10_worst [.int x, .int y] N σ τ :=
  ⟨_, _, _, _, _, _, _, _, _, _, (qX9_worst h hv x y).up (by decide), (qX10_worst g hv x y).up (by decide), hv.up hN⟩
theorem s_sure {tx : List Nat} {ρ : Rm} {c d p : Nat} {ac : List (Nat × Nat × Nat)} {sl : Nat → Option (Nat × Nat × Nat)} {se : List (Nat × Nat × Nat)} {sd : Int64} {N : Nat} {σ τ : Mem} (h : RX tx ρ c d p ac sl se sd σ) (g : RM tx ρ c d p ac sl se sd τ) (hv : okV N ρ c d p ac sl se) (hN : N < 1000) (x y : Int32) : sBth mX9_sure mX10_sure [.int x, .int y] N σ τ :=
  ⟨_, _, _, _, _, _, _, _, _, _, (qX9_sure h hv x y).up (by decide), (qX10_sure g hv x y).up (by decide), hv.up hN⟩
theorem s_needed {tx : List Nat} {ρ : Rm} {c d p : Nat} {ac : List (Nat × Nat × Nat)} {sl : Nat → Option (Nat × Nat × Nat)} {se : List (Nat × Nat × Nat)} {sd : Int64} {N : Nat} {σ τ : Mem} (h : RX tx ρ c d p ac sl se sd σ) (g : RM tx ρ c d p ac sl se sd τ) (hv : okV N ρ c d p ac sl se) (hN : N < 1000) (x : Int32) : sBth mX9_needed mX10_needed [.int x] N σ τ :=
  ⟨_, _, _, _, _, _, _, _, _, _, (qX9_needed h hv x).up (by decide), (qX10_needed g hv x).up (by decide), hv.up hN⟩
theorem s_judge {tx : List Nat} {ρ : Rm} {c d p : Nat} {ac : List (Nat × Nat × Nat)} {sl : Nat → Option (Nat × Nat × Nat)} {se : List (Nat × Nat × Nat)} {sd : Int64} {N : Nat} {σ τ : Mem} (h : RX tx ρ c d p ac sl se sd σ) (g : RM tx ρ c d p ac sl se sd τ) (hv : okV N ρ c d p ac sl se) (hN : N < 1000) (x y : Int32) : sBth mX9_judge mX10_judge [.int x, .int y] N σ τ :=
  ⟨_, _, _, _, _, _, _, _, _, _, (qX9_judge h hv x y).up (by decide), (qX10_judge g hv x y).up (by decide), hv.up hN⟩
theorem s_may {tx : List Nat} {ρ : Rm} {c d p : Nat} {ac : List (Nat × Nat × Nat)} {sl : Nat → Option (Nat × Nat × Nat)} {se : List (Nat × Nat × Nat)} {sd : Int64} {N : Nat} {σ τ : Mem} (h : RX tx ρ c d p ac sl se sd σ) (g : RM tx ρ c d p ac sl se sd τ) (hv : okV N ρ c d p ac sl se) (hN : N < 1000) (x : Int32) : sBth mX9_may mX10_may [.int x] N σ τ :=
  ⟨_, _, _, _, _, _, _, _, _, _, (qX9_may h hv x).up (by decide), (qX10_may g hv x).up (by decide), hv.up hN⟩
theorem s_tells {tx : List Nat} {ρ : Rm} {c d p : Nat} {ac : List (Nat × Nat × Nat)} {sl : Nat → Option (Nat × Nat × Nat)} {se : List (Nat × Nat × Nat)} {sd : Int64} {N : Nat} {σ τ : Mem} (h : RX tx ρ c d p ac sl se sd σ) (g : RM tx ρ c d p ac sl se sd τ) (hv : okV N ρ c d p ac sl se) (hN : N < 1000) (x : Int32) : sBth mX9_tells mX10_tells [.int x] N σ τ :=
  ⟨_, _, _, _, _, _, _, _, _, _, (qX9_tells h hv x).up (by decide), (qX10_tells g hv x).up (by decide), hv.up hN⟩
theorem s_share {tx : List Nat} {ρ : Rm} {c d p : Nat} {ac : List (Nat × Nat × Nat)} {sl : Nat → Option (Nat × Nat × Nat)} {se : List (Nat × Nat × Nat)} {sd : Int64} {N : Nat} {σ τ : Mem} (h : RX tx ρ c d p ac sl se sd σ) (g : RM tx ρ c d p ac sl se sd τ) (hv : okV N ρ c d p ac sl se) (hN : N < 1000) (x y z : Int32) : sBth mX9_share mX10_share [.int x, .int y, .int z] N σ τ :=
  ⟨_, _, _, _, _, _, _, _, _, _, (qX9_share h hv x y z).up (by decide), (qX10_share g hv x y z).up (by decide), hv.up hN⟩
theorem s_rests {tx : List Nat} {ρ : Rm} {c d p : Nat} {ac : List (Nat × Nat × Nat)} {sl : Nat → Option (Nat × Nat × Nat)} {se : List (Nat × Nat × Nat)} {sd : Int64} {N : Nat} {σ τ : Mem} (h : RX tx ρ c d p ac sl se sd σ) (g : RM tx ρ c d p ac sl se sd τ) (hv : okV N ρ c d p ac sl se) (hN : N < 1000) (x y z u v : Int32) : sBth mX9_rests mX10_rests [.int x, .int y, .int z, .int u, .int v] N σ τ :=
  ⟨_, _, _, _, _, _, _, _, _, _, (qX9_rests h hv x y z u v).up (by decide), (qX10_rests g hv x y z u v).up (by decide), hv.up hN⟩
theorem s_weak {tx : List Nat} {ρ : Rm} {c d p : Nat} {ac : List (Nat × Nat × Nat)} {sl : Nat → Option (Nat × Nat × Nat)} {se : List (Nat × Nat × Nat)} {sd : Int64} {N : Nat} {σ τ : Mem} (h : RX tx ρ c d p ac sl se sd σ) (g : RM tx ρ c d p ac sl se sd τ) (hv : okV N ρ c d p ac sl se) (hN : N < 1000) (x y z u v : Int32) : sBth mX9_weak mX10_weak [.int x, .int y, .int z, .int u, .int v] N σ τ :=
  ⟨_, _, _, _, _, _, _, _, _, _, (qX9_weak h hv x y z u v).up (by decide), (qX10_weak g hv x y z u v).up (by decide), hv.up hN⟩
theorem s_evenings {tx : List Nat} {ρ : Rm} {c d p : Nat} {ac : List (Nat × Nat × Nat)} {sl : Nat → Option (Nat × Nat × Nat)} {se : List (Nat × Nat × Nat)} {sd : Int64} {N : Nat} {σ τ : Mem} (h : RX tx ρ c d p ac sl se sd σ) (g : RM tx ρ c d p ac sl se sd τ) (hv : okV N ρ c d p ac sl se) (hN : N < 1000) (x : Int32) : sBth mX9_evenings mX10_evenings [.int x] N σ τ :=
  ⟨_, _, _, _, _, _, _, _, _, _, (qX9_evenings h hv x).up (by decide), (qX10_evenings g hv x).up (by decide), hv.up hN⟩
theorem s_count {tx : List Nat} {ρ : Rm} {c d p : Nat} {ac : List (Nat × Nat × Nat)} {sl : Nat → Option (Nat × Nat × Nat)} {se : List (Nat × Nat × Nat)} {sd : Int64} {N : Nat} {σ τ : Mem} (h : RX tx ρ c d p ac sl se sd σ) (g : RM tx ρ c d p ac sl se sd τ) (hv : okV N ρ c d p ac sl se) (hN : N < 1000) (x : Int32) : sBth mX9_count mX10_count [.int x] N σ τ :=
  ⟨_, _, _, _, _, _, _, _, _, _, (qX9_count h hv x).up (by decide), (qX10_count g hv x).up (by decide), hv.up hN⟩
theorem s_write {tx : List Nat} {ρ : Rm} {c d p : Nat} {ac : List (Nat × Nat × Nat)} {sl : Nat → Option (Nat × Nat × Nat)} {se : List (Nat × Nat × Nat)} {sd : Int64} {N : Nat} {σ τ : Mem} (h : RX tx ρ c d p ac sl se sd σ) (g : RM tx ρ c d p ac sl se sd τ) (hv : okV N ρ c d p ac sl se) (hN : N < 1000) (x : Int32) : sBth mX9_write mX10_write [.int x] N σ τ :=
  ⟨_, _, _, _, _, _, _, _, _, _, (qX9_write h hv x).up (by decide), (qX10_write g hv x).up (by decide), hv.up hN⟩
theorem s_unsee {tx : List Nat} {ρ : Rm} {c d p : Nat} {ac : List (Nat × Nat × Nat)} {sl : Nat → Option (Nat × Nat × Nat)} {se : List (Nat × Nat × Nat)} {sd : Int64} {N : Nat} {σ τ : Mem} (h : RX tx ρ c d p ac sl se sd σ) (g : RM tx ρ c d p ac sl se sd τ) (hv : okV N ρ c d p ac sl se) (hN : N < 1000) : sBth mX9_unsee mX10_unsee [] N σ τ :=
  ⟨_, _, _, _, _, _, _, _, _, _, (qX9_unsee h hv ).up (by decide), (qX10_unsee g hv ).up (by decide), (hv.up hN).seen ⟨by decide, fun i hi => absurd hi (Nat.not_lt_zero i)⟩⟩
theorem s_press {tx : List Nat} {ρ : Rm} {c d p : Nat} {ac : List (Nat × Nat × Nat)} {sl : Nat → Option (Nat × Nat × Nat)} {se : List (Nat × Nat × Nat)} {sd : Int64} {N : Nat} {σ τ : Mem} (h : RX tx ρ c d p ac sl se sd σ) (g : RM tx ρ c d p ac sl se sd τ) (hv : okV N ρ c d p ac sl se) (hN : N < 1000) (x : Int32) : sBth mX9_press mX10_press [.int x] N σ τ :=
  ⟨_, _, _, _, _, _, _, _, _, _, (qX9_press h hv x).up (by decide), (qX10_press g hv x).up (by decide), by
    unfold spPress
    by_cases e : hT (rB ρ) x = true
    · rw [if_pos e]
      obtain ⟨j, hj, rfl, ecl⟩ := hT_x (by have := hv.1.2.2.1; omega) e
      have hp := hv.push hN
      simp only [ecl]
      exact (hv.now hN (cV_nx hv.1 hv.2.1 hj) (cV_nx hv.1 hv.2.2.1 hj) (by have := hv.2.2.2.1; omega)).acts hp.1 hp.2
    · rw [if_neg e]
      exact hv.up hN⟩
theorem s_miss {tx : List Nat} {ρ : Rm} {c d p : Nat} {ac : List (Nat × Nat × Nat)} {sl : Nat → Option (Nat × Nat × Nat)} {se : List (Nat × Nat × Nat)} {sd : Int64} {N : Nat} {σ τ : Mem} (h : RX tx ρ c d p ac sl se sd σ) (g : RM tx ρ c d p ac sl se sd τ) (hv : okV N ρ c d p ac sl se) (hN : N < 1000) (x : Int32) : sBth mX9_miss mX10_miss [.int x] N σ τ :=
  ⟨_, _, _, _, _, _, _, _, _, _, (qX9_miss h hv x).up (by decide), (qX10_miss g hv x).up (by decide), by
    unfold spMiss
    by_cases e : hT (rB ρ) x = true
    · rw [if_pos e]
      obtain ⟨j, hj, rfl, ecl⟩ := hT_x (by have := hv.1.2.2.1; omega) e
      have hp := hv.push hN
      simp only [ecl]
      exact (hv.now hN hv.2.1 (cV_nx hv.1 hv.2.2.1 hj) (by have := hv.2.2.2.1; omega)).acts hp.1 hp.2
    · rw [if_neg e]
      exact hv.up hN⟩
theorem s_step {tx : List Nat} {ρ : Rm} {c d p : Nat} {ac : List (Nat × Nat × Nat)} {sl : Nat → Option (Nat × Nat × Nat)} {se : List (Nat × Nat × Nat)} {sd : Int64} {N : Nat} {σ τ : Mem} (h : RX tx ρ c d p ac sl se sd σ) (g : RM tx ρ c d p ac sl se sd τ) (hv : okV N ρ c d p ac sl se) (hN : N < 1000) (x : Int32) : sBth mX9_step mX10_step [.int x] N σ τ :=
  ⟨_, _, _, _, _, _, _, _, _, _, (qX9_step h hv x).up (by decide), (qX10_step g hv x).up (by decide), by
    unfold spStep
    by_cases e : hT (rN ρ) x = true
    · rw [if_pos e]
      obtain ⟨j, hj, rfl, ecl⟩ := hT_x (by have := hv.1.1; omega) e
      have hp := hv.push hN
      simp only [ecl]
      exact (hv.now hN (cV_stp hv.1 hv.2.1 hj) hv.2.2.1 (by have := hv.2.2.2.1; omega)).acts hp.1 hp.2
    · rw [if_neg e]
      exact hv.up hN⟩
theorem s_find {tx : List Nat} {ρ : Rm} {c d p : Nat} {ac : List (Nat × Nat × Nat)} {sl : Nat → Option (Nat × Nat × Nat)} {se : List (Nat × Nat × Nat)} {sd : Int64} {N : Nat} {σ τ : Mem} (h : RX tx ρ c d p ac sl se sd σ) (g : RM tx ρ c d p ac sl se sd τ) (hv : okV N ρ c d p ac sl se) (hN : N < 1000) : sBth mX9_find mX10_find [] N σ τ :=
  ⟨_, _, _, _, _, _, _, _, _, _, (qX9_find h hv ).up (by decide), (qX10_find g hv ).up (by decide), by
    unfold spFind
    split
    · exact hv.up hN
    · have hp := hv.push hN
      exact (hv.now hN hv.2.1 hv.2.1 (show p ≤ N + 1 by have := hv.2.2.2.1; omega)).acts hp.1 hp.2⟩
theorem s_undo {tx : List Nat} {ρ : Rm} {c d p : Nat} {ac : List (Nat × Nat × Nat)} {sl : Nat → Option (Nat × Nat × Nat)} {se : List (Nat × Nat × Nat)} {sd : Int64} {N : Nat} {σ τ : Mem} (h : RX tx ρ c d p ac sl se sd σ) (g : RM tx ρ c d p ac sl se sd τ) (hv : okV N ρ c d p ac sl se) (hN : N < 1000) : sBth mX9_undo mX10_undo [] N σ τ :=
  ⟨_, _, _, _, _, _, _, _, _, _, (qX9_undo h hv ).up (by decide), (qX10_undo g hv ).up (by decide), by
    unfold spUndo
    split
    · exact hv.up hN
    · rename_i e
      obtain ⟨hr, hc, hd, hp, hN30, ⟨hal, hav⟩, hsv, hse⟩ := hv.up hN
      have hu := hav (ac.length - 1) (by omega)
      refine ⟨hr, hu.1, hu.2.1, hu.2.2, hN30, ⟨by rw [List.length_take]; omega, fun i hi => ?_⟩, hsv, hse⟩
      rw [List.length_take] at hi
      have := hav i (by omega)
      rw [List.getD, List.getElem?_take]
      rw [List.getD] at this
      rw [if_pos (by omega)]
      exact this⟩
theorem s_keep {tx : List Nat} {ρ : Rm} {c d p : Nat} {ac : List (Nat × Nat × Nat)} {sl : Nat → Option (Nat × Nat × Nat)} {se : List (Nat × Nat × Nat)} {sd : Int64} {N : Nat} {σ τ : Mem} (h : RX tx ρ c d p ac sl se sd σ) (g : RM tx ρ c d p ac sl se sd τ) (hv : okV N ρ c d p ac sl se) (hN : N < 1000) (x : Int32) : sBth mX9_keep mX10_keep [.int x] N σ τ :=
  ⟨_, _, _, _, _, _, _, _, _, _, (qX9_keep h hv x).up (by decide), (qX10_keep g hv x).up (by decide), by
    unfold spKeep
    by_cases e : hT 2 x = true
    · rw [if_pos e]
      refine (hv.up hN).slots fun i u hu => ?_
      have hu : (if i = x.toNatClampNeg then some (c, d, p) else sl i) = some u := hu
      split at hu
      · cases hu
        exact ⟨hv.2.1, hv.2.2.1, by show p ≤ N + 1; have := hv.2.2.2.1; omega⟩
      · exact (hv.2.2.2.2.2.2.1 i u hu).up
    · rw [if_neg e]
      exact hv.up hN⟩
theorem s_again {tx : List Nat} {ρ : Rm} {c d p : Nat} {ac : List (Nat × Nat × Nat)} {sl : Nat → Option (Nat × Nat × Nat)} {se : List (Nat × Nat × Nat)} {sd : Int64} {N : Nat} {σ τ : Mem} (h : RX tx ρ c d p ac sl se sd σ) (g : RM tx ρ c d p ac sl se sd τ) (hv : okV N ρ c d p ac sl se) (hN : N < 1000) (x : Int32) : sBth mX9_again mX10_again [.int x] N σ τ :=
  ⟨_, _, _, _, _, _, _, _, _, _, (qX9_again h hv x).up (by decide), (qX10_again g hv x).up (by decide), by
    unfold spAgain
    by_cases e : hT 2 x = true
    · rw [if_pos e]
      cases e2 : sl x.toNatClampNeg with
      | none => exact hv.up hN
      | some u =>
        have hu := (hv.2.2.2.2.2.2.1 _ u e2).up
        exact (hv.now hN hu.1 hu.2.1 hu.2.2).acts (show 0 < 15 by decide) (fun i hi => absurd hi (Nat.not_lt_zero i))
    · rw [if_neg e]
      exact hv.up hN⟩
theorem s_see {tx : List Nat} {ρ : Rm} {c d p : Nat} {ac : List (Nat × Nat × Nat)} {sl : Nat → Option (Nat × Nat × Nat)} {se : List (Nat × Nat × Nat)} {sd : Int64} {N : Nat} {σ τ : Mem} (h : RX tx ρ c d p ac sl se sd σ) (g : RM tx ρ c d p ac sl se sd τ) (hv : okV N ρ c d p ac sl se) (hN : N < 1000) (x y z : Int32) : sBth mX9_see mX10_see [.int x, .int y, .int z] N σ τ :=
  ⟨_, _, _, _, _, _, _, _, _, _, (qX9_see h hv x y z).up (by decide), (qX10_see g hv x y z).up (by decide), by
    unfold spSee
    split
    · exact hv.up hN
    · rename_i hno
      split
      · exact hv.up hN
      · rename_i h6
        refine (hv.up hN).seen ⟨by rw [List.length_append, List.length_singleton]; omega, fun i hi => ?_⟩
        rw [List.length_append, List.length_singleton] at hi
        have hse := hv.2.2.2.2.2.2.2
        by_cases e : i = se.length
        · subst e
          rw [getD_r]
          obtain ⟨k, hk, rfl⟩ := nI_of (x := x) (fun q => hno (Or.inl q))
          have hk3 : k ≤ 3 := (nI_leI (b := 3) hk (by decide)).mp (Int32.not_lt.mp fun q => hno (Or.inr (Or.inl q)))
          obtain ⟨l, hl, rfl⟩ := nI_of (x := z) (fun q => hno (Or.inr (Or.inr (Or.inr (Or.inl q)))))
          have hl15 : l ≤ 15 := (nI_leI (b := 15) hl (by decide)).mp (Int32.not_lt.mp fun q => hno (Or.inr (Or.inr (Or.inr (Or.inr q)))))
          have hR : isR (nI k).toNatClampNeg y = true := by
            cases e3 : isR (nI k).toNatClampNeg y with
            | true => rfl
            | false => exact absurd (Or.inr (Or.inr (Or.inl e3))) hno
          rw [nI_clamp hk] at hR
          obtain ⟨r, hr, rfl, er⟩ := isR_n (by omega) hR
          simp only [er, nI_clamp hk, nI_clamp hl]
          exact ⟨by omega, Nat.lt_of_lt_of_le hr (Nat.pow_le_pow_right (by decide) hk3 : 10 ^ k ≤ 10 ^ 3), by omega⟩
        · rw [getD_l (by omega)]
          exact hse.2 i (by omega)⟩
theorem s_room {tx : List Nat} {ρ : Rm} {c d p : Nat} {ac : List (Nat × Nat × Nat)} {sl : Nat → Option (Nat × Nat × Nat)} {se : List (Nat × Nat × Nat)} {sd : Int64} {N : Nat} {σ τ : Mem} (h : RX tx ρ c d p ac sl se sd σ) (g : RM tx ρ c d p ac sl se sd τ) (hv : okV N ρ c d p ac sl se) (hN : N < 1000) : sBth mX9_room mX10_room [] N σ τ := by
  have hX := qX9_room h hv
  have hM := qX10_room g hv
  unfold RoP at hX
  unfold RoQ at hM
  have hPO := pText_PO tx
  cases eR : spRoom tx with
  | none =>
    simp only [eR] at hX hM
    exact ⟨_, _, _, _, _, _, _, _, _, _, hX.up (by decide), hM.up (by decide), hv.up hN⟩
  | some ρ' =>
    simp only [eR] at hX hM
    refine ⟨_, _, _, _, _, _, _, _, _, _, hX.up (by decide), hM.up (by decide), ?_⟩
    unfold spRoom at eR
    by_cases e : (pText tx).1 = none
    · rw [if_pos e] at eR
      cases eR
      have hr := hPO.1
      have hF4 : ∀ t, t < (pText tx).2.1.length → (pText tx).2.2.1.getD t 0 < 4 := fun t ht => by
        have g1 := hPO.2.2 t ht
        have g2 := (hr.2.1 t ht).2
        have e : rS ((pText tx).2.1, (pText tx).2.2.2) t = (pText tx).2.1.getD t 0 := rfl
        omega
      have hcV : cV ((pText tx).2.1, (pText tx).2.2.2) (spC0 tx) := by
        refine ⟨cFi_lt hr.1 hF4 _ (Nat.le_refl _), cOk_iff.mpr fun t ht => ?_⟩
        have ht' : t < (pText tx).2.1.length := ht
        have e1 := cS_Fi hr.1 hF4 (pText tx).2.1.length (Nat.le_refl _) t ht'
        have e2 : (if t < (pText tx).2.1.length then (pText tx).2.2.1.getD t 0 else 0) = (pText tx).2.2.1.getD t 0 := if_pos ht'
        have e3 := hPO.2.2 t ht'
        show cS (pText tx).2.1.length (spC0 tx) t < (pText tx).2.1.getD t 0
        unfold spC0
        exact Nat.lt_of_le_of_lt (Nat.le_of_eq (e1.trans e2)) e3
      exact ⟨hr, hcV, hcV, Nat.zero_le _, by have := hv.2.2.2.2.1; omega, ⟨by decide, fun i hi => absurd hi (Nat.not_lt_zero i)⟩, fun i u hu => (by cases hu), hv.2.2.2.2.2.2.2⟩
    · rw [if_neg e] at eR; cases eR
