/-! messes as numbers: the product of the sizes, the unit of a thing, the state of a thing, the code of a mess, the mess of a code -/
def lP : List Nat → Nat
  | [] => 1
  | a :: l => a * lP l
def lU (L : List Nat) (t : Nat) : Nat := lP (L.drop (t + 1))
def lS (L : List Nat) (k t : Nat) : Nat := k / lU L t % L.getD t 0
def lC (L : List Nat) (k : Nat) : Nat := (List.range L.length).foldl (fun a t => 4 * a + lS L k t) 0
def lM (L : List Nat) (c : Nat) : Nat := (List.range L.length).foldl (fun a t => a + cS L.length c t * lU L t) 0
def shK : Nat → List (List Nat)
  | 0 => [[]]
  | k + 1 => (shK k).flatMap (fun l => [2 :: l, 3 :: l, 4 :: l])
theorem shK_mem : ∀ L : List Nat, (∀ t, t < L.length → 2 ≤ L.getD t 0 ∧ L.getD t 0 ≤ 4) → L ∈ shK L.length
  | [], _ => List.mem_singleton.mpr rfl
  | a :: l, h => by
    refine List.mem_flatMap.mpr ⟨l, shK_mem l (fun t ht => ?_), ?_⟩
    · have := h (t + 1) (Nat.succ_lt_succ ht)
      simpa using this
    · have h0 := h 0 (Nat.succ_pos _)
      have h1 : 2 ≤ a ∧ a ≤ 4 := by simpa using h0
      have : a = 2 ∨ a = 3 ∨ a = 4 := by omega
      rcases this with rfl | rfl | rfl <;> simp
def lMk (L : List Nat) (c : Nat) : Nat → Nat
  | 0 => 0
  | k + 1 => lMk L c k + cS L.length c k * lU L k
def frc (n : Nat) (f : Nat → Bool) : Bool := Nat.rec (f 0) (fun c _ => f (Nat.succ c)) n
theorem frc_e (n : Nat) (f : Nat → Bool) : frc n f = f n := by cases n <;> rfl
def ckS (L : List Nat) (k c : Nat) : Bool := Nat.beq (lM L c) k && (List.range L.length).all (fun t => Nat.beq (cS L.length c t) (lS L k t))
def ckL (L : List Nat) : Bool :=
  decide ((List.range (4 ^ L.length)).filter (cOk (L, [])) = (List.range (lP L)).map (lC L)) && Nat.ble (lP L) 256 && (List.range L.length).all (fun t => Nat.ble 1 (lU L t) && Nat.ble (lU L t) 64) && (List.range (lP L)).all (fun k => frc (lC L k) (ckS L k))
set_option maxRecDepth 1000000 in
theorem ck_0 : (shK 0).all ckL = true := by decide +kernel
set_option maxRecDepth 1000000 in
theorem ck_1 : (shK 1).all ckL = true := by decide +kernel
set_option maxRecDepth 1000000 in
theorem ck_2 : (shK 2).all ckL = true := by decide +kernel
set_option maxRecDepth 1000000 in
theorem ck_3 : (shK 3).all ckL = true := by decide +kernel
set_option maxRecDepth 1000000 in
theorem ck_42 : (shK 3).all (fun l => ckL (2 :: l)) = true := by decide +kernel
set_option maxRecDepth 1000000 in
theorem ck_43 : (shK 3).all (fun l => ckL (3 :: l)) = true := by decide +kernel
set_option maxRecDepth 1000000 in
theorem ck_44 : (shK 3).all (fun l => ckL (4 :: l)) = true := by decide +kernel
theorem ck_4 : (shK 4).all ckL = true := by
  refine List.all_eq_true.mpr fun L hL => ?_
  obtain ⟨l, hl, h⟩ := List.mem_flatMap.mp hL
  simp only [List.mem_cons, List.not_mem_nil, or_false] at h
  rcases h with rfl | rfl | rfl
  · exact List.all_eq_true.mp ck_42 l hl
  · exact List.all_eq_true.mp ck_43 l hl
  · exact List.all_eq_true.mp ck_44 l hl
theorem ck_at {ρ : Rm} (hr : okR ρ) : ckL ρ.1 = true := by
  have hm := shK_mem ρ.1 hr.2.1
  have hn : ρ.1.length < 5 := hr.1
  have : ∀ n, n < 5 → (shK n).all ckL = true := fun n h => by
    have : n = 0 ∨ n = 1 ∨ n = 2 ∨ n = 3 ∨ n = 4 := by omega
    rcases this with rfl | rfl | rfl | rfl | rfl
    · exact ck_0
    · exact ck_1
    · exact ck_2
    · exact ck_3
    · exact ck_4
  exact List.all_eq_true.mp (this _ hn) _ hm

