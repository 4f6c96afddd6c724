/-! constructors: the words of the tables -/
abbrev mX9_init : MI := (yX9_init, cX9_init, 1, none)
theorem okX9_init : MOk mX9_init 0 := ⟨big_of 64 (by decide +kernel) rfl, big_of 46 (by decide +kernel) rfl, ⟨by decide +kernel, by decide +kernel, by decide +kernel⟩, by decide⟩
theorem imX9_init : Cond.instanceMethod mX9_init.1 ∈ lw_big := big_of 63 (by decide +kernel) rfl
theorem loX9 : Cond.methodLink RX9 1 Lib.objectInit ∈ lw_big := big_of 65 (by decide +kernel) rfl
theorem ibX9 : Cond.instantiable RX9 13 ∈ lw_big := big_of 61 (by decide +kernel) rfl
abbrev mX8_init : MI := (yX8_init, cX8_init, 1, none)
theorem okX8_init : MOk mX8_init 0 := ⟨big_of 72 (by decide +kernel) rfl, big_of 47 (by decide +kernel) rfl, ⟨by decide +kernel, by decide +kernel, by decide +kernel⟩, by decide⟩
theorem imX8_init : Cond.instanceMethod mX8_init.1 ∈ lw_big := big_of 71 (by decide +kernel) rfl
theorem loX8 : Cond.methodLink RX8 3 Lib.objectInit ∈ lw_big := big_of 73 (by decide +kernel) rfl
theorem ibX8 : Cond.instantiable RX8 2 ∈ lw_big := big_of 69 (by decide +kernel) rfl
abbrev mX3_init : MI := (yX3_init, cX3_init, 1, none)
theorem okX3_init : MOk mX3_init 0 := ⟨big_of 86 (by decide +kernel) rfl, big_of 48 (by decide +kernel) rfl, ⟨by decide +kernel, by decide +kernel, by decide +kernel⟩, by decide⟩
theorem imX3_init : Cond.instanceMethod mX3_init.1 ∈ lw_big := big_of 85 (by decide +kernel) rfl
theorem loX3 : Cond.methodLink RX3 3 Lib.objectInit ∈ lw_big := big_of 87 (by decide +kernel) rfl
theorem ibX3 : Cond.instantiable RX3 1 ∈ lw_big := big_of 83 (by decide +kernel) rfl
abbrev mX0_init : MI := (yX0_init, cX0_init, 1, none)
theorem okX0_init : MOk mX0_init 0 := ⟨big_of 92 (by decide +kernel) rfl, big_of 49 (by decide +kernel) rfl, ⟨by decide +kernel, by decide +kernel, by decide +kernel⟩, by decide⟩
theorem imX0_init : Cond.instanceMethod mX0_init.1 ∈ lw_big := big_of 91 (by decide +kernel) rfl
theorem loX0 : Cond.methodLink RX0 3 Lib.objectInit ∈ lw_big := big_of 93 (by decide +kernel) rfl
theorem ibX0 : Cond.instantiable RX0 7 ∈ lw_big := big_of 89 (by decide +kernel) rfl
abbrev mX2_init : MI := (yX2_init, cX2_init, 1, none)
theorem okX2_init : MOk mX2_init 0 := ⟨big_of 138 (by decide +kernel) rfl, big_of 50 (by decide +kernel) rfl, ⟨by decide +kernel, by decide +kernel, by decide +kernel⟩, by decide⟩
theorem imX2_init : Cond.instanceMethod mX2_init.1 ∈ lw_big := big_of 137 (by decide +kernel) rfl
theorem loX2 : Cond.methodLink RX2 3 Lib.objectInit ∈ lw_big := big_of 139 (by decide +kernel) rfl
theorem ibX2 : Cond.instantiable RX2 5 ∈ lw_big := big_of 135 (by decide +kernel) rfl
abbrev mX1_init : MI := (yX1_init, cX1_init, 1, none)
theorem okX1_init : MOk mX1_init 0 := ⟨big_of 166 (by decide +kernel) rfl, big_of 51 (by decide +kernel) rfl, ⟨by decide +kernel, by decide +kernel, by decide +kernel⟩, by decide⟩
theorem imX1_init : Cond.instanceMethod mX1_init.1 ∈ lw_big := big_of 165 (by decide +kernel) rfl
theorem loX1 : Cond.methodLink RX1 3 Lib.objectInit ∈ lw_big := big_of 167 (by decide +kernel) rfl
theorem ibX1 : Cond.instantiable RX1 5 ∈ lw_big := big_of 163 (by decide +kernel) rfl
abbrev mX4_init : MI := (yX4_init, cX4_init, 1, none)
theorem okX4_init : MOk mX4_init 0 := ⟨big_of 188 (by decide +kernel) rfl, big_of 52 (by decide +kernel) rfl, ⟨by decide +kernel, by decide +kernel, by decide +kernel⟩, by decide⟩
theorem imX4_init : Cond.instanceMethod mX4_init.1 ∈ lw_big := big_of 187 (by decide +kernel) rfl
theorem loX4 : Cond.methodLink RX4 3 Lib.objectInit ∈ lw_big := big_of 189 (by decide +kernel) rfl
theorem ibX4 : Cond.instantiable RX4 2 ∈ lw_big := big_of 185 (by decide +kernel) rfl
abbrev mX7_init : MI := (yX7_init, cX7_init, 1, none)
theorem okX7_init : MOk mX7_init 0 := ⟨big_of 201 (by decide +kernel) rfl, big_of 53 (by decide +kernel) rfl, ⟨by decide +kernel, by decide +kernel, by decide +kernel⟩, by decide⟩
theorem imX7_init : Cond.instanceMethod mX7_init.1 ∈ lw_big := big_of 200 (by decide +kernel) rfl
theorem loX7 : Cond.methodLink RX7 1 Lib.objectInit ∈ lw_big := big_of 202 (by decide +kernel) rfl
theorem ibX7 : Cond.instantiable RX7 3 ∈ lw_big := big_of 198 (by decide +kernel) rfl
abbrev mX6_init : MI := (yX6_init, cX6_init, 3, none)
theorem okX6_init : MOk mX6_init 1 := ⟨big_of 220 (by decide +kernel) rfl, big_of 54 (by decide +kernel) rfl, ⟨by decide +kernel, by decide +kernel, by decide +kernel⟩, by decide⟩
theorem imX6_init : Cond.instanceMethod mX6_init.1 ∈ lw_big := big_of 219 (by decide +kernel) rfl
theorem loX6 : Cond.methodLink RX6 3 Lib.objectInit ∈ lw_big := big_of 221 (by decide +kernel) rfl
theorem ibX6 : Cond.instantiable RX6 3 ∈ lw_big := big_of 217 (by decide +kernel) rfl
abbrev mX5_init : MI := (yX5_init, cX5_init, 1, none)
theorem okX5_init : MOk mX5_init 0 := ⟨big_of 242 (by decide +kernel) rfl, big_of 57 (by decide +kernel) rfl, ⟨by decide +kernel, by decide +kernel, by decide +kernel⟩, by decide⟩
theorem imX5_init : Cond.instanceMethod mX5_init.1 ∈ lw_big := big_of 241 (by decide +kernel) rfl
theorem loX5 : Cond.methodLink RX5 3 Lib.objectInit ∈ lw_big := big_of 243 (by decide +kernel) rfl
theorem ibX5 : Cond.instantiable RX5 6 ∈ lw_big := big_of 239 (by decide +kernel) rfl
abbrev mX10_init : MI := (yX10_init, cX10_init, 1, none)
theorem okX10_init : MOk mX10_init 0 := ⟨big_of 763 (by decide +kernel) rfl, big_of 58 (by decide +kernel) rfl, ⟨by decide +kernel, by decide +kernel, by decide +kernel⟩, by decide⟩
theorem imX10_init : Cond.instanceMethod mX10_init.1 ∈ lw_big := big_of 762 (by decide +kernel) rfl
theorem loX10 : Cond.methodLink RX10 1 Lib.objectInit ∈ lw_big := big_of 764 (by decide +kernel) rfl
theorem ibX10 : Cond.instantiable RX10 34 ∈ lw_big := big_of 760 (by decide +kernel) rfl
theorem im_Obj : Cond.instanceMethod Lib.objectInit ∈ lw_big := big_of 66 (by decide +kernel) rfl
theorem co_Obj : Cond.code Lib.objectInit ⟨#[0xb1]⟩ 1 none ∈ lw_big := big_of 67 (by decide +kernel) rfl
theorem clL_7 : Cond.classLink RL 7 RX9 ∈ lw_big := big_of 60 (by decide +kernel) rfl
theorem clX9_7 : Cond.classLink RX9 7 RX8 ∈ lw_big := big_of 68 (by decide +kernel) rfl
theorem clX9_16 : Cond.classLink RX9 16 RX3 ∈ lw_big := big_of 82 (by decide +kernel) rfl
theorem clX3_9 : Cond.classLink RX3 9 RX0 ∈ lw_big := big_of 88 (by decide +kernel) rfl
theorem clX9_23 : Cond.classLink RX9 23 RX2 ∈ lw_big := big_of 134 (by decide +kernel) rfl
theorem clX2_9 : Cond.classLink RX2 9 RX0 ∈ lw_big := big_of 140 (by decide +kernel) rfl
theorem clX9_30 : Cond.classLink RX9 30 RX1 ∈ lw_big := big_of 162 (by decide +kernel) rfl
theorem clX9_37 : Cond.classLink RX9 37 RX4 ∈ lw_big := big_of 184 (by decide +kernel) rfl
theorem clX9_44 : Cond.classLink RX9 44 RX7 ∈ lw_big := big_of 197 (by decide +kernel) rfl
theorem clX9_51 : Cond.classLink RX9 51 RX6 ∈ lw_big := big_of 216 (by decide +kernel) rfl
theorem clX9_63 : Cond.classLink RX9 63 RX5 ∈ lw_big := big_of 238 (by decide +kernel) rfl
theorem clX9_77 : Cond.classLink RX9 77 RX0 ∈ lw_big := big_of 266 (by decide +kernel) rfl
theorem clL_10 : Cond.classLink RL 10 RX10 ∈ lw_big := big_of 759 (by decide +kernel) rfl
theorem liL_9 : LKm RL 9 mX9_init := Or.inl (big_of 62 (by decide +kernel) rfl)
theorem liX9_53 : LKm RX9 53 mX6_init := Or.inl (big_of 218 (by decide +kernel) rfl)
theorem liL_12 : LKm RL 12 mX10_init := Or.inl (big_of 761 (by decide +kernel) rfl)
theorem liX9_9 : LKm RX9 9 mX8_init := Or.inr ⟨"FiveRemotes", nest_of 25 (by decide +kernel) rfl⟩
theorem liX9_18 : LKm RX9 18 mX3_init := Or.inr ⟨"FiveRemotes", nest_of 39 (by decide +kernel) rfl⟩
theorem liX3_11 : LKm RX3 11 mX0_init := Or.inr ⟨"FiveRemotes", nest_of 45 (by decide +kernel) rfl⟩
theorem liX9_25 : LKm RX9 25 mX2_init := Or.inr ⟨"FiveRemotes", nest_of 91 (by decide +kernel) rfl⟩
theorem liX2_11 : LKm RX2 11 mX0_init := Or.inr ⟨"FiveRemotes", nest_of 96 (by decide +kernel) rfl⟩
theorem liX9_32 : LKm RX9 32 mX1_init := Or.inr ⟨"FiveRemotes", nest_of 119 (by decide +kernel) rfl⟩
theorem liX9_39 : LKm RX9 39 mX4_init := Or.inr ⟨"FiveRemotes", nest_of 141 (by decide +kernel) rfl⟩
theorem liX9_46 : LKm RX9 46 mX7_init := Or.inr ⟨"FiveRemotes", nest_of 154 (by decide +kernel) rfl⟩
theorem liX9_65 : LKm RX9 65 mX5_init := Or.inr ⟨"FiveRemotes", nest_of 195 (by decide +kernel) rfl⟩
theorem liX9_79 : LKm RX9 79 mX0_init := Or.inr ⟨"FiveRemotes", nest_of 222 (by decide +kernel) rfl⟩
theorem ac_int : Cond.arrayClass .int ∈ lw_big := big_of 81 (by decide +kernel) rfl
theorem ac_boolean : Cond.arrayClass .boolean ∈ lw_big := big_of 868 (by decide +kernel) rfl
theorem la_TENS : Cond.laysStatic "FiveRemotes" "TENS" "[I" ∈ lw_tbl := List.mem_of_getElem? (i := 530) (by decide +kernel)
theorem la_ORDERS : Cond.laysStatic "FiveRemotes" "ORDERS" "[I" ∈ lw_tbl := List.mem_of_getElem? (i := 691) (by decide +kernel)
theorem in_FR : Cond.initialized "FiveRemotes" ∈ lw_big := big_of 46 (by decide +kernel) rfl
/-! a judgement for constructors -/
def rmn (d mc ms : Nat) : Room := { frames := d, cells := mc, slots := ms, locals := 36 * d }
def Pn (E : Qe) (ws : va_W) (U : State) : Prop := va_P (E.2.2.1, E.2.2.2.1) vwCl ws U.heap ∧ va_D E.2.1 ws ∧ Sx E U U.heap ∧ ∀ q, U.heap.size ≤ q → E.2.1 q
def Qn (E : Qe) (Post : va_W → Prop) : Array Value → State → Outcome → State → Prop := fun _ st oc t => (∃ ws : va_W, oc = .returned none ∧ Post ws ∧ va_P (E.2.2.1, E.2.2.2.1) vwCl ws t.heap ∧ va_D E.2.1 ws) ∧ va_F E.2.1 st t
def Cn (k mc ms : Nat) (M : MI) (av : List Value) (E : Qe) (ws : va_W) (Post : va_W → Prop) : Prop := ∀ d : Nat, k ≤ d → ∀ la : Launch, Met la M.1 (mWs M) (rmn d mc ms) (va_Pc av (Pn E ws)) (Qn E Post) mc ms E.2.1
def Nj (k mc ms : Nat) (M : MI) (E : Qe) (Post : va_W → Prop) (pc : Nat) (l : List (Option Value)) (st : List Value) (ws : va_W) (cc cs : Nat) : Prop :=
  ∀ d : Nat, k ≤ d → ∀ (p : Program) (la : Launch) (e : Jvm.Env) (s : State) (m : MethodId) (args : Array Value) (below : List Frame) (meth : Method) (c : Code) (H : Heap) (locs : List Loc) (ls : Array Slot),
    Cx E M p s m args meth c → meth.name = "<init>" → (∀ q, s.heap.size ≤ q → E.2.1 q) → va_P (E.2.2.1, E.2.2.2.1) vwCl ws H → va_D E.2.1 ws → va_S E.2.1 s.heap H locs → Lh ls M.2.2.1 (fun a => a) l →
    W p la e (rmn d mc ms) s m args below meth c H locs cc cs (MQ below (Qn E Post) args s mc ms E.2.1) (F0 m pc ls st)
theorem cvv_id (v : Value) : cvv (fun a => a) v = v := by cases v <;> rfl
theorem map_id' (l : List Value) : l.map (cvv (fun a => a)) = l := by
  induction l with
  | nil => rfl
  | cons v l ih => rw [List.map_cons, ih, cvv_id]
theorem Cn.of {k mc ms : Nat} {M : MI} {av : List Value} {E : Qe} {ws : va_W} {Post : va_W → Prop} {l : List (Option Value)} (hy : plainName M.1.cls = true) (hi : M.1.name = "<init>") (hn : (entL av).length ≤ M.2.2.1) (hl : entP M.2.2.1 av = l) (h : Nj k mc ms M E Post 0 l [] ws 0 0) : Cn k mc ms M av E ws Post := by
  subst hl
  intro d hd la
  refine Met.ofW (cc := M.2.1) (maxL := M.2.2.1) (ret := M.2.2.2) (ws' := lw_big) hy rfl ?_
  intro p e s m args below meth c s₁ B hml hv
  obtain ⟨rfl, hP, hD, hS, hA⟩ := hv
  have hts := atoms_spec (ws := mWs M) B.pre
  have hC : Cx E M p s m av.toArray meth c := ⟨B.exec, B.bytes, hml, B.returns, B.notSynchronized, findClass_of_methodNamed B.named, hts, hS⟩
  have hl := lv_entry av (n := M.2.2.1) (by rw [← map_id' av, ent_len]; exact hn)
  rw [lg_entry_eq]
  have hin : meth.name = "<init>" := (name_of_methodNamed B.named B.method).1.trans hi
  refine h d hd p la e s m _ below meth c s.heap [] _ hC hin hA hP hD va_S.rf (Lh_entry (ad := fun a => a) (av := av) ?_)
  rw [map_id' av]
  exact hl
section NR
variable {k mc ms cc cs : Nat} {M : MI} {E : Qe} {Post : va_W → Prop} {pc q : Nat} {l : List (Option Value)} {st : List Value} {ws : va_W}
theorem Nj_aload0 {x : Nat} {r : List (Option Value)} (h : decode M.2.1 pc = .ok (.aload_n 0, 1)) (hp : pc + 1 = q) (kk : Nj k mc ms M E Post q (some (.ref x) :: r) (.ref x :: st) ws cc cs) : Nj k mc ms M E Post pc (some (.ref x) :: r) st ws cc cs := by
  subst hp
  intro d hd p la e s m args below meth c H locs ls hC hi hA hP hD hS hL
  exact lv_aload_n hC.1 hC.2.1 h rfl (hL.2.2 0 _ rfl) (kk d hd p la e s m args below meth c H locs ls hC hi hA hP hD hS hL)
theorem Nj_iloadn {i : Nat} {k4 : Fin 4} {x : Int32} (h : decode M.2.1 pc = .ok (.iload_n k4, 1)) (hp : pc + 1 = q) (hi4 : (k4 : Nat) = i) (hl : l[i]? = some (some (.int x))) (kk : Nj k mc ms M E Post q l (.int x :: st) ws cc cs) : Nj k mc ms M E Post pc l st ws cc cs := by
  subst hp
  intro d hd p la e s m args below meth c H locs ls hC hi hA hP hD hS hL
  exact lv_iload_n hC.1 hC.2.1 h hi4 (hL.2.2 i _ hl) (kk d hd p la e s m args below meth c H locs ls hC hi hA hP hD hS hL)
theorem Nj_istoren {i : Nat} {k4 : Fin 4} {x : Int32} (h : decode M.2.1 pc = .ok (.istore_n k4, 1)) (hp : pc + 1 = q) (hi4 : (k4 : Nat) = i) (hn : i < M.2.2.1) (hk : okP l i = true) (kk : Nj k mc ms M E Post q (l.set i (some (.int x))) st ws cc cs) : Nj k mc ms M E Post pc l (.int x :: st) ws cc cs := by
  subst hp
  intro d hd p la e s m args below meth c H locs ls hC hi hA hP hD hS hL
  exact lv_istore_n hC.1 hC.2.1 h hi4 hL.has hn rfl (fun ls' hl' => kk d hd p la e s m args below meth c H locs ls' hC hi hA hP hD hS (Lh_back1 rfl hk hl'))
theorem Nj_iconst {n : Int} {v : Int32} (h : decode M.2.1 pc = .ok (.iconst n, 1)) (hp : pc + 1 = q) (hv : Int32.ofInt n = v) (kk : Nj k mc ms M E Post q l (.int v :: st) ws cc cs) : Nj k mc ms M E Post pc l st ws cc cs := by
  subst hp
  intro d hd p la e s m args below meth c H locs ls hC hi hA hP hD hS hL
  exact lv_iconst hC.1 hC.2.1 h hv (kk d hd p la e s m args below meth c H locs ls hC hi hA hP hD hS hL)
theorem Nj_bipush {n : Int} {v : Int32} (h : decode M.2.1 pc = .ok (.bipush n, 2)) (hp : pc + 2 = q) (hv : (Int8.ofInt n).toInt32 = v) (kk : Nj k mc ms M E Post q l (.int v :: st) ws cc cs) : Nj k mc ms M E Post pc l st ws cc cs := by
  subst hp
  intro d hd p la e s m args below meth c H locs ls hC hi hA hP hD hS hL
  exact lv_bipush hC.1 hC.2.1 h hv (kk d hd p la e s m args below meth c H locs ls hC hi hA hP hD hS hL)
theorem Nj_sipush {n : Int} {v : Int32} (h : decode M.2.1 pc = .ok (.sipush n, 3)) (hp : pc + 3 = q) (hv : (Int16.ofInt n).toInt32 = v) (kk : Nj k mc ms M E Post q l (.int v :: st) ws cc cs) : Nj k mc ms M E Post pc l st ws cc cs := by
  subst hp
  intro d hd p la e s m args below meth c H locs ls hC hi hA hP hD hS hL
  exact lv_sipush hC.1 hC.2.1 h hv (kk d hd p la e s m args below meth c H locs ls hC hi hA hP hD hS hL)
theorem Nj_dup {v : Value} (h : decode M.2.1 pc = .ok (.dup, 1)) (hp : pc + 1 = q) (hv : v.category = 1) (kk : Nj k mc ms M E Post q l (v :: v :: st) ws cc cs) : Nj k mc ms M E Post pc l (v :: st) ws cc cs := by
  subst hp
  intro d hd p la e s m args below meth c H locs ls hC hi hA hP hD hS hL
  exact lv_dup hC.1 hC.2.1 h hv (kk d hd p la e s m args below meth c H locs ls hC hi hA hP hD hS hL)
theorem Nj_obj {a ix : Nat} (hw : Cond.methodLink M.1.cls ix Lib.objectInit ∈ lw_big) (hk : 1 ≤ k) (h : decode M.2.1 pc = .ok (.invokespecial ix, 3)) (hp : pc + 3 = q) (kk : Nj k mc ms M E Post q l [] ws cc cs) : Nj k mc ms M E Post pc l [.ref a] ws cc cs := by
  subst hp
  intro d hd p la e s m args below meth c H locs ls hC hi hA hP hD hS hL
  have h1 : 1 ≤ (rmn d mc ms).frames := by simp only [rmn]; omega
  have h2 : 12 ≤ (rmn d mc ms).locals := by simp only [rmn]; omega
  refine W.objInit hC.1 hC.2.1 hC.2.2.2.2.2.1 (ts_u hC hw) (ts_u hC im_Obj) (ts_u hC co_Obj) rfl (by rw [hC.2.2.1]; exact hL.1) rfl h h1 h2 ?_
  refine W.eq (g2 := F0 m (pc + 3) ls []) rfl ?_
  exact kk d hd p la e s m args below meth c H locs ls hC hi hA hP hD hS hL
theorem Nj_newI {n : Int32} {N : Nat} (hn : ¬ n < 0) (hN : n.toNatClampNeg = N) (hb : N * 4 ≤ 536870912) (hc1 : cc + 1 ≤ mc) (hc2 : cs + N ≤ ms) (h : decode M.2.1 pc = .ok (.newarray .int, 2)) (hp : pc + 2 = q)
    (kk : ∀ a : Nat, Nj k mc ms M E Post q l (.ref a :: st) (ws ++ [(a, .inl (E.2.2.2.2.1, N, .inl (fun _ => 0)))]) (cc + 1) (cs + N)) : Nj k mc ms M E Post pc l (.int n :: st) ws cc cs := by
  subst hp
  intro d hd p la e s m args below meth c H locs ls hC hi hA hP hD hS hL
  have hK := hC.2.2.2.2.2.2.2.1
  refine va_newa (atype := .int) (ty := .int) (a0 := (N, .inl (fun _ => 0))) hC.1 hC.2.1 (ts_u hC ac_int) rfl hK hP hD hS hA (fun cA => rfl) hn hN hb hc1 hc2 h (fun a cA H1 hK1 hP1 hD1 hS1 => ?_)
  have e1 : cA = E.2.2.2.2.1 := by
    have g1 : s.vm.findClass "[I" = some cA := (hK1.2 2 _ rfl).2
    have g2 : s.vm.findClass "[I" = some E.2.2.2.2.1 := (hK.2 0 _ rfl).2
    rw [g1] at g2
    exact Option.some.inj g2
  subst e1
  exact kk a d hd p la e s m args below meth c H1 locs ls hC hi hA hP1 hD1 hS1 hL
theorem Nj_newZ {n : Int32} {N : Nat} (hn : ¬ n < 0) (hN : n.toNatClampNeg = N) (hb : N * 1 ≤ 536870912) (hc1 : cc + 1 ≤ mc) (hc2 : cs + N ≤ ms) (h : decode M.2.1 pc = .ok (.newarray .boolean, 2)) (hp : pc + 2 = q)
    (kk : ∀ a : Nat, Nj k mc ms M E Post q l (.ref a :: st) (ws ++ [(a, .inl (E.2.2.2.2.2, N, .inl (fun _ => 0)))]) (cc + 1) (cs + N)) : Nj k mc ms M E Post pc l (.int n :: st) ws cc cs := by
  subst hp
  intro d hd p la e s m args below meth c H locs ls hC hi hA hP hD hS hL
  have hK := hC.2.2.2.2.2.2.2.1
  refine va_newa (atype := .boolean) (ty := .boolean) (a0 := (N, .inl (fun _ => 0))) hC.1 hC.2.1 (ts_u hC ac_boolean) rfl hK hP hD hS hA (fun cA => rfl) hn hN hb hc1 hc2 h (fun a cA H1 hK1 hP1 hD1 hS1 => ?_)
  have e1 : cA = E.2.2.2.2.2 := by
    have g1 : s.vm.findClass "[Z" = some cA := (hK1.2 2 _ rfl).2
    have g2 : s.vm.findClass "[Z" = some E.2.2.2.2.2 := (hK.2 1 _ rfl).2
    rw [g1] at g2
    exact Option.some.inj g2
  subst e1
  exact kk a d hd p la e s m args below meth c H1 locs ls hC hi hA hP1 hD1 hS1 hL
theorem Nj_new {ix ci N : Nat} {C : String} {T : u_T} {fs : List Value} {ty : Nat → FieldType} (hcl : vwCl[ci]? = some (C, T, N)) (hin : ∀ w ∈ u_ws C T N, w ∈ lw_big) (hty : ∀ k, k < N → parseFieldDescriptor (T k).2.2.1 = some (ty k)) (hcw : Cond.classLink M.1.cls ix C ∈ lw_big) (hiw : Cond.instantiable C N ∈ lw_big) (hnw : Cond.initialized C ∈ lw_big) (hfs : ∀ j, j < N → defaultValue (ty j) = vp_V fs j) (hc1 : cc + 1 ≤ mc) (hc2 : cs + N ≤ ms)
    (h : decode M.2.1 pc = .ok (.new ix, 3)) (hp : pc + 3 = q) (kk : ∀ a : Nat, Nj k mc ms M E Post q l (.ref a :: st) (ws ++ [(a, .inr (ci, fs))]) (cc + 1) (cs + N)) : Nj k mc ms M E Post pc l st ws cc cs := by
  subst hp
  intro d hd p la e s m args below meth c H locs ls hC hi hA hP hD hS hL
  exact va_new hC.1 hC.2.1 (Ts := lw_big) (fun w hw => ts_u hC hw) hin ty hty hC.2.2.2.2.2.1 (ts_u hC hcw) (ts_u hC hiw) (ts_u hC hnw) hC.2.2.2.2.2.2.2.1 hP hD hS hA hcl hfs hc1 hc2 h (fun a H1 hP1 hD1 hS1 => kk a d hd p la e s m args below meth c H1 locs ls hC hi hA hP1 hD1 hS1 hL)
theorem Nj_putF {ix ci j N q0 a v : Nat} {T : u_T} {fs : List Value} {ty : FieldType} {tyo : Nat → FieldType} (hcl : vwCl[ci]? = some (M.1.cls, T, N)) (hin : ∀ w ∈ u_ws M.1.cls T N, w ∈ lw_big) (hto : ∀ k, k < N → parseFieldDescriptor (T k).2.2.1 = some (tyo k)) (hnm : ∀ a, a < N → ∀ b, b < N → a ≠ b → (T a).2.1 ≠ (T b).2.1) (hj : j < N) (hfl : Cond.fieldLink M.1.cls ix (T j).1 (T j).2.1 (T j).2.2.1 ∈ lw_big) (hfin : (T j).2.2.2 = true) (hdc : (T j).1 = M.1.cls) (hd0 : parseFieldDescriptor (T j).2.2.1 = some ty) (hnr : narrow ty (.ref v) = .ref v) (hft : fits ty (.ref v) = true) (hl0 : j < fs.length)
    (he : ws[q0]? = some (a, .inr (ci, fs))) (h : decode M.2.1 pc = .ok (.putfield ix, 3)) (hp : pc + 3 = q) (kk : Nj k mc ms M E Post q l st (ws.set q0 (a, .inr (ci, fs.set j (.ref v)))) cc cs) : Nj k mc ms M E Post pc l (.ref v :: .ref a :: st) ws cc cs := by
  subst hp
  intro d hd p la e s m args below meth c H locs ls hC hi hA hP hD hS hL
  exact va_putF hC.1 hC.2.1 (Ts := lw_big) (fun w hw => ts_u hC hw) hin tyo hto hnm hC.2.2.2.2.2.1 hC.2.2.2.2.2.2.2.1 hP hD hS q0 he hcl j hj (ts_u hC hfl) (fun _ h => h) hfin hi hdc hd0 hnr hft hl0 h (fun H1 locs1 hP1 hD1 hS1 => kk d hd p la e s m args below meth c H1 locs1 ls hC hi hA hP1 hD1 hS1 hL)
theorem Nj_ret (hr : M.2.2.2 = none) (h : decode M.2.1 pc = .ok (.return_, 1)) (hc1 : cc ≤ mc) (hc2 : cs ≤ ms) (hPo : Post ws) : Nj k mc ms M E Post pc l [] ws cc cs := by
  intro d hd p la e s m args below meth c H locs ls hC hi hA hP hD hS hL
  refine W.widen (k := mc) (n := ms) hc1 hc2 ?_
  exact W.vret hC.1 hC.2.1 (hC.2.2.2.1.trans hr) (fun t ht hW => ⟨⟨ws, rfl, hPo, by rw [ht]; exact hP, hD⟩, hS.F ht⟩) hS.2.2 h (hlocks := hC.2.2.2.2.1)
end NR

