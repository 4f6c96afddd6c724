/-! THE CLAIM OUT OF ONE WALK OF THE LAW'S BODY. Your part is whole_start (and what it stands on); all else here is the same for every law, but numbers. -/
def R_law : String := "FiveRemotesLaw"
def lw_P (b : Addr) (xs : List Int32) (args : Array Value) (s : State) : Prop := args = #[.ref b] ∧ s.IntsAt b xs ∧ xs.length ≤ 384 ∧ (Jvm.Cond.and given_1 narrow_1).before args s = true
def lw_Q (_ : Array Value) (s : State) (o : Outcome) (t : State) : Prop := o = .returned (some (.int 1)) ∧ Framed s o t [] 600000 7302250
def lw_Z (below : List Frame) (a : Array Value) (s : State) : State → Prop := fun t => ∃ o, t.status = .running ∧ Ended t below o ∧ lw_Q a s o t
/-- the law's own end, with 1 on the stack, nothing written that was there before, its room as the claim has it -/
theorem lw_ret {p : Program} {l : Launch} {e : Env} {s : State} {m : MethodId} {below : List Frame} {meth : Method} {c : Code} {b : Nat} (hx : p.tables.exec = Jvm.exec) (hb : c.code = code) (hr : meth.sig.returnType = ret) (hlocks : meth.locks = false) {pc : Nat} {H : Heap} {ls : Array Slot} (hdg : decode code pc = .ok (.ireturn, 1)) : W p l e room_1 s m #[Value.ref b] below meth c H [] 600000 7302250 (lw_Z below #[Value.ref b] s) (F0 m pc ls [.int 1]) := by
  intro T hT X
  obtain ⟨fs, hret, hrun, hended, hW, hframe⟩ := X.leave (v := some (.int 1)) (hlocks := hlocks) (fun h => by rw [hr] at h; cases h)
  have hmeth' : T.vm.method? m = some meth := X.method'
  refine ⟨T.setFrames fs, ?_, .returned (some (.int 1)), hrun, hended, rfl, ⟨_, rfl⟩, hW, hframe⟩
  jvm_step X.here [X.here.top, hx, hb, hdg, hmeth', hr, ret, narrow_b1]
  (try refine ⟨rfl, ?_⟩); (try refine ⟨rfl, ?_⟩)
  first | (intro acts; rw [hret _ acts rfl rfl rfl]) | rw [hret _ _ rfl rfl rfl]
  exact Steps.refl _
/-- what holds at the law's entry: the machine, the code, the tables' words (any of lw_tbl by 'hts w (by decide +kernel)'), the script of L ints xs at the cell b, what the Statement gives of the start (any of its parts by flat_of_before) -/
def lw_At (p : Program) (s : State) (m : MethodId) (meth : Method) (c : Code) (b L : Nat) (xs : Nat → Int32) : Prop :=
  p.tables.exec = Jvm.exec ∧ c.code = code ∧ meth.sig.returnType = ret ∧ c.maxLocals = 4 ∧ s.vm.findClass R_law = some m.cls ∧ (∀ w ∈ lw_tbl, w.before #[Value.ref b] s = true) ∧ va_X b L xs s s.heap ∧ b < s.heap.size ∧ meth.locks = false ∧ (Jvm.Cond.and given_1 narrow_1).before #[Value.ref b] s = true
/-! the law's body -/
/-- a method of some cells, called from anywhere, beside other cells -/
theorem W_call {p : Program} {la : Launch} {e : Jvm.Env} {R : Room} {s : State} {m : MethodId} {args : Array Value} {below : List Frame} {meth : Method} {c : Code} {H : Heap} {locs : List Loc} {cells slots : Nat} {Q : State → Prop} {ls : Array Slot} {pc : Nat}
    {cc : ByteArray} {nL : Nat} {own : String} {sh : Shp} {ad : Nat → Nat} {A : Nat → Prop} {F : (Nat → ClassId) × (Nat → Nat → Nat) × ClassId × ClassId} {k' d' ix a ci N : Nat} {T : u_T} {fs : List (Nat × Nat)} {M' : MI} {av : List Value} {rest st0 : List Value} {σ : Mem} {Mid : Option Value → Mem → Prop} {wr : va_W}
    (hF : CallFix p m c cc nL s args lw_big own) (hS0 : Sx (ad, A, F) s s.heap) (hA : ∀ q, s.heap.size ≤ q → A q)
    (hc : Ct sh k' M' (.ref a :: av) σ Mid) (hk : k' ≤ d') (hR : d' + 1 ≤ R.frames ∧ 8 + (M'.2.2.1 + 11) + 36 * d' ≤ R.locals) (hq : sh[a]? = some (.inr (ci, fs))) (hcl : vwCl[ci]? = some (M'.1.cls, T, N)) (hLk : LKm own ix M') (hV : MVi M') (hM : MOk M' av.length)
    (hc1 : cells ≤ R.cells) (hc2 : slots ≤ R.slots) (h : decode cc pc = .ok (.invokevirtual ix, 3)) (hst : st0 = (av.map (cvv ad)).reverse ++ .ref (ad a) :: rest) (hcat : (rest.map fun v => v.category).sum ≤ 8) (hls : ls.size = nL)
    (hP : va_P (F.1, F.2.1) vwCl (wr ++ wd sh (ad, A, F) σ) H) (hD : va_D A (wr ++ wd sh (ad, A, F) σ)) (hS : va_S A s.heap H locs)
    (kk : ∀ (r : Option Value) (σ' : Mem) (H1 : Heap) (locs1 : List Loc), Mid r σ' → va_P (F.1, F.2.1) vwCl (wr ++ wd sh (ad, A, F) σ') H1 → va_D A (wr ++ wd sh (ad, A, F) σ') → va_S A s.heap H1 locs1 → W p la e R s m args below meth c H1 locs1 cells slots Q (F0 m (pc + 3) ls ((r.map (cvv ad)).toList ++ rest))) : W p la e R s m args below meth c H locs cells slots Q (F0 m pc ls st0) := by
  have hFr : ∀ q, va_A (wd sh (ad, A, F) σ) H.size q → A q := by
    rintro q (⟨i, e, hi⟩ | hq)
    · exact (vn_sub hD).2 i (q, e) hi
    · exact hA q (Nat.le_trans hS.1 hq)
  have hMet := hc d' hk (ad, va_A (wd sh (ad, A, F) σ) H.size, F) la
  have hG := good_big hM
  have ht : ∀ w ∈ lw_big, w.before args s = true := hF.2.2.2.2
  have hpre : PreV s H M'.1.cls (ad a) (va_Pc ((Value.ref a :: av).map (cvv ad)) (Px sh (ad, va_A (wd sh (ad, A, F) σ) H.size, F) σ)) (av.map (cvv ad)) := ⟨Px_blind, va_recv hS0.1 (vn_subP hP) hcl (wd_get hq), fun U hU hW => ⟨rfl, by rw [hU]; exact vn_subP hP, (vn_sub hD).self, by
    rw [hU]
    exact Sx.nar (E := (ad, A, F)) (Sx.go hW.alike (nest_go hW hS0.2.1) (fun a h1 h2 => hS.2.1 a h1 h2) hS0) hFr⟩⟩
  have hroom := lv_room (m := m) (pc := pc) (ls := ls) (rest := st0) (st := rest) hcat
  have hrun : va_Run p la e R s m args below meth c H locs cells slots 0 0 (F0 m pc ls st0) rest (Qx sh (ad, va_A (wd sh (ad, A, F) σ) H.size, F) Mid ((Value.ref a :: av).map (cvv ad)).toArray) (va_A (wd sh (ad, A, F) σ) H.size) := by
    rcases hLk with hl | ⟨host, hl⟩
    · exact va_runV hF hMet ⟨callB_of av.length ht hG rfl rfl rfl (ht _ hM.2.1) (ht _ hl) hM.2.2.1 hR, ht _ hV.1, ht _ hV.2⟩ hpre rfl (by simp) hls hst hroom h ⟨hc1, hc2⟩
    · exact va_runVN hF hMet ⟨va_cnB av.length ht hG rfl rfl rfl (hS0.2.1 _ hl) (ht _ hM.2.1) hM.2.2.1 hR, ht _ hV.1, ht _ hV.2⟩ hpre rfl (by simp) hls hst hroom h ⟨hc1, hc2⟩
  intro T0 hT X
  obtain ⟨v, st₀, t, T', L, g0, X', hLo, e1, e2, ⟨⟨r, σ', hv, hpm, hPt⟩, hz, hkp⟩, stp⟩ := hrun T0 hT X
  cases hv
  rw [g0] at hz hkp
  rw [← e1] at hPt hz hkp
  obtain ⟨hP2, hD2⟩ := vn_join hP hD hkp hFr hPt (wd_D (vn_sub hD).self)
  have hS' : va_S A s.heap T'.heap (locs ++ L) := ⟨Nat.le_trans hS.1 hz, fun q h1 h2 => by rw [hkp q (Nat.lt_of_lt_of_le h1 hS.1) (fun z => h2 (hFr q z))]; exact hS.2.1 q h1 h2, fun q hq => by
    rcases List.mem_append.mp hq with h | h
    · exact hS.2.2 q h
    · exact hFr _ (hLo q h)⟩
  obtain ⟨t2, a1, b1⟩ := kk r σ' T'.heap (locs ++ L) hpm hP2 hD2 hS' T' rfl X'
  exact ⟨t2, stp t2 a1, b1⟩
abbrev u_F : Type := (Nat → ClassId) × (Nat → Nat → Nat) × ClassId × ClassId
def LwA (s : State) : Nat → Prop := fun q => s.heap.size ≤ q
def adW (aX aM : Nat → Nat) (b : Nat) : Nat → Nat := fun i => if i = 0 then aX 0 else if i = 1 then aM 0 else b
def w2 (s : State) (F : u_F) (aX aM : Nat → Nat) (σ τ : Mem) : va_W := wd shX (aX, LwA s, F) σ ++ wd shM (aM, LwA s, F) τ
def Cl (p : Program) (s : State) (m : MethodId) (meth : Method) (c : Code) (b L : Nat) (xs : Nat → Int32) (F : u_F) (aX aM : Nat → Nat) : Prop := lw_At p s m meth c b L xs ∧ Sx (aX, LwA s, F) s s.heap ∧ aM 1000 = aX 1000 ∧ aM 1001 = aX 1001
def Vl (p : Program) (la : Launch) (e : Jvm.Env) (s : State) (m : MethodId) (below : List Frame) (meth : Method) (c : Code) (b : Nat) (F : u_F) (aX aM : Nat → Nat) (pc : Nat) (l : List (Option Value)) (st : List Value) (σ τ : Mem) : Prop :=
  ∀ (H : Heap) (locs : List Loc) (ls : Array Slot), va_P (F.1, F.2.1) vwCl (w2 s F aX aM σ τ) H → va_D (LwA s) (w2 s F aX aM σ τ) → va_S (LwA s) s.heap H locs → Lh ls 4 (adW aX aM b) l →
    W p la e room_1 s m #[Value.ref b] below meth c H locs 600000 7302250 (lw_Z below #[Value.ref b] s) (F0 m pc ls (st.map (cvv (adW aX aM b))))
section LW
variable {p : Program} {la : Launch} {e : Jvm.Env} {s : State} {m : MethodId} {below : List Frame} {meth : Method} {c : Code} {b L : Nat} {xs : Nat → Int32} {F : u_F} {aX aM : Nat → Nat}
theorem Cl.big (hC : Cl p s m meth c b L xs F aX aM) : ∀ w ∈ lw_big, w.before #[Value.ref b] s = true := fun w hw => hC.1.2.2.2.2.2.1 w (List.mem_filter.mp hw).1
theorem Cl.fix (hC : Cl p s m meth c b L xs F aX aM) : CallFix p m c code 4 s #[Value.ref b] lw_big R_law := ⟨hC.1.1, hC.1.2.1, hC.1.2.2.2.1, hC.1.2.2.2.2.1, hC.big⟩

theorem Vl_iconst (hC : Cl p s m meth c b L xs F aX aM) {pc q : Nat} {l : List (Option Value)} {st : List Value} {σ τ : Mem} {n : Int} {v : Int32} (h : decode code pc = .ok (.iconst n, 1)) (hp : pc + 1 = q) (hv : Int32.ofInt n = v) (k : Vl p la e s m below meth c b F aX aM q l (.int v :: st) σ τ) : Vl p la e s m below meth c b F aX aM pc l st σ τ := by
  subst hp
  intro H locs ls hP hD hS hL
  exact lv_iconst hC.1.1 hC.1.2.1 h hv (k H locs ls hP hD hS hL)
theorem Vl_bipush (hC : Cl p s m meth c b L xs F aX aM) {pc q : Nat} {l : List (Option Value)} {st : List Value} {σ τ : Mem} {n : Int} {v : Int32} (h : decode code pc = .ok (.bipush n, 2)) (hp : pc + 2 = q) (hv : (Int8.ofInt n).toInt32 = v) (k : Vl p la e s m below meth c b F aX aM q l (.int v :: st) σ τ) : Vl p la e s m below meth c b F aX aM pc l st σ τ := by
  subst hp
  intro H locs ls hP hD hS hL
  exact lv_bipush hC.1.1 hC.1.2.1 h hv (k H locs ls hP hD hS hL)
theorem Vl_iloadn (hC : Cl p s m meth c b L xs F aX aM) {pc q : Nat} {l : List (Option Value)} {st : List Value} {σ τ : Mem} {i : Nat} {k4 : Fin 4} {x : Int32} (h : decode code pc = .ok (.iload_n k4, 1)) (hp : pc + 1 = q) (hi : (k4 : Nat) = i) (hl : l[i]? = some (some (.int x))) (k : Vl p la e s m below meth c b F aX aM q l (.int x :: st) σ τ) : Vl p la e s m below meth c b F aX aM pc l st σ τ := by
  subst hp
  intro H locs ls hP hD hS hL
  exact lv_iload_n hC.1.1 hC.1.2.1 h hi (hL.2.2 i _ hl) (k H locs ls hP hD hS hL)
theorem Vl_aloadn (hC : Cl p s m meth c b L xs F aX aM) {pc q : Nat} {l : List (Option Value)} {st : List Value} {σ τ : Mem} {i : Nat} {k4 : Fin 4} {x : Nat} (h : decode code pc = .ok (.aload_n k4, 1)) (hp : pc + 1 = q) (hi : (k4 : Nat) = i) (hl : l[i]? = some (some (.ref x))) (k : Vl p la e s m below meth c b F aX aM q l (.ref x :: st) σ τ) : Vl p la e s m below meth c b F aX aM pc l st σ τ := by
  subst hp
  intro H locs ls hP hD hS hL
  exact lv_aload_n hC.1.1 hC.1.2.1 h hi (hL.2.2 i _ hl) (k H locs ls hP hD hS hL)
theorem Vl_istoren (hC : Cl p s m meth c b L xs F aX aM) {pc q : Nat} {l : List (Option Value)} {st : List Value} {σ τ : Mem} {i : Nat} {k4 : Fin 4} {x : Int32} (h : decode code pc = .ok (.istore_n k4, 1)) (hp : pc + 1 = q) (hi : (k4 : Nat) = i) (hn : i < 4) (hk : okP l i = true) (k : Vl p la e s m below meth c b F aX aM q (l.set i (some (.int x))) st σ τ) : Vl p la e s m below meth c b F aX aM pc l (.int x :: st) σ τ := by
  subst hp
  intro H locs ls hP hD hS hL
  exact lv_istore_n hC.1.1 hC.1.2.1 h hi hL.has hn rfl (fun ls' hl' => k H locs ls' hP hD hS (Lh_back1 rfl hk hl'))
theorem Vl_iinc (hC : Cl p s m meth c b L xs F aX aM) {pc q : Nat} {l : List (Option Value)} {st : List Value} {σ τ : Mem} {i : Nat} {n : Int} {x v : Int32} (h : decode code pc = .ok (.iinc i n, 3)) (hp : pc + 3 = q) (hl : l[i]? = some (some (.int x))) (hv : x + Int32.ofInt n = v) (hn : i < 4) (hk : okP l i = true) (k : Vl p la e s m below meth c b F aX aM q (l.set i (some (.int v))) st σ τ) : Vl p la e s m below meth c b F aX aM pc l st σ τ := by
  subst hp
  intro H locs ls hP hD hS hL
  have hm : (i, Value.int x) ∈ prs (adW aX aM b) 0 l := (prs_mem l 0).mpr ⟨i, .int x, by omega, hl, rfl⟩
  obtain ⟨kk, hkk⟩ := List.getElem?_of_mem hm
  exact lv_iinc hC.1.1 hC.1.2.1 h hL.has hkk hv hn rfl (fun ls' hl' => k H locs ls' hP hD hS (Lh_back1 rfl hk hl'))
theorem Vl_iadd (hC : Cl p s m meth c b L xs F aX aM) {pc q : Nat} {l : List (Option Value)} {st : List Value} {σ τ : Mem} {x y : Int32} (h : decode code pc = .ok (.iadd, 1)) (hp : pc + 1 = q) (k : Vl p la e s m below meth c b F aX aM q l (.int (x + y) :: st) σ τ) : Vl p la e s m below meth c b F aX aM pc l (.int y :: .int x :: st) σ τ := by
  subst hp
  intro H locs ls hP hD hS hL
  exact lv_iadd hC.1.1 hC.1.2.1 h (k H locs ls hP hD hS hL)
theorem Vl_isub (hC : Cl p s m meth c b L xs F aX aM) {pc q : Nat} {l : List (Option Value)} {st : List Value} {σ τ : Mem} {x y : Int32} (h : decode code pc = .ok (.isub, 1)) (hp : pc + 1 = q) (k : Vl p la e s m below meth c b F aX aM q l (.int (x - y) :: st) σ τ) : Vl p la e s m below meth c b F aX aM pc l (.int y :: .int x :: st) σ τ := by
  subst hp
  intro H locs ls hP hD hS hL
  exact lv_isub hC.1.1 hC.1.2.1 h (k H locs ls hP hD hS hL)
theorem Vl_iand (hC : Cl p s m meth c b L xs F aX aM) {pc q : Nat} {l : List (Option Value)} {st : List Value} {σ τ : Mem} {x y : Int32} (h : decode code pc = .ok (.iand, 1)) (hp : pc + 1 = q) (k : Vl p la e s m below meth c b F aX aM q l (.int (x &&& y) :: st) σ τ) : Vl p la e s m below meth c b F aX aM pc l (.int y :: .int x :: st) σ τ := by
  subst hp
  intro H locs ls hP hD hS hL
  exact lv_iand hC.1.1 hC.1.2.1 h (k H locs ls hP hD hS hL)
theorem Vl_i2l (hC : Cl p s m meth c b L xs F aX aM) {pc q : Nat} {l : List (Option Value)} {st : List Value} {σ τ : Mem} {x : Int32} (h : decode code pc = .ok (.i2l, 1)) (hp : pc + 1 = q) (k : Vl p la e s m below meth c b F aX aM q l (.long x.toInt64 :: st) σ τ) : Vl p la e s m below meth c b F aX aM pc l (.int x :: st) σ τ := by
  subst hp
  intro H locs ls hP hD hS hL
  exact lv_i2l hC.1.1 hC.1.2.1 h rfl (k H locs ls hP hD hS hL)
theorem Vl_lshl (hC : Cl p s m meth c b L xs F aX aM) {pc q : Nat} {l : List (Option Value)} {st : List Value} {σ τ : Mem} {x : Int64} {y : Int32} (h : decode code pc = .ok (.lshl, 1)) (hp : pc + 1 = q) (k : Vl p la e s m below meth c b F aX aM q l (.long (x <<< (y.toInt64 &&& 63)) :: st) σ τ) : Vl p la e s m below meth c b F aX aM pc l (.int y :: .long x :: st) σ τ := by
  subst hp
  intro H locs ls hP hD hS hL
  exact lv_lshl hC.1.1 hC.1.2.1 h rfl (k H locs ls hP hD hS hL)
theorem Vl_land (hC : Cl p s m meth c b L xs F aX aM) {pc q : Nat} {l : List (Option Value)} {st : List Value} {σ τ : Mem} {x y : Int64} (h : decode code pc = .ok (.land, 1)) (hp : pc + 1 = q) (k : Vl p la e s m below meth c b F aX aM q l (.long (x &&& y) :: st) σ τ) : Vl p la e s m below meth c b F aX aM pc l (.long y :: .long x :: st) σ τ := by
  subst hp
  intro H locs ls hP hD hS hL
  exact lv_land hC.1.1 hC.1.2.1 h (k H locs ls hP hD hS hL)
theorem Vl_lor (hC : Cl p s m meth c b L xs F aX aM) {pc q : Nat} {l : List (Option Value)} {st : List Value} {σ τ : Mem} {x y : Int64} (h : decode code pc = .ok (.lor, 1)) (hp : pc + 1 = q) (k : Vl p la e s m below meth c b F aX aM q l (.long (x ||| y) :: st) σ τ) : Vl p la e s m below meth c b F aX aM pc l (.long y :: .long x :: st) σ τ := by
  subst hp
  intro H locs ls hP hD hS hL
  exact lv_lor hC.1.1 hC.1.2.1 h (k H locs ls hP hD hS hL)
theorem Vl_lcmp (hC : Cl p s m meth c b L xs F aX aM) {pc q : Nat} {l : List (Option Value)} {st : List Value} {σ τ : Mem} {x y : Int64} (h : decode code pc = .ok (.lcmp, 1)) (hp : pc + 1 = q) (k : Vl p la e s m below meth c b F aX aM q l (.int (lg_cmp x y) :: st) σ τ) : Vl p la e s m below meth c b F aX aM pc l (.long y :: .long x :: st) σ τ := by
  subst hp
  intro H locs ls hP hD hS hL
  exact W.lcmp hC.1.1 hC.1.2.1 h (k H locs ls hP hD hS hL)
theorem Vl_if_eq (hC : Cl p s m meth c b L xs F aX aM) {pc q : Nat} {l : List (Option Value)} {st : List Value} {σ τ : Mem} {x : Int32} {off : Int} {tgt : Nat} (h : decode code pc = .ok (.ifCond .eq off, 3)) (ht : (pc : Int) + off = (tgt : Int)) (hp : pc + 3 = q) (kt : x = 0 → Vl p la e s m below meth c b F aX aM tgt l st σ τ) (kf : ¬ x = 0 → Vl p la e s m below meth c b F aX aM q l st σ τ) : Vl p la e s m below meth c b F aX aM pc l (.int x :: st) σ τ := by
  subst hp
  intro H locs ls hP hD hS hL
  exact lv_if_eq hC.1.1 hC.1.2.1 h ht (fun z => kt z H locs ls hP hD hS hL) (fun z => kf z H locs ls hP hD hS hL)
theorem Vl_icmp_eq (hC : Cl p s m meth c b L xs F aX aM) {pc q : Nat} {l : List (Option Value)} {st : List Value} {σ τ : Mem} {x y : Int32} {off : Int} {tgt : Nat} (h : decode code pc = .ok (.if_icmp .eq off, 3)) (ht : (pc : Int) + off = (tgt : Int)) (hp : pc + 3 = q) (kt : x = y → Vl p la e s m below meth c b F aX aM tgt l st σ τ) (kf : ¬ x = y → Vl p la e s m below meth c b F aX aM q l st σ τ) : Vl p la e s m below meth c b F aX aM pc l (.int y :: .int x :: st) σ τ := by
  subst hp
  intro H locs ls hP hD hS hL
  exact lv_icmp_eq hC.1.1 hC.1.2.1 h ht (fun z => kt z H locs ls hP hD hS hL) (fun z => kf z H locs ls hP hD hS hL)
theorem Vl_icmp_gt (hC : Cl p s m meth c b L xs F aX aM) {pc q : Nat} {l : List (Option Value)} {st : List Value} {σ τ : Mem} {x y : Int32} {off : Int} {tgt : Nat} (h : decode code pc = .ok (.if_icmp .gt off, 3)) (ht : (pc : Int) + off = (tgt : Int)) (hp : pc + 3 = q) (kt : y < x → Vl p la e s m below meth c b F aX aM tgt l st σ τ) (kf : ¬ y < x → Vl p la e s m below meth c b F aX aM q l st σ τ) : Vl p la e s m below meth c b F aX aM pc l (.int y :: .int x :: st) σ τ := by
  subst hp
  intro H locs ls hP hD hS hL
  exact lv_icmp_gt hC.1.1 hC.1.2.1 h ht (fun z => kt z H locs ls hP hD hS hL) (fun z => kf z H locs ls hP hD hS hL)
theorem Vl_goto (hC : Cl p s m meth c b L xs F aX aM) {pc q : Nat} {l : List (Option Value)} {st : List Value} {σ τ : Mem} {off : Int} (h : decode code pc = .ok (.goto off, 3)) (ht : (pc : Int) + off = (q : Int)) (k : Vl p la e s m below meth c b F aX aM q l st σ τ) : Vl p la e s m below meth c b F aX aM pc l st σ τ := by
  intro H locs ls hP hD hS hL
  exact lv_goto hC.1.1 hC.1.2.1 h ht (k H locs ls hP hD hS hL)
theorem Vl_tableIn (hC : Cl p s m meth c b L xs F aX aM) {pc q : Nat} {l : List (Option Value)} {st : List Value} {σ τ : Mem} {dflt lo hi : Int} {offs : Array Int} {len : Nat} {x : Int32} {off : Int} (h : decode code pc = .ok (.tableswitch dflt lo hi offs, len)) (h1 : ¬ x.toInt < lo) (h2 : ¬ hi < x.toInt) (ho : offs[(x.toInt - lo).toNat]? = some off) (ht : (pc : Int) + off = (q : Int)) (k : Vl p la e s m below meth c b F aX aM q l st σ τ) : Vl p la e s m below meth c b F aX aM pc l (.int x :: st) σ τ := by
  intro H locs ls hP hD hS hL
  exact lv_tableIn hC.1.1 hC.1.2.1 h h1 h2 ho ht (k H locs ls hP hD hS hL)
theorem Vl_tableOut (hC : Cl p s m meth c b L xs F aX aM) {pc q : Nat} {l : List (Option Value)} {st : List Value} {σ τ : Mem} {dflt lo hi : Int} {offs : Array Int} {len : Nat} {x : Int32} (h : decode code pc = .ok (.tableswitch dflt lo hi offs, len)) (hx : x.toInt < lo ∨ hi < x.toInt) (ht : (pc : Int) + dflt = (q : Int)) (k : Vl p la e s m below meth c b F aX aM q l st σ τ) : Vl p la e s m below meth c b F aX aM pc l (.int x :: st) σ τ := by
  intro H locs ls hP hD hS hL
  exact lv_tableOut hC.1.1 hC.1.2.1 h hx ht (k H locs ls hP hD hS hL)
theorem Vl_ldc2 (hC : Cl p s m meth c b L xs F aX aM) {pc q : Nat} {l : List (Option Value)} {st : List Value} {σ τ : Mem} {ix : Nat} {v : Int64} (h : decode code pc = .ok (.ldc2_w ix, 3)) (hp : pc + 3 = q) (hw : Cond.constantLong RL ix v ∈ lw_big) (k : Vl p la e s m below meth c b F aX aM q l (.long v :: st) σ τ) : Vl p la e s m below meth c b F aX aM pc l st σ τ := by
  subst hp
  intro H locs ls hP hD hS hL
  exact lv_ldc2 hC.1.1 hC.1.2.1 hC.1.2.2.2.2.1 (hC.big _ hw) h (k H locs ls hP hD hS hL)
theorem Vl_sld (hC : Cl p s m meth c b L xs F aX aM) {pc q : Nat} {l : List (Option Value)} {st : List Value} {σ τ : Mem} {i : Int32} (hin : vp_in i L) (h : decode code pc = .ok (.iaload, 1)) (hp : pc + 1 = q) (kk : Vl p la e s m below meth c b F aX aM q l (.int (xs i.toNatClampNeg) :: st) σ τ) : Vl p la e s m below meth c b F aX aM pc l (.int i :: .ref 2 :: st) σ τ := by
  subst hp
  intro H locs ls hP hD hS hL
  exact va_sld hC.1.1 hC.1.2.1 hC.1.2.2.2.2.2.2.1 hC.1.2.2.2.2.2.2.2.1 (Nat.not_le.mpr hC.1.2.2.2.2.2.2.2.1) hS hin h (kk H locs ls hP hD hS hL)
theorem Vl_slen (hC : Cl p s m meth c b L xs F aX aM) {pc q : Nat} {l : List (Option Value)} {st : List Value} {σ τ : Mem} (h : decode code pc = .ok (.arraylength, 1)) (hp : pc + 1 = q) (kk : Vl p la e s m below meth c b F aX aM q l (.int (nI L) :: st) σ τ) : Vl p la e s m below meth c b F aX aM pc l (.ref 2 :: st) σ τ := by
  subst hp
  intro H locs ls hP hD hS hL
  exact va_slen hC.1.1 hC.1.2.1 hC.1.2.2.2.2.2.2.1 hC.1.2.2.2.2.2.2.2.1 (Nat.not_le.mpr hC.1.2.2.2.2.2.2.2.1) hS h (kk H locs ls hP hD hS hL)
theorem Vl_end (hC : Cl p s m meth c b L xs F aX aM) {pc : Nat} {l : List (Option Value)} {σ τ : Mem} (h : decode code pc = .ok (.ireturn, 1)) : Vl p la e s m below meth c b F aX aM pc l [.int 1] σ τ := by
  intro H locs ls hP hD hS hL
  refine va_forget (fun q hq => hS.2.2 q hq) ?_
  exact lw_ret hC.1.1 hC.1.2.1 hC.1.2.2.1 hC.1.2.2.2.2.2.2.2.2.1 h
theorem swP {D : va_G} {cl : List vw_C} {a b : va_W} {H : Heap} (h : va_P D cl (a ++ b) H) : va_P D cl (b ++ a) H := va_P.swap (a := []) h
theorem swD {A : Nat → Prop} {a b : va_W} (h : va_D A (a ++ b)) : va_D A (b ++ a) := va_D.swap (a := []) h
theorem adW_v {aX aM : Nat → Nat} {b : Nat} {av : List Value} (h : av.all (fun v => match v with | .ref _ => false | _ => true) = true) (ad : Nat → Nat) : av.map (cvv (adW aX aM b)) = av.map (cvv ad) := by
  refine List.map_congr_left fun v hv => ?_
  have := List.all_eq_true.mp h v hv
  cases v <;> first | rfl | cases this
theorem Vl_callX (hC : Cl p s m meth c b L xs F aX aM) {pc q ix : Nat} {l : List (Option Value)} {st0 rest av : List Value} {σ τ : Mem} {M' : MI} {T : u_T} {N : Nat} {Mid : Option Value → Mem → Prop} (hc : Ct shX 8 M' (.ref 0 :: av) σ Mid) (hcl : vwCl[9]? = some (M'.1.cls, T, N)) (hLk : LKm R_law ix M') (hV : MVi M') (hM : MOk M' av.length) (hav : av.all (fun v => match v with | .ref _ => false | _ => true) = true)
    (h : decode code pc = .ok (.invokevirtual ix, 3)) (hp : pc + 3 = q) (hst : st0 = av.reverse ++ .ref 0 :: rest) (hcat : (rest.map fun v => v.category).sum ≤ 8) (kk : ∀ r σ', Mid r σ' → (∀ a, r ≠ some (.ref a)) → Vl p la e s m below meth c b F aX aM q l (r.toList ++ rest) σ' τ) (hnr : ∀ r σ', Mid r σ' → ∀ a, r ≠ some (.ref a)) : Vl p la e s m below meth c b F aX aM pc l st0 σ τ := by
  subst hp
  intro H locs ls hP hD hS hL
  have hR : 8 + 1 ≤ room_1.frames ∧ 8 + (M'.2.2.1 + 11) + 36 * 8 ≤ room_1.locals := ⟨by decide, by have h17 := hM.2.2.2; have h324 : (324 : Nat) ≤ room_1.locals := (by decide); omega⟩
  refine W_call (k' := 8) (d' := 8) (sh := shX) (ad := aX) (A := LwA s) (F := F) (rest := rest.map (cvv (adW aX aM b))) hC.fix hC.2.1 (fun q hq => hq) hc (Nat.le_refl 8) hR rfl hcl hLk hV hM (Nat.le_of_ble_eq_true rfl) (Nat.le_of_ble_eq_true rfl) h ?_ (by rw [cat_sum]; exact hcat) hL.1 (swP hP) (swD hD) hS (fun r σ' H1 locs1 hm hP1 hD1 hS1 => ?_)
  · subst hst
    rw [List.map_append, List.map_reverse, adW_v hav aX]
    rfl
  · have hk := kk r σ' hm (hnr r σ' hm) H1 locs1 ls (swP hP1) (swD hD1) hS1 hL
    have e : (r.toList ++ rest).map (cvv (adW aX aM b)) = (r.map (cvv aX)).toList ++ rest.map (cvv (adW aX aM b)) := by
      have hz := hnr r σ' hm
      have e1 : r.toList.map (cvv (adW aX aM b)) = (r.map (cvv aX)).toList := by
        cases r with
        | none => rfl
        | some v => cases v <;> first | rfl | exact absurd rfl (hz _)
      rw [List.map_append, e1]
    rw [e] at hk
    exact hk
theorem Vl_callM (hC : Cl p s m meth c b L xs F aX aM) {pc q ix : Nat} {l : List (Option Value)} {st0 rest av : List Value} {σ τ : Mem} {M' : MI} {T : u_T} {N : Nat} {Mid : Option Value → Mem → Prop} (hc : Ct shM 8 M' (.ref 0 :: av) τ Mid) (hcl : vwCl[10]? = some (M'.1.cls, T, N)) (hLk : LKm R_law ix M') (hV : MVi M') (hM : MOk M' av.length) (hav : av.all (fun v => match v with | .ref _ => false | _ => true) = true)
    (h : decode code pc = .ok (.invokevirtual ix, 3)) (hp : pc + 3 = q) (hst : st0 = av.reverse ++ .ref 1 :: rest) (hcat : (rest.map fun v => v.category).sum ≤ 8) (kk : ∀ r τ', Mid r τ' → (∀ a, r ≠ some (.ref a)) → Vl p la e s m below meth c b F aX aM q l (r.toList ++ rest) σ τ') (hnr : ∀ r σ', Mid r σ' → ∀ a, r ≠ some (.ref a)) : Vl p la e s m below meth c b F aX aM pc l st0 σ τ := by
  subst hp
  intro H locs ls hP hD hS hL
  have hR : 8 + 1 ≤ room_1.frames ∧ 8 + (M'.2.2.1 + 11) + 36 * 8 ≤ room_1.locals := ⟨by decide, by have h17 := hM.2.2.2; have h324 : (324 : Nat) ≤ room_1.locals := (by decide); omega⟩
  have hSx : Sx (aM, LwA s, F) s s.heap := by
    have := hC.2.1
    unfold Sx at this ⊢
    simp only [hC.2.2.1, hC.2.2.2]
    exact this
  refine W_call (k' := 8) (d' := 8) (sh := shM) (ad := aM) (A := LwA s) (F := F) (rest := rest.map (cvv (adW aX aM b))) hC.fix hSx (fun q hq => hq) hc (Nat.le_refl 8) hR rfl hcl hLk hV hM (Nat.le_of_ble_eq_true rfl) (Nat.le_of_ble_eq_true rfl) h ?_ (by rw [cat_sum]; exact hcat) hL.1 hP hD hS (fun r σ' H1 locs1 hm hP1 hD1 hS1 => ?_)
  · subst hst
    rw [List.map_append, List.map_reverse, adW_v hav aM]
    rfl
  · have hk := kk r σ' hm (hnr r σ' hm) H1 locs1 ls hP1 hD1 hS1 hL
    have e : (r.toList ++ rest).map (cvv (adW aX aM b)) = (r.map (cvv aM)).toList ++ rest.map (cvv (adW aX aM b)) := by
      have hz := hnr r σ' hm
      have e1 : r.toList.map (cvv (adW aX aM b)) = (r.map (cvv aM)).toList := by
        cases r with
        | none => rfl
        | some v => cases v <;> first | rfl | exact absurd rfl (hz _)
      rw [List.map_append, e1]
    rw [e] at hk
    exact hk
end LW
