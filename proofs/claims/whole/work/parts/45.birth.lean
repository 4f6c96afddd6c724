/-! calls of constructors -/
theorem good_big {M' : MI} {n : Nat} (h : MOk M' n) : GoodIn lw_big (mWs M') := by
  intro w hw
  rcases List.mem_cons.mp hw with rfl | hw
  · exact ⟨h.1, big_good _ h.1⟩
  · exact ⟨hw, big_good _ hw⟩
theorem Sx.nar {E : Qe} {B : Nat → Prop} {s : State} {H : Heap} (h : Sx E s H) (hB : ∀ q, B q → E.2.1 q) : Sx (E.1, B, E.2.2) s H :=
  ⟨h.1, h.2.1, ⟨h.2.2.1.1.narrow hB, h.2.2.1.2.narrow hB⟩, h.2.2.2.1.narrow hB, h.2.2.2.2.narrow hB⟩
theorem Pn_blind {E : Qe} {ws : va_W} {av : List Value} : FrameBlind (va_Pc av (Pn E ws)) := fun a U g mk h =>
  ⟨h.1, h.2.1, h.2.2.1, Sx.go (s := U) (U := U.calling g mk a) (Vm.Alike.refl U.vm) (nest_same (s := U) (U := U.calling g mk a) rfl h.2.2.2.1.2.1) (fun _ _ _ => rfl) h.2.2.2.1, h.2.2.2.2⟩
theorem vn_join {A0 : Nat → Prop} {D : va_G} {cl : List vw_C} {wr wc w1 : va_W} {H H1 : Heap} (hP : va_P D cl (wr ++ wc) H) (hD : va_D A0 (wr ++ wc)) (hk : ∀ q, q < H.size → ¬ va_A wc H.size q → H1[q]? = H[q]?) (hF : ∀ q, va_A wc H.size q → A0 q) (hP1 : va_P D cl w1 H1) (hD1 : va_D (va_A wc H.size) w1) : va_P D cl (wr ++ w1) H1 ∧ va_D A0 (wr ++ w1) := by
  have hw : ∀ (i : Nat) (x : Nat × va_E), wr[i]? = some x → x.1 < H.size ∧ ¬ va_A wc H.size x.1 := by
    intro i x hx
    have hi := (List.getElem?_eq_some_iff.mp hx).1
    have hx' : (wr ++ wc)[i]? = some x := by rw [List.getElem?_append_left hi]; exact hx
    have hl := (hP i x hx').lt
    refine ⟨hl, ?_⟩
    rintro (⟨j, e, hj⟩ | h)
    · have hj' : (wr ++ wc)[wr.length + j]? = some (x.1, e) := by rw [List.getElem?_append_right (by omega), Nat.add_sub_cancel_left]; exact hj
      have := hD.1 i (wr.length + j) x (x.1, e) hx' hj' rfl
      omega
    · omega
  refine ⟨va_P.app (fun i x hx => ?_) hP1, va_D.app ⟨fun i j p q hi hj e => ?_, fun i x hx => ?_⟩ (hD1.weaken fun _ q _ h => hF q.1 h) (fun i j p q hi hj e => ?_)⟩
  · have hi := (List.getElem?_eq_some_iff.mp hx).1
    have hx' : (wr ++ wc)[i]? = some x := by rw [List.getElem?_append_left hi]; exact hx
    obtain ⟨h1, h2⟩ := hw i x hx
    exact (hP i x hx').kept (hk x.1 h1 h2)
  · have hi' : (wr ++ wc)[i]? = some p := by rw [List.getElem?_append_left (List.getElem?_eq_some_iff.mp hi).1]; exact hi
    have hj' : (wr ++ wc)[j]? = some q := by rw [List.getElem?_append_left (List.getElem?_eq_some_iff.mp hj).1]; exact hj
    exact hD.1 i j p q hi' hj' e
  · have hx' : (wr ++ wc)[i]? = some x := by rw [List.getElem?_append_left (List.getElem?_eq_some_iff.mp hx).1]; exact hx
    exact hD.2 i x hx'
  · exact (hw i p hi).2 (by rw [e]; exact hD1.2 j q hj)
theorem vn_sub {A0 : Nat → Prop} {wr wc : va_W} (hD : va_D A0 (wr ++ wc)) : va_D A0 wc := by
  refine ⟨fun i j p q hi hj e => ?_, fun i x hx => ?_⟩
  · have hi' : (wr ++ wc)[wr.length + i]? = some p := by rw [List.getElem?_append_right (by omega), Nat.add_sub_cancel_left]; exact hi
    have hj' : (wr ++ wc)[wr.length + j]? = some q := by rw [List.getElem?_append_right (by omega), Nat.add_sub_cancel_left]; exact hj
    have := hD.1 _ _ p q hi' hj' e
    omega
  · have hx' : (wr ++ wc)[wr.length + i]? = some x := by rw [List.getElem?_append_right (by omega), Nat.add_sub_cancel_left]; exact hx
    exact hD.2 _ x hx'
theorem vn_subP {D : va_G} {cl : List vw_C} {wr wc : va_W} {H : Heap} (hP : va_P D cl (wr ++ wc) H) : va_P D cl wc H := fun i x hx => hP (wr.length + i) x (by rw [List.getElem?_append_right (by omega), Nat.add_sub_cancel_left]; exact hx)
/-- a constructor called from anywhere -/
theorem W_init {p : Program} {la : Launch} {e : Jvm.Env} {R : Room} {s : State} {m : MethodId} {args : Array Value} {below : List Frame} {meth : Method} {c : Code} {H : Heap} {locs : List Loc} {cells slots : Nat} {Q : State → Prop} {ls : Array Slot} {pc : Nat}
    {E : Qe} {cc : ByteArray} {nL : Nat} {own : String} {k' d' mc' ms' ix a L' : Nat} {y' : MethodName} {c' : ByteArray} {av rest st0 : List Value} {wr wc : va_W} {Mid : va_W → Prop}
    (hF : CallFix p m c cc nL s args lw_big own) (hS0 : Sx E s s.heap) (hA : ∀ q, s.heap.size ≤ q → E.2.1 q)
    (hc : ∀ B : Nat → Prop, Cn k' mc' ms' (y', c', L', none) (.ref a :: av) (E.1, B, E.2.2) wc Mid) (hk : k' ≤ d') (hR : d' + 1 ≤ R.frames ∧ 8 + (L' + 11) + 36 * d' ≤ R.locals) (hLk : LKm own ix (y', c', L', none)) (hM : MOk (y', c', L', none) av.length) (hI : Cond.instanceMethod y' ∈ lw_big) (hy : y'.name = "<init>")
    (hc1 : cells + mc' ≤ R.cells) (hc2 : slots + ms' ≤ R.slots) (h : decode cc pc = .ok (.invokespecial ix, 3)) (hst : st0 = av.reverse ++ .ref a :: rest) (hcat : (rest.map fun v => v.category).sum ≤ 8) (hls : ls.size = nL)
    (hP : va_P (E.2.2.1, E.2.2.2.1) vwCl (wr ++ wc) H) (hD : va_D E.2.1 (wr ++ wc)) (hS : va_S E.2.1 s.heap H locs)
    (kk : ∀ (w1 : va_W) (H1 : Heap) (locs1 : List Loc), Mid w1 → va_P (E.2.2.1, E.2.2.2.1) vwCl (wr ++ w1) H1 → va_D E.2.1 (wr ++ w1) → va_S E.2.1 s.heap H1 locs1 → W p la e R s m args below meth c H1 locs1 (cells + mc') (slots + ms') Q (F0 m (pc + 3) ls rest)) : W p la e R s m args below meth c H locs cells slots Q (F0 m pc ls st0) := by
  have hFr : ∀ q, va_A wc H.size q → E.2.1 q := by
    rintro q (⟨i, e, hi⟩ | hq)
    · exact (vn_sub hD).2 i (q, e) hi
    · exact hA q (Nat.le_trans hS.1 hq)
  have hMet := hc (va_A wc H.size) d' hk la
  have hG := good_big hM
  have ht : ∀ w ∈ lw_big, w.before args s = true := hF.2.2.2.2
  have hpre : PreS s H (va_Pc (.ref a :: av) (Pn (E.1, va_A wc H.size, E.2.2) wc)) (.ref a :: av) := ⟨Pn_blind, fun U hU hW => ⟨rfl, by rw [hU]; exact vn_subP hP, (vn_sub hD).self, by
    rw [hU]
    exact Sx.nar (Sx.go hW.alike (nest_go hW hS0.2.1) (fun a h1 h2 => hS.2.1 a h1 h2) hS0) hFr, fun q hq => Or.inr (by rw [hU] at hq; exact hq)⟩⟩
  have hroom := lv_room (m := m) (pc := pc) (ls := ls) (rest := st0) (st := rest) hcat
  have hrun : va_Run p la e R s m args below meth c H locs cells slots mc' ms' (F0 m pc ls st0) rest (Qn (E.1, va_A wc H.size, E.2.2) Mid (Value.ref a :: av).toArray) (va_A wc H.size) := by
    rcases hLk with hl | ⟨host, hl⟩
    · exact va_runI hF hMet ⟨callB_of av.length ht hG rfl rfl rfl (ht _ hM.2.1) (ht _ hl) hM.2.2.1 hR, hy, ht _ hI⟩ hpre rfl rfl hls hst hroom h ⟨hc1, hc2⟩
    · exact va_runIN hF hMet ⟨va_cnB av.length ht hG rfl rfl rfl (hS0.2.1 _ hl) (ht _ hM.2.1) hM.2.2.1 hR, hy, ht _ hI⟩ hpre rfl rfl hls hst hroom h ⟨hc1, hc2⟩
  intro T hT X
  obtain ⟨v, st₀, t, T', L, h0, X', hLo, e1, e2, ⟨⟨w1, hv, hPo, hPt, hDt⟩, hz, hkp⟩, stp⟩ := hrun T hT X
  cases hv
  rw [h0] at hz hkp
  rw [← e1] at hPt hz hkp
  obtain ⟨hP2, hD2⟩ := vn_join hP hD hkp hFr hPt hDt
  have hS' : va_S E.2.1 s.heap T'.heap (locs ++ L) := ⟨Nat.le_trans hS.1 hz, fun q h1 h2 => by rw [hkp q (Nat.lt_of_lt_of_le h1 hS.1) (fun z => h2 (hFr q z))]; exact hS.2.1 q h1 h2, fun q hq => by
    rcases List.mem_append.mp hq with h | h
    · exact hS.2.2 q h
    · exact hFr _ (hLo q h)⟩
  obtain ⟨t2, a1, b1⟩ := kk w1 T'.heap (locs ++ L) hPo hP2 hD2 hS' T' rfl X'
  exact ⟨t2, stp t2 a1, b1⟩
theorem Nj_run {k mc ms cc cs : Nat} {M : MI} {E : Qe} {Post : va_W → Prop} {pc q : Nat} {l : List (Option Value)} {k' mc' ms' ix a L' : Nat} {y' : MethodName} {c' : ByteArray} {av rest st0 : List Value} {wr wc : va_W} {Mid : va_W → Prop} (hc : ∀ B : Nat → Prop, Cn k' mc' ms' (y', c', L', none) (.ref a :: av) (E.1, B, E.2.2) wc Mid) (hk : k' + 1 ≤ k) (hLk : LKm M.1.cls ix (y', c', L', none)) (hM : MOk (y', c', L', none) av.length) (hI : Cond.instanceMethod y' ∈ lw_big) (hy : y'.name = "<init>") (hc1 : cc + mc' ≤ mc) (hc2 : cs + ms' ≤ ms) (h : decode M.2.1 pc = .ok (.invokespecial ix, 3)) (hp : pc + 3 = q) (hst : st0 = av.reverse ++ .ref a :: rest) (hcat : (rest.map fun v => v.category).sum ≤ 8)
    (kk : ∀ w1, Mid w1 → Nj k mc ms M E Post q l rest (wr ++ w1) (cc + mc') (cs + ms')) : Nj k mc ms M E Post pc l st0 (wr ++ wc) cc cs := by
  subst hp
  intro d hd p la e s m args below meth c H locs ls hC hi hA hP hD hS hL
  obtain ⟨d', rfl⟩ : ∃ d', d = d' + 1 := ⟨d - 1, by omega⟩
  have hR : d' + 1 ≤ (rmn (d' + 1) mc ms).frames ∧ 8 + (L' + 11) + 36 * d' ≤ (rmn (d' + 1) mc ms).locals := ⟨Nat.le_refl _, by have := hM.2.2.2; simp only [rmn]; simp only at this; omega⟩
  exact W_init (hF := ⟨hC.1, hC.2.1, hC.2.2.1, hC.2.2.2.2.2.1, fun w hw => ts_u hC hw⟩) hC.2.2.2.2.2.2.2 hA hc (by omega) hR hLk hM hI hy hc1 hc2 h hst hcat hL.1 hP hD hS (fun w1 H1 locs1 hm hP1 hD1 hS1 => kk w1 hm _ hd p la e s m args below meth c H1 locs1 ls hC hi hA hP1 hD1 hS1 hL)
/-- a method of the whole system, called in a constructor -/
theorem Nj_callV {k mc ms cc cs : Nat} {M : MI} {E : Qe} {Post : va_W → Prop} {pc q : Nat} {l : List (Option Value)} {sh : Shp} {ad : Nat → Nat} {k' ix a ci N : Nat} {M' : MI} {T : u_T} {fs : List (Nat × Nat)} {av : List Value} {rest st0 : List Value} {σ : Mem} {Mid : Option Value → Mem → Prop} (h0 : ad 1000 = E.1 1000) (h1 : ad 1001 = E.1 1001) (hc : Ct sh k' M' (.ref a :: av) σ Mid) (hk : k' + 1 ≤ k) (hq : sh[a]? = some (.inr (ci, fs))) (hcl : vwCl[ci]? = some (M'.1.cls, T, N)) (hLk : LKm M.1.cls ix M') (hV : MVi M') (hM : MOk M' av.length) (hc1 : cc ≤ mc) (hc2 : cs ≤ ms)
    (h : decode M.2.1 pc = .ok (.invokevirtual ix, 3)) (hp : pc + 3 = q) (hst : st0 = (av.map (cvv ad)).reverse ++ .ref (ad a) :: rest) (hcat : (rest.map fun v => v.category).sum ≤ 8) (kk : ∀ r σ', Mid r σ' → Nj k mc ms M E Post q l ((r.map (cvv ad)).toList ++ rest) (wd sh (ad, E.2.1, E.2.2) σ') cc cs) : Nj k mc ms M E Post pc l st0 (wd sh (ad, E.2.1, E.2.2) σ) cc cs := by
  subst hp
  intro d hd p la e s m args below meth c H locs ls hC hi hA hP hD hS hL
  obtain ⟨d', rfl⟩ : ∃ d', d = d' + 1 := ⟨d - 1, by omega⟩
  have hSx : Sx (ad, E.2.1, E.2.2) s s.heap := by
    have := hC.2.2.2.2.2.2.2
    unfold Sx at this ⊢
    simp only [h0, h1]
    exact this
  have hMet := hc d' (by omega) (ad, E.2.1, E.2.2) la
  have hG := good_in (M := M) hM
  have hH : Hx sh (ad, E.2.1, E.2.2) σ s H locs := ⟨hP, hD, hS⟩
  have hpre : PreV s H M'.1.cls (ad a) (va_Pc ((Value.ref a :: av).map (cvv ad)) (Px sh (ad, E.2.1, E.2.2) σ)) (av.map (cvv ad)) := ⟨Px_blind, va_recv hC.2.2.2.2.2.2.2.1 hP hcl (wd_get hq), fun U hU hW => ⟨rfl, Px_now hH hSx hU hW⟩⟩
  have hR : (rmd d').frames + 1 ≤ (rmn (d' + 1) mc ms).frames ∧ 8 + (M'.2.2.1 + 11) + (rmd d').locals ≤ (rmn (d' + 1) mc ms).locals := ⟨Nat.le_refl _, by have := hM.2.2.2; simp only [rmd, rmn]; omega⟩
  have hroom := lv_room (m := m) (pc := pc) (ls := ls) (rest := st0) (st := rest) hcat
  have hrun : va_Run p la e (rmn (d' + 1) mc ms) s m args below meth c H locs cc cs 0 0 (F0 m pc ls st0) rest (Qx sh (ad, E.2.1, E.2.2) Mid ((Value.ref a :: av).map (cvv ad)).toArray) E.2.1 := by
    rcases hLk with hl | ⟨host, hl⟩
    · exact va_runV ⟨hC.1, hC.2.1, hC.2.2.1, hC.2.2.2.2.2.1, hC.2.2.2.2.2.2.1⟩ hMet ⟨callB_of av.length hC.2.2.2.2.2.2.1 hG rfl rfl rfl (ts_u hC hM.2.1) (ts_u hC hl) hM.2.2.1 hR, ts_u hC hV.1, ts_u hC hV.2⟩ hpre rfl (by simp) hL.1 hst hroom h ⟨hc1, hc2⟩
    · exact va_runVN ⟨hC.1, hC.2.1, hC.2.2.1, hC.2.2.2.2.2.1, hC.2.2.2.2.2.2.1⟩ hMet ⟨va_cnB av.length hC.2.2.2.2.2.2.1 hG rfl rfl rfl (hC.2.2.2.2.2.2.2.2.1 _ hl) (ts_u hC hM.2.1) hM.2.2.1 hR, ts_u hC hV.1, ts_u hC hV.2⟩ hpre rfl (by simp) hL.1 hst hroom h ⟨hc1, hc2⟩
  intro T0 hT X
  obtain ⟨v, st₀, t, T', L, g0, X', hLo, e1, e2, ⟨⟨r, σ', hv, hpm, hPt⟩, hz, hkp⟩, stp⟩ := hrun T0 hT X
  cases hv
  rw [g0] at hz hkp
  rw [← e1] at hPt hz hkp
  have hS' : va_S E.2.1 s.heap T'.heap (locs ++ L) := ⟨Nat.le_trans hS.1 hz, fun q h1 h2 => by rw [hkp q (Nat.lt_of_lt_of_le h1 hS.1) h2]; exact hS.2.1 q h1 h2, fun q hq => by
    rcases List.mem_append.mp hq with h | h
    · exact hS.2.2 q h
    · exact hLo q h⟩
  obtain ⟨t2, a1, b1⟩ := kk r σ' hpm _ hd p la e s m args below meth c T'.heap (locs ++ L) ls hC hi hA hPt (wd_D hD) hS' hL T' rfl X'
  exact ⟨t2, stp t2 a1, b1⟩
/-- a static method on the last cells alone -/
theorem Nj_callS {k mc ms cc cs : Nat} {M : MI} {E : Qe} {Post : va_W → Prop} {pc q : Nat} {l : List (Option Value)} {sh : Shp} {ad : Nat → Nat} {k' ix : Nat} {M' : MI} {av : List Value} {rest st0 : List Value} {σ : Mem} {Mid : Option Value → Mem → Prop} {wr : va_W} (h0 : ad 1000 = E.1 1000) (h1 : ad 1001 = E.1 1001) (hc : Ct sh k' M' av σ Mid) (hk : k' + 1 ≤ k) (hLk : Cond.methodLink M.1.cls ix M'.1 ∈ lw_big) (hV : Cond.static M'.1 ∈ lw_big) (hM : MOk M' av.length) (hc1 : cc ≤ mc) (hc2 : cs ≤ ms)
    (h : decode M.2.1 pc = .ok (.invokestatic ix, 3)) (hp : pc + 3 = q) (hst : st0 = (av.map (cvv ad)).reverse ++ rest) (hcat : (rest.map fun v => v.category).sum ≤ 8) (kk : ∀ r σ', Mid r σ' → Nj k mc ms M E Post q l ((r.map (cvv ad)).toList ++ rest) (wr ++ wd sh (ad, E.2.1, E.2.2) σ') cc cs) : Nj k mc ms M E Post pc l st0 (wr ++ wd sh (ad, E.2.1, E.2.2) σ) cc cs := by
  subst hp
  intro d hd p la e s m args below meth c H locs ls hC hi hA hP hD hS hL
  obtain ⟨d', rfl⟩ : ∃ d', d = d' + 1 := ⟨d - 1, by omega⟩
  have hFr : ∀ q, va_A (wd sh (ad, E.2.1, E.2.2) σ) H.size q → E.2.1 q := by
    rintro q (⟨i, e, hi⟩ | hq)
    · exact (vn_sub hD).2 i (q, e) hi
    · exact hA q (Nat.le_trans hS.1 hq)
  have hSx0 : Sx (ad, E.2.1, E.2.2) s s.heap := by
    have := hC.2.2.2.2.2.2.2
    unfold Sx at this ⊢
    simp only [h0, h1]
    exact this
  have hMet := hc d' (by omega) (ad, va_A (wd sh (ad, E.2.1, E.2.2) σ) H.size, E.2.2) la
  have hG := good_in (M := M) hM
  have hpre : PreS s H (va_Pc (av.map (cvv ad)) (Px sh (ad, va_A (wd sh (ad, E.2.1, E.2.2) σ) H.size, E.2.2) σ)) (av.map (cvv ad)) := ⟨Px_blind, fun U hU hW => ⟨rfl, by rw [hU]; exact vn_subP hP, (vn_sub hD).self, by
    rw [hU]
    exact Sx.nar (E := (ad, E.2.1, E.2.2)) (Sx.go hW.alike (nest_go hW hSx0.2.1) (fun a h1 h2 => hS.2.1 a h1 h2) hSx0) hFr⟩⟩
  have hR : (rmd d').frames + 1 ≤ (rmn (d' + 1) mc ms).frames ∧ 8 + (M'.2.2.1 + 11) + (rmd d').locals ≤ (rmn (d' + 1) mc ms).locals := ⟨Nat.le_refl _, by have := hM.2.2.2; simp only [rmd, rmn]; omega⟩
  have hroom := lv_room (m := m) (pc := pc) (ls := ls) (rest := st0) (st := rest) hcat
  have hrun : va_Run p la e (rmn (d' + 1) mc ms) s m args below meth c H locs cc cs 0 0 (F0 m pc ls st0) rest (Qx sh (ad, va_A (wd sh (ad, E.2.1, E.2.2) σ) H.size, E.2.2) Mid (av.map (cvv ad)).toArray) (va_A (wd sh (ad, E.2.1, E.2.2) σ) H.size) :=
    va_runS ⟨hC.1, hC.2.1, hC.2.2.1, hC.2.2.2.2.2.1, hC.2.2.2.2.2.2.1⟩ hMet ⟨callB_of av.length hC.2.2.2.2.2.2.1 hG rfl rfl rfl (ts_u hC hM.2.1) (ts_u hC hLk) hM.2.2.1 hR, ts_u hC hV⟩ hpre rfl (by simp) hL.1 hst hroom h ⟨hc1, hc2⟩
  intro T0 hT X
  obtain ⟨v, st₀, t, T', L, g0, X', hLo, e1, e2, ⟨⟨r, σ', hv, hpm, hPt⟩, hz, hkp⟩, stp⟩ := hrun T0 hT X
  cases hv
  rw [g0] at hz hkp
  rw [← e1] at hPt hz hkp
  obtain ⟨hP2, hD2⟩ := vn_join hP hD hkp hFr hPt (wd_D (vn_sub hD).self)
  have hS' : va_S E.2.1 s.heap T'.heap (locs ++ L) := ⟨Nat.le_trans hS.1 hz, fun q h1 h2 => by rw [hkp q (Nat.lt_of_lt_of_le h1 hS.1) (fun z => h2 (hFr q z))]; exact hS.2.1 q h1 h2, fun q hq => by
    rcases List.mem_append.mp hq with h | h
    · exact hS.2.2 q h
    · exact hFr _ (hLo q h)⟩
  obtain ⟨t2, a1, b1⟩ := kk r σ' hpm _ hd p la e s m args below meth c T'.heap (locs ++ L) ls hC hi hA hP2 hD2 hS' hL T' rfl X'
  exact ⟨t2, stp t2 a1, b1⟩
theorem Nj_max {k mc ms cc cs : Nat} {M : MI} {E : Qe} {Post : va_W → Prop} {pc q : Nat} {l : List (Option Value)} {st : List Value} {ws : va_W} {ix : Nat} {x y : Int32} (hl : LKj M.1.cls ix Lib.Math.max.name (Cond.code Lib.Math.max.name Lib.Math.max.code 2 (some .int))) (hi : Cond.initialized "java/lang/Math" ∈ lw_big) (hk : 1 ≤ k) (h : decode M.2.1 pc = .ok (.invokestatic ix, 3)) (hp : pc + 3 = q) (hcat : (st.map fun v => v.category).sum ≤ 8) (hc1 : cc ≤ mc) (hc2 : cs ≤ ms) (kk : Nj k mc ms M E Post q l (.int (if x < y then y else x) :: st) ws cc cs) : Nj k mc ms M E Post pc l (.int y :: .int x :: st) ws cc cs := by
  subst hp
  intro d hd p la e s m args below meth c H locs ls hC hin hA hP hD hS hL
  have h36 : 36 ≤ (rmn d mc ms).locals := by simp only [rmn]; omega
  have h1 : 1 ≤ (rmn d mc ms).frames := by simp only [rmn]; omega
  exact va_mmax hC.1 hC.2.1 (hC.2.2.1.trans hL.1.symm) hC.2.2.2.2.2.1 (ts_u hC hl.1) (ts_u hC hl.2.1) (ts_u hC hi) (ts_u hC hl.2.2) h1 (by omega) hc1 hc2 h (kk d hd p la e s m args below meth c H locs ls hC hin hA hP hD hS hL)
theorem Nj_getE {k mc ms cc cs : Nat} {M : MI} {E : Qe} {Post : va_W → Prop} {pc q : Nat} {l : List (Option Value)} {st : List Value} {ws : va_W} {q0 a ix ci j : Nat} {v : Value} {fs : List Value} {fin : Bool} {ty : FieldType} (hf : FLk M.1.cls ix ci j fin ty) (he : ws[q0]? = some (a, .inr (ci, fs))) (hv : fs[j]? = some v) (h : decode M.2.1 pc = .ok (.getfield ix, 3)) (hp : pc + 3 = q) (kk : Nj k mc ms M E Post q l (v :: st) ws cc cs) : Nj k mc ms M E Post pc l (.ref a :: st) ws cc cs := by
  subst hp
  intro d hd p la e s m args below meth c H locs ls hC hi hA hP hD hS hL
  obtain ⟨C, T, N, ty0, h1, h2, h3, h4, h5, h6, h7, h8⟩ := hf
  rcases h8 with h8 | ⟨host, h8⟩
  · exact va_get hC.1 hC.2.1 (Ts := lw_big) (fun w hw => ts_u hC hw) h3 hC.2.2.2.2.2.1 hC.2.2.2.2.2.2.2.1 hP q0 he h1 j h2 (ts_u hC h8) (fun _ h => h) hv h (kk d hd p la e s m args below meth c H locs ls hC hi hA hP hD hS hL)
  · exact va_getN hC.1 hC.2.1 (Ts := lw_big) (fun w hw => ts_u hC hw) h3 hC.2.2.2.2.2.1 hC.2.2.2.2.2.2.2.1 hP q0 he h1 j h2 (ts_n hC rfl h8) (fun _ h => h) hv h (kk d hd p la e s m args below meth c H locs ls hC hi hA hP hD hS hL)
theorem Nj_getR {k mc ms cc cs : Nat} {M : MI} {E : Qe} {Post : va_W → Prop} {pc q : Nat} {l : List (Option Value)} {st : List Value} {sh : Shp} {ad : Nat → Nat} {σ : Mem} {a ix ci j z : Nat} {fs : List (Nat × Nat)} {fin : Bool} {ty : FieldType} (hf : FLk M.1.cls ix ci j fin ty) (hq : sh[a]? = some (.inr (ci, fs))) (hj : fs[j]? = some (2, z)) (h : decode M.2.1 pc = .ok (.getfield ix, 3)) (hp : pc + 3 = q) (kk : Nj k mc ms M E Post q l (.ref (ad z) :: st) (wd sh (ad, E.2.1, E.2.2) σ) cc cs) : Nj k mc ms M E Post pc l (.ref (ad a) :: st) (wd sh (ad, E.2.1, E.2.2) σ) cc cs := by
  subst hp
  intro d hd p la e s m args below meth c H locs ls hC hi hA hP hD hS hL
  obtain ⟨C, T, N, ty0, h1, h2, h3, h4, h5, h6, h7, h8⟩ := hf
  have hv : (fs.mapIdx (fun k f => cvF ad σ a k f))[j]? = some (.ref (ad z)) := by rw [List.getElem?_mapIdx, hj]; rfl
  rcases h8 with h8 | ⟨host, h8⟩
  · exact va_get hC.1 hC.2.1 (Ts := lw_big) (fun w hw => ts_u hC hw) h3 hC.2.2.2.2.2.1 hC.2.2.2.2.2.2.2.1 hP a (wd_get hq) h1 j h2 (ts_u hC h8) (fun _ h => h) hv h (kk d hd p la e s m args below meth c H locs ls hC hi hA hP hD hS hL)
  · exact va_getN hC.1 hC.2.1 (Ts := lw_big) (fun w hw => ts_u hC hw) h3 hC.2.2.2.2.2.1 hC.2.2.2.2.2.2.2.1 hP a (wd_get hq) h1 j h2 (ts_n hC rfl h8) (fun _ h => h) hv h (kk d hd p la e s m args below meth c H locs ls hC hi hA hP hD hS hL)

