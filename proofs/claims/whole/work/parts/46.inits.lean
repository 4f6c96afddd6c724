/-! constructors -/
set_option maxRecDepth 100000 in
theorem nX0_init {E : Qe} (h0 : Nat) (B : Nat → Prop) : Cn 1 5 26 mX0_init [.ref h0] (E.1, B, E.2.2) [(h0, .inr (0, [.int 0, .int 0, .null, .null, .null, .null, .null]))] (fun ws => ∃ q1 q2 q3 q4 q5 : Nat, ws = [(h0, .inr (0, [.int 0, .int 0, .ref q1, .ref q2, .ref q3, .ref q4, .ref q5])), (q1, .inl (E.2.2.2.2.1, 4, .inl (fun _ => 0))), (q2, .inl (E.2.2.2.2.1, 4, .inl (fun _ => 0))), (q3, .inl (E.2.2.2.2.1, 6, .inl (fun _ => 0))), (q4, .inl (E.2.2.2.2.1, 6, .inl (fun _ => 0))), (q5, .inl (E.2.2.2.2.1, 6, .inl (fun _ => 0)))]) := by
  refine Cn.of (by decide) rfl (Nat.le_of_ble_eq_true rfl) (l := [some (.ref h0)]) rfl ?_
  refine Nj_aload0 dX0_init_0 rfl ?_
  refine Nj_obj loX0 (by decide) dX0_init_1 rfl ?_
  refine Nj_aload0 dX0_init_4 rfl ?_
  refine Nj_iconst (v := 4) dX0_init_5 rfl (by decide) ?_
  refine Nj_newI (N := 4) (by decide) rfl (Nat.le_of_ble_eq_true rfl) (by omega) (by omega) dX0_init_6 rfl (fun q1 => ?_)
  show Nj _ _ _ _ _ _ _ _ [.ref q1, .ref h0] ([(h0, .inr (0, [.int 0, .int 0, .null, .null, .null, .null, .null])), (q1, .inl (E.2.2.2.2.1, 4, .inl (fun _ => 0)))]) 1 4
  refine Nj_putF (ci := 0) (T := TX0) (N := 7) (j := 2) (q0 := 0) (ty := (.array .int)) rfl inX0 tyX0_ok nmX0 (by decide) (big_of 100 (by decide +kernel) rfl) rfl rfl (by decide +kernel) rfl rfl (Nat.le_of_ble_eq_true rfl) rfl dX0_init_8 rfl ?_
  show Nj _ _ _ _ _ _ _ _ [] ([(h0, .inr (0, [.int 0, .int 0, .ref q1, .null, .null, .null, .null])), (q1, .inl (E.2.2.2.2.1, 4, .inl (fun _ => 0)))]) 1 4
  refine Nj_aload0 dX0_init_11 rfl ?_
  refine Nj_iconst (v := 4) dX0_init_12 rfl (by decide) ?_
  refine Nj_newI (N := 4) (by decide) rfl (Nat.le_of_ble_eq_true rfl) (by omega) (by omega) dX0_init_13 rfl (fun q2 => ?_)
  show Nj _ _ _ _ _ _ _ _ [.ref q2, .ref h0] ([(h0, .inr (0, [.int 0, .int 0, .ref q1, .null, .null, .null, .null])), (q1, .inl (E.2.2.2.2.1, 4, .inl (fun _ => 0))), (q2, .inl (E.2.2.2.2.1, 4, .inl (fun _ => 0)))]) 2 8
  refine Nj_putF (ci := 0) (T := TX0) (N := 7) (j := 3) (q0 := 0) (ty := (.array .int)) rfl inX0 tyX0_ok nmX0 (by decide) (big_of 103 (by decide +kernel) rfl) rfl rfl (by decide +kernel) rfl rfl (Nat.le_of_ble_eq_true rfl) rfl dX0_init_15 rfl ?_
  show Nj _ _ _ _ _ _ _ _ [] ([(h0, .inr (0, [.int 0, .int 0, .ref q1, .ref q2, .null, .null, .null])), (q1, .inl (E.2.2.2.2.1, 4, .inl (fun _ => 0))), (q2, .inl (E.2.2.2.2.1, 4, .inl (fun _ => 0)))]) 2 8
  refine Nj_aload0 dX0_init_18 rfl ?_
  refine Nj_bipush (v := 6) dX0_init_19 rfl (by decide) ?_
  refine Nj_newI (N := 6) (by decide) rfl (Nat.le_of_ble_eq_true rfl) (by omega) (by omega) dX0_init_21 rfl (fun q3 => ?_)
  show Nj _ _ _ _ _ _ _ _ [.ref q3, .ref h0] ([(h0, .inr (0, [.int 0, .int 0, .ref q1, .ref q2, .null, .null, .null])), (q1, .inl (E.2.2.2.2.1, 4, .inl (fun _ => 0))), (q2, .inl (E.2.2.2.2.1, 4, .inl (fun _ => 0))), (q3, .inl (E.2.2.2.2.1, 6, .inl (fun _ => 0)))]) 3 14
  refine Nj_putF (ci := 0) (T := TX0) (N := 7) (j := 4) (q0 := 0) (ty := (.array .int)) rfl inX0 tyX0_ok nmX0 (by decide) (big_of 105 (by decide +kernel) rfl) rfl rfl (by decide +kernel) rfl rfl (Nat.le_of_ble_eq_true rfl) rfl dX0_init_23 rfl ?_
  show Nj _ _ _ _ _ _ _ _ [] ([(h0, .inr (0, [.int 0, .int 0, .ref q1, .ref q2, .ref q3, .null, .null])), (q1, .inl (E.2.2.2.2.1, 4, .inl (fun _ => 0))), (q2, .inl (E.2.2.2.2.1, 4, .inl (fun _ => 0))), (q3, .inl (E.2.2.2.2.1, 6, .inl (fun _ => 0)))]) 3 14
  refine Nj_aload0 dX0_init_26 rfl ?_
  refine Nj_bipush (v := 6) dX0_init_27 rfl (by decide) ?_
  refine Nj_newI (N := 6) (by decide) rfl (Nat.le_of_ble_eq_true rfl) (by omega) (by omega) dX0_init_29 rfl (fun q4 => ?_)
  show Nj _ _ _ _ _ _ _ _ [.ref q4, .ref h0] ([(h0, .inr (0, [.int 0, .int 0, .ref q1, .ref q2, .ref q3, .null, .null])), (q1, .inl (E.2.2.2.2.1, 4, .inl (fun _ => 0))), (q2, .inl (E.2.2.2.2.1, 4, .inl (fun _ => 0))), (q3, .inl (E.2.2.2.2.1, 6, .inl (fun _ => 0))), (q4, .inl (E.2.2.2.2.1, 6, .inl (fun _ => 0)))]) 4 20
  refine Nj_putF (ci := 0) (T := TX0) (N := 7) (j := 5) (q0 := 0) (ty := (.array .int)) rfl inX0 tyX0_ok nmX0 (by decide) (big_of 108 (by decide +kernel) rfl) rfl rfl (by decide +kernel) rfl rfl (Nat.le_of_ble_eq_true rfl) rfl dX0_init_31 rfl ?_
  show Nj _ _ _ _ _ _ _ _ [] ([(h0, .inr (0, [.int 0, .int 0, .ref q1, .ref q2, .ref q3, .ref q4, .null])), (q1, .inl (E.2.2.2.2.1, 4, .inl (fun _ => 0))), (q2, .inl (E.2.2.2.2.1, 4, .inl (fun _ => 0))), (q3, .inl (E.2.2.2.2.1, 6, .inl (fun _ => 0))), (q4, .inl (E.2.2.2.2.1, 6, .inl (fun _ => 0)))]) 4 20
  refine Nj_aload0 dX0_init_34 rfl ?_
  refine Nj_bipush (v := 6) dX0_init_35 rfl (by decide) ?_
  refine Nj_newI (N := 6) (by decide) rfl (Nat.le_of_ble_eq_true rfl) (by omega) (by omega) dX0_init_37 rfl (fun q5 => ?_)
  show Nj _ _ _ _ _ _ _ _ [.ref q5, .ref h0] ([(h0, .inr (0, [.int 0, .int 0, .ref q1, .ref q2, .ref q3, .ref q4, .null])), (q1, .inl (E.2.2.2.2.1, 4, .inl (fun _ => 0))), (q2, .inl (E.2.2.2.2.1, 4, .inl (fun _ => 0))), (q3, .inl (E.2.2.2.2.1, 6, .inl (fun _ => 0))), (q4, .inl (E.2.2.2.2.1, 6, .inl (fun _ => 0))), (q5, .inl (E.2.2.2.2.1, 6, .inl (fun _ => 0)))]) 5 26
  refine Nj_putF (ci := 0) (T := TX0) (N := 7) (j := 6) (q0 := 0) (ty := (.array .int)) rfl inX0 tyX0_ok nmX0 (by decide) (big_of 111 (by decide +kernel) rfl) rfl rfl (by decide +kernel) rfl rfl (Nat.le_of_ble_eq_true rfl) rfl dX0_init_39 rfl ?_
  show Nj _ _ _ _ _ _ _ _ [] ([(h0, .inr (0, [.int 0, .int 0, .ref q1, .ref q2, .ref q3, .ref q4, .ref q5])), (q1, .inl (E.2.2.2.2.1, 4, .inl (fun _ => 0))), (q2, .inl (E.2.2.2.2.1, 4, .inl (fun _ => 0))), (q3, .inl (E.2.2.2.2.1, 6, .inl (fun _ => 0))), (q4, .inl (E.2.2.2.2.1, 6, .inl (fun _ => 0))), (q5, .inl (E.2.2.2.2.1, 6, .inl (fun _ => 0)))]) 5 26
  exact Nj_ret rfl dX0_init_42 (by decide) (by decide) ⟨q1, q2, q3, q4, q5, rfl⟩
set_option maxRecDepth 100000 in
theorem nX8_init {E : Qe} (h0 : Nat) (B : Nat → Prop) : Cn 1 1 44 mX8_init [.ref h0] (E.1, B, E.2.2) [(h0, .inr (8, [.null, .int 0]))] (fun ws => ∃ q1 : Nat, ws = [(h0, .inr (8, [.ref q1, .int 0])), (q1, .inl (E.2.2.2.2.1, 44, .inl (fun _ => 0)))]) := by
  refine Cn.of (by decide) rfl (Nat.le_of_ble_eq_true rfl) (l := [some (.ref h0)]) rfl ?_
  refine Nj_aload0 dX8_init_0 rfl ?_
  refine Nj_obj loX8 (by decide) dX8_init_1 rfl ?_
  refine Nj_aload0 dX8_init_4 rfl ?_
  refine Nj_bipush (v := 44) dX8_init_5 rfl (by decide) ?_
  refine Nj_newI (N := 44) (by decide) rfl (Nat.le_of_ble_eq_true rfl) (by omega) (by omega) dX8_init_7 rfl (fun q1 => ?_)
  show Nj _ _ _ _ _ _ _ _ [.ref q1, .ref h0] ([(h0, .inr (8, [.null, .int 0])), (q1, .inl (E.2.2.2.2.1, 44, .inl (fun _ => 0)))]) 1 44
  refine Nj_putF (ci := 8) (T := TX8) (N := 2) (j := 0) (q0 := 0) (ty := (.array .int)) rfl inX8 tyX8_ok nmX8 (by decide) (big_of 74 (by decide +kernel) rfl) rfl rfl (by decide +kernel) rfl rfl (Nat.le_of_ble_eq_true rfl) rfl dX8_init_9 rfl ?_
  show Nj _ _ _ _ _ _ _ _ [] ([(h0, .inr (8, [.ref q1, .int 0])), (q1, .inl (E.2.2.2.2.1, 44, .inl (fun _ => 0)))]) 1 44
  exact Nj_ret rfl dX8_init_12 (by decide) (by decide) ⟨q1, rfl⟩
set_option maxRecDepth 100000 in
theorem nX3_init {E : Qe} (h0 : Nat) (B : Nat → Prop) : Cn 2 6 33 mX3_init [.ref h0] (E.1, B, E.2.2) [(h0, .inr (3, [.null]))] (fun ws => ∃ q1 q2 q3 q4 q5 q6 : Nat, ws = [(h0, .inr (3, [.ref q1])), (q1, .inr (0, [.int 0, .int 0, .ref q2, .ref q3, .ref q4, .ref q5, .ref q6])), (q2, .inl (E.2.2.2.2.1, 4, .inl (fun _ => 0))), (q3, .inl (E.2.2.2.2.1, 4, .inl (fun _ => 0))), (q4, .inl (E.2.2.2.2.1, 6, .inl (fun _ => 0))), (q5, .inl (E.2.2.2.2.1, 6, .inl (fun _ => 0))), (q6, .inl (E.2.2.2.2.1, 6, .inl (fun _ => 0)))]) := by
  refine Cn.of (by decide) rfl (Nat.le_of_ble_eq_true rfl) (l := [some (.ref h0)]) rfl ?_
  refine Nj_aload0 dX3_init_0 rfl ?_
  refine Nj_obj loX3 (by decide) dX3_init_1 rfl ?_
  refine Nj_aload0 dX3_init_4 rfl ?_
  refine Nj_new (ci := 0) (N := 7) (T := TX0) (fs := [.int 0, .int 0, .null, .null, .null, .null, .null]) rfl inX0 tyX0_ok clX3_9 ibX0 okX0_init.2.1 (by decide) (by omega) (by omega) dX3_init_5 rfl (fun q1 => ?_)
  show Nj _ _ _ _ _ _ _ _ [.ref q1, .ref h0] ([(h0, .inr (3, [.null])), (q1, .inr (0, [.int 0, .int 0, .null, .null, .null, .null, .null]))]) 1 7
  refine Nj_dup dX3_init_8 rfl rfl ?_
  show Nj _ _ _ _ _ _ _ _ [.ref q1, .ref q1, .ref h0] ([(h0, .inr (3, [.null]))] ++ [(q1, .inr (0, [.int 0, .int 0, .null, .null, .null, .null, .null]))]) 1 7
  refine Nj_run (fun B => nX0_init q1 B) (by decide) liX3_11 okX0_init imX0_init rfl (by omega) (by omega) dX3_init_9 rfl rfl (Nat.le_of_ble_eq_true rfl) ?_
  rintro w1 ⟨q2, q3, q4, q5, q6, rfl⟩
  show Nj _ _ _ _ _ _ _ _ [.ref q1, .ref h0] ([(h0, .inr (3, [.null])), (q1, .inr (0, [.int 0, .int 0, .ref q2, .ref q3, .ref q4, .ref q5, .ref q6])), (q2, .inl (E.2.2.2.2.1, 4, .inl (fun _ => 0))), (q3, .inl (E.2.2.2.2.1, 4, .inl (fun _ => 0))), (q4, .inl (E.2.2.2.2.1, 6, .inl (fun _ => 0))), (q5, .inl (E.2.2.2.2.1, 6, .inl (fun _ => 0))), (q6, .inl (E.2.2.2.2.1, 6, .inl (fun _ => 0)))]) 6 33
  refine Nj_putF (ci := 3) (T := TX3) (N := 1) (j := 0) (q0 := 0) (ty := (.object "FiveRemotes$Parts")) rfl inX3 tyX3_ok nmX3 (by decide) (big_of 129 (by decide +kernel) rfl) rfl rfl (by decide +kernel) rfl rfl (Nat.le_of_ble_eq_true rfl) rfl dX3_init_12 rfl ?_
  show Nj _ _ _ _ _ _ _ _ [] ([(h0, .inr (3, [.ref q1])), (q1, .inr (0, [.int 0, .int 0, .ref q2, .ref q3, .ref q4, .ref q5, .ref q6])), (q2, .inl (E.2.2.2.2.1, 4, .inl (fun _ => 0))), (q3, .inl (E.2.2.2.2.1, 4, .inl (fun _ => 0))), (q4, .inl (E.2.2.2.2.1, 6, .inl (fun _ => 0))), (q5, .inl (E.2.2.2.2.1, 6, .inl (fun _ => 0))), (q6, .inl (E.2.2.2.2.1, 6, .inl (fun _ => 0)))]) 6 33
  exact Nj_ret rfl dX3_init_15 (by decide) (by decide) ⟨q1, q2, q3, q4, q5, q6, rfl⟩
set_option maxRecDepth 100000 in
theorem nX2_init {E : Qe} (h0 : Nat) (B : Nat → Prop) : Cn 2 9 2081 mX2_init [.ref h0] (E.1, B, E.2.2) [(h0, .inr (2, [.null, .null, .null, .null, .int 0]))] (fun ws => ∃ q1 q2 q3 q4 q5 q6 q7 q8 q9 : Nat, ws = [(h0, .inr (2, [.ref q1, .ref q7, .ref q8, .ref q9, .int 0])), (q1, .inr (0, [.int 0, .int 0, .ref q2, .ref q3, .ref q4, .ref q5, .ref q6])), (q2, .inl (E.2.2.2.2.1, 4, .inl (fun _ => 0))), (q3, .inl (E.2.2.2.2.1, 4, .inl (fun _ => 0))), (q4, .inl (E.2.2.2.2.1, 6, .inl (fun _ => 0))), (q5, .inl (E.2.2.2.2.1, 6, .inl (fun _ => 0))), (q6, .inl (E.2.2.2.2.1, 6, .inl (fun _ => 0))), (q7, .inl (E.2.2.2.2.1, 256, .inl (fun _ => 0))), (q8, .inl (E.2.2.2.2.1, 256, .inl (fun _ => 0))), (q9, .inl (E.2.2.2.2.1, 1536, .inl (fun _ => 0)))]) := by
  refine Cn.of (by decide) rfl (Nat.le_of_ble_eq_true rfl) (l := [some (.ref h0)]) rfl ?_
  refine Nj_aload0 dX2_init_0 rfl ?_
  refine Nj_obj loX2 (by decide) dX2_init_1 rfl ?_
  refine Nj_aload0 dX2_init_4 rfl ?_
  refine Nj_new (ci := 0) (N := 7) (T := TX0) (fs := [.int 0, .int 0, .null, .null, .null, .null, .null]) rfl inX0 tyX0_ok clX2_9 ibX0 okX0_init.2.1 (by decide) (by omega) (by omega) dX2_init_5 rfl (fun q1 => ?_)
  show Nj _ _ _ _ _ _ _ _ [.ref q1, .ref h0] ([(h0, .inr (2, [.null, .null, .null, .null, .int 0])), (q1, .inr (0, [.int 0, .int 0, .null, .null, .null, .null, .null]))]) 1 7
  refine Nj_dup dX2_init_8 rfl rfl ?_
  show Nj _ _ _ _ _ _ _ _ [.ref q1, .ref q1, .ref h0] ([(h0, .inr (2, [.null, .null, .null, .null, .int 0]))] ++ [(q1, .inr (0, [.int 0, .int 0, .null, .null, .null, .null, .null]))]) 1 7
  refine Nj_run (fun B => nX0_init q1 B) (by decide) liX2_11 okX0_init imX0_init rfl (by omega) (by omega) dX2_init_9 rfl rfl (Nat.le_of_ble_eq_true rfl) ?_
  rintro w1 ⟨q2, q3, q4, q5, q6, rfl⟩
  show Nj _ _ _ _ _ _ _ _ [.ref q1, .ref h0] ([(h0, .inr (2, [.null, .null, .null, .null, .int 0])), (q1, .inr (0, [.int 0, .int 0, .ref q2, .ref q3, .ref q4, .ref q5, .ref q6])), (q2, .inl (E.2.2.2.2.1, 4, .inl (fun _ => 0))), (q3, .inl (E.2.2.2.2.1, 4, .inl (fun _ => 0))), (q4, .inl (E.2.2.2.2.1, 6, .inl (fun _ => 0))), (q5, .inl (E.2.2.2.2.1, 6, .inl (fun _ => 0))), (q6, .inl (E.2.2.2.2.1, 6, .inl (fun _ => 0)))]) 6 33
  refine Nj_putF (ci := 2) (T := TX2) (N := 5) (j := 0) (q0 := 0) (ty := (.object "FiveRemotes$Parts")) rfl inX2 tyX2_ok nmX2 (by decide) (big_of 142 (by decide +kernel) rfl) rfl rfl (by decide +kernel) rfl rfl (Nat.le_of_ble_eq_true rfl) rfl dX2_init_12 rfl ?_
  show Nj _ _ _ _ _ _ _ _ [] ([(h0, .inr (2, [.ref q1, .null, .null, .null, .int 0])), (q1, .inr (0, [.int 0, .int 0, .ref q2, .ref q3, .ref q4, .ref q5, .ref q6])), (q2, .inl (E.2.2.2.2.1, 4, .inl (fun _ => 0))), (q3, .inl (E.2.2.2.2.1, 4, .inl (fun _ => 0))), (q4, .inl (E.2.2.2.2.1, 6, .inl (fun _ => 0))), (q5, .inl (E.2.2.2.2.1, 6, .inl (fun _ => 0))), (q6, .inl (E.2.2.2.2.1, 6, .inl (fun _ => 0)))]) 6 33
  refine Nj_aload0 dX2_init_15 rfl ?_
  refine Nj_sipush (v := 256) dX2_init_16 rfl (by decide) ?_
  refine Nj_newI (N := 256) (by decide) rfl (Nat.le_of_ble_eq_true rfl) (by omega) (by omega) dX2_init_19 rfl (fun q7 => ?_)
  show Nj _ _ _ _ _ _ _ _ [.ref q7, .ref h0] ([(h0, .inr (2, [.ref q1, .null, .null, .null, .int 0])), (q1, .inr (0, [.int 0, .int 0, .ref q2, .ref q3, .ref q4, .ref q5, .ref q6])), (q2, .inl (E.2.2.2.2.1, 4, .inl (fun _ => 0))), (q3, .inl (E.2.2.2.2.1, 4, .inl (fun _ => 0))), (q4, .inl (E.2.2.2.2.1, 6, .inl (fun _ => 0))), (q5, .inl (E.2.2.2.2.1, 6, .inl (fun _ => 0))), (q6, .inl (E.2.2.2.2.1, 6, .inl (fun _ => 0))), (q7, .inl (E.2.2.2.2.1, 256, .inl (fun _ => 0)))]) 7 289
  refine Nj_putF (ci := 2) (T := TX2) (N := 5) (j := 1) (q0 := 0) (ty := (.array .int)) rfl inX2 tyX2_ok nmX2 (by decide) (big_of 144 (by decide +kernel) rfl) rfl rfl (by decide +kernel) rfl rfl (Nat.le_of_ble_eq_true rfl) rfl dX2_init_21 rfl ?_
  show Nj _ _ _ _ _ _ _ _ [] ([(h0, .inr (2, [.ref q1, .ref q7, .null, .null, .int 0])), (q1, .inr (0, [.int 0, .int 0, .ref q2, .ref q3, .ref q4, .ref q5, .ref q6])), (q2, .inl (E.2.2.2.2.1, 4, .inl (fun _ => 0))), (q3, .inl (E.2.2.2.2.1, 4, .inl (fun _ => 0))), (q4, .inl (E.2.2.2.2.1, 6, .inl (fun _ => 0))), (q5, .inl (E.2.2.2.2.1, 6, .inl (fun _ => 0))), (q6, .inl (E.2.2.2.2.1, 6, .inl (fun _ => 0))), (q7, .inl (E.2.2.2.2.1, 256, .inl (fun _ => 0)))]) 7 289
  refine Nj_aload0 dX2_init_24 rfl ?_
  refine Nj_sipush (v := 256) dX2_init_25 rfl (by decide) ?_
  refine Nj_newI (N := 256) (by decide) rfl (Nat.le_of_ble_eq_true rfl) (by omega) (by omega) dX2_init_28 rfl (fun q8 => ?_)
  show Nj _ _ _ _ _ _ _ _ [.ref q8, .ref h0] ([(h0, .inr (2, [.ref q1, .ref q7, .null, .null, .int 0])), (q1, .inr (0, [.int 0, .int 0, .ref q2, .ref q3, .ref q4, .ref q5, .ref q6])), (q2, .inl (E.2.2.2.2.1, 4, .inl (fun _ => 0))), (q3, .inl (E.2.2.2.2.1, 4, .inl (fun _ => 0))), (q4, .inl (E.2.2.2.2.1, 6, .inl (fun _ => 0))), (q5, .inl (E.2.2.2.2.1, 6, .inl (fun _ => 0))), (q6, .inl (E.2.2.2.2.1, 6, .inl (fun _ => 0))), (q7, .inl (E.2.2.2.2.1, 256, .inl (fun _ => 0))), (q8, .inl (E.2.2.2.2.1, 256, .inl (fun _ => 0)))]) 8 545
  refine Nj_putF (ci := 2) (T := TX2) (N := 5) (j := 2) (q0 := 0) (ty := (.array .int)) rfl inX2 tyX2_ok nmX2 (by decide) (big_of 145 (by decide +kernel) rfl) rfl rfl (by decide +kernel) rfl rfl (Nat.le_of_ble_eq_true rfl) rfl dX2_init_30 rfl ?_
  show Nj _ _ _ _ _ _ _ _ [] ([(h0, .inr (2, [.ref q1, .ref q7, .ref q8, .null, .int 0])), (q1, .inr (0, [.int 0, .int 0, .ref q2, .ref q3, .ref q4, .ref q5, .ref q6])), (q2, .inl (E.2.2.2.2.1, 4, .inl (fun _ => 0))), (q3, .inl (E.2.2.2.2.1, 4, .inl (fun _ => 0))), (q4, .inl (E.2.2.2.2.1, 6, .inl (fun _ => 0))), (q5, .inl (E.2.2.2.2.1, 6, .inl (fun _ => 0))), (q6, .inl (E.2.2.2.2.1, 6, .inl (fun _ => 0))), (q7, .inl (E.2.2.2.2.1, 256, .inl (fun _ => 0))), (q8, .inl (E.2.2.2.2.1, 256, .inl (fun _ => 0)))]) 8 545
  refine Nj_aload0 dX2_init_33 rfl ?_
  refine Nj_sipush (v := 1536) dX2_init_34 rfl (by decide) ?_
  refine Nj_newI (N := 1536) (by decide) rfl (Nat.le_of_ble_eq_true rfl) (by omega) (by omega) dX2_init_37 rfl (fun q9 => ?_)
  show Nj _ _ _ _ _ _ _ _ [.ref q9, .ref h0] ([(h0, .inr (2, [.ref q1, .ref q7, .ref q8, .null, .int 0])), (q1, .inr (0, [.int 0, .int 0, .ref q2, .ref q3, .ref q4, .ref q5, .ref q6])), (q2, .inl (E.2.2.2.2.1, 4, .inl (fun _ => 0))), (q3, .inl (E.2.2.2.2.1, 4, .inl (fun _ => 0))), (q4, .inl (E.2.2.2.2.1, 6, .inl (fun _ => 0))), (q5, .inl (E.2.2.2.2.1, 6, .inl (fun _ => 0))), (q6, .inl (E.2.2.2.2.1, 6, .inl (fun _ => 0))), (q7, .inl (E.2.2.2.2.1, 256, .inl (fun _ => 0))), (q8, .inl (E.2.2.2.2.1, 256, .inl (fun _ => 0))), (q9, .inl (E.2.2.2.2.1, 1536, .inl (fun _ => 0)))]) 9 2081
  refine Nj_putF (ci := 2) (T := TX2) (N := 5) (j := 3) (q0 := 0) (ty := (.array .int)) rfl inX2 tyX2_ok nmX2 (by decide) (big_of 146 (by decide +kernel) rfl) rfl rfl (by decide +kernel) rfl rfl (Nat.le_of_ble_eq_true rfl) rfl dX2_init_39 rfl ?_
  show Nj _ _ _ _ _ _ _ _ [] ([(h0, .inr (2, [.ref q1, .ref q7, .ref q8, .ref q9, .int 0])), (q1, .inr (0, [.int 0, .int 0, .ref q2, .ref q3, .ref q4, .ref q5, .ref q6])), (q2, .inl (E.2.2.2.2.1, 4, .inl (fun _ => 0))), (q3, .inl (E.2.2.2.2.1, 4, .inl (fun _ => 0))), (q4, .inl (E.2.2.2.2.1, 6, .inl (fun _ => 0))), (q5, .inl (E.2.2.2.2.1, 6, .inl (fun _ => 0))), (q6, .inl (E.2.2.2.2.1, 6, .inl (fun _ => 0))), (q7, .inl (E.2.2.2.2.1, 256, .inl (fun _ => 0))), (q8, .inl (E.2.2.2.2.1, 256, .inl (fun _ => 0))), (q9, .inl (E.2.2.2.2.1, 1536, .inl (fun _ => 0)))]) 9 2081
  exact Nj_ret rfl dX2_init_42 (by decide) (by decide) ⟨q1, q2, q3, q4, q5, q6, q7, q8, q9, rfl⟩
set_option maxRecDepth 100000 in
theorem nX1_init {E : Qe} (h0 : Nat) (B : Nat → Prop) : Cn 1 4 2305 mX1_init [.ref h0] (E.1, B, E.2.2) [(h0, .inr (1, [.null, .null, .null, .null, .int 0]))] (fun ws => ∃ q1 q2 q3 q4 : Nat, ws = [(h0, .inr (1, [.ref q1, .ref q2, .ref q3, .ref q4, .int 0])), (q1, .inl (E.2.2.2.2.1, 257, .inl (fun _ => 0))), (q2, .inl (E.2.2.2.2.1, 1536, .inl (fun _ => 0))), (q3, .inl (E.2.2.2.2.1, 256, .inl (fun _ => 0))), (q4, .inl (E.2.2.2.2.1, 256, .inl (fun _ => 0)))]) := by
  refine Cn.of (by decide) rfl (Nat.le_of_ble_eq_true rfl) (l := [some (.ref h0)]) rfl ?_
  refine Nj_aload0 dX1_init_0 rfl ?_
  refine Nj_obj loX1 (by decide) dX1_init_1 rfl ?_
  refine Nj_aload0 dX1_init_4 rfl ?_
  refine Nj_sipush (v := 257) dX1_init_5 rfl (by decide) ?_
  refine Nj_newI (N := 257) (by decide) rfl (Nat.le_of_ble_eq_true rfl) (by omega) (by omega) dX1_init_8 rfl (fun q1 => ?_)
  show Nj _ _ _ _ _ _ _ _ [.ref q1, .ref h0] ([(h0, .inr (1, [.null, .null, .null, .null, .int 0])), (q1, .inl (E.2.2.2.2.1, 257, .inl (fun _ => 0)))]) 1 257
  refine Nj_putF (ci := 1) (T := TX1) (N := 5) (j := 0) (q0 := 0) (ty := (.array .int)) rfl inX1 tyX1_ok nmX1 (by decide) (big_of 168 (by decide +kernel) rfl) rfl rfl (by decide +kernel) rfl rfl (Nat.le_of_ble_eq_true rfl) rfl dX1_init_10 rfl ?_
  show Nj _ _ _ _ _ _ _ _ [] ([(h0, .inr (1, [.ref q1, .null, .null, .null, .int 0])), (q1, .inl (E.2.2.2.2.1, 257, .inl (fun _ => 0)))]) 1 257
  refine Nj_aload0 dX1_init_13 rfl ?_
  refine Nj_sipush (v := 1536) dX1_init_14 rfl (by decide) ?_
  refine Nj_newI (N := 1536) (by decide) rfl (Nat.le_of_ble_eq_true rfl) (by omega) (by omega) dX1_init_17 rfl (fun q2 => ?_)
  show Nj _ _ _ _ _ _ _ _ [.ref q2, .ref h0] ([(h0, .inr (1, [.ref q1, .null, .null, .null, .int 0])), (q1, .inl (E.2.2.2.2.1, 257, .inl (fun _ => 0))), (q2, .inl (E.2.2.2.2.1, 1536, .inl (fun _ => 0)))]) 2 1793
  refine Nj_putF (ci := 1) (T := TX1) (N := 5) (j := 1) (q0 := 0) (ty := (.array .int)) rfl inX1 tyX1_ok nmX1 (by decide) (big_of 169 (by decide +kernel) rfl) rfl rfl (by decide +kernel) rfl rfl (Nat.le_of_ble_eq_true rfl) rfl dX1_init_19 rfl ?_
  show Nj _ _ _ _ _ _ _ _ [] ([(h0, .inr (1, [.ref q1, .ref q2, .null, .null, .int 0])), (q1, .inl (E.2.2.2.2.1, 257, .inl (fun _ => 0))), (q2, .inl (E.2.2.2.2.1, 1536, .inl (fun _ => 0)))]) 2 1793
  refine Nj_aload0 dX1_init_22 rfl ?_
  refine Nj_sipush (v := 256) dX1_init_23 rfl (by decide) ?_
  refine Nj_newI (N := 256) (by decide) rfl (Nat.le_of_ble_eq_true rfl) (by omega) (by omega) dX1_init_26 rfl (fun q3 => ?_)
  show Nj _ _ _ _ _ _ _ _ [.ref q3, .ref h0] ([(h0, .inr (1, [.ref q1, .ref q2, .null, .null, .int 0])), (q1, .inl (E.2.2.2.2.1, 257, .inl (fun _ => 0))), (q2, .inl (E.2.2.2.2.1, 1536, .inl (fun _ => 0))), (q3, .inl (E.2.2.2.2.1, 256, .inl (fun _ => 0)))]) 3 2049
  refine Nj_putF (ci := 1) (T := TX1) (N := 5) (j := 2) (q0 := 0) (ty := (.array .int)) rfl inX1 tyX1_ok nmX1 (by decide) (big_of 170 (by decide +kernel) rfl) rfl rfl (by decide +kernel) rfl rfl (Nat.le_of_ble_eq_true rfl) rfl dX1_init_28 rfl ?_
  show Nj _ _ _ _ _ _ _ _ [] ([(h0, .inr (1, [.ref q1, .ref q2, .ref q3, .null, .int 0])), (q1, .inl (E.2.2.2.2.1, 257, .inl (fun _ => 0))), (q2, .inl (E.2.2.2.2.1, 1536, .inl (fun _ => 0))), (q3, .inl (E.2.2.2.2.1, 256, .inl (fun _ => 0)))]) 3 2049
  refine Nj_aload0 dX1_init_31 rfl ?_
  refine Nj_sipush (v := 256) dX1_init_32 rfl (by decide) ?_
  refine Nj_newI (N := 256) (by decide) rfl (Nat.le_of_ble_eq_true rfl) (by omega) (by omega) dX1_init_35 rfl (fun q4 => ?_)
  show Nj _ _ _ _ _ _ _ _ [.ref q4, .ref h0] ([(h0, .inr (1, [.ref q1, .ref q2, .ref q3, .null, .int 0])), (q1, .inl (E.2.2.2.2.1, 257, .inl (fun _ => 0))), (q2, .inl (E.2.2.2.2.1, 1536, .inl (fun _ => 0))), (q3, .inl (E.2.2.2.2.1, 256, .inl (fun _ => 0))), (q4, .inl (E.2.2.2.2.1, 256, .inl (fun _ => 0)))]) 4 2305
  refine Nj_putF (ci := 1) (T := TX1) (N := 5) (j := 3) (q0 := 0) (ty := (.array .int)) rfl inX1 tyX1_ok nmX1 (by decide) (big_of 171 (by decide +kernel) rfl) rfl rfl (by decide +kernel) rfl rfl (Nat.le_of_ble_eq_true rfl) rfl dX1_init_37 rfl ?_
  show Nj _ _ _ _ _ _ _ _ [] ([(h0, .inr (1, [.ref q1, .ref q2, .ref q3, .ref q4, .int 0])), (q1, .inl (E.2.2.2.2.1, 257, .inl (fun _ => 0))), (q2, .inl (E.2.2.2.2.1, 1536, .inl (fun _ => 0))), (q3, .inl (E.2.2.2.2.1, 256, .inl (fun _ => 0))), (q4, .inl (E.2.2.2.2.1, 256, .inl (fun _ => 0)))]) 4 2305
  exact Nj_ret rfl dX1_init_40 (by decide) (by decide) ⟨q1, q2, q3, q4, rfl⟩
set_option maxRecDepth 100000 in
theorem nX4_init {E : Qe} (h0 : Nat) (B : Nat → Prop) : Cn 1 1 6 mX4_init [.ref h0] (E.1, B, E.2.2) [(h0, .inr (4, [.null, .int 0]))] (fun ws => ∃ q1 : Nat, ws = [(h0, .inr (4, [.ref q1, .int 0])), (q1, .inl (E.2.2.2.2.1, 6, .inl (fun _ => 0)))]) := by
  refine Cn.of (by decide) rfl (Nat.le_of_ble_eq_true rfl) (l := [some (.ref h0)]) rfl ?_
  refine Nj_aload0 dX4_init_0 rfl ?_
  refine Nj_obj loX4 (by decide) dX4_init_1 rfl ?_
  refine Nj_aload0 dX4_init_4 rfl ?_
  refine Nj_bipush (v := 6) dX4_init_5 rfl (by decide) ?_
  refine Nj_newI (N := 6) (by decide) rfl (Nat.le_of_ble_eq_true rfl) (by omega) (by omega) dX4_init_7 rfl (fun q1 => ?_)
  show Nj _ _ _ _ _ _ _ _ [.ref q1, .ref h0] ([(h0, .inr (4, [.null, .int 0])), (q1, .inl (E.2.2.2.2.1, 6, .inl (fun _ => 0)))]) 1 6
  refine Nj_putF (ci := 4) (T := TX4) (N := 2) (j := 0) (q0 := 0) (ty := (.array .int)) rfl inX4 tyX4_ok nmX4 (by decide) (big_of 190 (by decide +kernel) rfl) rfl rfl (by decide +kernel) rfl rfl (Nat.le_of_ble_eq_true rfl) rfl dX4_init_9 rfl ?_
  show Nj _ _ _ _ _ _ _ _ [] ([(h0, .inr (4, [.ref q1, .int 0])), (q1, .inl (E.2.2.2.2.1, 6, .inl (fun _ => 0)))]) 1 6
  exact Nj_ret rfl dX4_init_12 (by decide) (by decide) ⟨q1, rfl⟩
set_option maxRecDepth 100000 in
theorem nX7_init {E : Qe} (h0 : Nat) (B : Nat → Prop) : Cn 1 0 0 mX7_init [.ref h0] (E.1, B, E.2.2) [(h0, .inr (7, [.int 0, .int 0, .int 0]))] (fun ws => ws = [(h0, .inr (7, [.int 0, .int 0, .int 0]))]) := by
  refine Cn.of (by decide) rfl (Nat.le_of_ble_eq_true rfl) (l := [some (.ref h0)]) rfl ?_
  refine Nj_aload0 dX7_init_0 rfl ?_
  refine Nj_obj loX7 (by decide) dX7_init_1 rfl ?_
  exact Nj_ret rfl dX7_init_4 (by decide) (by decide) rfl
set_option maxRecDepth 100000 in
theorem nX5_init {E : Qe} (h0 : Nat) (B : Nat → Prop) : Cn 1 4 274 mX5_init [.ref h0] (E.1, B, E.2.2) [(h0, .inr (5, [.null, .null, .null, .null, .int 0, .int 0]))] (fun ws => ∃ q1 q2 q3 q4 : Nat, ws = [(h0, .inr (5, [.ref q1, .ref q2, .ref q3, .ref q4, .int 0, .int 0])), (q1, .inl (E.2.2.2.2.1, 6, .inl (fun _ => 0))), (q2, .inl (E.2.2.2.2.1, 6, .inl (fun _ => 0))), (q3, .inl (E.2.2.2.2.1, 6, .inl (fun _ => 0))), (q4, .inl (E.2.2.2.2.1, 256, .inl (fun _ => 0)))]) := by
  refine Cn.of (by decide) rfl (Nat.le_of_ble_eq_true rfl) (l := [some (.ref h0)]) rfl ?_
  refine Nj_aload0 dX5_init_0 rfl ?_
  refine Nj_obj loX5 (by decide) dX5_init_1 rfl ?_
  refine Nj_aload0 dX5_init_4 rfl ?_
  refine Nj_bipush (v := 6) dX5_init_5 rfl (by decide) ?_
  refine Nj_newI (N := 6) (by decide) rfl (Nat.le_of_ble_eq_true rfl) (by omega) (by omega) dX5_init_7 rfl (fun q1 => ?_)
  show Nj _ _ _ _ _ _ _ _ [.ref q1, .ref h0] ([(h0, .inr (5, [.null, .null, .null, .null, .int 0, .int 0])), (q1, .inl (E.2.2.2.2.1, 6, .inl (fun _ => 0)))]) 1 6
  refine Nj_putF (ci := 5) (T := TX5) (N := 6) (j := 0) (q0 := 0) (ty := (.array .int)) rfl inX5 tyX5_ok nmX5 (by decide) (big_of 244 (by decide +kernel) rfl) rfl rfl (by decide +kernel) rfl rfl (Nat.le_of_ble_eq_true rfl) rfl dX5_init_9 rfl ?_
  show Nj _ _ _ _ _ _ _ _ [] ([(h0, .inr (5, [.ref q1, .null, .null, .null, .int 0, .int 0])), (q1, .inl (E.2.2.2.2.1, 6, .inl (fun _ => 0)))]) 1 6
  refine Nj_aload0 dX5_init_12 rfl ?_
  refine Nj_bipush (v := 6) dX5_init_13 rfl (by decide) ?_
  refine Nj_newI (N := 6) (by decide) rfl (Nat.le_of_ble_eq_true rfl) (by omega) (by omega) dX5_init_15 rfl (fun q2 => ?_)
  show Nj _ _ _ _ _ _ _ _ [.ref q2, .ref h0] ([(h0, .inr (5, [.ref q1, .null, .null, .null, .int 0, .int 0])), (q1, .inl (E.2.2.2.2.1, 6, .inl (fun _ => 0))), (q2, .inl (E.2.2.2.2.1, 6, .inl (fun _ => 0)))]) 2 12
  refine Nj_putF (ci := 5) (T := TX5) (N := 6) (j := 1) (q0 := 0) (ty := (.array .int)) rfl inX5 tyX5_ok nmX5 (by decide) (big_of 245 (by decide +kernel) rfl) rfl rfl (by decide +kernel) rfl rfl (Nat.le_of_ble_eq_true rfl) rfl dX5_init_17 rfl ?_
  show Nj _ _ _ _ _ _ _ _ [] ([(h0, .inr (5, [.ref q1, .ref q2, .null, .null, .int 0, .int 0])), (q1, .inl (E.2.2.2.2.1, 6, .inl (fun _ => 0))), (q2, .inl (E.2.2.2.2.1, 6, .inl (fun _ => 0)))]) 2 12
  refine Nj_aload0 dX5_init_20 rfl ?_
  refine Nj_bipush (v := 6) dX5_init_21 rfl (by decide) ?_
  refine Nj_newI (N := 6) (by decide) rfl (Nat.le_of_ble_eq_true rfl) (by omega) (by omega) dX5_init_23 rfl (fun q3 => ?_)
  show Nj _ _ _ _ _ _ _ _ [.ref q3, .ref h0] ([(h0, .inr (5, [.ref q1, .ref q2, .null, .null, .int 0, .int 0])), (q1, .inl (E.2.2.2.2.1, 6, .inl (fun _ => 0))), (q2, .inl (E.2.2.2.2.1, 6, .inl (fun _ => 0))), (q3, .inl (E.2.2.2.2.1, 6, .inl (fun _ => 0)))]) 3 18
  refine Nj_putF (ci := 5) (T := TX5) (N := 6) (j := 2) (q0 := 0) (ty := (.array .int)) rfl inX5 tyX5_ok nmX5 (by decide) (big_of 246 (by decide +kernel) rfl) rfl rfl (by decide +kernel) rfl rfl (Nat.le_of_ble_eq_true rfl) rfl dX5_init_25 rfl ?_
  show Nj _ _ _ _ _ _ _ _ [] ([(h0, .inr (5, [.ref q1, .ref q2, .ref q3, .null, .int 0, .int 0])), (q1, .inl (E.2.2.2.2.1, 6, .inl (fun _ => 0))), (q2, .inl (E.2.2.2.2.1, 6, .inl (fun _ => 0))), (q3, .inl (E.2.2.2.2.1, 6, .inl (fun _ => 0)))]) 3 18
  refine Nj_aload0 dX5_init_28 rfl ?_
  refine Nj_sipush (v := 256) dX5_init_29 rfl (by decide) ?_
  refine Nj_newI (N := 256) (by decide) rfl (Nat.le_of_ble_eq_true rfl) (by omega) (by omega) dX5_init_32 rfl (fun q4 => ?_)
  show Nj _ _ _ _ _ _ _ _ [.ref q4, .ref h0] ([(h0, .inr (5, [.ref q1, .ref q2, .ref q3, .null, .int 0, .int 0])), (q1, .inl (E.2.2.2.2.1, 6, .inl (fun _ => 0))), (q2, .inl (E.2.2.2.2.1, 6, .inl (fun _ => 0))), (q3, .inl (E.2.2.2.2.1, 6, .inl (fun _ => 0))), (q4, .inl (E.2.2.2.2.1, 256, .inl (fun _ => 0)))]) 4 274
  refine Nj_putF (ci := 5) (T := TX5) (N := 6) (j := 3) (q0 := 0) (ty := (.array .int)) rfl inX5 tyX5_ok nmX5 (by decide) (big_of 247 (by decide +kernel) rfl) rfl rfl (by decide +kernel) rfl rfl (Nat.le_of_ble_eq_true rfl) rfl dX5_init_34 rfl ?_
  show Nj _ _ _ _ _ _ _ _ [] ([(h0, .inr (5, [.ref q1, .ref q2, .ref q3, .ref q4, .int 0, .int 0])), (q1, .inl (E.2.2.2.2.1, 6, .inl (fun _ => 0))), (q2, .inl (E.2.2.2.2.1, 6, .inl (fun _ => 0))), (q3, .inl (E.2.2.2.2.1, 6, .inl (fun _ => 0))), (q4, .inl (E.2.2.2.2.1, 256, .inl (fun _ => 0)))]) 4 274
  exact Nj_ret rfl dX5_init_37 (by decide) (by decide) ⟨q1, q2, q3, q4, rfl⟩
set_option maxRecDepth 100000 in
theorem nX6_init {E : Qe} (n : Nat) (hn : n < 1000) (h0 : Nat) (B : Nat → Prop) : Cn 1 3 (3 * n) mX6_init [.ref h0, .int (nI n)] (E.1, B, E.2.2) [(h0, .inr (6, [.null, .null, .null]))] (fun ws => ∃ q1 q2 q3 : Nat, ws = [(h0, .inr (6, [.ref q1, .ref q2, .ref q3])), (q1, .inl (E.2.2.2.2.1, n, .inl (fun _ => 0))), (q2, .inl (E.2.2.2.2.1, n, .inl (fun _ => 0))), (q3, .inl (E.2.2.2.2.1, n, .inl (fun j => if j < n then (-1) else 0)))]) := by
  have s_n0 : ¬ nI n < 0 := nI_pos (by omega)
  have s_nN : (nI n).toNatClampNeg = n := nI_clamp (by omega)
  have s_n31 : n < 2 ^ 31 := by omega
  have s_mx : (if nI n < 0 then (0 : Int32) else nI n) = nI n := if_neg s_n0
  refine Cn.of (by decide) rfl (Nat.le_of_ble_eq_true rfl) (l := [some (.ref h0), some (.int (nI n)), none]) rfl ?_
  refine Nj_aload0 dX6_init_0 rfl ?_
  refine Nj_obj loX6 (by decide) dX6_init_1 rfl ?_
  refine Nj_iloadn dX6_init_4 rfl rfl rfl ?_
  refine Nj_iconst (v := 0) dX6_init_5 rfl (by decide) ?_
  refine Nj_max lkX6_9 ini_Math (by decide) dX6_init_6 rfl (Nat.le_of_ble_eq_true rfl) (by omega) (by omega) ?_
  rw [s_mx]
  refine Nj_istoren dX6_init_9 rfl rfl (by decide) rfl ?_
  refine Nj_aload0 dX6_init_10 rfl ?_
  refine Nj_iloadn dX6_init_11 rfl rfl rfl ?_
  refine Nj_newI (N := n) s_n0 s_nN (by omega) (by omega) (by omega) dX6_init_12 rfl (fun q1 => ?_)
  show Nj _ _ _ _ _ _ _ _ [.ref q1, .ref h0] ([(h0, .inr (6, [.null, .null, .null])), (q1, .inl (E.2.2.2.2.1, n, .inl (fun _ => 0)))]) 1 (0 + n)
  refine Nj_putF (ci := 6) (T := TX6) (N := 3) (j := 0) (q0 := 0) (ty := (.array .int)) rfl inX6 tyX6_ok nmX6 (by decide) (big_of 228 (by decide +kernel) rfl) rfl rfl (by decide +kernel) rfl rfl (Nat.le_of_ble_eq_true rfl) rfl dX6_init_14 rfl ?_
  show Nj _ _ _ _ _ _ _ _ [] ([(h0, .inr (6, [.ref q1, .null, .null])), (q1, .inl (E.2.2.2.2.1, n, .inl (fun _ => 0)))]) 1 (0 + n)
  refine Nj_aload0 dX6_init_17 rfl ?_
  refine Nj_iloadn dX6_init_18 rfl rfl rfl ?_
  refine Nj_newI (N := n) s_n0 s_nN (by omega) (by omega) (by omega) dX6_init_19 rfl (fun q2 => ?_)
  show Nj _ _ _ _ _ _ _ _ [.ref q2, .ref h0] ([(h0, .inr (6, [.ref q1, .null, .null])), (q1, .inl (E.2.2.2.2.1, n, .inl (fun _ => 0))), (q2, .inl (E.2.2.2.2.1, n, .inl (fun _ => 0)))]) 2 ((0 + n) + n)
  refine Nj_putF (ci := 6) (T := TX6) (N := 3) (j := 1) (q0 := 0) (ty := (.array .int)) rfl inX6 tyX6_ok nmX6 (by decide) (big_of 229 (by decide +kernel) rfl) rfl rfl (by decide +kernel) rfl rfl (Nat.le_of_ble_eq_true rfl) rfl dX6_init_21 rfl ?_
  show Nj _ _ _ _ _ _ _ _ [] ([(h0, .inr (6, [.ref q1, .ref q2, .null])), (q1, .inl (E.2.2.2.2.1, n, .inl (fun _ => 0))), (q2, .inl (E.2.2.2.2.1, n, .inl (fun _ => 0)))]) 2 ((0 + n) + n)
  refine Nj_aload0 dX6_init_24 rfl ?_
  refine Nj_iloadn dX6_init_25 rfl rfl rfl ?_
  refine Nj_newI (N := n) s_n0 s_nN (by omega) (by omega) (by omega) dX6_init_26 rfl (fun q3 => ?_)
  show Nj _ _ _ _ _ _ _ _ [.ref q3, .ref h0] ([(h0, .inr (6, [.ref q1, .ref q2, .null])), (q1, .inl (E.2.2.2.2.1, n, .inl (fun _ => 0))), (q2, .inl (E.2.2.2.2.1, n, .inl (fun _ => 0))), (q3, .inl (E.2.2.2.2.1, n, .inl (fun _ => 0)))]) 3 (((0 + n) + n) + n)
  refine Nj_putF (ci := 6) (T := TX6) (N := 3) (j := 2) (q0 := 0) (ty := (.array .int)) rfl inX6 tyX6_ok nmX6 (by decide) (big_of 230 (by decide +kernel) rfl) rfl rfl (by decide +kernel) rfl rfl (Nat.le_of_ble_eq_true rfl) rfl dX6_init_28 rfl ?_
  show Nj _ _ _ _ _ _ _ _ [] ([(h0, .inr (6, [.ref q1, .ref q2, .ref q3])), (q1, .inl (E.2.2.2.2.1, n, .inl (fun _ => 0))), (q2, .inl (E.2.2.2.2.1, n, .inl (fun _ => 0))), (q3, .inl (E.2.2.2.2.1, n, .inl (fun _ => 0)))]) 3 (((0 + n) + n) + n)
  refine Nj_aload0 dX6_init_31 rfl ?_
  refine Nj_getE (q0 := 0) flX6_24 rfl rfl dX6_init_32 rfl ?_
  refine Nj_iconst (v := -1) dX6_init_35 rfl (by decide) ?_
  suffices hz : Nj _ _ _ _ _ _ 36 _ [.int (-1), .ref q3] ([(h0, .inr (6, [.ref q1, .ref q2, .ref q3])), (q1, .inl (E.2.2.2.2.1, n, .inl (fun _ => 0))), (q2, .inl (E.2.2.2.2.1, n, .inl (fun _ => 0)))] ++ wd [.inl (0, n)] ((fun i => if i = 0 then q3 else E.1 i), B, E.2.2) (fun _ _ => 0, fun _ _ => 0)) 3 (((0 + n) + n) + n) from hz
  refine Nj_callS (E := (E.1, B, E.2.2)) (ad := fun i => if i = 0 then q3 else E.1 i) rfl rfl (qJ7_fill_53178 (q := 0) (n := n) rfl s_n31 (-1)) (by decide) (big_of 225 (by decide +kernel) rfl) stJ7_fill_53178 okJ7_fill_53178 (by omega) (by omega) dX6_init_36 rfl rfl (Nat.le_of_ble_eq_true rfl) ?_
  rintro r1 σ1 ⟨rfl, rfl⟩
  show Nj _ _ _ _ _ _ _ _ [] ([(h0, .inr (6, [.ref q1, .ref q2, .ref q3])), (q1, .inl (E.2.2.2.2.1, n, .inl (fun _ => 0))), (q2, .inl (E.2.2.2.2.1, n, .inl (fun _ => 0))), (q3, .inl (E.2.2.2.2.1, n, .inl (fun j => if j < n then (-1) else 0)))]) 3 (((0 + n) + n) + n)
  exact Nj_ret rfl dX6_init_39 (by omega) (by omega) ⟨q1, q2, q3, rfl⟩
