set_option maxRecDepth 100000 in
theorem nX9_init {E : Qe} (h0 : Nat) (B : Nat → Prop) : Cn 6 48 4877 mX9_init [.ref h0] (E.1, B, E.2.2) [(h0, .inr (9, [.null, .null, .null, .null, .null, .null, .null, .null, .null, .null, .null, .int 0, .long 0]))] (BX E B h0) := by
  refine Cn.of (by decide) rfl (Nat.le_of_ble_eq_true rfl) (l := [some (.ref h0)]) rfl ?_
  refine Nj_aload0 dX9_init_0 rfl ?_
  refine Nj_obj loX9 (by decide) dX9_init_1 rfl ?_
  refine Nj_aload0 dX9_init_4 rfl ?_
  refine Nj_new (ci := 8) (N := 2) (T := TX8) (fs := [.null, .int 0]) rfl inX8 tyX8_ok clX9_7 ibX8 okX8_init.2.1 (by decide) (by omega) (by omega) dX9_init_5 rfl (fun q1 => ?_)
  refine Nj_dup dX9_init_8 rfl rfl ?_
  refine Nj_run (fun B => nX8_init q1 B) (by decide) liX9_9 okX8_init imX8_init rfl (by omega) (by omega) dX9_init_9 rfl rfl (Nat.le_of_ble_eq_true rfl) ?_
  rintro w1 ⟨q2, rfl⟩
  show Nj _ _ _ _ _ _ _ _ [.ref q1, .ref h0] ((h0, .inr (9, [.null, .null, .null, .null, .null, .null, .null, .null, .null, .null, .null, .int 0, .long 0])) :: _) 2 46
  refine Nj_putF (ci := 9) (T := TX9) (N := 13) (j := 0) (q0 := 0) (ty := (.object "FiveRemotes$Text")) rfl inX9 tyX9_ok nmX9 (by decide) (big_of 343 (by decide +kernel) rfl) rfl rfl (by decide +kernel) rfl rfl (Nat.le_of_ble_eq_true rfl) rfl dX9_init_12 rfl ?_
  show Nj _ _ _ _ _ _ _ _ [] ((h0, .inr (9, [.ref q1, .null, .null, .null, .null, .null, .null, .null, .null, .null, .null, .int 0, .long 0])) :: _) 2 46
  refine Nj_aload0 dX9_init_15 rfl ?_
  refine Nj_new (ci := 3) (N := 1) (T := TX3) (fs := [.null]) rfl inX3 tyX3_ok clX9_16 ibX3 okX3_init.2.1 (by decide) (by omega) (by omega) dX9_init_16 rfl (fun q3 => ?_)
  refine Nj_dup dX9_init_19 rfl rfl ?_
  refine Nj_run (fun B => nX3_init q3 B) (by decide) liX9_18 okX3_init imX3_init rfl (by omega) (by omega) dX9_init_20 rfl rfl (Nat.le_of_ble_eq_true rfl) ?_
  rintro w1 ⟨q4, q5, q6, q7, q8, q9, rfl⟩
  show Nj _ _ _ _ _ _ _ _ [.ref q3, .ref h0] ((h0, .inr (9, [.ref q1, .null, .null, .null, .null, .null, .null, .null, .null, .null, .null, .int 0, .long 0])) :: _) 9 80
  refine Nj_putF (ci := 9) (T := TX9) (N := 13) (j := 1) (q0 := 0) (ty := (.object "FiveRemotes$Reader")) rfl inX9 tyX9_ok nmX9 (by decide) (big_of 344 (by decide +kernel) rfl) rfl rfl (by decide +kernel) rfl rfl (Nat.le_of_ble_eq_true rfl) rfl dX9_init_23 rfl ?_
  show Nj _ _ _ _ _ _ _ _ [] ((h0, .inr (9, [.ref q1, .ref q3, .null, .null, .null, .null, .null, .null, .null, .null, .null, .int 0, .long 0])) :: _) 9 80
  refine Nj_aload0 dX9_init_26 rfl ?_
  refine Nj_new (ci := 2) (N := 5) (T := TX2) (fs := [.null, .null, .null, .null, .int 0]) rfl inX2 tyX2_ok clX9_23 ibX2 okX2_init.2.1 (by decide) (by omega) (by omega) dX9_init_27 rfl (fun q10 => ?_)
  refine Nj_dup dX9_init_30 rfl rfl ?_
  refine Nj_run (fun B => nX2_init q10 B) (by decide) liX9_25 okX2_init imX2_init rfl (by omega) (by omega) dX9_init_31 rfl rfl (Nat.le_of_ble_eq_true rfl) ?_
  rintro w1 ⟨q11, q12, q13, q14, q15, q16, q17, q18, q19, rfl⟩
  show Nj _ _ _ _ _ _ _ _ [.ref q10, .ref h0] ((h0, .inr (9, [.ref q1, .ref q3, .null, .null, .null, .null, .null, .null, .null, .null, .null, .int 0, .long 0])) :: _) 19 2166
  refine Nj_putF (ci := 9) (T := TX9) (N := 13) (j := 2) (q0 := 0) (ty := (.object "FiveRemotes$Plan")) rfl inX9 tyX9_ok nmX9 (by decide) (big_of 345 (by decide +kernel) rfl) rfl rfl (by decide +kernel) rfl rfl (Nat.le_of_ble_eq_true rfl) rfl dX9_init_34 rfl ?_
  show Nj _ _ _ _ _ _ _ _ [] ((h0, .inr (9, [.ref q1, .ref q3, .ref q10, .null, .null, .null, .null, .null, .null, .null, .null, .int 0, .long 0])) :: _) 19 2166
  refine Nj_aload0 dX9_init_37 rfl ?_
  refine Nj_new (ci := 1) (N := 5) (T := TX1) (fs := [.null, .null, .null, .null, .int 0]) rfl inX1 tyX1_ok clX9_30 ibX1 okX1_init.2.1 (by decide) (by omega) (by omega) dX9_init_38 rfl (fun q20 => ?_)
  refine Nj_dup dX9_init_41 rfl rfl ?_
  refine Nj_run (fun B => nX1_init q20 B) (by decide) liX9_32 okX1_init imX1_init rfl (by omega) (by omega) dX9_init_42 rfl rfl (Nat.le_of_ble_eq_true rfl) ?_
  rintro w1 ⟨q21, q22, q23, q24, rfl⟩
  show Nj _ _ _ _ _ _ _ _ [.ref q20, .ref h0] ((h0, .inr (9, [.ref q1, .ref q3, .ref q10, .null, .null, .null, .null, .null, .null, .null, .null, .int 0, .long 0])) :: _) 24 4476
  refine Nj_putF (ci := 9) (T := TX9) (N := 13) (j := 3) (q0 := 0) (ty := (.object "FiveRemotes$Paths")) rfl inX9 tyX9_ok nmX9 (by decide) (big_of 346 (by decide +kernel) rfl) rfl rfl (by decide +kernel) rfl rfl (Nat.le_of_ble_eq_true rfl) rfl dX9_init_45 rfl ?_
  show Nj _ _ _ _ _ _ _ _ [] ((h0, .inr (9, [.ref q1, .ref q3, .ref q10, .ref q20, .null, .null, .null, .null, .null, .null, .null, .int 0, .long 0])) :: _) 24 4476
  refine Nj_aload0 dX9_init_48 rfl ?_
  refine Nj_new (ci := 4) (N := 2) (T := TX4) (fs := [.null, .int 0]) rfl inX4 tyX4_ok clX9_37 ibX4 okX4_init.2.1 (by decide) (by omega) (by omega) dX9_init_49 rfl (fun q25 => ?_)
  refine Nj_dup dX9_init_52 rfl rfl ?_
  refine Nj_run (fun B => nX4_init q25 B) (by decide) liX9_39 okX4_init imX4_init rfl (by omega) (by omega) dX9_init_53 rfl rfl (Nat.le_of_ble_eq_true rfl) ?_
  rintro w1 ⟨q26, rfl⟩
  show Nj _ _ _ _ _ _ _ _ [.ref q25, .ref h0] ((h0, .inr (9, [.ref q1, .ref q3, .ref q10, .ref q20, .null, .null, .null, .null, .null, .null, .null, .int 0, .long 0])) :: _) 26 4484
  refine Nj_putF (ci := 9) (T := TX9) (N := 13) (j := 4) (q0 := 0) (ty := (.object "FiveRemotes$Row")) rfl inX9 tyX9_ok nmX9 (by decide) (big_of 347 (by decide +kernel) rfl) rfl rfl (by decide +kernel) rfl rfl (Nat.le_of_ble_eq_true rfl) rfl dX9_init_56 rfl ?_
  show Nj _ _ _ _ _ _ _ _ [] ((h0, .inr (9, [.ref q1, .ref q3, .ref q10, .ref q20, .ref q25, .null, .null, .null, .null, .null, .null, .int 0, .long 0])) :: _) 26 4484
  refine Nj_aload0 dX9_init_59 rfl ?_
  refine Nj_new (ci := 7) (N := 3) (T := TX7) (fs := [.int 0, .int 0, .int 0]) rfl inX7 tyX7_ok clX9_44 ibX7 okX7_init.2.1 (by decide) (by omega) (by omega) dX9_init_60 rfl (fun q27 => ?_)
  refine Nj_dup dX9_init_63 rfl rfl ?_
  refine Nj_run (fun B => nX7_init q27 B) (by decide) liX9_46 okX7_init imX7_init rfl (by omega) (by omega) dX9_init_64 rfl rfl (Nat.le_of_ble_eq_true rfl) ?_
  rintro w1 rfl
  show Nj _ _ _ _ _ _ _ _ [.ref q27, .ref h0] ((h0, .inr (9, [.ref q1, .ref q3, .ref q10, .ref q20, .ref q25, .null, .null, .null, .null, .null, .null, .int 0, .long 0])) :: _) 27 4487
  refine Nj_putF (ci := 9) (T := TX9) (N := 13) (j := 5) (q0 := 0) (ty := (.object "FiveRemotes$Standing")) rfl inX9 tyX9_ok nmX9 (by decide) (big_of 348 (by decide +kernel) rfl) rfl rfl (by decide +kernel) rfl rfl (Nat.le_of_ble_eq_true rfl) rfl dX9_init_67 rfl ?_
  show Nj _ _ _ _ _ _ _ _ [] ((h0, .inr (9, [.ref q1, .ref q3, .ref q10, .ref q20, .ref q25, .ref q27, .null, .null, .null, .null, .null, .int 0, .long 0])) :: _) 27 4487
  refine Nj_aload0 dX9_init_70 rfl ?_
  refine Nj_new (ci := 6) (N := 3) (T := TX6) (fs := [.null, .null, .null]) rfl inX6 tyX6_ok clX9_51 ibX6 okX6_init.2.1 (by decide) (by omega) (by omega) dX9_init_71 rfl (fun q28 => ?_)
  refine Nj_dup dX9_init_74 rfl rfl ?_
  refine Nj_bipush (v := 14) dX9_init_75 rfl (by decide) ?_
  refine Nj_run (fun B => nX6_init 14 (by decide) q28 B) (by decide) liX9_53 okX6_init imX6_init rfl (by omega) (by omega) dX9_init_77 rfl rfl (Nat.le_of_ble_eq_true rfl) ?_
  rintro w1 ⟨q29, q30, q31, rfl⟩
  show Nj _ _ _ _ _ _ _ _ [.ref q28, .ref h0] ((h0, .inr (9, [.ref q1, .ref q3, .ref q10, .ref q20, .ref q25, .ref q27, .null, .null, .null, .null, .null, .int 0, .long 0])) :: _) 31 4532
  refine Nj_putF (ci := 9) (T := TX9) (N := 13) (j := 6) (q0 := 0) (ty := (.object "FiveRemotes$Shelf")) rfl inX9 tyX9_ok nmX9 (by decide) (big_of 349 (by decide +kernel) rfl) rfl rfl (by decide +kernel) rfl rfl (Nat.le_of_ble_eq_true rfl) rfl dX9_init_80 rfl ?_
  show Nj _ _ _ _ _ _ _ _ [] ((h0, .inr (9, [.ref q1, .ref q3, .ref q10, .ref q20, .ref q25, .ref q27, .ref q28, .null, .null, .null, .null, .int 0, .long 0])) :: _) 31 4532
  refine Nj_aload0 dX9_init_83 rfl ?_
  refine Nj_new (ci := 6) (N := 3) (T := TX6) (fs := [.null, .null, .null]) rfl inX6 tyX6_ok clX9_51 ibX6 okX6_init.2.1 (by decide) (by omega) (by omega) dX9_init_84 rfl (fun q32 => ?_)
  refine Nj_dup dX9_init_87 rfl rfl ?_
  refine Nj_iconst (v := 2) dX9_init_88 rfl (by decide) ?_
  refine Nj_run (fun B => nX6_init 2 (by decide) q32 B) (by decide) liX9_53 okX6_init imX6_init rfl (by omega) (by omega) dX9_init_89 rfl rfl (Nat.le_of_ble_eq_true rfl) ?_
  rintro w1 ⟨q33, q34, q35, rfl⟩
  show Nj _ _ _ _ _ _ _ _ [.ref q32, .ref h0] ((h0, .inr (9, [.ref q1, .ref q3, .ref q10, .ref q20, .ref q25, .ref q27, .ref q28, .null, .null, .null, .null, .int 0, .long 0])) :: _) 35 4541
  refine Nj_putF (ci := 9) (T := TX9) (N := 13) (j := 7) (q0 := 0) (ty := (.object "FiveRemotes$Shelf")) rfl inX9 tyX9_ok nmX9 (by decide) (big_of 350 (by decide +kernel) rfl) rfl rfl (by decide +kernel) rfl rfl (Nat.le_of_ble_eq_true rfl) rfl dX9_init_92 rfl ?_
  show Nj _ _ _ _ _ _ _ _ [] ((h0, .inr (9, [.ref q1, .ref q3, .ref q10, .ref q20, .ref q25, .ref q27, .ref q28, .ref q32, .null, .null, .null, .int 0, .long 0])) :: _) 35 4541
  refine Nj_aload0 dX9_init_95 rfl ?_
  refine Nj_new (ci := 5) (N := 6) (T := TX5) (fs := [.null, .null, .null, .null, .int 0, .int 0]) rfl inX5 tyX5_ok clX9_63 ibX5 okX5_init.2.1 (by decide) (by omega) (by omega) dX9_init_96 rfl (fun q36 => ?_)
  refine Nj_dup dX9_init_99 rfl rfl ?_
  refine Nj_run (fun B => nX5_init q36 B) (by decide) liX9_65 okX5_init imX5_init rfl (by omega) (by omega) dX9_init_100 rfl rfl (Nat.le_of_ble_eq_true rfl) ?_
  rintro w1 ⟨q37, q38, q39, q40, rfl⟩
  show Nj _ _ _ _ _ _ _ _ [.ref q36, .ref h0] ((h0, .inr (9, [.ref q1, .ref q3, .ref q10, .ref q20, .ref q25, .ref q27, .ref q28, .ref q32, .null, .null, .null, .int 0, .long 0])) :: _) 40 4821
  refine Nj_putF (ci := 9) (T := TX9) (N := 13) (j := 8) (q0 := 0) (ty := (.object "FiveRemotes$Seen")) rfl inX9 tyX9_ok nmX9 (by decide) (big_of 351 (by decide +kernel) rfl) rfl rfl (by decide +kernel) rfl rfl (Nat.le_of_ble_eq_true rfl) rfl dX9_init_103 rfl ?_
  show Nj _ _ _ _ _ _ _ _ [] ((h0, .inr (9, [.ref q1, .ref q3, .ref q10, .ref q20, .ref q25, .ref q27, .ref q28, .ref q32, .ref q36, .null, .null, .int 0, .long 0])) :: _) 40 4821
  refine Nj_aload0 dX9_init_106 rfl ?_
  refine Nj_bipush (v := 16) dX9_init_107 rfl (by decide) ?_
  refine Nj_newI (N := 16) (by decide) rfl (Nat.le_of_ble_eq_true rfl) (by omega) (by omega) dX9_init_109 rfl (fun q41 => ?_)
  show Nj _ _ _ _ _ _ _ _ [.ref q41, .ref h0] ((h0, .inr (9, [.ref q1, .ref q3, .ref q10, .ref q20, .ref q25, .ref q27, .ref q28, .ref q32, .ref q36, .null, .null, .int 0, .long 0])) :: _) 41 4837
  refine Nj_putF (ci := 9) (T := TX9) (N := 13) (j := 9) (q0 := 0) (ty := (.array .int)) rfl inX9 tyX9_ok nmX9 (by decide) (big_of 352 (by decide +kernel) rfl) rfl rfl (by decide +kernel) rfl rfl (Nat.le_of_ble_eq_true rfl) rfl dX9_init_111 rfl ?_
  show Nj _ _ _ _ _ _ _ _ [] ((h0, .inr (9, [.ref q1, .ref q3, .ref q10, .ref q20, .ref q25, .ref q27, .ref q28, .ref q32, .ref q36, .ref q41, .null, .int 0, .long 0])) :: _) 41 4837
  refine Nj_aload0 dX9_init_114 rfl ?_
  refine Nj_bipush (v := 7) dX9_init_115 rfl (by decide) ?_
  refine Nj_newI (N := 7) (by decide) rfl (Nat.le_of_ble_eq_true rfl) (by omega) (by omega) dX9_init_117 rfl (fun q42 => ?_)
  show Nj _ _ _ _ _ _ _ _ [.ref q42, .ref h0] ((h0, .inr (9, [.ref q1, .ref q3, .ref q10, .ref q20, .ref q25, .ref q27, .ref q28, .ref q32, .ref q36, .ref q41, .null, .int 0, .long 0])) :: _) 42 4844
  refine Nj_putF (ci := 9) (T := TX9) (N := 13) (j := 10) (q0 := 0) (ty := (.array .int)) rfl inX9 tyX9_ok nmX9 (by decide) (big_of 353 (by decide +kernel) rfl) rfl rfl (by decide +kernel) rfl rfl (Nat.le_of_ble_eq_true rfl) rfl dX9_init_119 rfl ?_
  show Nj _ _ _ _ _ _ _ _ [] ((h0, .inr (9, [.ref q1, .ref q3, .ref q10, .ref q20, .ref q25, .ref q27, .ref q28, .ref q32, .ref q36, .ref q41, .ref q42, .int 0, .long 0])) :: _) 42 4844
  refine Nj_aload0 dX9_init_122 rfl ?_
  refine Nj_getE (q0 := 0) flX9_26 rfl rfl dX9_init_123 rfl ?_
  refine Nj_new (ci := 0) (N := 7) (T := TX0) (fs := [.int 0, .int 0, .null, .null, .null, .null, .null]) rfl inX0 tyX0_ok clX9_77 ibX0 okX0_init.2.1 (by decide) (by omega) (by omega) dX9_init_126 rfl (fun q43 => ?_)
  refine Nj_dup dX9_init_129 rfl rfl ?_
  refine Nj_run (fun B => nX0_init q43 B) (by decide) liX9_79 okX0_init imX0_init rfl (by omega) (by omega) dX9_init_130 rfl rfl (Nat.le_of_ble_eq_true rfl) ?_
  rintro w1 ⟨q44, q45, q46, q47, q48, rfl⟩
  show Nj _ _ _ _ _ _ _ _ [.ref q43, .ref q10] ((h0, .inr (9, [.ref q1, .ref q3, .ref q10, .ref q20, .ref q25, .ref q27, .ref q28, .ref q32, .ref q36, .ref q41, .ref q42, .int 0, .long 0])) :: _) 48 4877
  suffices hz : Nj 6 48 4877 mX9_init (E.1, B, E.2.2) (BX E B h0) 133 [some (.ref h0)] [.ref ((adL E [h0, q1, q2, q3, q4, q5, q6, q7, q8, q9, q10, q11, q12, q13, q14, q15, q16, q17, q18, q19, q20, q21, q22, q23, q24, q25, q26, q27, q28, q29, q30, q31, q32, q33, q34, q35, q36, q37, q38, q39, q40, q41, q42, q43, q44, q45, q46, q47, q48]) 43), .ref ((adL E [h0, q1, q2, q3, q4, q5, q6, q7, q8, q9, q10, q11, q12, q13, q14, q15, q16, q17, q18, q19, q20, q21, q22, q23, q24, q25, q26, q27, q28, q29, q30, q31, q32, q33, q34, q35, q36, q37, q38, q39, q40, q41, q42, q43, q44, q45, q46, q47, q48]) 10)] (wd shX ((adL E [h0, q1, q2, q3, q4, q5, q6, q7, q8, q9, q10, q11, q12, q13, q14, q15, q16, q17, q18, q19, q20, q21, q22, q23, q24, q25, q26, q27, q28, q29, q30, q31, q32, q33, q34, q35, q36, q37, q38, q39, q40, q41, q42, q43, q44, q45, q46, q47, q48]), B, E.2.2) s_X0) 48 4877 by rw [wd_k] at hz; exact hz
  have h00 : (adL E [h0, q1, q2, q3, q4, q5, q6, q7, q8, q9, q10, q11, q12, q13, q14, q15, q16, q17, q18, q19, q20, q21, q22, q23, q24, q25, q26, q27, q28, q29, q30, q31, q32, q33, q34, q35, q36, q37, q38, q39, q40, q41, q42, q43, q44, q45, q46, q47, q48]) 0 = h0 := rfl
  have h01 : (adL E [h0, q1, q2, q3, q4, q5, q6, q7, q8, q9, q10, q11, q12, q13, q14, q15, q16, q17, q18, q19, q20, q21, q22, q23, q24, q25, q26, q27, q28, q29, q30, q31, q32, q33, q34, q35, q36, q37, q38, q39, q40, q41, q42, q43, q44, q45, q46, q47, q48]) 1000 = E.1 1000 := rfl
  have h02 : (adL E [h0, q1, q2, q3, q4, q5, q6, q7, q8, q9, q10, q11, q12, q13, q14, q15, q16, q17, q18, q19, q20, q21, q22, q23, q24, q25, q26, q27, q28, q29, q30, q31, q32, q33, q34, q35, q36, q37, q38, q39, q40, q41, q42, q43, q44, q45, q46, q47, q48]) 1001 = E.1 1001 := rfl
  generalize (adL E [h0, q1, q2, q3, q4, q5, q6, q7, q8, q9, q10, q11, q12, q13, q14, q15, q16, q17, q18, q19, q20, q21, q22, q23, q24, q25, q26, q27, q28, q29, q30, q31, q32, q33, q34, q35, q36, q37, q38, q39, q40, q41, q42, q43, q44, q45, q46, q47, q48]) = ad at h00 h01 h02 ⊢
  subst h00
  refine Nj_callV (E := (E.1, B, E.2.2)) h01 h02 (qX2_make (ρ := ([], [])) (F := []) (p := 43) okR_0 PSh_43 (by decide) rfl ⟨rfl, rfl, fun t ht => absurd ht (Nat.not_lt_zero t), fun b hb => absurd hb (Nat.not_lt_zero b)⟩) (by decide) rfl rfl lkX9_80 viX2_make okX2_make (Nat.le_refl _) (Nat.le_refl _) dX9_init_133 rfl rfl (Nat.le_of_ble_eq_true rfl) ?_
  rintro r1 σ1 ⟨rfl, hP1, hT1, -, hE1⟩
  show Nj 6 _ _ mX9_init (E.1, B, E.2.2) (BX E B (ad 0)) 136 _ [] _ _ _
  refine Nj_aload0 dX9_init_136 rfl ?_
  refine Nj_getR (E := (E.1, B, E.2.2)) (a := 0) flX9_33 rfl rfl dX9_init_137 rfl ?_
  refine Nj_aload0 dX9_init_140 rfl ?_
  refine Nj_getR (E := (E.1, B, E.2.2)) (a := 0) flX9_26 rfl rfl dX9_init_141 rfl ?_
  refine Nj_callV (E := (E.1, B, E.2.2)) h01 h02 (qX1_make hP1 hT1) (by decide) rfl rfl lkX9_84 viX1_make okX1_make (Nat.le_refl _) (Nat.le_refl _) dX9_init_144 rfl rfl (Nat.le_of_ble_eq_true rfl) ?_
  rintro r2 σ2 ⟨rfl, hE2, hQ2⟩
  show Nj 6 _ _ mX9_init (E.1, B, E.2.2) (BX E B (ad 0)) 147 _ [] _ _ _
  refine Nj_ret rfl dX9_init_147 (Nat.le_refl _) (Nat.le_refl _) ⟨ad, σ2, rfl, h01, h02, rfl, ?_⟩
  have f : ∀ q, mkS.contains q = false → ([21, 22] : List Nat).contains q = false → σ2.1 q = s_X0.1 q := fun q h1 h2 => (hQ2.at q h2).trans (hE1.at q h1)
  refine ⟨⟨by rw [f 1 rfl rfl]; rfl, by decide, fun i hi => absurd hi (Nat.not_lt_zero i)⟩, hP1.eqo hQ2 rfl, hT1.eqo hQ2 rfl, hE2, ⟨by rw [f 27 rfl rfl]; rfl, by rw [f 27 rfl rfl]; rfl, by rw [f 27 rfl rfl]; rfl⟩, ⟨by rw [f 0 rfl rfl]; rfl, by decide, fun i hi => absurd hi (Nat.not_lt_zero i)⟩, fun i hi => ⟨fun u hu => (by cases hu), fun _ => by rw [f 35 rfl rfl]; exact if_pos hi⟩, ⟨by rw [f 36 rfl rfl]; rfl, fun i hi => absurd hi (Nat.not_lt_zero i)⟩, by rw [hQ2.2, hE1.2]; rfl⟩
