/-! the law's loop -/
theorem i_and31 (x : Int32) : ∃ j, j < 32 ∧ x &&& 31 = nI j := by
  refine ⟨(x.toBitVec &&& 31#32).toNat, ?_, ?_⟩
  · rw [BitVec.toNat_and]
    exact Nat.lt_of_le_of_lt Nat.and_le_right (by decide)
  · apply Int32.toBitVec_inj.1
    show x.toBitVec &&& 31#32 = BitVec.ofNat 32 (x.toBitVec &&& 31#32).toNat
    rw [BitVec.ofNat_toNat, BitVec.setWidth_eq]
theorem i_gt {L i : Nat} (hL : L ≤ 384) (hi : i ≤ 400) : nI L - 6 < nI i ↔ L < i + 6 := by
  by_cases h6 : L < 6
  · have h0 : nI L - 6 < 0 := by
      rcases (show L = 0 ∨ L = 1 ∨ L = 2 ∨ L = 3 ∨ L = 4 ∨ L = 5 by omega) with rfl | rfl | rfl | rfl | rfl | rfl <;> decide
    exact ⟨fun _ => by omega, fun _ => Int32.lt_of_lt_of_le h0 (nI_pos' (by omega))⟩
  · rw [show nI L - 6 = nI (L - 6) from pk_sub (b := 6) (by omega)]
    constructor
    · intro h
      have := (nI_ltI (by omega) (by omega)).mp h
      omega
    · intro h
      exact nI_lt (by omega) (by omega)

set_option maxRecDepth 100000 in
theorem law_loop {p : Program} {la : Launch} {e : Jvm.Env} {s : State} {m : MethodId} {below : List Frame} {meth : Method} {c : Code} {b L : Nat} {xs : Nat → Int32} {F : u_F} {aX aM : Nat → Nat} (hC : Cl p s m meth c b L xs F aX aM) (hL : L ≤ 384) : ∀ (n i N : Nat) (tx : List Nat) (ρ : Rm) (c0 d0 p0 : Nat) (ac : List (Nat × Nat × Nat)) (sl : Nat → Option (Nat × Nat × Nat)) (se : List (Nat × Nat × Nat)) (sd : Int64) (σ τ : Mem), L ≤ i + 6 * n → i ≤ L + 6 → N ≤ i → RX tx ρ c0 d0 p0 ac sl se sd σ → RM tx ρ c0 d0 p0 ac sl se sd τ → okV N ρ c0 d0 p0 ac sl se → Vl p la e s m below meth c b F aX aM 18 [some (.ref 2), some (.ref 0), some (.ref 1), some (.int (nI i))] [] σ τ := by
  have hend : ∀ (i : Nat) (σ τ : Mem), i ≤ L + 6 → L < i + 6 → Vl p la e s m below meth c b F aX aM 18 [some (.ref 2), some (.ref 0), some (.ref 1), some (.int (nI i))] [] σ τ := by
    intro i σ τ hi1 hi2
    refine Vl_iloadn hC (q := 19) dL_law_18 rfl rfl rfl ?_
    refine Vl_aloadn hC (q := 20) dL_law_19 rfl rfl rfl ?_
    refine Vl_slen hC (q := 21) dL_law_20 rfl ?_
    refine Vl_bipush hC (q := 23) (v := 6) dL_law_21 rfl (by decide) ?_
    refine Vl_isub hC (q := 24) dL_law_23 rfl ?_
    refine Vl_icmp_gt hC (q := 27) (tgt := 1095) dL_law_24 (by decide) rfl (fun _ => ?_) (fun hz => absurd ((i_gt hL (by omega)).mpr hi2) hz)
    refine Vl_iconst hC (q := 1096) (v := 1) dL_law_1095 rfl (by decide) ?_
    exact Vl_end hC dL_law_1096
  intro n
  induction n with
  | zero =>
    intro i N tx ρ c0 d0 p0 ac sl se sd σ τ h1 h2 h3 hX hM hv
    exact hend i σ τ h2 (by omega)
  | succ n ih =>
    intro i N tx ρ c0 d0 p0 ac sl se sd σ τ h1 h2 h3 hX hM hv
    by_cases hlt : L < i + 6
    · exact hend i σ τ h2 hlt
    have hi : i + 6 ≤ L := by omega
    have kk : ∀ (tx : List Nat) (ρ : Rm) (c0 d0 p0 : Nat) (ac : List (Nat × Nat × Nat)) (sl : Nat → Option (Nat × Nat × Nat)) (se : List (Nat × Nat × Nat)) (sd : Int64) (σ τ : Mem), RX tx ρ c0 d0 p0 ac sl se sd σ → RM tx ρ c0 d0 p0 ac sl se sd τ → okV (N + 1) ρ c0 d0 p0 ac sl se → Vl p la e s m below meth c b F aX aM 1089 [some (.ref 2), some (.ref 0), some (.ref 1), some (.int (nI i))] [] σ τ := by
      intro tx ρ c0 d0 p0 ac sl se sd σ τ hX hM hv
      refine Vl_iinc hC (q := 1092) (i := 3) (v := nI (i + 6)) dL_law_1089 rfl rfl (by rw [show Int32.ofInt 6 = nI 6 by decide, nI_add]) (by decide) rfl ?_
      refine Vl_goto hC (q := 18) dL_law_1092 (by decide) ?_
      exact ih (i + 6) (N + 1) tx ρ c0 d0 p0 ac sl se sd σ τ (by omega) (by omega) (by omega) hX hM hv
    refine Vl_iloadn hC (q := 19) dL_law_18 rfl rfl rfl ?_
    refine Vl_aloadn hC (q := 20) dL_law_19 rfl rfl rfl ?_
    refine Vl_slen hC (q := 21) dL_law_20 rfl ?_
    refine Vl_bipush hC (q := 23) (v := 6) dL_law_21 rfl (by decide) ?_
    refine Vl_isub hC (q := 24) dL_law_23 rfl ?_
    refine Vl_icmp_gt hC (q := 27) (tgt := 1095) dL_law_24 (by decide) rfl (fun hz => absurd ((i_gt hL (by omega)).mp hz) (by omega)) (fun _ => ?_)
    refine Vl_aloadn hC (q := 28) dL_law_27 rfl rfl rfl ?_
    refine Vl_iloadn hC (q := 29) dL_law_28 rfl rfl rfl ?_
    refine Vl_sld hC (q := 30) (vp_in_nI (by omega) (by omega)) dL_law_29 rfl ?_
    rw [nI_clamp (by omega)]
    refine Vl_bipush hC (q := 32) (v := 31) dL_law_30 rfl (by decide) ?_
    refine Vl_iand hC (q := 33) dL_law_32 rfl ?_
    obtain ⟨j, hj, ej⟩ := i_and31 (xs i)
    rw [ej]
    rcases (show j = 0 ∨ j = 1 ∨ j = 2 ∨ j = 3 ∨ j = 4 ∨ j = 5 ∨ j = 6 ∨ j = 7 ∨ j = 8 ∨ j = 9 ∨ j = 10 ∨ j = 11 ∨ j = 12 ∨ j = 13 ∨ j = 14 ∨ j = 15 ∨ j = 16 ∨ j = 17 ∨ j = 18 ∨ j = 19 ∨ j = 20 ∨ j = 21 ∨ j = 22 ∨ j = 23 ∨ j = 24 ∨ j = 25 ∨ j = 26 ∨ j = 27 ∨ j = 28 ∨ j = 29 ∨ 30 ≤ j by omega) with rfl | rfl | rfl | rfl | rfl | rfl | rfl | rfl | rfl | rfl | rfl | rfl | rfl | rfl | rfl | rfl | rfl | rfl | rfl | rfl | rfl | rfl | rfl | rfl | rfl | rfl | rfl | rfl | rfl | rfl | h30
    · refine Vl_tableIn hC (q := 168) (off := 135) dL_law_33 (by decide) (by decide) (by decide) (by decide) ?_
      exact v_write hC hi hL hX hM hv (by omega) kk
    · refine Vl_tableIn hC (q := 191) (off := 158) dL_law_33 (by decide) (by decide) (by decide) (by decide) ?_
      exact v_wipe hC hi hL hX hM hv (by omega) kk
    · refine Vl_tableIn hC (q := 204) (off := 171) dL_law_33 (by decide) (by decide) (by decide) (by decide) ?_
      exact v_fault hC hi hL hX hM hv (by omega) kk
    · refine Vl_tableIn hC (q := 217) (off := 184) dL_law_33 (by decide) (by decide) (by decide) (by decide) ?_
      exact v_room hC hi hL hX hM hv (by omega) kk
    · refine Vl_tableIn hC (q := 230) (off := 197) dL_law_33 (by decide) (by decide) (by decide) (by decide) ?_
      exact v_thing hC hi hL hX hM hv (by omega) kk
    · refine Vl_tableIn hC (q := 263) (off := 230) dL_law_33 (by decide) (by decide) (by decide) (by decide) ?_
      exact v_button hC hi hL hX hM hv (by omega) kk
    · refine Vl_tableIn hC (q := 296) (off := 263) dL_law_33 (by decide) (by decide) (by decide) (by decide) ?_
      exact v_press hC hi hL hX hM hv (by omega) kk
    · refine Vl_tableIn hC (q := 319) (off := 286) dL_law_33 (by decide) (by decide) (by decide) (by decide) ?_
      exact v_miss hC hi hL hX hM hv (by omega) kk
    · refine Vl_tableIn hC (q := 342) (off := 309) dL_law_33 (by decide) (by decide) (by decide) (by decide) ?_
      exact v_step hC hi hL hX hM hv (by omega) kk
    · refine Vl_tableIn hC (q := 365) (off := 332) dL_law_33 (by decide) (by decide) (by decide) (by decide) ?_
      exact v_find hC hi hL hX hM hv (by omega) kk
    · refine Vl_tableIn hC (q := 378) (off := 345) dL_law_33 (by decide) (by decide) (by decide) (by decide) ?_
      exact v_undo hC hi hL hX hM hv (by omega) kk
    · refine Vl_tableIn hC (q := 391) (off := 358) dL_law_33 (by decide) (by decide) (by decide) (by decide) ?_
      exact v_after hC hi hL hX hM hv (by omega) kk
    · refine Vl_tableIn hC (q := 424) (off := 391) dL_law_33 (by decide) (by decide) (by decide) (by decide) ?_
      exact v_all hC hi hL hX hM hv (by omega) kk
    · refine Vl_tableIn hC (q := 437) (off := 404) dL_law_33 (by decide) (by decide) (by decide) (by decide) ?_
      exact v_fewest hC hi hL hX hM hv (by omega) kk
    · refine Vl_tableIn hC (q := 486) (off := 453) dL_law_33 (by decide) (by decide) (by decide) (by decide) ?_
      exact v_worst hC hi hL hX hM hv (by omega) kk
    · refine Vl_tableIn hC (q := 519) (off := 486) dL_law_33 (by decide) (by decide) (by decide) (by decide) ?_
      exact v_sure hC hi hL hX hM hv (by omega) kk
    · refine Vl_tableIn hC (q := 568) (off := 535) dL_law_33 (by decide) (by decide) (by decide) (by decide) ?_
      exact v_needed hC hi hL hX hM hv (by omega) kk
    · refine Vl_tableIn hC (q := 591) (off := 558) dL_law_33 (by decide) (by decide) (by decide) (by decide) ?_
      exact v_judge hC hi hL hX hM hv (by omega) kk
    · refine Vl_tableIn hC (q := 624) (off := 591) dL_law_33 (by decide) (by decide) (by decide) (by decide) ?_
      exact v_see hC hi hL hX hM hv (by omega) kk
    · refine Vl_tableIn hC (q := 667) (off := 634) dL_law_33 (by decide) (by decide) (by decide) (by decide) ?_
      exact v_unsee hC hi hL hX hM hv (by omega) kk
    · refine Vl_tableIn hC (q := 680) (off := 647) dL_law_33 (by decide) (by decide) (by decide) (by decide) ?_
      exact v_may hC hi hL hX hM hv (by omega) kk
    · refine Vl_tableIn hC (q := 703) (off := 670) dL_law_33 (by decide) (by decide) (by decide) (by decide) ?_
      exact v_tells hC hi hL hX hM hv (by omega) kk
    · refine Vl_tableIn hC (q := 742) (off := 709) dL_law_33 (by decide) (by decide) (by decide) (by decide) ?_
      exact v_share hC hi hL hX hM hv (by omega) kk
    · refine Vl_tableIn hC (q := 801) (off := 768) dL_law_33 (by decide) (by decide) (by decide) (by decide) ?_
      exact v_rests hC hi hL hX hM hv (by omega) kk
    · refine Vl_tableIn hC (q := 864) (off := 831) dL_law_33 (by decide) (by decide) (by decide) (by decide) ?_
      exact v_weak hC hi hL hX hM hv (by omega) kk
    · refine Vl_tableIn hC (q := 943) (off := 910) dL_law_33 (by decide) (by decide) (by decide) (by decide) ?_
      exact v_seed hC hi hL hX hM hv (by omega) kk
    · refine Vl_tableIn hC (q := 997) (off := 964) dL_law_33 (by decide) (by decide) (by decide) (by decide) ?_
      exact v_evenings hC hi hL hX hM hv (by omega) kk
    · refine Vl_tableIn hC (q := 1020) (off := 987) dL_law_33 (by decide) (by decide) (by decide) (by decide) ?_
      exact v_keep hC hi hL hX hM hv (by omega) kk
    · refine Vl_tableIn hC (q := 1043) (off := 1010) dL_law_33 (by decide) (by decide) (by decide) (by decide) ?_
      exact v_again hC hi hL hX hM hv (by omega) kk
    · refine Vl_tableIn hC (q := 1066) (off := 1033) dL_law_33 (by decide) (by decide) (by decide) (by decide) ?_
      exact v_count hC hi hL hX hM hv (by omega) kk
    · have hz : (nI j).toInt < 0 ∨ 29 < (nI j).toInt := by rw [nI_toInt (by omega)]; omega
      refine Vl_tableOut hC (q := 1089) dL_law_33 hz (by decide) ?_
      exact kk _ _ _ _ _ _ _ _ _ _ _ hX hM (hv.up (by omega))
