/-! the cases of the law -/
theorem lg_cmp_self (x : Int64) : lg_cmp x x = 0 := by
  unfold lg_cmp
  rw [if_neg (Int64.lt_irrefl (a := x)), if_pos rfl]
set_option maxRecDepth 100000 in
theorem v_write {p : Program} {la : Launch} {e : Jvm.Env} {s : State} {m : MethodId} {below : List Frame} {meth : Method} {c : Code} {b L : Nat} {xs : Nat → Int32} {F : u_F} {aX aM : Nat → Nat} (hC : Cl p s m meth c b L xs F aX aM) {i : Nat} (hi : i + 6 ≤ L) (hL : L ≤ 384) {tx : List Nat} {ρ : Rm} {c0 d0 p0 : Nat} {ac : List (Nat × Nat × Nat)} {sl : Nat → Option (Nat × Nat × Nat)} {se : List (Nat × Nat × Nat)} {sd : Int64} {N : Nat} {σ τ : Mem} (h : RX tx ρ c0 d0 p0 ac sl se sd σ) (g : RM tx ρ c0 d0 p0 ac sl se sd τ) (hv : okV N ρ c0 d0 p0 ac sl se) (hN : N < 1000) (kk : ∀ (tx : List Nat) (ρ : Rm) (c0 d0 p0 : Nat) (ac : List (Nat × Nat × Nat)) (sl : Nat → Option (Nat × Nat × Nat)) (se : List (Nat × Nat × Nat)) (sd : Int64) (σ τ : Mem), RX tx ρ c0 d0 p0 ac sl se sd σ → RM tx ρ c0 d0 p0 ac sl se sd τ → okV (N + 1) ρ c0 d0 p0 ac sl se → Vl p la e s m below meth c b F aX aM 1089 [some (.ref 2), some (.ref 0), some (.ref 1), some (.int (nI i))] [] σ τ) : Vl p la e s m below meth c b F aX aM 168 [some (.ref 2), some (.ref 0), some (.ref 1), some (.int (nI i))] [] σ τ := by
  obtain ⟨v, tx1, ρ1, c1, d1, p1, ac1, sl1, se1, sd1, hX, hM, hok⟩ := s_write h g hv hN (xs (i + 1))
  refine Vl_aloadn hC (q := 169) dL_law_168 rfl rfl rfl ?_
  refine Vl_aloadn hC (q := 170) dL_law_169 rfl rfl rfl ?_
  refine Vl_iloadn hC (q := 171) dL_law_170 rfl rfl rfl ?_
  refine Vl_iconst hC (q := 172) (v := 1) dL_law_171 rfl (by decide) ?_
  refine Vl_iadd hC (q := 173) dL_law_172 rfl ?_
  rw [show nI i + 1 = nI (i + 1) from nI_add i 1]
  refine Vl_sld hC (q := 174) (vp_in_nI (by omega) (by omega)) dL_law_173 rfl ?_
  rw [nI_clamp (by omega)]
  refine Vl_callX hC hX rfl lkL_13 viX9_write okX9_write rfl dL_law_174 rfl rfl (Nat.le_of_ble_eq_true rfl) (fun r σ1 hm _ => ?_) (fun r _ hm a => by rw [hm.1]; intro z; cases z)
  obtain ⟨rfl, h1⟩ := hm
  show Vl p la e s m below meth c b F aX aM 177 _ [.int _] σ1 τ
  refine Vl_aloadn hC (q := 178) dL_law_177 rfl rfl rfl ?_
  refine Vl_aloadn hC (q := 179) dL_law_178 rfl rfl rfl ?_
  refine Vl_iloadn hC (q := 180) dL_law_179 rfl rfl rfl ?_
  refine Vl_iconst hC (q := 181) (v := 1) dL_law_180 rfl (by decide) ?_
  refine Vl_iadd hC (q := 182) dL_law_181 rfl ?_
  rw [show nI i + 1 = nI (i + 1) from nI_add i 1]
  refine Vl_sld hC (q := 183) (vp_in_nI (by omega) (by omega)) dL_law_182 rfl ?_
  rw [nI_clamp (by omega)]
  refine Vl_callM hC hM rfl lkL_17 viX10_write okX10_write rfl dL_law_183 rfl rfl (Nat.le_of_ble_eq_true rfl) (fun r τ1 hm _ => ?_) (fun r _ hm a => by rw [hm.1]; intro z; cases z)
  obtain ⟨rfl, g1⟩ := hm
  show Vl p la e s m below meth c b F aX aM 186 _ [.int _, .int _] σ1 τ1
  refine Vl_icmp_eq hC (tgt := 1089) dL_law_186 (by decide) rfl (fun _ => ?_) (fun hz => absurd rfl hz)
  exact kk _ _ _ _ _ _ _ _ _ _ _ h1 g1 hok
set_option maxRecDepth 100000 in
theorem v_wipe {p : Program} {la : Launch} {e : Jvm.Env} {s : State} {m : MethodId} {below : List Frame} {meth : Method} {c : Code} {b L : Nat} {xs : Nat → Int32} {F : u_F} {aX aM : Nat → Nat} (hC : Cl p s m meth c b L xs F aX aM) {i : Nat} (hi : i + 6 ≤ L) (hL : L ≤ 384) {tx : List Nat} {ρ : Rm} {c0 d0 p0 : Nat} {ac : List (Nat × Nat × Nat)} {sl : Nat → Option (Nat × Nat × Nat)} {se : List (Nat × Nat × Nat)} {sd : Int64} {N : Nat} {σ τ : Mem} (h : RX tx ρ c0 d0 p0 ac sl se sd σ) (g : RM tx ρ c0 d0 p0 ac sl se sd τ) (hv : okV N ρ c0 d0 p0 ac sl se) (hN : N < 1000) (kk : ∀ (tx : List Nat) (ρ : Rm) (c0 d0 p0 : Nat) (ac : List (Nat × Nat × Nat)) (sl : Nat → Option (Nat × Nat × Nat)) (se : List (Nat × Nat × Nat)) (sd : Int64) (σ τ : Mem), RX tx ρ c0 d0 p0 ac sl se sd σ → RM tx ρ c0 d0 p0 ac sl se sd τ → okV (N + 1) ρ c0 d0 p0 ac sl se → Vl p la e s m below meth c b F aX aM 1089 [some (.ref 2), some (.ref 0), some (.ref 1), some (.int (nI i))] [] σ τ) : Vl p la e s m below meth c b F aX aM 191 [some (.ref 2), some (.ref 0), some (.ref 1), some (.int (nI i))] [] σ τ := by
  obtain ⟨v, tx1, ρ1, c1, d1, p1, ac1, sl1, se1, sd1, hX, hM, hok⟩ := s_wipe h g hv hN 
  refine Vl_aloadn hC (q := 192) dL_law_191 rfl rfl rfl ?_
  refine Vl_callX hC hX rfl lkL_18 viX9_wipe okX9_wipe rfl dL_law_192 rfl rfl (Nat.le_of_ble_eq_true rfl) (fun r σ1 hm _ => ?_) (fun r _ hm a => by rw [hm.1]; intro z; cases z)
  obtain ⟨rfl, h1⟩ := hm
  show Vl p la e s m below meth c b F aX aM 195 _ [.int _] σ1 τ
  refine Vl_aloadn hC (q := 196) dL_law_195 rfl rfl rfl ?_
  refine Vl_callM hC hM rfl lkL_22 viX10_wipe okX10_wipe rfl dL_law_196 rfl rfl (Nat.le_of_ble_eq_true rfl) (fun r τ1 hm _ => ?_) (fun r _ hm a => by rw [hm.1]; intro z; cases z)
  obtain ⟨rfl, g1⟩ := hm
  show Vl p la e s m below meth c b F aX aM 199 _ [.int _, .int _] σ1 τ1
  refine Vl_icmp_eq hC (tgt := 1089) dL_law_199 (by decide) rfl (fun _ => ?_) (fun hz => absurd rfl hz)
  exact kk _ _ _ _ _ _ _ _ _ _ _ h1 g1 hok
set_option maxRecDepth 100000 in
theorem v_fault {p : Program} {la : Launch} {e : Jvm.Env} {s : State} {m : MethodId} {below : List Frame} {meth : Method} {c : Code} {b L : Nat} {xs : Nat → Int32} {F : u_F} {aX aM : Nat → Nat} (hC : Cl p s m meth c b L xs F aX aM) {i : Nat} (hi : i + 6 ≤ L) (hL : L ≤ 384) {tx : List Nat} {ρ : Rm} {c0 d0 p0 : Nat} {ac : List (Nat × Nat × Nat)} {sl : Nat → Option (Nat × Nat × Nat)} {se : List (Nat × Nat × Nat)} {sd : Int64} {N : Nat} {σ τ : Mem} (h : RX tx ρ c0 d0 p0 ac sl se sd σ) (g : RM tx ρ c0 d0 p0 ac sl se sd τ) (hv : okV N ρ c0 d0 p0 ac sl se) (hN : N < 1000) (kk : ∀ (tx : List Nat) (ρ : Rm) (c0 d0 p0 : Nat) (ac : List (Nat × Nat × Nat)) (sl : Nat → Option (Nat × Nat × Nat)) (se : List (Nat × Nat × Nat)) (sd : Int64) (σ τ : Mem), RX tx ρ c0 d0 p0 ac sl se sd σ → RM tx ρ c0 d0 p0 ac sl se sd τ → okV (N + 1) ρ c0 d0 p0 ac sl se → Vl p la e s m below meth c b F aX aM 1089 [some (.ref 2), some (.ref 0), some (.ref 1), some (.int (nI i))] [] σ τ) : Vl p la e s m below meth c b F aX aM 204 [some (.ref 2), some (.ref 0), some (.ref 1), some (.int (nI i))] [] σ τ := by
  obtain ⟨v, tx1, ρ1, c1, d1, p1, ac1, sl1, se1, sd1, hX, hM, hok⟩ := s_fault h g hv hN 
  refine Vl_aloadn hC (q := 205) dL_law_204 rfl rfl rfl ?_
  refine Vl_callX hC hX rfl lkL_23 viX9_fault okX9_fault rfl dL_law_205 rfl rfl (Nat.le_of_ble_eq_true rfl) (fun r σ1 hm _ => ?_) (fun r _ hm a => by rw [hm.1]; intro z; cases z)
  obtain ⟨rfl, h1⟩ := hm
  show Vl p la e s m below meth c b F aX aM 208 _ [.int _] σ1 τ
  refine Vl_aloadn hC (q := 209) dL_law_208 rfl rfl rfl ?_
  refine Vl_callM hC hM rfl lkL_26 viX10_fault okX10_fault rfl dL_law_209 rfl rfl (Nat.le_of_ble_eq_true rfl) (fun r τ1 hm _ => ?_) (fun r _ hm a => by rw [hm.1]; intro z; cases z)
  obtain ⟨rfl, g1⟩ := hm
  show Vl p la e s m below meth c b F aX aM 212 _ [.int _, .int _] σ1 τ1
  refine Vl_icmp_eq hC (tgt := 1089) dL_law_212 (by decide) rfl (fun _ => ?_) (fun hz => absurd rfl hz)
  exact kk _ _ _ _ _ _ _ _ _ _ _ h1 g1 hok
set_option maxRecDepth 100000 in
theorem v_room {p : Program} {la : Launch} {e : Jvm.Env} {s : State} {m : MethodId} {below : List Frame} {meth : Method} {c : Code} {b L : Nat} {xs : Nat → Int32} {F : u_F} {aX aM : Nat → Nat} (hC : Cl p s m meth c b L xs F aX aM) {i : Nat} (hi : i + 6 ≤ L) (hL : L ≤ 384) {tx : List Nat} {ρ : Rm} {c0 d0 p0 : Nat} {ac : List (Nat × Nat × Nat)} {sl : Nat → Option (Nat × Nat × Nat)} {se : List (Nat × Nat × Nat)} {sd : Int64} {N : Nat} {σ τ : Mem} (h : RX tx ρ c0 d0 p0 ac sl se sd σ) (g : RM tx ρ c0 d0 p0 ac sl se sd τ) (hv : okV N ρ c0 d0 p0 ac sl se) (hN : N < 1000) (kk : ∀ (tx : List Nat) (ρ : Rm) (c0 d0 p0 : Nat) (ac : List (Nat × Nat × Nat)) (sl : Nat → Option (Nat × Nat × Nat)) (se : List (Nat × Nat × Nat)) (sd : Int64) (σ τ : Mem), RX tx ρ c0 d0 p0 ac sl se sd σ → RM tx ρ c0 d0 p0 ac sl se sd τ → okV (N + 1) ρ c0 d0 p0 ac sl se → Vl p la e s m below meth c b F aX aM 1089 [some (.ref 2), some (.ref 0), some (.ref 1), some (.int (nI i))] [] σ τ) : Vl p la e s m below meth c b F aX aM 217 [some (.ref 2), some (.ref 0), some (.ref 1), some (.int (nI i))] [] σ τ := by
  obtain ⟨v, tx1, ρ1, c1, d1, p1, ac1, sl1, se1, sd1, hX, hM, hok⟩ := s_room h g hv hN 
  refine Vl_aloadn hC (q := 218) dL_law_217 rfl rfl rfl ?_
  refine Vl_callX hC hX rfl lkL_27 viX9_room okX9_room rfl dL_law_218 rfl rfl (Nat.le_of_ble_eq_true rfl) (fun r σ1 hm _ => ?_) (fun r _ hm a => by rw [hm.1]; intro z; cases z)
  obtain ⟨rfl, h1⟩ := hm
  show Vl p la e s m below meth c b F aX aM 221 _ [.int _] σ1 τ
  refine Vl_aloadn hC (q := 222) dL_law_221 rfl rfl rfl ?_
  refine Vl_callM hC hM rfl lkL_30 viX10_room okX10_room rfl dL_law_222 rfl rfl (Nat.le_of_ble_eq_true rfl) (fun r τ1 hm _ => ?_) (fun r _ hm a => by rw [hm.1]; intro z; cases z)
  obtain ⟨rfl, g1⟩ := hm
  show Vl p la e s m below meth c b F aX aM 225 _ [.int _, .int _] σ1 τ1
  refine Vl_icmp_eq hC (tgt := 1089) dL_law_225 (by decide) rfl (fun _ => ?_) (fun hz => absurd rfl hz)
  exact kk _ _ _ _ _ _ _ _ _ _ _ h1 g1 hok
set_option maxRecDepth 100000 in
theorem v_thing {p : Program} {la : Launch} {e : Jvm.Env} {s : State} {m : MethodId} {below : List Frame} {meth : Method} {c : Code} {b L : Nat} {xs : Nat → Int32} {F : u_F} {aX aM : Nat → Nat} (hC : Cl p s m meth c b L xs F aX aM) {i : Nat} (hi : i + 6 ≤ L) (hL : L ≤ 384) {tx : List Nat} {ρ : Rm} {c0 d0 p0 : Nat} {ac : List (Nat × Nat × Nat)} {sl : Nat → Option (Nat × Nat × Nat)} {se : List (Nat × Nat × Nat)} {sd : Int64} {N : Nat} {σ τ : Mem} (h : RX tx ρ c0 d0 p0 ac sl se sd σ) (g : RM tx ρ c0 d0 p0 ac sl se sd τ) (hv : okV N ρ c0 d0 p0 ac sl se) (hN : N < 1000) (kk : ∀ (tx : List Nat) (ρ : Rm) (c0 d0 p0 : Nat) (ac : List (Nat × Nat × Nat)) (sl : Nat → Option (Nat × Nat × Nat)) (se : List (Nat × Nat × Nat)) (sd : Int64) (σ τ : Mem), RX tx ρ c0 d0 p0 ac sl se sd σ → RM tx ρ c0 d0 p0 ac sl se sd τ → okV (N + 1) ρ c0 d0 p0 ac sl se → Vl p la e s m below meth c b F aX aM 1089 [some (.ref 2), some (.ref 0), some (.ref 1), some (.int (nI i))] [] σ τ) : Vl p la e s m below meth c b F aX aM 230 [some (.ref 2), some (.ref 0), some (.ref 1), some (.int (nI i))] [] σ τ := by
  obtain ⟨v, tx1, ρ1, c1, d1, p1, ac1, sl1, se1, sd1, hX, hM, hok⟩ := s_thing h g hv hN (xs (i + 1)) (xs (i + 2))
  refine Vl_aloadn hC (q := 231) dL_law_230 rfl rfl rfl ?_
  refine Vl_aloadn hC (q := 232) dL_law_231 rfl rfl rfl ?_
  refine Vl_iloadn hC (q := 233) dL_law_232 rfl rfl rfl ?_
  refine Vl_iconst hC (q := 234) (v := 1) dL_law_233 rfl (by decide) ?_
  refine Vl_iadd hC (q := 235) dL_law_234 rfl ?_
  rw [show nI i + 1 = nI (i + 1) from nI_add i 1]
  refine Vl_sld hC (q := 236) (vp_in_nI (by omega) (by omega)) dL_law_235 rfl ?_
  rw [nI_clamp (by omega)]
  refine Vl_aloadn hC (q := 237) dL_law_236 rfl rfl rfl ?_
  refine Vl_iloadn hC (q := 238) dL_law_237 rfl rfl rfl ?_
  refine Vl_iconst hC (q := 239) (v := 2) dL_law_238 rfl (by decide) ?_
  refine Vl_iadd hC (q := 240) dL_law_239 rfl ?_
  rw [show nI i + 2 = nI (i + 2) from nI_add i 2]
  refine Vl_sld hC (q := 241) (vp_in_nI (by omega) (by omega)) dL_law_240 rfl ?_
  rw [nI_clamp (by omega)]
  refine Vl_callX hC hX rfl lkL_31 viX9_thing okX9_thing rfl dL_law_241 rfl rfl (Nat.le_of_ble_eq_true rfl) (fun r σ1 hm _ => ?_) (fun r _ hm a => by rw [hm.1]; intro z; cases z)
  obtain ⟨rfl, h1⟩ := hm
  show Vl p la e s m below meth c b F aX aM 244 _ [.int _] σ1 τ
  refine Vl_aloadn hC (q := 245) dL_law_244 rfl rfl rfl ?_
  refine Vl_aloadn hC (q := 246) dL_law_245 rfl rfl rfl ?_
  refine Vl_iloadn hC (q := 247) dL_law_246 rfl rfl rfl ?_
  refine Vl_iconst hC (q := 248) (v := 1) dL_law_247 rfl (by decide) ?_
  refine Vl_iadd hC (q := 249) dL_law_248 rfl ?_
  rw [show nI i + 1 = nI (i + 1) from nI_add i 1]
  refine Vl_sld hC (q := 250) (vp_in_nI (by omega) (by omega)) dL_law_249 rfl ?_
  rw [nI_clamp (by omega)]
  refine Vl_aloadn hC (q := 251) dL_law_250 rfl rfl rfl ?_
  refine Vl_iloadn hC (q := 252) dL_law_251 rfl rfl rfl ?_
  refine Vl_iconst hC (q := 253) (v := 2) dL_law_252 rfl (by decide) ?_
  refine Vl_iadd hC (q := 254) dL_law_253 rfl ?_
  rw [show nI i + 2 = nI (i + 2) from nI_add i 2]
  refine Vl_sld hC (q := 255) (vp_in_nI (by omega) (by omega)) dL_law_254 rfl ?_
  rw [nI_clamp (by omega)]
  refine Vl_callM hC hM rfl lkL_35 viX10_thing okX10_thing rfl dL_law_255 rfl rfl (Nat.le_of_ble_eq_true rfl) (fun r τ1 hm _ => ?_) (fun r _ hm a => by rw [hm.1]; intro z; cases z)
  obtain ⟨rfl, g1⟩ := hm
  show Vl p la e s m below meth c b F aX aM 258 _ [.int _, .int _] σ1 τ1
  refine Vl_icmp_eq hC (tgt := 1089) dL_law_258 (by decide) rfl (fun _ => ?_) (fun hz => absurd rfl hz)
  exact kk _ _ _ _ _ _ _ _ _ _ _ h1 g1 hok
set_option maxRecDepth 100000 in
theorem v_button {p : Program} {la : Launch} {e : Jvm.Env} {s : State} {m : MethodId} {below : List Frame} {meth : Method} {c : Code} {b L : Nat} {xs : Nat → Int32} {F : u_F} {aX aM : Nat → Nat} (hC : Cl p s m meth c b L xs F aX aM) {i : Nat} (hi : i + 6 ≤ L) (hL : L ≤ 384) {tx : List Nat} {ρ : Rm} {c0 d0 p0 : Nat} {ac : List (Nat × Nat × Nat)} {sl : Nat → Option (Nat × Nat × Nat)} {se : List (Nat × Nat × Nat)} {sd : Int64} {N : Nat} {σ τ : Mem} (h : RX tx ρ c0 d0 p0 ac sl se sd σ) (g : RM tx ρ c0 d0 p0 ac sl se sd τ) (hv : okV N ρ c0 d0 p0 ac sl se) (hN : N < 1000) (kk : ∀ (tx : List Nat) (ρ : Rm) (c0 d0 p0 : Nat) (ac : List (Nat × Nat × Nat)) (sl : Nat → Option (Nat × Nat × Nat)) (se : List (Nat × Nat × Nat)) (sd : Int64) (σ τ : Mem), RX tx ρ c0 d0 p0 ac sl se sd σ → RM tx ρ c0 d0 p0 ac sl se sd τ → okV (N + 1) ρ c0 d0 p0 ac sl se → Vl p la e s m below meth c b F aX aM 1089 [some (.ref 2), some (.ref 0), some (.ref 1), some (.int (nI i))] [] σ τ) : Vl p la e s m below meth c b F aX aM 263 [some (.ref 2), some (.ref 0), some (.ref 1), some (.int (nI i))] [] σ τ := by
  obtain ⟨v, tx1, ρ1, c1, d1, p1, ac1, sl1, se1, sd1, hX, hM, hok⟩ := s_button h g hv hN (xs (i + 1)) (xs (i + 2))
  refine Vl_aloadn hC (q := 264) dL_law_263 rfl rfl rfl ?_
  refine Vl_aloadn hC (q := 265) dL_law_264 rfl rfl rfl ?_
  refine Vl_iloadn hC (q := 266) dL_law_265 rfl rfl rfl ?_
  refine Vl_iconst hC (q := 267) (v := 1) dL_law_266 rfl (by decide) ?_
  refine Vl_iadd hC (q := 268) dL_law_267 rfl ?_
  rw [show nI i + 1 = nI (i + 1) from nI_add i 1]
  refine Vl_sld hC (q := 269) (vp_in_nI (by omega) (by omega)) dL_law_268 rfl ?_
  rw [nI_clamp (by omega)]
  refine Vl_aloadn hC (q := 270) dL_law_269 rfl rfl rfl ?_
  refine Vl_iloadn hC (q := 271) dL_law_270 rfl rfl rfl ?_
  refine Vl_iconst hC (q := 272) (v := 2) dL_law_271 rfl (by decide) ?_
  refine Vl_iadd hC (q := 273) dL_law_272 rfl ?_
  rw [show nI i + 2 = nI (i + 2) from nI_add i 2]
  refine Vl_sld hC (q := 274) (vp_in_nI (by omega) (by omega)) dL_law_273 rfl ?_
  rw [nI_clamp (by omega)]
  refine Vl_callX hC hX rfl lkL_36 viX9_button okX9_button rfl dL_law_274 rfl rfl (Nat.le_of_ble_eq_true rfl) (fun r σ1 hm _ => ?_) (fun r _ hm a => by rw [hm.1]; intro z; cases z)
  obtain ⟨rfl, h1⟩ := hm
  show Vl p la e s m below meth c b F aX aM 277 _ [.int _] σ1 τ
  refine Vl_aloadn hC (q := 278) dL_law_277 rfl rfl rfl ?_
  refine Vl_aloadn hC (q := 279) dL_law_278 rfl rfl rfl ?_
  refine Vl_iloadn hC (q := 280) dL_law_279 rfl rfl rfl ?_
  refine Vl_iconst hC (q := 281) (v := 1) dL_law_280 rfl (by decide) ?_
  refine Vl_iadd hC (q := 282) dL_law_281 rfl ?_
  rw [show nI i + 1 = nI (i + 1) from nI_add i 1]
  refine Vl_sld hC (q := 283) (vp_in_nI (by omega) (by omega)) dL_law_282 rfl ?_
  rw [nI_clamp (by omega)]
  refine Vl_aloadn hC (q := 284) dL_law_283 rfl rfl rfl ?_
  refine Vl_iloadn hC (q := 285) dL_law_284 rfl rfl rfl ?_
  refine Vl_iconst hC (q := 286) (v := 2) dL_law_285 rfl (by decide) ?_
  refine Vl_iadd hC (q := 287) dL_law_286 rfl ?_
  rw [show nI i + 2 = nI (i + 2) from nI_add i 2]
  refine Vl_sld hC (q := 288) (vp_in_nI (by omega) (by omega)) dL_law_287 rfl ?_
  rw [nI_clamp (by omega)]
  refine Vl_callM hC hM rfl lkL_39 viX10_button okX10_button rfl dL_law_288 rfl rfl (Nat.le_of_ble_eq_true rfl) (fun r τ1 hm _ => ?_) (fun r _ hm a => by rw [hm.1]; intro z; cases z)
  obtain ⟨rfl, g1⟩ := hm
  show Vl p la e s m below meth c b F aX aM 291 _ [.int _, .int _] σ1 τ1
  refine Vl_icmp_eq hC (tgt := 1089) dL_law_291 (by decide) rfl (fun _ => ?_) (fun hz => absurd rfl hz)
  exact kk _ _ _ _ _ _ _ _ _ _ _ h1 g1 hok
set_option maxRecDepth 100000 in
theorem v_press {p : Program} {la : Launch} {e : Jvm.Env} {s : State} {m : MethodId} {below : List Frame} {meth : Method} {c : Code} {b L : Nat} {xs : Nat → Int32} {F : u_F} {aX aM : Nat → Nat} (hC : Cl p s m meth c b L xs F aX aM) {i : Nat} (hi : i + 6 ≤ L) (hL : L ≤ 384) {tx : List Nat} {ρ : Rm} {c0 d0 p0 : Nat} {ac : List (Nat × Nat × Nat)} {sl : Nat → Option (Nat × Nat × Nat)} {se : List (Nat × Nat × Nat)} {sd : Int64} {N : Nat} {σ τ : Mem} (h : RX tx ρ c0 d0 p0 ac sl se sd σ) (g : RM tx ρ c0 d0 p0 ac sl se sd τ) (hv : okV N ρ c0 d0 p0 ac sl se) (hN : N < 1000) (kk : ∀ (tx : List Nat) (ρ : Rm) (c0 d0 p0 : Nat) (ac : List (Nat × Nat × Nat)) (sl : Nat → Option (Nat × Nat × Nat)) (se : List (Nat × Nat × Nat)) (sd : Int64) (σ τ : Mem), RX tx ρ c0 d0 p0 ac sl se sd σ → RM tx ρ c0 d0 p0 ac sl se sd τ → okV (N + 1) ρ c0 d0 p0 ac sl se → Vl p la e s m below meth c b F aX aM 1089 [some (.ref 2), some (.ref 0), some (.ref 1), some (.int (nI i))] [] σ τ) : Vl p la e s m below meth c b F aX aM 296 [some (.ref 2), some (.ref 0), some (.ref 1), some (.int (nI i))] [] σ τ := by
  obtain ⟨v, tx1, ρ1, c1, d1, p1, ac1, sl1, se1, sd1, hX, hM, hok⟩ := s_press h g hv hN (xs (i + 1))
  refine Vl_aloadn hC (q := 297) dL_law_296 rfl rfl rfl ?_
  refine Vl_aloadn hC (q := 298) dL_law_297 rfl rfl rfl ?_
  refine Vl_iloadn hC (q := 299) dL_law_298 rfl rfl rfl ?_
  refine Vl_iconst hC (q := 300) (v := 1) dL_law_299 rfl (by decide) ?_
  refine Vl_iadd hC (q := 301) dL_law_300 rfl ?_
  rw [show nI i + 1 = nI (i + 1) from nI_add i 1]
  refine Vl_sld hC (q := 302) (vp_in_nI (by omega) (by omega)) dL_law_301 rfl ?_
  rw [nI_clamp (by omega)]
  refine Vl_callX hC hX rfl lkL_40 viX9_press okX9_press rfl dL_law_302 rfl rfl (Nat.le_of_ble_eq_true rfl) (fun r σ1 hm _ => ?_) (fun r _ hm a => by rw [hm.1]; intro z; cases z)
  obtain ⟨rfl, h1⟩ := hm
  show Vl p la e s m below meth c b F aX aM 305 _ [.int _] σ1 τ
  refine Vl_aloadn hC (q := 306) dL_law_305 rfl rfl rfl ?_
  refine Vl_aloadn hC (q := 307) dL_law_306 rfl rfl rfl ?_
  refine Vl_iloadn hC (q := 308) dL_law_307 rfl rfl rfl ?_
  refine Vl_iconst hC (q := 309) (v := 1) dL_law_308 rfl (by decide) ?_
  refine Vl_iadd hC (q := 310) dL_law_309 rfl ?_
  rw [show nI i + 1 = nI (i + 1) from nI_add i 1]
  refine Vl_sld hC (q := 311) (vp_in_nI (by omega) (by omega)) dL_law_310 rfl ?_
  rw [nI_clamp (by omega)]
  refine Vl_callM hC hM rfl lkL_43 viX10_press okX10_press rfl dL_law_311 rfl rfl (Nat.le_of_ble_eq_true rfl) (fun r τ1 hm _ => ?_) (fun r _ hm a => by rw [hm.1]; intro z; cases z)
  obtain ⟨rfl, g1⟩ := hm
  show Vl p la e s m below meth c b F aX aM 314 _ [.int _, .int _] σ1 τ1
  refine Vl_icmp_eq hC (tgt := 1089) dL_law_314 (by decide) rfl (fun _ => ?_) (fun hz => absurd rfl hz)
  exact kk _ _ _ _ _ _ _ _ _ _ _ h1 g1 hok
set_option maxRecDepth 100000 in
theorem v_miss {p : Program} {la : Launch} {e : Jvm.Env} {s : State} {m : MethodId} {below : List Frame} {meth : Method} {c : Code} {b L : Nat} {xs : Nat → Int32} {F : u_F} {aX aM : Nat → Nat} (hC : Cl p s m meth c b L xs F aX aM) {i : Nat} (hi : i + 6 ≤ L) (hL : L ≤ 384) {tx : List Nat} {ρ : Rm} {c0 d0 p0 : Nat} {ac : List (Nat × Nat × Nat)} {sl : Nat → Option (Nat × Nat × Nat)} {se : List (Nat × Nat × Nat)} {sd : Int64} {N : Nat} {σ τ : Mem} (h : RX tx ρ c0 d0 p0 ac sl se sd σ) (g : RM tx ρ c0 d0 p0 ac sl se sd τ) (hv : okV N ρ c0 d0 p0 ac sl se) (hN : N < 1000) (kk : ∀ (tx : List Nat) (ρ : Rm) (c0 d0 p0 : Nat) (ac : List (Nat × Nat × Nat)) (sl : Nat → Option (Nat × Nat × Nat)) (se : List (Nat × Nat × Nat)) (sd : Int64) (σ τ : Mem), RX tx ρ c0 d0 p0 ac sl se sd σ → RM tx ρ c0 d0 p0 ac sl se sd τ → okV (N + 1) ρ c0 d0 p0 ac sl se → Vl p la e s m below meth c b F aX aM 1089 [some (.ref 2), some (.ref 0), some (.ref 1), some (.int (nI i))] [] σ τ) : Vl p la e s m below meth c b F aX aM 319 [some (.ref 2), some (.ref 0), some (.ref 1), some (.int (nI i))] [] σ τ := by
  obtain ⟨v, tx1, ρ1, c1, d1, p1, ac1, sl1, se1, sd1, hX, hM, hok⟩ := s_miss h g hv hN (xs (i + 1))
  refine Vl_aloadn hC (q := 320) dL_law_319 rfl rfl rfl ?_
  refine Vl_aloadn hC (q := 321) dL_law_320 rfl rfl rfl ?_
  refine Vl_iloadn hC (q := 322) dL_law_321 rfl rfl rfl ?_
  refine Vl_iconst hC (q := 323) (v := 1) dL_law_322 rfl (by decide) ?_
  refine Vl_iadd hC (q := 324) dL_law_323 rfl ?_
  rw [show nI i + 1 = nI (i + 1) from nI_add i 1]
  refine Vl_sld hC (q := 325) (vp_in_nI (by omega) (by omega)) dL_law_324 rfl ?_
  rw [nI_clamp (by omega)]
  refine Vl_callX hC hX rfl lkL_44 viX9_miss okX9_miss rfl dL_law_325 rfl rfl (Nat.le_of_ble_eq_true rfl) (fun r σ1 hm _ => ?_) (fun r _ hm a => by rw [hm.1]; intro z; cases z)
  obtain ⟨rfl, h1⟩ := hm
  show Vl p la e s m below meth c b F aX aM 328 _ [.int _] σ1 τ
  refine Vl_aloadn hC (q := 329) dL_law_328 rfl rfl rfl ?_
  refine Vl_aloadn hC (q := 330) dL_law_329 rfl rfl rfl ?_
  refine Vl_iloadn hC (q := 331) dL_law_330 rfl rfl rfl ?_
  refine Vl_iconst hC (q := 332) (v := 1) dL_law_331 rfl (by decide) ?_
  refine Vl_iadd hC (q := 333) dL_law_332 rfl ?_
  rw [show nI i + 1 = nI (i + 1) from nI_add i 1]
  refine Vl_sld hC (q := 334) (vp_in_nI (by omega) (by omega)) dL_law_333 rfl ?_
  rw [nI_clamp (by omega)]
  refine Vl_callM hC hM rfl lkL_47 viX10_miss okX10_miss rfl dL_law_334 rfl rfl (Nat.le_of_ble_eq_true rfl) (fun r τ1 hm _ => ?_) (fun r _ hm a => by rw [hm.1]; intro z; cases z)
  obtain ⟨rfl, g1⟩ := hm
  show Vl p la e s m below meth c b F aX aM 337 _ [.int _, .int _] σ1 τ1
  refine Vl_icmp_eq hC (tgt := 1089) dL_law_337 (by decide) rfl (fun _ => ?_) (fun hz => absurd rfl hz)
  exact kk _ _ _ _ _ _ _ _ _ _ _ h1 g1 hok
set_option maxRecDepth 100000 in
theorem v_step {p : Program} {la : Launch} {e : Jvm.Env} {s : State} {m : MethodId} {below : List Frame} {meth : Method} {c : Code} {b L : Nat} {xs : Nat → Int32} {F : u_F} {aX aM : Nat → Nat} (hC : Cl p s m meth c b L xs F aX aM) {i : Nat} (hi : i + 6 ≤ L) (hL : L ≤ 384) {tx : List Nat} {ρ : Rm} {c0 d0 p0 : Nat} {ac : List (Nat × Nat × Nat)} {sl : Nat → Option (Nat × Nat × Nat)} {se : List (Nat × Nat × Nat)} {sd : Int64} {N : Nat} {σ τ : Mem} (h : RX tx ρ c0 d0 p0 ac sl se sd σ) (g : RM tx ρ c0 d0 p0 ac sl se sd τ) (hv : okV N ρ c0 d0 p0 ac sl se) (hN : N < 1000) (kk : ∀ (tx : List Nat) (ρ : Rm) (c0 d0 p0 : Nat) (ac : List (Nat × Nat × Nat)) (sl : Nat → Option (Nat × Nat × Nat)) (se : List (Nat × Nat × Nat)) (sd : Int64) (σ τ : Mem), RX tx ρ c0 d0 p0 ac sl se sd σ → RM tx ρ c0 d0 p0 ac sl se sd τ → okV (N + 1) ρ c0 d0 p0 ac sl se → Vl p la e s m below meth c b F aX aM 1089 [some (.ref 2), some (.ref 0), some (.ref 1), some (.int (nI i))] [] σ τ) : Vl p la e s m below meth c b F aX aM 342 [some (.ref 2), some (.ref 0), some (.ref 1), some (.int (nI i))] [] σ τ := by
  obtain ⟨v, tx1, ρ1, c1, d1, p1, ac1, sl1, se1, sd1, hX, hM, hok⟩ := s_step h g hv hN (xs (i + 1))
  refine Vl_aloadn hC (q := 343) dL_law_342 rfl rfl rfl ?_
  refine Vl_aloadn hC (q := 344) dL_law_343 rfl rfl rfl ?_
  refine Vl_iloadn hC (q := 345) dL_law_344 rfl rfl rfl ?_
  refine Vl_iconst hC (q := 346) (v := 1) dL_law_345 rfl (by decide) ?_
  refine Vl_iadd hC (q := 347) dL_law_346 rfl ?_
  rw [show nI i + 1 = nI (i + 1) from nI_add i 1]
  refine Vl_sld hC (q := 348) (vp_in_nI (by omega) (by omega)) dL_law_347 rfl ?_
  rw [nI_clamp (by omega)]
  refine Vl_callX hC hX rfl lkL_48 viX9_step okX9_step rfl dL_law_348 rfl rfl (Nat.le_of_ble_eq_true rfl) (fun r σ1 hm _ => ?_) (fun r _ hm a => by rw [hm.1]; intro z; cases z)
  obtain ⟨rfl, h1⟩ := hm
  show Vl p la e s m below meth c b F aX aM 351 _ [.int _] σ1 τ
  refine Vl_aloadn hC (q := 352) dL_law_351 rfl rfl rfl ?_
  refine Vl_aloadn hC (q := 353) dL_law_352 rfl rfl rfl ?_
  refine Vl_iloadn hC (q := 354) dL_law_353 rfl rfl rfl ?_
  refine Vl_iconst hC (q := 355) (v := 1) dL_law_354 rfl (by decide) ?_
  refine Vl_iadd hC (q := 356) dL_law_355 rfl ?_
  rw [show nI i + 1 = nI (i + 1) from nI_add i 1]
  refine Vl_sld hC (q := 357) (vp_in_nI (by omega) (by omega)) dL_law_356 rfl ?_
  rw [nI_clamp (by omega)]
  refine Vl_callM hC hM rfl lkL_51 viX10_step okX10_step rfl dL_law_357 rfl rfl (Nat.le_of_ble_eq_true rfl) (fun r τ1 hm _ => ?_) (fun r _ hm a => by rw [hm.1]; intro z; cases z)
  obtain ⟨rfl, g1⟩ := hm
  show Vl p la e s m below meth c b F aX aM 360 _ [.int _, .int _] σ1 τ1
  refine Vl_icmp_eq hC (tgt := 1089) dL_law_360 (by decide) rfl (fun _ => ?_) (fun hz => absurd rfl hz)
  exact kk _ _ _ _ _ _ _ _ _ _ _ h1 g1 hok
set_option maxRecDepth 100000 in
theorem v_find {p : Program} {la : Launch} {e : Jvm.Env} {s : State} {m : MethodId} {below : List Frame} {meth : Method} {c : Code} {b L : Nat} {xs : Nat → Int32} {F : u_F} {aX aM : Nat → Nat} (hC : Cl p s m meth c b L xs F aX aM) {i : Nat} (hi : i + 6 ≤ L) (hL : L ≤ 384) {tx : List Nat} {ρ : Rm} {c0 d0 p0 : Nat} {ac : List (Nat × Nat × Nat)} {sl : Nat → Option (Nat × Nat × Nat)} {se : List (Nat × Nat × Nat)} {sd : Int64} {N : Nat} {σ τ : Mem} (h : RX tx ρ c0 d0 p0 ac sl se sd σ) (g : RM tx ρ c0 d0 p0 ac sl se sd τ) (hv : okV N ρ c0 d0 p0 ac sl se) (hN : N < 1000) (kk : ∀ (tx : List Nat) (ρ : Rm) (c0 d0 p0 : Nat) (ac : List (Nat × Nat × Nat)) (sl : Nat → Option (Nat × Nat × Nat)) (se : List (Nat × Nat × Nat)) (sd : Int64) (σ τ : Mem), RX tx ρ c0 d0 p0 ac sl se sd σ → RM tx ρ c0 d0 p0 ac sl se sd τ → okV (N + 1) ρ c0 d0 p0 ac sl se → Vl p la e s m below meth c b F aX aM 1089 [some (.ref 2), some (.ref 0), some (.ref 1), some (.int (nI i))] [] σ τ) : Vl p la e s m below meth c b F aX aM 365 [some (.ref 2), some (.ref 0), some (.ref 1), some (.int (nI i))] [] σ τ := by
  obtain ⟨v, tx1, ρ1, c1, d1, p1, ac1, sl1, se1, sd1, hX, hM, hok⟩ := s_find h g hv hN 
  refine Vl_aloadn hC (q := 366) dL_law_365 rfl rfl rfl ?_
  refine Vl_callX hC hX rfl lkL_52 viX9_find okX9_find rfl dL_law_366 rfl rfl (Nat.le_of_ble_eq_true rfl) (fun r σ1 hm _ => ?_) (fun r _ hm a => by rw [hm.1]; intro z; cases z)
  obtain ⟨rfl, h1⟩ := hm
  show Vl p la e s m below meth c b F aX aM 369 _ [.int _] σ1 τ
  refine Vl_aloadn hC (q := 370) dL_law_369 rfl rfl rfl ?_
  refine Vl_callM hC hM rfl lkL_55 viX10_find okX10_find rfl dL_law_370 rfl rfl (Nat.le_of_ble_eq_true rfl) (fun r τ1 hm _ => ?_) (fun r _ hm a => by rw [hm.1]; intro z; cases z)
  obtain ⟨rfl, g1⟩ := hm
  show Vl p la e s m below meth c b F aX aM 373 _ [.int _, .int _] σ1 τ1
  refine Vl_icmp_eq hC (tgt := 1089) dL_law_373 (by decide) rfl (fun _ => ?_) (fun hz => absurd rfl hz)
  exact kk _ _ _ _ _ _ _ _ _ _ _ h1 g1 hok
set_option maxRecDepth 100000 in
theorem v_undo {p : Program} {la : Launch} {e : Jvm.Env} {s : State} {m : MethodId} {below : List Frame} {meth : Method} {c : Code} {b L : Nat} {xs : Nat → Int32} {F : u_F} {aX aM : Nat → Nat} (hC : Cl p s m meth c b L xs F aX aM) {i : Nat} (hi : i + 6 ≤ L) (hL : L ≤ 384) {tx : List Nat} {ρ : Rm} {c0 d0 p0 : Nat} {ac : List (Nat × Nat × Nat)} {sl : Nat → Option (Nat × Nat × Nat)} {se : List (Nat × Nat × Nat)} {sd : Int64} {N : Nat} {σ τ : Mem} (h : RX tx ρ c0 d0 p0 ac sl se sd σ) (g : RM tx ρ c0 d0 p0 ac sl se sd τ) (hv : okV N ρ c0 d0 p0 ac sl se) (hN : N < 1000) (kk : ∀ (tx : List Nat) (ρ : Rm) (c0 d0 p0 : Nat) (ac : List (Nat × Nat × Nat)) (sl : Nat → Option (Nat × Nat × Nat)) (se : List (Nat × Nat × Nat)) (sd : Int64) (σ τ : Mem), RX tx ρ c0 d0 p0 ac sl se sd σ → RM tx ρ c0 d0 p0 ac sl se sd τ → okV (N + 1) ρ c0 d0 p0 ac sl se → Vl p la e s m below meth c b F aX aM 1089 [some (.ref 2), some (.ref 0), some (.ref 1), some (.int (nI i))] [] σ τ) : Vl p la e s m below meth c b F aX aM 378 [some (.ref 2), some (.ref 0), some (.ref 1), some (.int (nI i))] [] σ τ := by
  obtain ⟨v, tx1, ρ1, c1, d1, p1, ac1, sl1, se1, sd1, hX, hM, hok⟩ := s_undo h g hv hN 
  refine Vl_aloadn hC (q := 379) dL_law_378 rfl rfl rfl ?_
  refine Vl_callX hC hX rfl lkL_56 viX9_undo okX9_undo rfl dL_law_379 rfl rfl (Nat.le_of_ble_eq_true rfl) (fun r σ1 hm _ => ?_) (fun r _ hm a => by rw [hm.1]; intro z; cases z)
  obtain ⟨rfl, h1⟩ := hm
  show Vl p la e s m below meth c b F aX aM 382 _ [.int _] σ1 τ
  refine Vl_aloadn hC (q := 383) dL_law_382 rfl rfl rfl ?_
  refine Vl_callM hC hM rfl lkL_59 viX10_undo okX10_undo rfl dL_law_383 rfl rfl (Nat.le_of_ble_eq_true rfl) (fun r τ1 hm _ => ?_) (fun r _ hm a => by rw [hm.1]; intro z; cases z)
  obtain ⟨rfl, g1⟩ := hm
  show Vl p la e s m below meth c b F aX aM 386 _ [.int _, .int _] σ1 τ1
  refine Vl_icmp_eq hC (tgt := 1089) dL_law_386 (by decide) rfl (fun _ => ?_) (fun hz => absurd rfl hz)
  exact kk _ _ _ _ _ _ _ _ _ _ _ h1 g1 hok
set_option maxRecDepth 100000 in
theorem v_after {p : Program} {la : Launch} {e : Jvm.Env} {s : State} {m : MethodId} {below : List Frame} {meth : Method} {c : Code} {b L : Nat} {xs : Nat → Int32} {F : u_F} {aX aM : Nat → Nat} (hC : Cl p s m meth c b L xs F aX aM) {i : Nat} (hi : i + 6 ≤ L) (hL : L ≤ 384) {tx : List Nat} {ρ : Rm} {c0 d0 p0 : Nat} {ac : List (Nat × Nat × Nat)} {sl : Nat → Option (Nat × Nat × Nat)} {se : List (Nat × Nat × Nat)} {sd : Int64} {N : Nat} {σ τ : Mem} (h : RX tx ρ c0 d0 p0 ac sl se sd σ) (g : RM tx ρ c0 d0 p0 ac sl se sd τ) (hv : okV N ρ c0 d0 p0 ac sl se) (hN : N < 1000) (kk : ∀ (tx : List Nat) (ρ : Rm) (c0 d0 p0 : Nat) (ac : List (Nat × Nat × Nat)) (sl : Nat → Option (Nat × Nat × Nat)) (se : List (Nat × Nat × Nat)) (sd : Int64) (σ τ : Mem), RX tx ρ c0 d0 p0 ac sl se sd σ → RM tx ρ c0 d0 p0 ac sl se sd τ → okV (N + 1) ρ c0 d0 p0 ac sl se → Vl p la e s m below meth c b F aX aM 1089 [some (.ref 2), some (.ref 0), some (.ref 1), some (.int (nI i))] [] σ τ) : Vl p la e s m below meth c b F aX aM 391 [some (.ref 2), some (.ref 0), some (.ref 1), some (.int (nI i))] [] σ τ := by
  obtain ⟨v, tx1, ρ1, c1, d1, p1, ac1, sl1, se1, sd1, hX, hM, hok⟩ := s_after h g hv hN (xs (i + 1)) (xs (i + 2))
  refine Vl_aloadn hC (q := 392) dL_law_391 rfl rfl rfl ?_
  refine Vl_aloadn hC (q := 393) dL_law_392 rfl rfl rfl ?_
  refine Vl_iloadn hC (q := 394) dL_law_393 rfl rfl rfl ?_
  refine Vl_iconst hC (q := 395) (v := 1) dL_law_394 rfl (by decide) ?_
  refine Vl_iadd hC (q := 396) dL_law_395 rfl ?_
  rw [show nI i + 1 = nI (i + 1) from nI_add i 1]
  refine Vl_sld hC (q := 397) (vp_in_nI (by omega) (by omega)) dL_law_396 rfl ?_
  rw [nI_clamp (by omega)]
  refine Vl_aloadn hC (q := 398) dL_law_397 rfl rfl rfl ?_
  refine Vl_iloadn hC (q := 399) dL_law_398 rfl rfl rfl ?_
  refine Vl_iconst hC (q := 400) (v := 2) dL_law_399 rfl (by decide) ?_
  refine Vl_iadd hC (q := 401) dL_law_400 rfl ?_
  rw [show nI i + 2 = nI (i + 2) from nI_add i 2]
  refine Vl_sld hC (q := 402) (vp_in_nI (by omega) (by omega)) dL_law_401 rfl ?_
  rw [nI_clamp (by omega)]
  refine Vl_callX hC hX rfl lkL_60 viX9_after okX9_after rfl dL_law_402 rfl rfl (Nat.le_of_ble_eq_true rfl) (fun r σ1 hm _ => ?_) (fun r _ hm a => by rw [hm.1]; intro z; cases z)
  obtain ⟨rfl, h1⟩ := hm
  show Vl p la e s m below meth c b F aX aM 405 _ [.int _] σ1 τ
  refine Vl_aloadn hC (q := 406) dL_law_405 rfl rfl rfl ?_
  refine Vl_aloadn hC (q := 407) dL_law_406 rfl rfl rfl ?_
  refine Vl_iloadn hC (q := 408) dL_law_407 rfl rfl rfl ?_
  refine Vl_iconst hC (q := 409) (v := 1) dL_law_408 rfl (by decide) ?_
  refine Vl_iadd hC (q := 410) dL_law_409 rfl ?_
  rw [show nI i + 1 = nI (i + 1) from nI_add i 1]
  refine Vl_sld hC (q := 411) (vp_in_nI (by omega) (by omega)) dL_law_410 rfl ?_
  rw [nI_clamp (by omega)]
  refine Vl_aloadn hC (q := 412) dL_law_411 rfl rfl rfl ?_
  refine Vl_iloadn hC (q := 413) dL_law_412 rfl rfl rfl ?_
  refine Vl_iconst hC (q := 414) (v := 2) dL_law_413 rfl (by decide) ?_
  refine Vl_iadd hC (q := 415) dL_law_414 rfl ?_
  rw [show nI i + 2 = nI (i + 2) from nI_add i 2]
  refine Vl_sld hC (q := 416) (vp_in_nI (by omega) (by omega)) dL_law_415 rfl ?_
  rw [nI_clamp (by omega)]
  refine Vl_callM hC hM rfl lkL_63 viX10_after okX10_after rfl dL_law_416 rfl rfl (Nat.le_of_ble_eq_true rfl) (fun r τ1 hm _ => ?_) (fun r _ hm a => by rw [hm.1]; intro z; cases z)
  obtain ⟨rfl, g1⟩ := hm
  show Vl p la e s m below meth c b F aX aM 419 _ [.int _, .int _] σ1 τ1
  refine Vl_icmp_eq hC (tgt := 1089) dL_law_419 (by decide) rfl (fun _ => ?_) (fun hz => absurd rfl hz)
  exact kk _ _ _ _ _ _ _ _ _ _ _ h1 g1 hok
set_option maxRecDepth 100000 in
theorem v_all {p : Program} {la : Launch} {e : Jvm.Env} {s : State} {m : MethodId} {below : List Frame} {meth : Method} {c : Code} {b L : Nat} {xs : Nat → Int32} {F : u_F} {aX aM : Nat → Nat} (hC : Cl p s m meth c b L xs F aX aM) {i : Nat} (hi : i + 6 ≤ L) (hL : L ≤ 384) {tx : List Nat} {ρ : Rm} {c0 d0 p0 : Nat} {ac : List (Nat × Nat × Nat)} {sl : Nat → Option (Nat × Nat × Nat)} {se : List (Nat × Nat × Nat)} {sd : Int64} {N : Nat} {σ τ : Mem} (h : RX tx ρ c0 d0 p0 ac sl se sd σ) (g : RM tx ρ c0 d0 p0 ac sl se sd τ) (hv : okV N ρ c0 d0 p0 ac sl se) (hN : N < 1000) (kk : ∀ (tx : List Nat) (ρ : Rm) (c0 d0 p0 : Nat) (ac : List (Nat × Nat × Nat)) (sl : Nat → Option (Nat × Nat × Nat)) (se : List (Nat × Nat × Nat)) (sd : Int64) (σ τ : Mem), RX tx ρ c0 d0 p0 ac sl se sd σ → RM tx ρ c0 d0 p0 ac sl se sd τ → okV (N + 1) ρ c0 d0 p0 ac sl se → Vl p la e s m below meth c b F aX aM 1089 [some (.ref 2), some (.ref 0), some (.ref 1), some (.int (nI i))] [] σ τ) : Vl p la e s m below meth c b F aX aM 424 [some (.ref 2), some (.ref 0), some (.ref 1), some (.int (nI i))] [] σ τ := by
  obtain ⟨v, tx1, ρ1, c1, d1, p1, ac1, sl1, se1, sd1, hX, hM, hok⟩ := s_all h g hv hN 
  refine Vl_aloadn hC (q := 425) dL_law_424 rfl rfl rfl ?_
  refine Vl_callX hC hX rfl lkL_64 viX9_all okX9_all rfl dL_law_425 rfl rfl (Nat.le_of_ble_eq_true rfl) (fun r σ1 hm _ => ?_) (fun r _ hm a => by rw [hm.1]; intro z; cases z)
  obtain ⟨rfl, h1⟩ := hm
  show Vl p la e s m below meth c b F aX aM 428 _ [.int _] σ1 τ
  refine Vl_aloadn hC (q := 429) dL_law_428 rfl rfl rfl ?_
  refine Vl_callM hC hM rfl lkL_67 viX10_all okX10_all rfl dL_law_429 rfl rfl (Nat.le_of_ble_eq_true rfl) (fun r τ1 hm _ => ?_) (fun r _ hm a => by rw [hm.1]; intro z; cases z)
  obtain ⟨rfl, g1⟩ := hm
  show Vl p la e s m below meth c b F aX aM 432 _ [.int _, .int _] σ1 τ1
  refine Vl_icmp_eq hC (tgt := 1089) dL_law_432 (by decide) rfl (fun _ => ?_) (fun hz => absurd rfl hz)
  exact kk _ _ _ _ _ _ _ _ _ _ _ h1 g1 hok
set_option maxRecDepth 100000 in
theorem v_fewest {p : Program} {la : Launch} {e : Jvm.Env} {s : State} {m : MethodId} {below : List Frame} {meth : Method} {c : Code} {b L : Nat} {xs : Nat → Int32} {F : u_F} {aX aM : Nat → Nat} (hC : Cl p s m meth c b L xs F aX aM) {i : Nat} (hi : i + 6 ≤ L) (hL : L ≤ 384) {tx : List Nat} {ρ : Rm} {c0 d0 p0 : Nat} {ac : List (Nat × Nat × Nat)} {sl : Nat → Option (Nat × Nat × Nat)} {se : List (Nat × Nat × Nat)} {sd : Int64} {N : Nat} {σ τ : Mem} (h : RX tx ρ c0 d0 p0 ac sl se sd σ) (g : RM tx ρ c0 d0 p0 ac sl se sd τ) (hv : okV N ρ c0 d0 p0 ac sl se) (hN : N < 1000) (kk : ∀ (tx : List Nat) (ρ : Rm) (c0 d0 p0 : Nat) (ac : List (Nat × Nat × Nat)) (sl : Nat → Option (Nat × Nat × Nat)) (se : List (Nat × Nat × Nat)) (sd : Int64) (σ τ : Mem), RX tx ρ c0 d0 p0 ac sl se sd σ → RM tx ρ c0 d0 p0 ac sl se sd τ → okV (N + 1) ρ c0 d0 p0 ac sl se → Vl p la e s m below meth c b F aX aM 1089 [some (.ref 2), some (.ref 0), some (.ref 1), some (.int (nI i))] [] σ τ) : Vl p la e s m below meth c b F aX aM 437 [some (.ref 2), some (.ref 0), some (.ref 1), some (.int (nI i))] [] σ τ := by
  by_cases hz0 : xs (i + 2) = 0
  ·
    obtain ⟨v, tx1, ρ1, c1, d1, p1, ac1, sl1, se1, sd1, hX, hM, hok⟩ := s_fewest h g hv hN (xs (i + 1)) 0
    refine Vl_aloadn hC (q := 438) dL_law_437 rfl rfl rfl ?_
    refine Vl_aloadn hC (q := 439) dL_law_438 rfl rfl rfl ?_
    refine Vl_iloadn hC (q := 440) dL_law_439 rfl rfl rfl ?_
    refine Vl_iconst hC (q := 441) (v := 1) dL_law_440 rfl (by decide) ?_
    refine Vl_iadd hC (q := 442) dL_law_441 rfl ?_
    rw [show nI i + 1 = nI (i + 1) from nI_add i 1]
    refine Vl_sld hC (q := 443) (vp_in_nI (by omega) (by omega)) dL_law_442 rfl ?_
    rw [nI_clamp (by omega)]
    refine Vl_aloadn hC (q := 444) dL_law_443 rfl rfl rfl ?_
    refine Vl_iloadn hC (q := 445) dL_law_444 rfl rfl rfl ?_
    refine Vl_iconst hC (q := 446) (v := 2) dL_law_445 rfl (by decide) ?_
    refine Vl_iadd hC (q := 447) dL_law_446 rfl ?_
    rw [show nI i + 2 = nI (i + 2) from nI_add i 2]
    refine Vl_sld hC (q := 448) (vp_in_nI (by omega) (by omega)) dL_law_447 rfl ?_
    rw [nI_clamp (by omega)]
    refine Vl_if_eq hC (tgt := 455) dL_law_448 (by decide) rfl (fun _ => ?_) (fun hz => absurd hz0 hz)
    refine Vl_iconst hC (q := 456) (v := 0) dL_law_455 rfl (by decide) ?_
    refine Vl_callX hC hX rfl lkL_68 viX9_fewest okX9_fewest rfl dL_law_456 rfl rfl (Nat.le_of_ble_eq_true rfl) (fun r σ1 hm _ => ?_) (fun r _ hm a => by rw [hm.1]; intro z; cases z)
    obtain ⟨rfl, h1⟩ := hm
    show Vl p la e s m below meth c b F aX aM 459 _ [.int _] σ1 τ
    refine Vl_aloadn hC (q := 460) dL_law_459 rfl rfl rfl ?_
    refine Vl_aloadn hC (q := 461) dL_law_460 rfl rfl rfl ?_
    refine Vl_iloadn hC (q := 462) dL_law_461 rfl rfl rfl ?_
    refine Vl_iconst hC (q := 463) (v := 1) dL_law_462 rfl (by decide) ?_
    refine Vl_iadd hC (q := 464) dL_law_463 rfl ?_
    rw [show nI i + 1 = nI (i + 1) from nI_add i 1]
    refine Vl_sld hC (q := 465) (vp_in_nI (by omega) (by omega)) dL_law_464 rfl ?_
    rw [nI_clamp (by omega)]
    refine Vl_aloadn hC (q := 466) dL_law_465 rfl rfl rfl ?_
    refine Vl_iloadn hC (q := 467) dL_law_466 rfl rfl rfl ?_
    refine Vl_iconst hC (q := 468) (v := 2) dL_law_467 rfl (by decide) ?_
    refine Vl_iadd hC (q := 469) dL_law_468 rfl ?_
    rw [show nI i + 2 = nI (i + 2) from nI_add i 2]
    refine Vl_sld hC (q := 470) (vp_in_nI (by omega) (by omega)) dL_law_469 rfl ?_
    rw [nI_clamp (by omega)]
    refine Vl_if_eq hC (tgt := 477) dL_law_470 (by decide) rfl (fun _ => ?_) (fun hz => absurd hz0 hz)
    refine Vl_iconst hC (q := 478) (v := 0) dL_law_477 rfl (by decide) ?_
    refine Vl_callM hC hM rfl lkL_72 viX10_fewest okX10_fewest rfl dL_law_478 rfl rfl (Nat.le_of_ble_eq_true rfl) (fun r τ1 hm _ => ?_) (fun r _ hm a => by rw [hm.1]; intro z; cases z)
    obtain ⟨rfl, g1⟩ := hm
    show Vl p la e s m below meth c b F aX aM 481 _ [.int _, .int _] σ1 τ1
    refine Vl_icmp_eq hC (tgt := 1089) dL_law_481 (by decide) rfl (fun _ => ?_) (fun hz => absurd rfl hz)
    exact kk _ _ _ _ _ _ _ _ _ _ _ h1 g1 hok
  ·
    obtain ⟨v, tx1, ρ1, c1, d1, p1, ac1, sl1, se1, sd1, hX, hM, hok⟩ := s_fewest h g hv hN (xs (i + 1)) 1
    refine Vl_aloadn hC (q := 438) dL_law_437 rfl rfl rfl ?_
    refine Vl_aloadn hC (q := 439) dL_law_438 rfl rfl rfl ?_
    refine Vl_iloadn hC (q := 440) dL_law_439 rfl rfl rfl ?_
    refine Vl_iconst hC (q := 441) (v := 1) dL_law_440 rfl (by decide) ?_
    refine Vl_iadd hC (q := 442) dL_law_441 rfl ?_
    rw [show nI i + 1 = nI (i + 1) from nI_add i 1]
    refine Vl_sld hC (q := 443) (vp_in_nI (by omega) (by omega)) dL_law_442 rfl ?_
    rw [nI_clamp (by omega)]
    refine Vl_aloadn hC (q := 444) dL_law_443 rfl rfl rfl ?_
    refine Vl_iloadn hC (q := 445) dL_law_444 rfl rfl rfl ?_
    refine Vl_iconst hC (q := 446) (v := 2) dL_law_445 rfl (by decide) ?_
    refine Vl_iadd hC (q := 447) dL_law_446 rfl ?_
    rw [show nI i + 2 = nI (i + 2) from nI_add i 2]
    refine Vl_sld hC (q := 448) (vp_in_nI (by omega) (by omega)) dL_law_447 rfl ?_
    rw [nI_clamp (by omega)]
    refine Vl_if_eq hC (tgt := 455) dL_law_448 (by decide) rfl (fun hz => absurd hz hz0) (fun _ => ?_)
    refine Vl_iconst hC (q := 452) (v := 1) dL_law_451 rfl (by decide) ?_
    refine Vl_goto hC (q := 456) dL_law_452 (by decide) ?_
    refine Vl_callX hC hX rfl lkL_68 viX9_fewest okX9_fewest rfl dL_law_456 rfl rfl (Nat.le_of_ble_eq_true rfl) (fun r σ1 hm _ => ?_) (fun r _ hm a => by rw [hm.1]; intro z; cases z)
    obtain ⟨rfl, h1⟩ := hm
    show Vl p la e s m below meth c b F aX aM 459 _ [.int _] σ1 τ
    refine Vl_aloadn hC (q := 460) dL_law_459 rfl rfl rfl ?_
    refine Vl_aloadn hC (q := 461) dL_law_460 rfl rfl rfl ?_
    refine Vl_iloadn hC (q := 462) dL_law_461 rfl rfl rfl ?_
    refine Vl_iconst hC (q := 463) (v := 1) dL_law_462 rfl (by decide) ?_
    refine Vl_iadd hC (q := 464) dL_law_463 rfl ?_
    rw [show nI i + 1 = nI (i + 1) from nI_add i 1]
    refine Vl_sld hC (q := 465) (vp_in_nI (by omega) (by omega)) dL_law_464 rfl ?_
    rw [nI_clamp (by omega)]
    refine Vl_aloadn hC (q := 466) dL_law_465 rfl rfl rfl ?_
    refine Vl_iloadn hC (q := 467) dL_law_466 rfl rfl rfl ?_
    refine Vl_iconst hC (q := 468) (v := 2) dL_law_467 rfl (by decide) ?_
    refine Vl_iadd hC (q := 469) dL_law_468 rfl ?_
    rw [show nI i + 2 = nI (i + 2) from nI_add i 2]
    refine Vl_sld hC (q := 470) (vp_in_nI (by omega) (by omega)) dL_law_469 rfl ?_
    rw [nI_clamp (by omega)]
    refine Vl_if_eq hC (tgt := 477) dL_law_470 (by decide) rfl (fun hz => absurd hz hz0) (fun _ => ?_)
    refine Vl_iconst hC (q := 474) (v := 1) dL_law_473 rfl (by decide) ?_
    refine Vl_goto hC (q := 478) dL_law_474 (by decide) ?_
    refine Vl_callM hC hM rfl lkL_72 viX10_fewest okX10_fewest rfl dL_law_478 rfl rfl (Nat.le_of_ble_eq_true rfl) (fun r τ1 hm _ => ?_) (fun r _ hm a => by rw [hm.1]; intro z; cases z)
    obtain ⟨rfl, g1⟩ := hm
    show Vl p la e s m below meth c b F aX aM 481 _ [.int _, .int _] σ1 τ1
    refine Vl_icmp_eq hC (tgt := 1089) dL_law_481 (by decide) rfl (fun _ => ?_) (fun hz => absurd rfl hz)
    exact kk _ _ _ _ _ _ _ _ _ _ _ h1 g1 hok
set_option maxRecDepth 100000 in
theorem v_worst {p : Program} {la : Launch} {e : Jvm.Env} {s : State} {m : MethodId} {below : List Frame} {meth : Method} {c : Code} {b L : Nat} {xs : Nat → Int32} {F : u_F} {aX aM : Nat → Nat} (hC : Cl p s m meth c b L xs F aX aM) {i : Nat} (hi : i + 6 ≤ L) (hL : L ≤ 384) {tx : List Nat} {ρ : Rm} {c0 d0 p0 : Nat} {ac : List (Nat × Nat × Nat)} {sl : Nat → Option (Nat × Nat × Nat)} {se : List (Nat × Nat × Nat)} {sd : Int64} {N : Nat} {σ τ : Mem} (h : RX tx ρ c0 d0 p0 ac sl se sd σ) (g : RM tx ρ c0 d0 p0 ac sl se sd τ) (hv : okV N ρ c0 d0 p0 ac sl se) (hN : N < 1000) (kk : ∀ (tx : List Nat) (ρ : Rm) (c0 d0 p0 : Nat) (ac : List (Nat × Nat × Nat)) (sl : Nat → Option (Nat × Nat × Nat)) (se : List (Nat × Nat × Nat)) (sd : Int64) (σ τ : Mem), RX tx ρ c0 d0 p0 ac sl se sd σ → RM tx ρ c0 d0 p0 ac sl se sd τ → okV (N + 1) ρ c0 d0 p0 ac sl se → Vl p la e s m below meth c b F aX aM 1089 [some (.ref 2), some (.ref 0), some (.ref 1), some (.int (nI i))] [] σ τ) : Vl p la e s m below meth c b F aX aM 486 [some (.ref 2), some (.ref 0), some (.ref 1), some (.int (nI i))] [] σ τ := by
  obtain ⟨v, tx1, ρ1, c1, d1, p1, ac1, sl1, se1, sd1, hX, hM, hok⟩ := s_worst h g hv hN (xs (i + 1)) (xs (i + 2))
  refine Vl_aloadn hC (q := 487) dL_law_486 rfl rfl rfl ?_
  refine Vl_aloadn hC (q := 488) dL_law_487 rfl rfl rfl ?_
  refine Vl_iloadn hC (q := 489) dL_law_488 rfl rfl rfl ?_
  refine Vl_iconst hC (q := 490) (v := 1) dL_law_489 rfl (by decide) ?_
  refine Vl_iadd hC (q := 491) dL_law_490 rfl ?_
  rw [show nI i + 1 = nI (i + 1) from nI_add i 1]
  refine Vl_sld hC (q := 492) (vp_in_nI (by omega) (by omega)) dL_law_491 rfl ?_
  rw [nI_clamp (by omega)]
  refine Vl_aloadn hC (q := 493) dL_law_492 rfl rfl rfl ?_
  refine Vl_iloadn hC (q := 494) dL_law_493 rfl rfl rfl ?_
  refine Vl_iconst hC (q := 495) (v := 2) dL_law_494 rfl (by decide) ?_
  refine Vl_iadd hC (q := 496) dL_law_495 rfl ?_
  rw [show nI i + 2 = nI (i + 2) from nI_add i 2]
  refine Vl_sld hC (q := 497) (vp_in_nI (by omega) (by omega)) dL_law_496 rfl ?_
  rw [nI_clamp (by omega)]
  refine Vl_callX hC hX rfl lkL_73 viX9_worst okX9_worst rfl dL_law_497 rfl rfl (Nat.le_of_ble_eq_true rfl) (fun r σ1 hm _ => ?_) (fun r _ hm a => by rw [hm.1]; intro z; cases z)
  obtain ⟨rfl, h1⟩ := hm
  show Vl p la e s m below meth c b F aX aM 500 _ [.int _] σ1 τ
  refine Vl_aloadn hC (q := 501) dL_law_500 rfl rfl rfl ?_
  refine Vl_aloadn hC (q := 502) dL_law_501 rfl rfl rfl ?_
  refine Vl_iloadn hC (q := 503) dL_law_502 rfl rfl rfl ?_
  refine Vl_iconst hC (q := 504) (v := 1) dL_law_503 rfl (by decide) ?_
  refine Vl_iadd hC (q := 505) dL_law_504 rfl ?_
  rw [show nI i + 1 = nI (i + 1) from nI_add i 1]
  refine Vl_sld hC (q := 506) (vp_in_nI (by omega) (by omega)) dL_law_505 rfl ?_
  rw [nI_clamp (by omega)]
  refine Vl_aloadn hC (q := 507) dL_law_506 rfl rfl rfl ?_
  refine Vl_iloadn hC (q := 508) dL_law_507 rfl rfl rfl ?_
  refine Vl_iconst hC (q := 509) (v := 2) dL_law_508 rfl (by decide) ?_
  refine Vl_iadd hC (q := 510) dL_law_509 rfl ?_
  rw [show nI i + 2 = nI (i + 2) from nI_add i 2]
  refine Vl_sld hC (q := 511) (vp_in_nI (by omega) (by omega)) dL_law_510 rfl ?_
  rw [nI_clamp (by omega)]
  refine Vl_callM hC hM rfl lkL_76 viX10_worst okX10_worst rfl dL_law_511 rfl rfl (Nat.le_of_ble_eq_true rfl) (fun r τ1 hm _ => ?_) (fun r _ hm a => by rw [hm.1]; intro z; cases z)
  obtain ⟨rfl, g1⟩ := hm
  show Vl p la e s m below meth c b F aX aM 514 _ [.int _, .int _] σ1 τ1
  refine Vl_icmp_eq hC (tgt := 1089) dL_law_514 (by decide) rfl (fun _ => ?_) (fun hz => absurd rfl hz)
  exact kk _ _ _ _ _ _ _ _ _ _ _ h1 g1 hok
set_option maxRecDepth 100000 in
theorem v_sure {p : Program} {la : Launch} {e : Jvm.Env} {s : State} {m : MethodId} {below : List Frame} {meth : Method} {c : Code} {b L : Nat} {xs : Nat → Int32} {F : u_F} {aX aM : Nat → Nat} (hC : Cl p s m meth c b L xs F aX aM) {i : Nat} (hi : i + 6 ≤ L) (hL : L ≤ 384) {tx : List Nat} {ρ : Rm} {c0 d0 p0 : Nat} {ac : List (Nat × Nat × Nat)} {sl : Nat → Option (Nat × Nat × Nat)} {se : List (Nat × Nat × Nat)} {sd : Int64} {N : Nat} {σ τ : Mem} (h : RX tx ρ c0 d0 p0 ac sl se sd σ) (g : RM tx ρ c0 d0 p0 ac sl se sd τ) (hv : okV N ρ c0 d0 p0 ac sl se) (hN : N < 1000) (kk : ∀ (tx : List Nat) (ρ : Rm) (c0 d0 p0 : Nat) (ac : List (Nat × Nat × Nat)) (sl : Nat → Option (Nat × Nat × Nat)) (se : List (Nat × Nat × Nat)) (sd : Int64) (σ τ : Mem), RX tx ρ c0 d0 p0 ac sl se sd σ → RM tx ρ c0 d0 p0 ac sl se sd τ → okV (N + 1) ρ c0 d0 p0 ac sl se → Vl p la e s m below meth c b F aX aM 1089 [some (.ref 2), some (.ref 0), some (.ref 1), some (.int (nI i))] [] σ τ) : Vl p la e s m below meth c b F aX aM 519 [some (.ref 2), some (.ref 0), some (.ref 1), some (.int (nI i))] [] σ τ := by
  by_cases hz0 : xs (i + 2) = 0
  ·
    obtain ⟨v, tx1, ρ1, c1, d1, p1, ac1, sl1, se1, sd1, hX, hM, hok⟩ := s_sure h g hv hN (xs (i + 1)) 0
    refine Vl_aloadn hC (q := 520) dL_law_519 rfl rfl rfl ?_
    refine Vl_aloadn hC (q := 521) dL_law_520 rfl rfl rfl ?_
    refine Vl_iloadn hC (q := 522) dL_law_521 rfl rfl rfl ?_
    refine Vl_iconst hC (q := 523) (v := 1) dL_law_522 rfl (by decide) ?_
    refine Vl_iadd hC (q := 524) dL_law_523 rfl ?_
    rw [show nI i + 1 = nI (i + 1) from nI_add i 1]
    refine Vl_sld hC (q := 525) (vp_in_nI (by omega) (by omega)) dL_law_524 rfl ?_
    rw [nI_clamp (by omega)]
    refine Vl_aloadn hC (q := 526) dL_law_525 rfl rfl rfl ?_
    refine Vl_iloadn hC (q := 527) dL_law_526 rfl rfl rfl ?_
    refine Vl_iconst hC (q := 528) (v := 2) dL_law_527 rfl (by decide) ?_
    refine Vl_iadd hC (q := 529) dL_law_528 rfl ?_
    rw [show nI i + 2 = nI (i + 2) from nI_add i 2]
    refine Vl_sld hC (q := 530) (vp_in_nI (by omega) (by omega)) dL_law_529 rfl ?_
    rw [nI_clamp (by omega)]
    refine Vl_if_eq hC (tgt := 537) dL_law_530 (by decide) rfl (fun _ => ?_) (fun hz => absurd hz0 hz)
    refine Vl_iconst hC (q := 538) (v := 0) dL_law_537 rfl (by decide) ?_
    refine Vl_callX hC hX rfl lkL_77 viX9_sure okX9_sure rfl dL_law_538 rfl rfl (Nat.le_of_ble_eq_true rfl) (fun r σ1 hm _ => ?_) (fun r _ hm a => by rw [hm.1]; intro z; cases z)
    obtain ⟨rfl, h1⟩ := hm
    show Vl p la e s m below meth c b F aX aM 541 _ [.int _] σ1 τ
    refine Vl_aloadn hC (q := 542) dL_law_541 rfl rfl rfl ?_
    refine Vl_aloadn hC (q := 543) dL_law_542 rfl rfl rfl ?_
    refine Vl_iloadn hC (q := 544) dL_law_543 rfl rfl rfl ?_
    refine Vl_iconst hC (q := 545) (v := 1) dL_law_544 rfl (by decide) ?_
    refine Vl_iadd hC (q := 546) dL_law_545 rfl ?_
    rw [show nI i + 1 = nI (i + 1) from nI_add i 1]
    refine Vl_sld hC (q := 547) (vp_in_nI (by omega) (by omega)) dL_law_546 rfl ?_
    rw [nI_clamp (by omega)]
    refine Vl_aloadn hC (q := 548) dL_law_547 rfl rfl rfl ?_
    refine Vl_iloadn hC (q := 549) dL_law_548 rfl rfl rfl ?_
    refine Vl_iconst hC (q := 550) (v := 2) dL_law_549 rfl (by decide) ?_
    refine Vl_iadd hC (q := 551) dL_law_550 rfl ?_
    rw [show nI i + 2 = nI (i + 2) from nI_add i 2]
    refine Vl_sld hC (q := 552) (vp_in_nI (by omega) (by omega)) dL_law_551 rfl ?_
    rw [nI_clamp (by omega)]
    refine Vl_if_eq hC (tgt := 559) dL_law_552 (by decide) rfl (fun _ => ?_) (fun hz => absurd hz0 hz)
    refine Vl_iconst hC (q := 560) (v := 0) dL_law_559 rfl (by decide) ?_
    refine Vl_callM hC hM rfl lkL_80 viX10_sure okX10_sure rfl dL_law_560 rfl rfl (Nat.le_of_ble_eq_true rfl) (fun r τ1 hm _ => ?_) (fun r _ hm a => by rw [hm.1]; intro z; cases z)
    obtain ⟨rfl, g1⟩ := hm
    show Vl p la e s m below meth c b F aX aM 563 _ [.int _, .int _] σ1 τ1
    refine Vl_icmp_eq hC (tgt := 1089) dL_law_563 (by decide) rfl (fun _ => ?_) (fun hz => absurd rfl hz)
    exact kk _ _ _ _ _ _ _ _ _ _ _ h1 g1 hok
  ·
    obtain ⟨v, tx1, ρ1, c1, d1, p1, ac1, sl1, se1, sd1, hX, hM, hok⟩ := s_sure h g hv hN (xs (i + 1)) 1
    refine Vl_aloadn hC (q := 520) dL_law_519 rfl rfl rfl ?_
    refine Vl_aloadn hC (q := 521) dL_law_520 rfl rfl rfl ?_
    refine Vl_iloadn hC (q := 522) dL_law_521 rfl rfl rfl ?_
    refine Vl_iconst hC (q := 523) (v := 1) dL_law_522 rfl (by decide) ?_
    refine Vl_iadd hC (q := 524) dL_law_523 rfl ?_
    rw [show nI i + 1 = nI (i + 1) from nI_add i 1]
    refine Vl_sld hC (q := 525) (vp_in_nI (by omega) (by omega)) dL_law_524 rfl ?_
    rw [nI_clamp (by omega)]
    refine Vl_aloadn hC (q := 526) dL_law_525 rfl rfl rfl ?_
    refine Vl_iloadn hC (q := 527) dL_law_526 rfl rfl rfl ?_
    refine Vl_iconst hC (q := 528) (v := 2) dL_law_527 rfl (by decide) ?_
    refine Vl_iadd hC (q := 529) dL_law_528 rfl ?_
    rw [show nI i + 2 = nI (i + 2) from nI_add i 2]
    refine Vl_sld hC (q := 530) (vp_in_nI (by omega) (by omega)) dL_law_529 rfl ?_
    rw [nI_clamp (by omega)]
    refine Vl_if_eq hC (tgt := 537) dL_law_530 (by decide) rfl (fun hz => absurd hz hz0) (fun _ => ?_)
    refine Vl_iconst hC (q := 534) (v := 1) dL_law_533 rfl (by decide) ?_
    refine Vl_goto hC (q := 538) dL_law_534 (by decide) ?_
    refine Vl_callX hC hX rfl lkL_77 viX9_sure okX9_sure rfl dL_law_538 rfl rfl (Nat.le_of_ble_eq_true rfl) (fun r σ1 hm _ => ?_) (fun r _ hm a => by rw [hm.1]; intro z; cases z)
    obtain ⟨rfl, h1⟩ := hm
    show Vl p la e s m below meth c b F aX aM 541 _ [.int _] σ1 τ
    refine Vl_aloadn hC (q := 542) dL_law_541 rfl rfl rfl ?_
    refine Vl_aloadn hC (q := 543) dL_law_542 rfl rfl rfl ?_
    refine Vl_iloadn hC (q := 544) dL_law_543 rfl rfl rfl ?_
    refine Vl_iconst hC (q := 545) (v := 1) dL_law_544 rfl (by decide) ?_
    refine Vl_iadd hC (q := 546) dL_law_545 rfl ?_
    rw [show nI i + 1 = nI (i + 1) from nI_add i 1]
    refine Vl_sld hC (q := 547) (vp_in_nI (by omega) (by omega)) dL_law_546 rfl ?_
    rw [nI_clamp (by omega)]
    refine Vl_aloadn hC (q := 548) dL_law_547 rfl rfl rfl ?_
    refine Vl_iloadn hC (q := 549) dL_law_548 rfl rfl rfl ?_
    refine Vl_iconst hC (q := 550) (v := 2) dL_law_549 rfl (by decide) ?_
    refine Vl_iadd hC (q := 551) dL_law_550 rfl ?_
    rw [show nI i + 2 = nI (i + 2) from nI_add i 2]
    refine Vl_sld hC (q := 552) (vp_in_nI (by omega) (by omega)) dL_law_551 rfl ?_
    rw [nI_clamp (by omega)]
    refine Vl_if_eq hC (tgt := 559) dL_law_552 (by decide) rfl (fun hz => absurd hz hz0) (fun _ => ?_)
    refine Vl_iconst hC (q := 556) (v := 1) dL_law_555 rfl (by decide) ?_
    refine Vl_goto hC (q := 560) dL_law_556 (by decide) ?_
    refine Vl_callM hC hM rfl lkL_80 viX10_sure okX10_sure rfl dL_law_560 rfl rfl (Nat.le_of_ble_eq_true rfl) (fun r τ1 hm _ => ?_) (fun r _ hm a => by rw [hm.1]; intro z; cases z)
    obtain ⟨rfl, g1⟩ := hm
    show Vl p la e s m below meth c b F aX aM 563 _ [.int _, .int _] σ1 τ1
    refine Vl_icmp_eq hC (tgt := 1089) dL_law_563 (by decide) rfl (fun _ => ?_) (fun hz => absurd rfl hz)
    exact kk _ _ _ _ _ _ _ _ _ _ _ h1 g1 hok
set_option maxRecDepth 100000 in
theorem v_needed {p : Program} {la : Launch} {e : Jvm.Env} {s : State} {m : MethodId} {below : List Frame} {meth : Method} {c : Code} {b L : Nat} {xs : Nat → Int32} {F : u_F} {aX aM : Nat → Nat} (hC : Cl p s m meth c b L xs F aX aM) {i : Nat} (hi : i + 6 ≤ L) (hL : L ≤ 384) {tx : List Nat} {ρ : Rm} {c0 d0 p0 : Nat} {ac : List (Nat × Nat × Nat)} {sl : Nat → Option (Nat × Nat × Nat)} {se : List (Nat × Nat × Nat)} {sd : Int64} {N : Nat} {σ τ : Mem} (h : RX tx ρ c0 d0 p0 ac sl se sd σ) (g : RM tx ρ c0 d0 p0 ac sl se sd τ) (hv : okV N ρ c0 d0 p0 ac sl se) (hN : N < 1000) (kk : ∀ (tx : List Nat) (ρ : Rm) (c0 d0 p0 : Nat) (ac : List (Nat × Nat × Nat)) (sl : Nat → Option (Nat × Nat × Nat)) (se : List (Nat × Nat × Nat)) (sd : Int64) (σ τ : Mem), RX tx ρ c0 d0 p0 ac sl se sd σ → RM tx ρ c0 d0 p0 ac sl se sd τ → okV (N + 1) ρ c0 d0 p0 ac sl se → Vl p la e s m below meth c b F aX aM 1089 [some (.ref 2), some (.ref 0), some (.ref 1), some (.int (nI i))] [] σ τ) : Vl p la e s m below meth c b F aX aM 568 [some (.ref 2), some (.ref 0), some (.ref 1), some (.int (nI i))] [] σ τ := by
  obtain ⟨v, tx1, ρ1, c1, d1, p1, ac1, sl1, se1, sd1, hX, hM, hok⟩ := s_needed h g hv hN (xs (i + 1))
  refine Vl_aloadn hC (q := 569) dL_law_568 rfl rfl rfl ?_
  refine Vl_aloadn hC (q := 570) dL_law_569 rfl rfl rfl ?_
  refine Vl_iloadn hC (q := 571) dL_law_570 rfl rfl rfl ?_
  refine Vl_iconst hC (q := 572) (v := 1) dL_law_571 rfl (by decide) ?_
  refine Vl_iadd hC (q := 573) dL_law_572 rfl ?_
  rw [show nI i + 1 = nI (i + 1) from nI_add i 1]
  refine Vl_sld hC (q := 574) (vp_in_nI (by omega) (by omega)) dL_law_573 rfl ?_
  rw [nI_clamp (by omega)]
  refine Vl_callX hC hX rfl lkL_81 viX9_needed okX9_needed rfl dL_law_574 rfl rfl (Nat.le_of_ble_eq_true rfl) (fun r σ1 hm _ => ?_) (fun r _ hm a => by rw [hm.1]; intro z; cases z)
  obtain ⟨rfl, h1⟩ := hm
  show Vl p la e s m below meth c b F aX aM 577 _ [.int _] σ1 τ
  refine Vl_aloadn hC (q := 578) dL_law_577 rfl rfl rfl ?_
  refine Vl_aloadn hC (q := 579) dL_law_578 rfl rfl rfl ?_
  refine Vl_iloadn hC (q := 580) dL_law_579 rfl rfl rfl ?_
  refine Vl_iconst hC (q := 581) (v := 1) dL_law_580 rfl (by decide) ?_
  refine Vl_iadd hC (q := 582) dL_law_581 rfl ?_
  rw [show nI i + 1 = nI (i + 1) from nI_add i 1]
  refine Vl_sld hC (q := 583) (vp_in_nI (by omega) (by omega)) dL_law_582 rfl ?_
  rw [nI_clamp (by omega)]
  refine Vl_callM hC hM rfl lkL_84 viX10_needed okX10_needed rfl dL_law_583 rfl rfl (Nat.le_of_ble_eq_true rfl) (fun r τ1 hm _ => ?_) (fun r _ hm a => by rw [hm.1]; intro z; cases z)
  obtain ⟨rfl, g1⟩ := hm
  show Vl p la e s m below meth c b F aX aM 586 _ [.int _, .int _] σ1 τ1
  refine Vl_icmp_eq hC (tgt := 1089) dL_law_586 (by decide) rfl (fun _ => ?_) (fun hz => absurd rfl hz)
  exact kk _ _ _ _ _ _ _ _ _ _ _ h1 g1 hok
set_option maxRecDepth 100000 in
theorem v_judge {p : Program} {la : Launch} {e : Jvm.Env} {s : State} {m : MethodId} {below : List Frame} {meth : Method} {c : Code} {b L : Nat} {xs : Nat → Int32} {F : u_F} {aX aM : Nat → Nat} (hC : Cl p s m meth c b L xs F aX aM) {i : Nat} (hi : i + 6 ≤ L) (hL : L ≤ 384) {tx : List Nat} {ρ : Rm} {c0 d0 p0 : Nat} {ac : List (Nat × Nat × Nat)} {sl : Nat → Option (Nat × Nat × Nat)} {se : List (Nat × Nat × Nat)} {sd : Int64} {N : Nat} {σ τ : Mem} (h : RX tx ρ c0 d0 p0 ac sl se sd σ) (g : RM tx ρ c0 d0 p0 ac sl se sd τ) (hv : okV N ρ c0 d0 p0 ac sl se) (hN : N < 1000) (kk : ∀ (tx : List Nat) (ρ : Rm) (c0 d0 p0 : Nat) (ac : List (Nat × Nat × Nat)) (sl : Nat → Option (Nat × Nat × Nat)) (se : List (Nat × Nat × Nat)) (sd : Int64) (σ τ : Mem), RX tx ρ c0 d0 p0 ac sl se sd σ → RM tx ρ c0 d0 p0 ac sl se sd τ → okV (N + 1) ρ c0 d0 p0 ac sl se → Vl p la e s m below meth c b F aX aM 1089 [some (.ref 2), some (.ref 0), some (.ref 1), some (.int (nI i))] [] σ τ) : Vl p la e s m below meth c b F aX aM 591 [some (.ref 2), some (.ref 0), some (.ref 1), some (.int (nI i))] [] σ τ := by
  obtain ⟨v, tx1, ρ1, c1, d1, p1, ac1, sl1, se1, sd1, hX, hM, hok⟩ := s_judge h g hv hN (xs (i + 1)) (xs (i + 2))
  refine Vl_aloadn hC (q := 592) dL_law_591 rfl rfl rfl ?_
  refine Vl_aloadn hC (q := 593) dL_law_592 rfl rfl rfl ?_
  refine Vl_iloadn hC (q := 594) dL_law_593 rfl rfl rfl ?_
  refine Vl_iconst hC (q := 595) (v := 1) dL_law_594 rfl (by decide) ?_
  refine Vl_iadd hC (q := 596) dL_law_595 rfl ?_
  rw [show nI i + 1 = nI (i + 1) from nI_add i 1]
  refine Vl_sld hC (q := 597) (vp_in_nI (by omega) (by omega)) dL_law_596 rfl ?_
  rw [nI_clamp (by omega)]
  refine Vl_aloadn hC (q := 598) dL_law_597 rfl rfl rfl ?_
  refine Vl_iloadn hC (q := 599) dL_law_598 rfl rfl rfl ?_
  refine Vl_iconst hC (q := 600) (v := 2) dL_law_599 rfl (by decide) ?_
  refine Vl_iadd hC (q := 601) dL_law_600 rfl ?_
  rw [show nI i + 2 = nI (i + 2) from nI_add i 2]
  refine Vl_sld hC (q := 602) (vp_in_nI (by omega) (by omega)) dL_law_601 rfl ?_
  rw [nI_clamp (by omega)]
  refine Vl_callX hC hX rfl lkL_85 viX9_judge okX9_judge rfl dL_law_602 rfl rfl (Nat.le_of_ble_eq_true rfl) (fun r σ1 hm _ => ?_) (fun r _ hm a => by rw [hm.1]; intro z; cases z)
  obtain ⟨rfl, h1⟩ := hm
  show Vl p la e s m below meth c b F aX aM 605 _ [.int _] σ1 τ
  refine Vl_aloadn hC (q := 606) dL_law_605 rfl rfl rfl ?_
  refine Vl_aloadn hC (q := 607) dL_law_606 rfl rfl rfl ?_
  refine Vl_iloadn hC (q := 608) dL_law_607 rfl rfl rfl ?_
  refine Vl_iconst hC (q := 609) (v := 1) dL_law_608 rfl (by decide) ?_
  refine Vl_iadd hC (q := 610) dL_law_609 rfl ?_
  rw [show nI i + 1 = nI (i + 1) from nI_add i 1]
  refine Vl_sld hC (q := 611) (vp_in_nI (by omega) (by omega)) dL_law_610 rfl ?_
  rw [nI_clamp (by omega)]
  refine Vl_aloadn hC (q := 612) dL_law_611 rfl rfl rfl ?_
  refine Vl_iloadn hC (q := 613) dL_law_612 rfl rfl rfl ?_
  refine Vl_iconst hC (q := 614) (v := 2) dL_law_613 rfl (by decide) ?_
  refine Vl_iadd hC (q := 615) dL_law_614 rfl ?_
  rw [show nI i + 2 = nI (i + 2) from nI_add i 2]
  refine Vl_sld hC (q := 616) (vp_in_nI (by omega) (by omega)) dL_law_615 rfl ?_
  rw [nI_clamp (by omega)]
  refine Vl_callM hC hM rfl lkL_88 viX10_judge okX10_judge rfl dL_law_616 rfl rfl (Nat.le_of_ble_eq_true rfl) (fun r τ1 hm _ => ?_) (fun r _ hm a => by rw [hm.1]; intro z; cases z)
  obtain ⟨rfl, g1⟩ := hm
  show Vl p la e s m below meth c b F aX aM 619 _ [.int _, .int _] σ1 τ1
  refine Vl_icmp_eq hC (tgt := 1089) dL_law_619 (by decide) rfl (fun _ => ?_) (fun hz => absurd rfl hz)
  exact kk _ _ _ _ _ _ _ _ _ _ _ h1 g1 hok
set_option maxRecDepth 100000 in
theorem v_see {p : Program} {la : Launch} {e : Jvm.Env} {s : State} {m : MethodId} {below : List Frame} {meth : Method} {c : Code} {b L : Nat} {xs : Nat → Int32} {F : u_F} {aX aM : Nat → Nat} (hC : Cl p s m meth c b L xs F aX aM) {i : Nat} (hi : i + 6 ≤ L) (hL : L ≤ 384) {tx : List Nat} {ρ : Rm} {c0 d0 p0 : Nat} {ac : List (Nat × Nat × Nat)} {sl : Nat → Option (Nat × Nat × Nat)} {se : List (Nat × Nat × Nat)} {sd : Int64} {N : Nat} {σ τ : Mem} (h : RX tx ρ c0 d0 p0 ac sl se sd σ) (g : RM tx ρ c0 d0 p0 ac sl se sd τ) (hv : okV N ρ c0 d0 p0 ac sl se) (hN : N < 1000) (kk : ∀ (tx : List Nat) (ρ : Rm) (c0 d0 p0 : Nat) (ac : List (Nat × Nat × Nat)) (sl : Nat → Option (Nat × Nat × Nat)) (se : List (Nat × Nat × Nat)) (sd : Int64) (σ τ : Mem), RX tx ρ c0 d0 p0 ac sl se sd σ → RM tx ρ c0 d0 p0 ac sl se sd τ → okV (N + 1) ρ c0 d0 p0 ac sl se → Vl p la e s m below meth c b F aX aM 1089 [some (.ref 2), some (.ref 0), some (.ref 1), some (.int (nI i))] [] σ τ) : Vl p la e s m below meth c b F aX aM 624 [some (.ref 2), some (.ref 0), some (.ref 1), some (.int (nI i))] [] σ τ := by
  obtain ⟨v, tx1, ρ1, c1, d1, p1, ac1, sl1, se1, sd1, hX, hM, hok⟩ := s_see h g hv hN (xs (i + 1)) (xs (i + 2)) (xs (i + 3))
  refine Vl_aloadn hC (q := 625) dL_law_624 rfl rfl rfl ?_
  refine Vl_aloadn hC (q := 626) dL_law_625 rfl rfl rfl ?_
  refine Vl_iloadn hC (q := 627) dL_law_626 rfl rfl rfl ?_
  refine Vl_iconst hC (q := 628) (v := 1) dL_law_627 rfl (by decide) ?_
  refine Vl_iadd hC (q := 629) dL_law_628 rfl ?_
  rw [show nI i + 1 = nI (i + 1) from nI_add i 1]
  refine Vl_sld hC (q := 630) (vp_in_nI (by omega) (by omega)) dL_law_629 rfl ?_
  rw [nI_clamp (by omega)]
  refine Vl_aloadn hC (q := 631) dL_law_630 rfl rfl rfl ?_
  refine Vl_iloadn hC (q := 632) dL_law_631 rfl rfl rfl ?_
  refine Vl_iconst hC (q := 633) (v := 2) dL_law_632 rfl (by decide) ?_
  refine Vl_iadd hC (q := 634) dL_law_633 rfl ?_
  rw [show nI i + 2 = nI (i + 2) from nI_add i 2]
  refine Vl_sld hC (q := 635) (vp_in_nI (by omega) (by omega)) dL_law_634 rfl ?_
  rw [nI_clamp (by omega)]
  refine Vl_aloadn hC (q := 636) dL_law_635 rfl rfl rfl ?_
  refine Vl_iloadn hC (q := 637) dL_law_636 rfl rfl rfl ?_
  refine Vl_iconst hC (q := 638) (v := 3) dL_law_637 rfl (by decide) ?_
  refine Vl_iadd hC (q := 639) dL_law_638 rfl ?_
  rw [show nI i + 3 = nI (i + 3) from nI_add i 3]
  refine Vl_sld hC (q := 640) (vp_in_nI (by omega) (by omega)) dL_law_639 rfl ?_
  rw [nI_clamp (by omega)]
  refine Vl_callX hC hX rfl lkL_89 viX9_see okX9_see rfl dL_law_640 rfl rfl (Nat.le_of_ble_eq_true rfl) (fun r σ1 hm _ => ?_) (fun r _ hm a => by rw [hm.1]; intro z; cases z)
  obtain ⟨rfl, h1⟩ := hm
  show Vl p la e s m below meth c b F aX aM 643 _ [.int _] σ1 τ
  refine Vl_aloadn hC (q := 644) dL_law_643 rfl rfl rfl ?_
  refine Vl_aloadn hC (q := 645) dL_law_644 rfl rfl rfl ?_
  refine Vl_iloadn hC (q := 646) dL_law_645 rfl rfl rfl ?_
  refine Vl_iconst hC (q := 647) (v := 1) dL_law_646 rfl (by decide) ?_
  refine Vl_iadd hC (q := 648) dL_law_647 rfl ?_
  rw [show nI i + 1 = nI (i + 1) from nI_add i 1]
  refine Vl_sld hC (q := 649) (vp_in_nI (by omega) (by omega)) dL_law_648 rfl ?_
  rw [nI_clamp (by omega)]
  refine Vl_aloadn hC (q := 650) dL_law_649 rfl rfl rfl ?_
  refine Vl_iloadn hC (q := 651) dL_law_650 rfl rfl rfl ?_
  refine Vl_iconst hC (q := 652) (v := 2) dL_law_651 rfl (by decide) ?_
  refine Vl_iadd hC (q := 653) dL_law_652 rfl ?_
  rw [show nI i + 2 = nI (i + 2) from nI_add i 2]
  refine Vl_sld hC (q := 654) (vp_in_nI (by omega) (by omega)) dL_law_653 rfl ?_
  rw [nI_clamp (by omega)]
  refine Vl_aloadn hC (q := 655) dL_law_654 rfl rfl rfl ?_
  refine Vl_iloadn hC (q := 656) dL_law_655 rfl rfl rfl ?_
  refine Vl_iconst hC (q := 657) (v := 3) dL_law_656 rfl (by decide) ?_
  refine Vl_iadd hC (q := 658) dL_law_657 rfl ?_
  rw [show nI i + 3 = nI (i + 3) from nI_add i 3]
  refine Vl_sld hC (q := 659) (vp_in_nI (by omega) (by omega)) dL_law_658 rfl ?_
  rw [nI_clamp (by omega)]
  refine Vl_callM hC hM rfl lkL_93 viX10_see okX10_see rfl dL_law_659 rfl rfl (Nat.le_of_ble_eq_true rfl) (fun r τ1 hm _ => ?_) (fun r _ hm a => by rw [hm.1]; intro z; cases z)
  obtain ⟨rfl, g1⟩ := hm
  show Vl p la e s m below meth c b F aX aM 662 _ [.int _, .int _] σ1 τ1
  refine Vl_icmp_eq hC (tgt := 1089) dL_law_662 (by decide) rfl (fun _ => ?_) (fun hz => absurd rfl hz)
  exact kk _ _ _ _ _ _ _ _ _ _ _ h1 g1 hok
set_option maxRecDepth 100000 in
theorem v_unsee {p : Program} {la : Launch} {e : Jvm.Env} {s : State} {m : MethodId} {below : List Frame} {meth : Method} {c : Code} {b L : Nat} {xs : Nat → Int32} {F : u_F} {aX aM : Nat → Nat} (hC : Cl p s m meth c b L xs F aX aM) {i : Nat} (hi : i + 6 ≤ L) (hL : L ≤ 384) {tx : List Nat} {ρ : Rm} {c0 d0 p0 : Nat} {ac : List (Nat × Nat × Nat)} {sl : Nat → Option (Nat × Nat × Nat)} {se : List (Nat × Nat × Nat)} {sd : Int64} {N : Nat} {σ τ : Mem} (h : RX tx ρ c0 d0 p0 ac sl se sd σ) (g : RM tx ρ c0 d0 p0 ac sl se sd τ) (hv : okV N ρ c0 d0 p0 ac sl se) (hN : N < 1000) (kk : ∀ (tx : List Nat) (ρ : Rm) (c0 d0 p0 : Nat) (ac : List (Nat × Nat × Nat)) (sl : Nat → Option (Nat × Nat × Nat)) (se : List (Nat × Nat × Nat)) (sd : Int64) (σ τ : Mem), RX tx ρ c0 d0 p0 ac sl se sd σ → RM tx ρ c0 d0 p0 ac sl se sd τ → okV (N + 1) ρ c0 d0 p0 ac sl se → Vl p la e s m below meth c b F aX aM 1089 [some (.ref 2), some (.ref 0), some (.ref 1), some (.int (nI i))] [] σ τ) : Vl p la e s m below meth c b F aX aM 667 [some (.ref 2), some (.ref 0), some (.ref 1), some (.int (nI i))] [] σ τ := by
  obtain ⟨v, tx1, ρ1, c1, d1, p1, ac1, sl1, se1, sd1, hX, hM, hok⟩ := s_unsee h g hv hN 
  refine Vl_aloadn hC (q := 668) dL_law_667 rfl rfl rfl ?_
  refine Vl_callX hC hX rfl lkL_94 viX9_unsee okX9_unsee rfl dL_law_668 rfl rfl (Nat.le_of_ble_eq_true rfl) (fun r σ1 hm _ => ?_) (fun r _ hm a => by rw [hm.1]; intro z; cases z)
  obtain ⟨rfl, h1⟩ := hm
  show Vl p la e s m below meth c b F aX aM 671 _ [.int _] σ1 τ
  refine Vl_aloadn hC (q := 672) dL_law_671 rfl rfl rfl ?_
  refine Vl_callM hC hM rfl lkL_97 viX10_unsee okX10_unsee rfl dL_law_672 rfl rfl (Nat.le_of_ble_eq_true rfl) (fun r τ1 hm _ => ?_) (fun r _ hm a => by rw [hm.1]; intro z; cases z)
  obtain ⟨rfl, g1⟩ := hm
  show Vl p la e s m below meth c b F aX aM 675 _ [.int _, .int _] σ1 τ1
  refine Vl_icmp_eq hC (tgt := 1089) dL_law_675 (by decide) rfl (fun _ => ?_) (fun hz => absurd rfl hz)
  exact kk _ _ _ _ _ _ _ _ _ _ _ h1 g1 hok
set_option maxRecDepth 100000 in
theorem v_may {p : Program} {la : Launch} {e : Jvm.Env} {s : State} {m : MethodId} {below : List Frame} {meth : Method} {c : Code} {b L : Nat} {xs : Nat → Int32} {F : u_F} {aX aM : Nat → Nat} (hC : Cl p s m meth c b L xs F aX aM) {i : Nat} (hi : i + 6 ≤ L) (hL : L ≤ 384) {tx : List Nat} {ρ : Rm} {c0 d0 p0 : Nat} {ac : List (Nat × Nat × Nat)} {sl : Nat → Option (Nat × Nat × Nat)} {se : List (Nat × Nat × Nat)} {sd : Int64} {N : Nat} {σ τ : Mem} (h : RX tx ρ c0 d0 p0 ac sl se sd σ) (g : RM tx ρ c0 d0 p0 ac sl se sd τ) (hv : okV N ρ c0 d0 p0 ac sl se) (hN : N < 1000) (kk : ∀ (tx : List Nat) (ρ : Rm) (c0 d0 p0 : Nat) (ac : List (Nat × Nat × Nat)) (sl : Nat → Option (Nat × Nat × Nat)) (se : List (Nat × Nat × Nat)) (sd : Int64) (σ τ : Mem), RX tx ρ c0 d0 p0 ac sl se sd σ → RM tx ρ c0 d0 p0 ac sl se sd τ → okV (N + 1) ρ c0 d0 p0 ac sl se → Vl p la e s m below meth c b F aX aM 1089 [some (.ref 2), some (.ref 0), some (.ref 1), some (.int (nI i))] [] σ τ) : Vl p la e s m below meth c b F aX aM 680 [some (.ref 2), some (.ref 0), some (.ref 1), some (.int (nI i))] [] σ τ := by
  obtain ⟨v, tx1, ρ1, c1, d1, p1, ac1, sl1, se1, sd1, hX, hM, hok⟩ := s_may h g hv hN (xs (i + 1))
  refine Vl_aloadn hC (q := 681) dL_law_680 rfl rfl rfl ?_
  refine Vl_aloadn hC (q := 682) dL_law_681 rfl rfl rfl ?_
  refine Vl_iloadn hC (q := 683) dL_law_682 rfl rfl rfl ?_
  refine Vl_iconst hC (q := 684) (v := 1) dL_law_683 rfl (by decide) ?_
  refine Vl_iadd hC (q := 685) dL_law_684 rfl ?_
  rw [show nI i + 1 = nI (i + 1) from nI_add i 1]
  refine Vl_sld hC (q := 686) (vp_in_nI (by omega) (by omega)) dL_law_685 rfl ?_
  rw [nI_clamp (by omega)]
  refine Vl_callX hC hX rfl lkL_98 viX9_may okX9_may rfl dL_law_686 rfl rfl (Nat.le_of_ble_eq_true rfl) (fun r σ1 hm _ => ?_) (fun r _ hm a => by rw [hm.1]; intro z; cases z)
  obtain ⟨rfl, h1⟩ := hm
  show Vl p la e s m below meth c b F aX aM 689 _ [.int _] σ1 τ
  refine Vl_aloadn hC (q := 690) dL_law_689 rfl rfl rfl ?_
  refine Vl_aloadn hC (q := 691) dL_law_690 rfl rfl rfl ?_
  refine Vl_iloadn hC (q := 692) dL_law_691 rfl rfl rfl ?_
  refine Vl_iconst hC (q := 693) (v := 1) dL_law_692 rfl (by decide) ?_
  refine Vl_iadd hC (q := 694) dL_law_693 rfl ?_
  rw [show nI i + 1 = nI (i + 1) from nI_add i 1]
  refine Vl_sld hC (q := 695) (vp_in_nI (by omega) (by omega)) dL_law_694 rfl ?_
  rw [nI_clamp (by omega)]
  refine Vl_callM hC hM rfl lkL_101 viX10_may okX10_may rfl dL_law_695 rfl rfl (Nat.le_of_ble_eq_true rfl) (fun r τ1 hm _ => ?_) (fun r _ hm a => by rw [hm.1]; intro z; cases z)
  obtain ⟨rfl, g1⟩ := hm
  show Vl p la e s m below meth c b F aX aM 698 _ [.int _, .int _] σ1 τ1
  refine Vl_icmp_eq hC (tgt := 1089) dL_law_698 (by decide) rfl (fun _ => ?_) (fun hz => absurd rfl hz)
  exact kk _ _ _ _ _ _ _ _ _ _ _ h1 g1 hok
set_option maxRecDepth 100000 in
theorem v_tells {p : Program} {la : Launch} {e : Jvm.Env} {s : State} {m : MethodId} {below : List Frame} {meth : Method} {c : Code} {b L : Nat} {xs : Nat → Int32} {F : u_F} {aX aM : Nat → Nat} (hC : Cl p s m meth c b L xs F aX aM) {i : Nat} (hi : i + 6 ≤ L) (hL : L ≤ 384) {tx : List Nat} {ρ : Rm} {c0 d0 p0 : Nat} {ac : List (Nat × Nat × Nat)} {sl : Nat → Option (Nat × Nat × Nat)} {se : List (Nat × Nat × Nat)} {sd : Int64} {N : Nat} {σ τ : Mem} (h : RX tx ρ c0 d0 p0 ac sl se sd σ) (g : RM tx ρ c0 d0 p0 ac sl se sd τ) (hv : okV N ρ c0 d0 p0 ac sl se) (hN : N < 1000) (kk : ∀ (tx : List Nat) (ρ : Rm) (c0 d0 p0 : Nat) (ac : List (Nat × Nat × Nat)) (sl : Nat → Option (Nat × Nat × Nat)) (se : List (Nat × Nat × Nat)) (sd : Int64) (σ τ : Mem), RX tx ρ c0 d0 p0 ac sl se sd σ → RM tx ρ c0 d0 p0 ac sl se sd τ → okV (N + 1) ρ c0 d0 p0 ac sl se → Vl p la e s m below meth c b F aX aM 1089 [some (.ref 2), some (.ref 0), some (.ref 1), some (.int (nI i))] [] σ τ) : Vl p la e s m below meth c b F aX aM 703 [some (.ref 2), some (.ref 0), some (.ref 1), some (.int (nI i))] [] σ τ := by
  by_cases hz0 : xs (i + 1) = 0
  ·
    obtain ⟨v, tx1, ρ1, c1, d1, p1, ac1, sl1, se1, sd1, hX, hM, hok⟩ := s_tells h g hv hN 0
    refine Vl_aloadn hC (q := 704) dL_law_703 rfl rfl rfl ?_
    refine Vl_aloadn hC (q := 705) dL_law_704 rfl rfl rfl ?_
    refine Vl_iloadn hC (q := 706) dL_law_705 rfl rfl rfl ?_
    refine Vl_iconst hC (q := 707) (v := 1) dL_law_706 rfl (by decide) ?_
    refine Vl_iadd hC (q := 708) dL_law_707 rfl ?_
    rw [show nI i + 1 = nI (i + 1) from nI_add i 1]
    refine Vl_sld hC (q := 709) (vp_in_nI (by omega) (by omega)) dL_law_708 rfl ?_
    rw [nI_clamp (by omega)]
    refine Vl_if_eq hC (tgt := 716) dL_law_709 (by decide) rfl (fun _ => ?_) (fun hz => absurd hz0 hz)
    refine Vl_iconst hC (q := 717) (v := 0) dL_law_716 rfl (by decide) ?_
    refine Vl_callX hC hX rfl lkL_102 viX9_tells okX9_tells rfl dL_law_717 rfl rfl (Nat.le_of_ble_eq_true rfl) (fun r σ1 hm _ => ?_) (fun r _ hm a => by rw [hm.1]; intro z; cases z)
    obtain ⟨rfl, h1⟩ := hm
    show Vl p la e s m below meth c b F aX aM 720 _ [.int _] σ1 τ
    refine Vl_aloadn hC (q := 721) dL_law_720 rfl rfl rfl ?_
    refine Vl_aloadn hC (q := 722) dL_law_721 rfl rfl rfl ?_
    refine Vl_iloadn hC (q := 723) dL_law_722 rfl rfl rfl ?_
    refine Vl_iconst hC (q := 724) (v := 1) dL_law_723 rfl (by decide) ?_
    refine Vl_iadd hC (q := 725) dL_law_724 rfl ?_
    rw [show nI i + 1 = nI (i + 1) from nI_add i 1]
    refine Vl_sld hC (q := 726) (vp_in_nI (by omega) (by omega)) dL_law_725 rfl ?_
    rw [nI_clamp (by omega)]
    refine Vl_if_eq hC (tgt := 733) dL_law_726 (by decide) rfl (fun _ => ?_) (fun hz => absurd hz0 hz)
    refine Vl_iconst hC (q := 734) (v := 0) dL_law_733 rfl (by decide) ?_
    refine Vl_callM hC hM rfl lkL_106 viX10_tells okX10_tells rfl dL_law_734 rfl rfl (Nat.le_of_ble_eq_true rfl) (fun r τ1 hm _ => ?_) (fun r _ hm a => by rw [hm.1]; intro z; cases z)
    obtain ⟨rfl, g1⟩ := hm
    show Vl p la e s m below meth c b F aX aM 737 _ [.int _, .int _] σ1 τ1
    refine Vl_icmp_eq hC (tgt := 1089) dL_law_737 (by decide) rfl (fun _ => ?_) (fun hz => absurd rfl hz)
    exact kk _ _ _ _ _ _ _ _ _ _ _ h1 g1 hok
  ·
    obtain ⟨v, tx1, ρ1, c1, d1, p1, ac1, sl1, se1, sd1, hX, hM, hok⟩ := s_tells h g hv hN 1
    refine Vl_aloadn hC (q := 704) dL_law_703 rfl rfl rfl ?_
    refine Vl_aloadn hC (q := 705) dL_law_704 rfl rfl rfl ?_
    refine Vl_iloadn hC (q := 706) dL_law_705 rfl rfl rfl ?_
    refine Vl_iconst hC (q := 707) (v := 1) dL_law_706 rfl (by decide) ?_
    refine Vl_iadd hC (q := 708) dL_law_707 rfl ?_
    rw [show nI i + 1 = nI (i + 1) from nI_add i 1]
    refine Vl_sld hC (q := 709) (vp_in_nI (by omega) (by omega)) dL_law_708 rfl ?_
    rw [nI_clamp (by omega)]
    refine Vl_if_eq hC (tgt := 716) dL_law_709 (by decide) rfl (fun hz => absurd hz hz0) (fun _ => ?_)
    refine Vl_iconst hC (q := 713) (v := 1) dL_law_712 rfl (by decide) ?_
    refine Vl_goto hC (q := 717) dL_law_713 (by decide) ?_
    refine Vl_callX hC hX rfl lkL_102 viX9_tells okX9_tells rfl dL_law_717 rfl rfl (Nat.le_of_ble_eq_true rfl) (fun r σ1 hm _ => ?_) (fun r _ hm a => by rw [hm.1]; intro z; cases z)
    obtain ⟨rfl, h1⟩ := hm
    show Vl p la e s m below meth c b F aX aM 720 _ [.int _] σ1 τ
    refine Vl_aloadn hC (q := 721) dL_law_720 rfl rfl rfl ?_
    refine Vl_aloadn hC (q := 722) dL_law_721 rfl rfl rfl ?_
    refine Vl_iloadn hC (q := 723) dL_law_722 rfl rfl rfl ?_
    refine Vl_iconst hC (q := 724) (v := 1) dL_law_723 rfl (by decide) ?_
    refine Vl_iadd hC (q := 725) dL_law_724 rfl ?_
    rw [show nI i + 1 = nI (i + 1) from nI_add i 1]
    refine Vl_sld hC (q := 726) (vp_in_nI (by omega) (by omega)) dL_law_725 rfl ?_
    rw [nI_clamp (by omega)]
    refine Vl_if_eq hC (tgt := 733) dL_law_726 (by decide) rfl (fun hz => absurd hz hz0) (fun _ => ?_)
    refine Vl_iconst hC (q := 730) (v := 1) dL_law_729 rfl (by decide) ?_
    refine Vl_goto hC (q := 734) dL_law_730 (by decide) ?_
    refine Vl_callM hC hM rfl lkL_106 viX10_tells okX10_tells rfl dL_law_734 rfl rfl (Nat.le_of_ble_eq_true rfl) (fun r τ1 hm _ => ?_) (fun r _ hm a => by rw [hm.1]; intro z; cases z)
    obtain ⟨rfl, g1⟩ := hm
    show Vl p la e s m below meth c b F aX aM 737 _ [.int _, .int _] σ1 τ1
    refine Vl_icmp_eq hC (tgt := 1089) dL_law_737 (by decide) rfl (fun _ => ?_) (fun hz => absurd rfl hz)
    exact kk _ _ _ _ _ _ _ _ _ _ _ h1 g1 hok
set_option maxRecDepth 100000 in
theorem v_share {p : Program} {la : Launch} {e : Jvm.Env} {s : State} {m : MethodId} {below : List Frame} {meth : Method} {c : Code} {b L : Nat} {xs : Nat → Int32} {F : u_F} {aX aM : Nat → Nat} (hC : Cl p s m meth c b L xs F aX aM) {i : Nat} (hi : i + 6 ≤ L) (hL : L ≤ 384) {tx : List Nat} {ρ : Rm} {c0 d0 p0 : Nat} {ac : List (Nat × Nat × Nat)} {sl : Nat → Option (Nat × Nat × Nat)} {se : List (Nat × Nat × Nat)} {sd : Int64} {N : Nat} {σ τ : Mem} (h : RX tx ρ c0 d0 p0 ac sl se sd σ) (g : RM tx ρ c0 d0 p0 ac sl se sd τ) (hv : okV N ρ c0 d0 p0 ac sl se) (hN : N < 1000) (kk : ∀ (tx : List Nat) (ρ : Rm) (c0 d0 p0 : Nat) (ac : List (Nat × Nat × Nat)) (sl : Nat → Option (Nat × Nat × Nat)) (se : List (Nat × Nat × Nat)) (sd : Int64) (σ τ : Mem), RX tx ρ c0 d0 p0 ac sl se sd σ → RM tx ρ c0 d0 p0 ac sl se sd τ → okV (N + 1) ρ c0 d0 p0 ac sl se → Vl p la e s m below meth c b F aX aM 1089 [some (.ref 2), some (.ref 0), some (.ref 1), some (.int (nI i))] [] σ τ) : Vl p la e s m below meth c b F aX aM 742 [some (.ref 2), some (.ref 0), some (.ref 1), some (.int (nI i))] [] σ τ := by
  by_cases hz0 : xs (i + 3) = 0
  ·
    obtain ⟨v, tx1, ρ1, c1, d1, p1, ac1, sl1, se1, sd1, hX, hM, hok⟩ := s_share h g hv hN (xs (i + 1)) (xs (i + 2)) 0
    refine Vl_aloadn hC (q := 743) dL_law_742 rfl rfl rfl ?_
    refine Vl_aloadn hC (q := 744) dL_law_743 rfl rfl rfl ?_
    refine Vl_iloadn hC (q := 745) dL_law_744 rfl rfl rfl ?_
    refine Vl_iconst hC (q := 746) (v := 1) dL_law_745 rfl (by decide) ?_
    refine Vl_iadd hC (q := 747) dL_law_746 rfl ?_
    rw [show nI i + 1 = nI (i + 1) from nI_add i 1]
    refine Vl_sld hC (q := 748) (vp_in_nI (by omega) (by omega)) dL_law_747 rfl ?_
    rw [nI_clamp (by omega)]
    refine Vl_aloadn hC (q := 749) dL_law_748 rfl rfl rfl ?_
    refine Vl_iloadn hC (q := 750) dL_law_749 rfl rfl rfl ?_
    refine Vl_iconst hC (q := 751) (v := 2) dL_law_750 rfl (by decide) ?_
    refine Vl_iadd hC (q := 752) dL_law_751 rfl ?_
    rw [show nI i + 2 = nI (i + 2) from nI_add i 2]
    refine Vl_sld hC (q := 753) (vp_in_nI (by omega) (by omega)) dL_law_752 rfl ?_
    rw [nI_clamp (by omega)]
    refine Vl_aloadn hC (q := 754) dL_law_753 rfl rfl rfl ?_
    refine Vl_iloadn hC (q := 755) dL_law_754 rfl rfl rfl ?_
    refine Vl_iconst hC (q := 756) (v := 3) dL_law_755 rfl (by decide) ?_
    refine Vl_iadd hC (q := 757) dL_law_756 rfl ?_
    rw [show nI i + 3 = nI (i + 3) from nI_add i 3]
    refine Vl_sld hC (q := 758) (vp_in_nI (by omega) (by omega)) dL_law_757 rfl ?_
    rw [nI_clamp (by omega)]
    refine Vl_if_eq hC (tgt := 765) dL_law_758 (by decide) rfl (fun _ => ?_) (fun hz => absurd hz0 hz)
    refine Vl_iconst hC (q := 766) (v := 0) dL_law_765 rfl (by decide) ?_
    refine Vl_callX hC hX rfl lkL_107 viX9_share okX9_share rfl dL_law_766 rfl rfl (Nat.le_of_ble_eq_true rfl) (fun r σ1 hm _ => ?_) (fun r _ hm a => by rw [hm.1]; intro z; cases z)
    obtain ⟨rfl, h1⟩ := hm
    show Vl p la e s m below meth c b F aX aM 769 _ [.int _] σ1 τ
    refine Vl_aloadn hC (q := 770) dL_law_769 rfl rfl rfl ?_
    refine Vl_aloadn hC (q := 771) dL_law_770 rfl rfl rfl ?_
    refine Vl_iloadn hC (q := 772) dL_law_771 rfl rfl rfl ?_
    refine Vl_iconst hC (q := 773) (v := 1) dL_law_772 rfl (by decide) ?_
    refine Vl_iadd hC (q := 774) dL_law_773 rfl ?_
    rw [show nI i + 1 = nI (i + 1) from nI_add i 1]
    refine Vl_sld hC (q := 775) (vp_in_nI (by omega) (by omega)) dL_law_774 rfl ?_
    rw [nI_clamp (by omega)]
    refine Vl_aloadn hC (q := 776) dL_law_775 rfl rfl rfl ?_
    refine Vl_iloadn hC (q := 777) dL_law_776 rfl rfl rfl ?_
    refine Vl_iconst hC (q := 778) (v := 2) dL_law_777 rfl (by decide) ?_
    refine Vl_iadd hC (q := 779) dL_law_778 rfl ?_
    rw [show nI i + 2 = nI (i + 2) from nI_add i 2]
    refine Vl_sld hC (q := 780) (vp_in_nI (by omega) (by omega)) dL_law_779 rfl ?_
    rw [nI_clamp (by omega)]
    refine Vl_aloadn hC (q := 781) dL_law_780 rfl rfl rfl ?_
    refine Vl_iloadn hC (q := 782) dL_law_781 rfl rfl rfl ?_
    refine Vl_iconst hC (q := 783) (v := 3) dL_law_782 rfl (by decide) ?_
    refine Vl_iadd hC (q := 784) dL_law_783 rfl ?_
    rw [show nI i + 3 = nI (i + 3) from nI_add i 3]
    refine Vl_sld hC (q := 785) (vp_in_nI (by omega) (by omega)) dL_law_784 rfl ?_
    rw [nI_clamp (by omega)]
    refine Vl_if_eq hC (tgt := 792) dL_law_785 (by decide) rfl (fun _ => ?_) (fun hz => absurd hz0 hz)
    refine Vl_iconst hC (q := 793) (v := 0) dL_law_792 rfl (by decide) ?_
    refine Vl_callM hC hM rfl lkL_111 viX10_share okX10_share rfl dL_law_793 rfl rfl (Nat.le_of_ble_eq_true rfl) (fun r τ1 hm _ => ?_) (fun r _ hm a => by rw [hm.1]; intro z; cases z)
    obtain ⟨rfl, g1⟩ := hm
    show Vl p la e s m below meth c b F aX aM 796 _ [.int _, .int _] σ1 τ1
    refine Vl_icmp_eq hC (tgt := 1089) dL_law_796 (by decide) rfl (fun _ => ?_) (fun hz => absurd rfl hz)
    exact kk _ _ _ _ _ _ _ _ _ _ _ h1 g1 hok
  ·
    obtain ⟨v, tx1, ρ1, c1, d1, p1, ac1, sl1, se1, sd1, hX, hM, hok⟩ := s_share h g hv hN (xs (i + 1)) (xs (i + 2)) 1
    refine Vl_aloadn hC (q := 743) dL_law_742 rfl rfl rfl ?_
    refine Vl_aloadn hC (q := 744) dL_law_743 rfl rfl rfl ?_
    refine Vl_iloadn hC (q := 745) dL_law_744 rfl rfl rfl ?_
    refine Vl_iconst hC (q := 746) (v := 1) dL_law_745 rfl (by decide) ?_
    refine Vl_iadd hC (q := 747) dL_law_746 rfl ?_
    rw [show nI i + 1 = nI (i + 1) from nI_add i 1]
    refine Vl_sld hC (q := 748) (vp_in_nI (by omega) (by omega)) dL_law_747 rfl ?_
    rw [nI_clamp (by omega)]
    refine Vl_aloadn hC (q := 749) dL_law_748 rfl rfl rfl ?_
    refine Vl_iloadn hC (q := 750) dL_law_749 rfl rfl rfl ?_
    refine Vl_iconst hC (q := 751) (v := 2) dL_law_750 rfl (by decide) ?_
    refine Vl_iadd hC (q := 752) dL_law_751 rfl ?_
    rw [show nI i + 2 = nI (i + 2) from nI_add i 2]
    refine Vl_sld hC (q := 753) (vp_in_nI (by omega) (by omega)) dL_law_752 rfl ?_
    rw [nI_clamp (by omega)]
    refine Vl_aloadn hC (q := 754) dL_law_753 rfl rfl rfl ?_
    refine Vl_iloadn hC (q := 755) dL_law_754 rfl rfl rfl ?_
    refine Vl_iconst hC (q := 756) (v := 3) dL_law_755 rfl (by decide) ?_
    refine Vl_iadd hC (q := 757) dL_law_756 rfl ?_
    rw [show nI i + 3 = nI (i + 3) from nI_add i 3]
    refine Vl_sld hC (q := 758) (vp_in_nI (by omega) (by omega)) dL_law_757 rfl ?_
    rw [nI_clamp (by omega)]
    refine Vl_if_eq hC (tgt := 765) dL_law_758 (by decide) rfl (fun hz => absurd hz hz0) (fun _ => ?_)
    refine Vl_iconst hC (q := 762) (v := 1) dL_law_761 rfl (by decide) ?_
    refine Vl_goto hC (q := 766) dL_law_762 (by decide) ?_
    refine Vl_callX hC hX rfl lkL_107 viX9_share okX9_share rfl dL_law_766 rfl rfl (Nat.le_of_ble_eq_true rfl) (fun r σ1 hm _ => ?_) (fun r _ hm a => by rw [hm.1]; intro z; cases z)
    obtain ⟨rfl, h1⟩ := hm
    show Vl p la e s m below meth c b F aX aM 769 _ [.int _] σ1 τ
    refine Vl_aloadn hC (q := 770) dL_law_769 rfl rfl rfl ?_
    refine Vl_aloadn hC (q := 771) dL_law_770 rfl rfl rfl ?_
    refine Vl_iloadn hC (q := 772) dL_law_771 rfl rfl rfl ?_
    refine Vl_iconst hC (q := 773) (v := 1) dL_law_772 rfl (by decide) ?_
    refine Vl_iadd hC (q := 774) dL_law_773 rfl ?_
    rw [show nI i + 1 = nI (i + 1) from nI_add i 1]
    refine Vl_sld hC (q := 775) (vp_in_nI (by omega) (by omega)) dL_law_774 rfl ?_
    rw [nI_clamp (by omega)]
    refine Vl_aloadn hC (q := 776) dL_law_775 rfl rfl rfl ?_
    refine Vl_iloadn hC (q := 777) dL_law_776 rfl rfl rfl ?_
    refine Vl_iconst hC (q := 778) (v := 2) dL_law_777 rfl (by decide) ?_
    refine Vl_iadd hC (q := 779) dL_law_778 rfl ?_
    rw [show nI i + 2 = nI (i + 2) from nI_add i 2]
    refine Vl_sld hC (q := 780) (vp_in_nI (by omega) (by omega)) dL_law_779 rfl ?_
    rw [nI_clamp (by omega)]
    refine Vl_aloadn hC (q := 781) dL_law_780 rfl rfl rfl ?_
    refine Vl_iloadn hC (q := 782) dL_law_781 rfl rfl rfl ?_
    refine Vl_iconst hC (q := 783) (v := 3) dL_law_782 rfl (by decide) ?_
    refine Vl_iadd hC (q := 784) dL_law_783 rfl ?_
    rw [show nI i + 3 = nI (i + 3) from nI_add i 3]
    refine Vl_sld hC (q := 785) (vp_in_nI (by omega) (by omega)) dL_law_784 rfl ?_
    rw [nI_clamp (by omega)]
    refine Vl_if_eq hC (tgt := 792) dL_law_785 (by decide) rfl (fun hz => absurd hz hz0) (fun _ => ?_)
    refine Vl_iconst hC (q := 789) (v := 1) dL_law_788 rfl (by decide) ?_
    refine Vl_goto hC (q := 793) dL_law_789 (by decide) ?_
    refine Vl_callM hC hM rfl lkL_111 viX10_share okX10_share rfl dL_law_793 rfl rfl (Nat.le_of_ble_eq_true rfl) (fun r τ1 hm _ => ?_) (fun r _ hm a => by rw [hm.1]; intro z; cases z)
    obtain ⟨rfl, g1⟩ := hm
    show Vl p la e s m below meth c b F aX aM 796 _ [.int _, .int _] σ1 τ1
    refine Vl_icmp_eq hC (tgt := 1089) dL_law_796 (by decide) rfl (fun _ => ?_) (fun hz => absurd rfl hz)
    exact kk _ _ _ _ _ _ _ _ _ _ _ h1 g1 hok
set_option maxRecDepth 100000 in
theorem v_rests {p : Program} {la : Launch} {e : Jvm.Env} {s : State} {m : MethodId} {below : List Frame} {meth : Method} {c : Code} {b L : Nat} {xs : Nat → Int32} {F : u_F} {aX aM : Nat → Nat} (hC : Cl p s m meth c b L xs F aX aM) {i : Nat} (hi : i + 6 ≤ L) (hL : L ≤ 384) {tx : List Nat} {ρ : Rm} {c0 d0 p0 : Nat} {ac : List (Nat × Nat × Nat)} {sl : Nat → Option (Nat × Nat × Nat)} {se : List (Nat × Nat × Nat)} {sd : Int64} {N : Nat} {σ τ : Mem} (h : RX tx ρ c0 d0 p0 ac sl se sd σ) (g : RM tx ρ c0 d0 p0 ac sl se sd τ) (hv : okV N ρ c0 d0 p0 ac sl se) (hN : N < 1000) (kk : ∀ (tx : List Nat) (ρ : Rm) (c0 d0 p0 : Nat) (ac : List (Nat × Nat × Nat)) (sl : Nat → Option (Nat × Nat × Nat)) (se : List (Nat × Nat × Nat)) (sd : Int64) (σ τ : Mem), RX tx ρ c0 d0 p0 ac sl se sd σ → RM tx ρ c0 d0 p0 ac sl se sd τ → okV (N + 1) ρ c0 d0 p0 ac sl se → Vl p la e s m below meth c b F aX aM 1089 [some (.ref 2), some (.ref 0), some (.ref 1), some (.int (nI i))] [] σ τ) : Vl p la e s m below meth c b F aX aM 801 [some (.ref 2), some (.ref 0), some (.ref 1), some (.int (nI i))] [] σ τ := by
  obtain ⟨v, tx1, ρ1, c1, d1, p1, ac1, sl1, se1, sd1, hX, hM, hok⟩ := s_rests h g hv hN (xs (i + 1)) (xs (i + 2)) (xs (i + 3)) (xs (i + 4)) (xs (i + 5))
  refine Vl_aloadn hC (q := 802) dL_law_801 rfl rfl rfl ?_
  refine Vl_aloadn hC (q := 803) dL_law_802 rfl rfl rfl ?_
  refine Vl_iloadn hC (q := 804) dL_law_803 rfl rfl rfl ?_
  refine Vl_iconst hC (q := 805) (v := 1) dL_law_804 rfl (by decide) ?_
  refine Vl_iadd hC (q := 806) dL_law_805 rfl ?_
  rw [show nI i + 1 = nI (i + 1) from nI_add i 1]
  refine Vl_sld hC (q := 807) (vp_in_nI (by omega) (by omega)) dL_law_806 rfl ?_
  rw [nI_clamp (by omega)]
  refine Vl_aloadn hC (q := 808) dL_law_807 rfl rfl rfl ?_
  refine Vl_iloadn hC (q := 809) dL_law_808 rfl rfl rfl ?_
  refine Vl_iconst hC (q := 810) (v := 2) dL_law_809 rfl (by decide) ?_
  refine Vl_iadd hC (q := 811) dL_law_810 rfl ?_
  rw [show nI i + 2 = nI (i + 2) from nI_add i 2]
  refine Vl_sld hC (q := 812) (vp_in_nI (by omega) (by omega)) dL_law_811 rfl ?_
  rw [nI_clamp (by omega)]
  refine Vl_aloadn hC (q := 813) dL_law_812 rfl rfl rfl ?_
  refine Vl_iloadn hC (q := 814) dL_law_813 rfl rfl rfl ?_
  refine Vl_iconst hC (q := 815) (v := 3) dL_law_814 rfl (by decide) ?_
  refine Vl_iadd hC (q := 816) dL_law_815 rfl ?_
  rw [show nI i + 3 = nI (i + 3) from nI_add i 3]
  refine Vl_sld hC (q := 817) (vp_in_nI (by omega) (by omega)) dL_law_816 rfl ?_
  rw [nI_clamp (by omega)]
  refine Vl_aloadn hC (q := 818) dL_law_817 rfl rfl rfl ?_
  refine Vl_iloadn hC (q := 819) dL_law_818 rfl rfl rfl ?_
  refine Vl_iconst hC (q := 820) (v := 4) dL_law_819 rfl (by decide) ?_
  refine Vl_iadd hC (q := 821) dL_law_820 rfl ?_
  rw [show nI i + 4 = nI (i + 4) from nI_add i 4]
  refine Vl_sld hC (q := 822) (vp_in_nI (by omega) (by omega)) dL_law_821 rfl ?_
  rw [nI_clamp (by omega)]
  refine Vl_aloadn hC (q := 823) dL_law_822 rfl rfl rfl ?_
  refine Vl_iloadn hC (q := 824) dL_law_823 rfl rfl rfl ?_
  refine Vl_iconst hC (q := 825) (v := 5) dL_law_824 rfl (by decide) ?_
  refine Vl_iadd hC (q := 826) dL_law_825 rfl ?_
  rw [show nI i + 5 = nI (i + 5) from nI_add i 5]
  refine Vl_sld hC (q := 827) (vp_in_nI (by omega) (by omega)) dL_law_826 rfl ?_
  rw [nI_clamp (by omega)]
  refine Vl_callX hC hX rfl lkL_112 viX9_rests okX9_rests rfl dL_law_827 rfl rfl (Nat.le_of_ble_eq_true rfl) (fun r σ1 hm _ => ?_) (fun r _ hm a => by rw [hm.1]; intro z; cases z)
  obtain ⟨rfl, h1⟩ := hm
  show Vl p la e s m below meth c b F aX aM 830 _ [.int _] σ1 τ
  refine Vl_aloadn hC (q := 831) dL_law_830 rfl rfl rfl ?_
  refine Vl_aloadn hC (q := 832) dL_law_831 rfl rfl rfl ?_
  refine Vl_iloadn hC (q := 833) dL_law_832 rfl rfl rfl ?_
  refine Vl_iconst hC (q := 834) (v := 1) dL_law_833 rfl (by decide) ?_
  refine Vl_iadd hC (q := 835) dL_law_834 rfl ?_
  rw [show nI i + 1 = nI (i + 1) from nI_add i 1]
  refine Vl_sld hC (q := 836) (vp_in_nI (by omega) (by omega)) dL_law_835 rfl ?_
  rw [nI_clamp (by omega)]
  refine Vl_aloadn hC (q := 837) dL_law_836 rfl rfl rfl ?_
  refine Vl_iloadn hC (q := 838) dL_law_837 rfl rfl rfl ?_
  refine Vl_iconst hC (q := 839) (v := 2) dL_law_838 rfl (by decide) ?_
  refine Vl_iadd hC (q := 840) dL_law_839 rfl ?_
  rw [show nI i + 2 = nI (i + 2) from nI_add i 2]
  refine Vl_sld hC (q := 841) (vp_in_nI (by omega) (by omega)) dL_law_840 rfl ?_
  rw [nI_clamp (by omega)]
  refine Vl_aloadn hC (q := 842) dL_law_841 rfl rfl rfl ?_
  refine Vl_iloadn hC (q := 843) dL_law_842 rfl rfl rfl ?_
  refine Vl_iconst hC (q := 844) (v := 3) dL_law_843 rfl (by decide) ?_
  refine Vl_iadd hC (q := 845) dL_law_844 rfl ?_
  rw [show nI i + 3 = nI (i + 3) from nI_add i 3]
  refine Vl_sld hC (q := 846) (vp_in_nI (by omega) (by omega)) dL_law_845 rfl ?_
  rw [nI_clamp (by omega)]
  refine Vl_aloadn hC (q := 847) dL_law_846 rfl rfl rfl ?_
  refine Vl_iloadn hC (q := 848) dL_law_847 rfl rfl rfl ?_
  refine Vl_iconst hC (q := 849) (v := 4) dL_law_848 rfl (by decide) ?_
  refine Vl_iadd hC (q := 850) dL_law_849 rfl ?_
  rw [show nI i + 4 = nI (i + 4) from nI_add i 4]
  refine Vl_sld hC (q := 851) (vp_in_nI (by omega) (by omega)) dL_law_850 rfl ?_
  rw [nI_clamp (by omega)]
  refine Vl_aloadn hC (q := 852) dL_law_851 rfl rfl rfl ?_
  refine Vl_iloadn hC (q := 853) dL_law_852 rfl rfl rfl ?_
  refine Vl_iconst hC (q := 854) (v := 5) dL_law_853 rfl (by decide) ?_
  refine Vl_iadd hC (q := 855) dL_law_854 rfl ?_
  rw [show nI i + 5 = nI (i + 5) from nI_add i 5]
  refine Vl_sld hC (q := 856) (vp_in_nI (by omega) (by omega)) dL_law_855 rfl ?_
  rw [nI_clamp (by omega)]
  refine Vl_callM hC hM rfl lkL_116 viX10_rests okX10_rests rfl dL_law_856 rfl rfl (Nat.le_of_ble_eq_true rfl) (fun r τ1 hm _ => ?_) (fun r _ hm a => by rw [hm.1]; intro z; cases z)
  obtain ⟨rfl, g1⟩ := hm
  show Vl p la e s m below meth c b F aX aM 859 _ [.int _, .int _] σ1 τ1
  refine Vl_icmp_eq hC (tgt := 1089) dL_law_859 (by decide) rfl (fun _ => ?_) (fun hz => absurd rfl hz)
  exact kk _ _ _ _ _ _ _ _ _ _ _ h1 g1 hok
set_option maxRecDepth 100000 in
theorem v_weak {p : Program} {la : Launch} {e : Jvm.Env} {s : State} {m : MethodId} {below : List Frame} {meth : Method} {c : Code} {b L : Nat} {xs : Nat → Int32} {F : u_F} {aX aM : Nat → Nat} (hC : Cl p s m meth c b L xs F aX aM) {i : Nat} (hi : i + 6 ≤ L) (hL : L ≤ 384) {tx : List Nat} {ρ : Rm} {c0 d0 p0 : Nat} {ac : List (Nat × Nat × Nat)} {sl : Nat → Option (Nat × Nat × Nat)} {se : List (Nat × Nat × Nat)} {sd : Int64} {N : Nat} {σ τ : Mem} (h : RX tx ρ c0 d0 p0 ac sl se sd σ) (g : RM tx ρ c0 d0 p0 ac sl se sd τ) (hv : okV N ρ c0 d0 p0 ac sl se) (hN : N < 1000) (kk : ∀ (tx : List Nat) (ρ : Rm) (c0 d0 p0 : Nat) (ac : List (Nat × Nat × Nat)) (sl : Nat → Option (Nat × Nat × Nat)) (se : List (Nat × Nat × Nat)) (sd : Int64) (σ τ : Mem), RX tx ρ c0 d0 p0 ac sl se sd σ → RM tx ρ c0 d0 p0 ac sl se sd τ → okV (N + 1) ρ c0 d0 p0 ac sl se → Vl p la e s m below meth c b F aX aM 1089 [some (.ref 2), some (.ref 0), some (.ref 1), some (.int (nI i))] [] σ τ) : Vl p la e s m below meth c b F aX aM 864 [some (.ref 2), some (.ref 0), some (.ref 1), some (.int (nI i))] [] σ τ := by
  by_cases hz0 : xs (i + 5) = 0
  ·
    obtain ⟨v, tx1, ρ1, c1, d1, p1, ac1, sl1, se1, sd1, hX, hM, hok⟩ := s_weak h g hv hN (xs (i + 1)) (xs (i + 2)) (xs (i + 3)) (xs (i + 4)) 0
    refine Vl_aloadn hC (q := 865) dL_law_864 rfl rfl rfl ?_
    refine Vl_aloadn hC (q := 866) dL_law_865 rfl rfl rfl ?_
    refine Vl_iloadn hC (q := 867) dL_law_866 rfl rfl rfl ?_
    refine Vl_iconst hC (q := 868) (v := 1) dL_law_867 rfl (by decide) ?_
    refine Vl_iadd hC (q := 869) dL_law_868 rfl ?_
    rw [show nI i + 1 = nI (i + 1) from nI_add i 1]
    refine Vl_sld hC (q := 870) (vp_in_nI (by omega) (by omega)) dL_law_869 rfl ?_
    rw [nI_clamp (by omega)]
    refine Vl_aloadn hC (q := 871) dL_law_870 rfl rfl rfl ?_
    refine Vl_iloadn hC (q := 872) dL_law_871 rfl rfl rfl ?_
    refine Vl_iconst hC (q := 873) (v := 2) dL_law_872 rfl (by decide) ?_
    refine Vl_iadd hC (q := 874) dL_law_873 rfl ?_
    rw [show nI i + 2 = nI (i + 2) from nI_add i 2]
    refine Vl_sld hC (q := 875) (vp_in_nI (by omega) (by omega)) dL_law_874 rfl ?_
    rw [nI_clamp (by omega)]
    refine Vl_aloadn hC (q := 876) dL_law_875 rfl rfl rfl ?_
    refine Vl_iloadn hC (q := 877) dL_law_876 rfl rfl rfl ?_
    refine Vl_iconst hC (q := 878) (v := 3) dL_law_877 rfl (by decide) ?_
    refine Vl_iadd hC (q := 879) dL_law_878 rfl ?_
    rw [show nI i + 3 = nI (i + 3) from nI_add i 3]
    refine Vl_sld hC (q := 880) (vp_in_nI (by omega) (by omega)) dL_law_879 rfl ?_
    rw [nI_clamp (by omega)]
    refine Vl_aloadn hC (q := 881) dL_law_880 rfl rfl rfl ?_
    refine Vl_iloadn hC (q := 882) dL_law_881 rfl rfl rfl ?_
    refine Vl_iconst hC (q := 883) (v := 4) dL_law_882 rfl (by decide) ?_
    refine Vl_iadd hC (q := 884) dL_law_883 rfl ?_
    rw [show nI i + 4 = nI (i + 4) from nI_add i 4]
    refine Vl_sld hC (q := 885) (vp_in_nI (by omega) (by omega)) dL_law_884 rfl ?_
    rw [nI_clamp (by omega)]
    refine Vl_aloadn hC (q := 886) dL_law_885 rfl rfl rfl ?_
    refine Vl_iloadn hC (q := 887) dL_law_886 rfl rfl rfl ?_
    refine Vl_iconst hC (q := 888) (v := 5) dL_law_887 rfl (by decide) ?_
    refine Vl_iadd hC (q := 889) dL_law_888 rfl ?_
    rw [show nI i + 5 = nI (i + 5) from nI_add i 5]
    refine Vl_sld hC (q := 890) (vp_in_nI (by omega) (by omega)) dL_law_889 rfl ?_
    rw [nI_clamp (by omega)]
    refine Vl_if_eq hC (tgt := 897) dL_law_890 (by decide) rfl (fun _ => ?_) (fun hz => absurd hz0 hz)
    refine Vl_iconst hC (q := 898) (v := 0) dL_law_897 rfl (by decide) ?_
    refine Vl_callX hC hX rfl lkL_117 viX9_weak okX9_weak rfl dL_law_898 rfl rfl (Nat.le_of_ble_eq_true rfl) (fun r σ1 hm _ => ?_) (fun r _ hm a => by rw [hm.1]; intro z; cases z)
    obtain ⟨rfl, h1⟩ := hm
    show Vl p la e s m below meth c b F aX aM 901 _ [.int _] σ1 τ
    refine Vl_aloadn hC (q := 902) dL_law_901 rfl rfl rfl ?_
    refine Vl_aloadn hC (q := 903) dL_law_902 rfl rfl rfl ?_
    refine Vl_iloadn hC (q := 904) dL_law_903 rfl rfl rfl ?_
    refine Vl_iconst hC (q := 905) (v := 1) dL_law_904 rfl (by decide) ?_
    refine Vl_iadd hC (q := 906) dL_law_905 rfl ?_
    rw [show nI i + 1 = nI (i + 1) from nI_add i 1]
    refine Vl_sld hC (q := 907) (vp_in_nI (by omega) (by omega)) dL_law_906 rfl ?_
    rw [nI_clamp (by omega)]
    refine Vl_aloadn hC (q := 908) dL_law_907 rfl rfl rfl ?_
    refine Vl_iloadn hC (q := 909) dL_law_908 rfl rfl rfl ?_
    refine Vl_iconst hC (q := 910) (v := 2) dL_law_909 rfl (by decide) ?_
    refine Vl_iadd hC (q := 911) dL_law_910 rfl ?_
    rw [show nI i + 2 = nI (i + 2) from nI_add i 2]
    refine Vl_sld hC (q := 912) (vp_in_nI (by omega) (by omega)) dL_law_911 rfl ?_
    rw [nI_clamp (by omega)]
    refine Vl_aloadn hC (q := 913) dL_law_912 rfl rfl rfl ?_
    refine Vl_iloadn hC (q := 914) dL_law_913 rfl rfl rfl ?_
    refine Vl_iconst hC (q := 915) (v := 3) dL_law_914 rfl (by decide) ?_
    refine Vl_iadd hC (q := 916) dL_law_915 rfl ?_
    rw [show nI i + 3 = nI (i + 3) from nI_add i 3]
    refine Vl_sld hC (q := 917) (vp_in_nI (by omega) (by omega)) dL_law_916 rfl ?_
    rw [nI_clamp (by omega)]
    refine Vl_aloadn hC (q := 918) dL_law_917 rfl rfl rfl ?_
    refine Vl_iloadn hC (q := 919) dL_law_918 rfl rfl rfl ?_
    refine Vl_iconst hC (q := 920) (v := 4) dL_law_919 rfl (by decide) ?_
    refine Vl_iadd hC (q := 921) dL_law_920 rfl ?_
    rw [show nI i + 4 = nI (i + 4) from nI_add i 4]
    refine Vl_sld hC (q := 922) (vp_in_nI (by omega) (by omega)) dL_law_921 rfl ?_
    rw [nI_clamp (by omega)]
    refine Vl_aloadn hC (q := 923) dL_law_922 rfl rfl rfl ?_
    refine Vl_iloadn hC (q := 924) dL_law_923 rfl rfl rfl ?_
    refine Vl_iconst hC (q := 925) (v := 5) dL_law_924 rfl (by decide) ?_
    refine Vl_iadd hC (q := 926) dL_law_925 rfl ?_
    rw [show nI i + 5 = nI (i + 5) from nI_add i 5]
    refine Vl_sld hC (q := 927) (vp_in_nI (by omega) (by omega)) dL_law_926 rfl ?_
    rw [nI_clamp (by omega)]
    refine Vl_if_eq hC (tgt := 934) dL_law_927 (by decide) rfl (fun _ => ?_) (fun hz => absurd hz0 hz)
    refine Vl_iconst hC (q := 935) (v := 0) dL_law_934 rfl (by decide) ?_
    refine Vl_callM hC hM rfl lkL_121 viX10_weak okX10_weak rfl dL_law_935 rfl rfl (Nat.le_of_ble_eq_true rfl) (fun r τ1 hm _ => ?_) (fun r _ hm a => by rw [hm.1]; intro z; cases z)
    obtain ⟨rfl, g1⟩ := hm
    show Vl p la e s m below meth c b F aX aM 938 _ [.int _, .int _] σ1 τ1
    refine Vl_icmp_eq hC (tgt := 1089) dL_law_938 (by decide) rfl (fun _ => ?_) (fun hz => absurd rfl hz)
    exact kk _ _ _ _ _ _ _ _ _ _ _ h1 g1 hok
  ·
    obtain ⟨v, tx1, ρ1, c1, d1, p1, ac1, sl1, se1, sd1, hX, hM, hok⟩ := s_weak h g hv hN (xs (i + 1)) (xs (i + 2)) (xs (i + 3)) (xs (i + 4)) 1
    refine Vl_aloadn hC (q := 865) dL_law_864 rfl rfl rfl ?_
    refine Vl_aloadn hC (q := 866) dL_law_865 rfl rfl rfl ?_
    refine Vl_iloadn hC (q := 867) dL_law_866 rfl rfl rfl ?_
    refine Vl_iconst hC (q := 868) (v := 1) dL_law_867 rfl (by decide) ?_
    refine Vl_iadd hC (q := 869) dL_law_868 rfl ?_
    rw [show nI i + 1 = nI (i + 1) from nI_add i 1]
    refine Vl_sld hC (q := 870) (vp_in_nI (by omega) (by omega)) dL_law_869 rfl ?_
    rw [nI_clamp (by omega)]
    refine Vl_aloadn hC (q := 871) dL_law_870 rfl rfl rfl ?_
    refine Vl_iloadn hC (q := 872) dL_law_871 rfl rfl rfl ?_
    refine Vl_iconst hC (q := 873) (v := 2) dL_law_872 rfl (by decide) ?_
    refine Vl_iadd hC (q := 874) dL_law_873 rfl ?_
    rw [show nI i + 2 = nI (i + 2) from nI_add i 2]
    refine Vl_sld hC (q := 875) (vp_in_nI (by omega) (by omega)) dL_law_874 rfl ?_
    rw [nI_clamp (by omega)]
    refine Vl_aloadn hC (q := 876) dL_law_875 rfl rfl rfl ?_
    refine Vl_iloadn hC (q := 877) dL_law_876 rfl rfl rfl ?_
    refine Vl_iconst hC (q := 878) (v := 3) dL_law_877 rfl (by decide) ?_
    refine Vl_iadd hC (q := 879) dL_law_878 rfl ?_
    rw [show nI i + 3 = nI (i + 3) from nI_add i 3]
    refine Vl_sld hC (q := 880) (vp_in_nI (by omega) (by omega)) dL_law_879 rfl ?_
    rw [nI_clamp (by omega)]
    refine Vl_aloadn hC (q := 881) dL_law_880 rfl rfl rfl ?_
    refine Vl_iloadn hC (q := 882) dL_law_881 rfl rfl rfl ?_
    refine Vl_iconst hC (q := 883) (v := 4) dL_law_882 rfl (by decide) ?_
    refine Vl_iadd hC (q := 884) dL_law_883 rfl ?_
    rw [show nI i + 4 = nI (i + 4) from nI_add i 4]
    refine Vl_sld hC (q := 885) (vp_in_nI (by omega) (by omega)) dL_law_884 rfl ?_
    rw [nI_clamp (by omega)]
    refine Vl_aloadn hC (q := 886) dL_law_885 rfl rfl rfl ?_
    refine Vl_iloadn hC (q := 887) dL_law_886 rfl rfl rfl ?_
    refine Vl_iconst hC (q := 888) (v := 5) dL_law_887 rfl (by decide) ?_
    refine Vl_iadd hC (q := 889) dL_law_888 rfl ?_
    rw [show nI i + 5 = nI (i + 5) from nI_add i 5]
    refine Vl_sld hC (q := 890) (vp_in_nI (by omega) (by omega)) dL_law_889 rfl ?_
    rw [nI_clamp (by omega)]
    refine Vl_if_eq hC (tgt := 897) dL_law_890 (by decide) rfl (fun hz => absurd hz hz0) (fun _ => ?_)
    refine Vl_iconst hC (q := 894) (v := 1) dL_law_893 rfl (by decide) ?_
    refine Vl_goto hC (q := 898) dL_law_894 (by decide) ?_
    refine Vl_callX hC hX rfl lkL_117 viX9_weak okX9_weak rfl dL_law_898 rfl rfl (Nat.le_of_ble_eq_true rfl) (fun r σ1 hm _ => ?_) (fun r _ hm a => by rw [hm.1]; intro z; cases z)
    obtain ⟨rfl, h1⟩ := hm
    show Vl p la e s m below meth c b F aX aM 901 _ [.int _] σ1 τ
    refine Vl_aloadn hC (q := 902) dL_law_901 rfl rfl rfl ?_
    refine Vl_aloadn hC (q := 903) dL_law_902 rfl rfl rfl ?_
    refine Vl_iloadn hC (q := 904) dL_law_903 rfl rfl rfl ?_
    refine Vl_iconst hC (q := 905) (v := 1) dL_law_904 rfl (by decide) ?_
    refine Vl_iadd hC (q := 906) dL_law_905 rfl ?_
    rw [show nI i + 1 = nI (i + 1) from nI_add i 1]
    refine Vl_sld hC (q := 907) (vp_in_nI (by omega) (by omega)) dL_law_906 rfl ?_
    rw [nI_clamp (by omega)]
    refine Vl_aloadn hC (q := 908) dL_law_907 rfl rfl rfl ?_
    refine Vl_iloadn hC (q := 909) dL_law_908 rfl rfl rfl ?_
    refine Vl_iconst hC (q := 910) (v := 2) dL_law_909 rfl (by decide) ?_
    refine Vl_iadd hC (q := 911) dL_law_910 rfl ?_
    rw [show nI i + 2 = nI (i + 2) from nI_add i 2]
    refine Vl_sld hC (q := 912) (vp_in_nI (by omega) (by omega)) dL_law_911 rfl ?_
    rw [nI_clamp (by omega)]
    refine Vl_aloadn hC (q := 913) dL_law_912 rfl rfl rfl ?_
    refine Vl_iloadn hC (q := 914) dL_law_913 rfl rfl rfl ?_
    refine Vl_iconst hC (q := 915) (v := 3) dL_law_914 rfl (by decide) ?_
    refine Vl_iadd hC (q := 916) dL_law_915 rfl ?_
    rw [show nI i + 3 = nI (i + 3) from nI_add i 3]
    refine Vl_sld hC (q := 917) (vp_in_nI (by omega) (by omega)) dL_law_916 rfl ?_
    rw [nI_clamp (by omega)]
    refine Vl_aloadn hC (q := 918) dL_law_917 rfl rfl rfl ?_
    refine Vl_iloadn hC (q := 919) dL_law_918 rfl rfl rfl ?_
    refine Vl_iconst hC (q := 920) (v := 4) dL_law_919 rfl (by decide) ?_
    refine Vl_iadd hC (q := 921) dL_law_920 rfl ?_
    rw [show nI i + 4 = nI (i + 4) from nI_add i 4]
    refine Vl_sld hC (q := 922) (vp_in_nI (by omega) (by omega)) dL_law_921 rfl ?_
    rw [nI_clamp (by omega)]
    refine Vl_aloadn hC (q := 923) dL_law_922 rfl rfl rfl ?_
    refine Vl_iloadn hC (q := 924) dL_law_923 rfl rfl rfl ?_
    refine Vl_iconst hC (q := 925) (v := 5) dL_law_924 rfl (by decide) ?_
    refine Vl_iadd hC (q := 926) dL_law_925 rfl ?_
    rw [show nI i + 5 = nI (i + 5) from nI_add i 5]
    refine Vl_sld hC (q := 927) (vp_in_nI (by omega) (by omega)) dL_law_926 rfl ?_
    rw [nI_clamp (by omega)]
    refine Vl_if_eq hC (tgt := 934) dL_law_927 (by decide) rfl (fun hz => absurd hz hz0) (fun _ => ?_)
    refine Vl_iconst hC (q := 931) (v := 1) dL_law_930 rfl (by decide) ?_
    refine Vl_goto hC (q := 935) dL_law_931 (by decide) ?_
    refine Vl_callM hC hM rfl lkL_121 viX10_weak okX10_weak rfl dL_law_935 rfl rfl (Nat.le_of_ble_eq_true rfl) (fun r τ1 hm _ => ?_) (fun r _ hm a => by rw [hm.1]; intro z; cases z)
    obtain ⟨rfl, g1⟩ := hm
    show Vl p la e s m below meth c b F aX aM 938 _ [.int _, .int _] σ1 τ1
    refine Vl_icmp_eq hC (tgt := 1089) dL_law_938 (by decide) rfl (fun _ => ?_) (fun hz => absurd rfl hz)
    exact kk _ _ _ _ _ _ _ _ _ _ _ h1 g1 hok
set_option maxRecDepth 100000 in
theorem v_seed {p : Program} {la : Launch} {e : Jvm.Env} {s : State} {m : MethodId} {below : List Frame} {meth : Method} {c : Code} {b L : Nat} {xs : Nat → Int32} {F : u_F} {aX aM : Nat → Nat} (hC : Cl p s m meth c b L xs F aX aM) {i : Nat} (hi : i + 6 ≤ L) (hL : L ≤ 384) {tx : List Nat} {ρ : Rm} {c0 d0 p0 : Nat} {ac : List (Nat × Nat × Nat)} {sl : Nat → Option (Nat × Nat × Nat)} {se : List (Nat × Nat × Nat)} {sd : Int64} {N : Nat} {σ τ : Mem} (h : RX tx ρ c0 d0 p0 ac sl se sd σ) (g : RM tx ρ c0 d0 p0 ac sl se sd τ) (hv : okV N ρ c0 d0 p0 ac sl se) (hN : N < 1000) (kk : ∀ (tx : List Nat) (ρ : Rm) (c0 d0 p0 : Nat) (ac : List (Nat × Nat × Nat)) (sl : Nat → Option (Nat × Nat × Nat)) (se : List (Nat × Nat × Nat)) (sd : Int64) (σ τ : Mem), RX tx ρ c0 d0 p0 ac sl se sd σ → RM tx ρ c0 d0 p0 ac sl se sd τ → okV (N + 1) ρ c0 d0 p0 ac sl se → Vl p la e s m below meth c b F aX aM 1089 [some (.ref 2), some (.ref 0), some (.ref 1), some (.int (nI i))] [] σ τ) : Vl p la e s m below meth c b F aX aM 943 [some (.ref 2), some (.ref 0), some (.ref 1), some (.int (nI i))] [] σ τ := by
  refine Vl_aloadn hC (q := 944) dL_law_943 rfl rfl rfl ?_
  refine Vl_aloadn hC (q := 945) dL_law_944 rfl rfl rfl ?_
  refine Vl_iloadn hC (q := 946) dL_law_945 rfl rfl rfl ?_
  refine Vl_iconst hC (q := 947) (v := 1) dL_law_946 rfl (by decide) ?_
  refine Vl_iadd hC (q := 948) dL_law_947 rfl ?_
  rw [show nI i + 1 = nI (i + 1) from nI_add i 1]
  refine Vl_sld hC (q := 949) (vp_in_nI (by omega) (by omega)) dL_law_948 rfl ?_
  rw [nI_clamp (by omega)]
  refine Vl_i2l hC (q := 950) dL_law_949 rfl ?_
  refine Vl_bipush hC (q := 952) (v := 32) dL_law_950 rfl (by decide) ?_
  refine Vl_lshl hC (q := 953) dL_law_952 rfl ?_
  refine Vl_aloadn hC (q := 954) dL_law_953 rfl rfl rfl ?_
  refine Vl_iloadn hC (q := 955) dL_law_954 rfl rfl rfl ?_
  refine Vl_iconst hC (q := 956) (v := 2) dL_law_955 rfl (by decide) ?_
  refine Vl_iadd hC (q := 957) dL_law_956 rfl ?_
  rw [show nI i + 2 = nI (i + 2) from nI_add i 2]
  refine Vl_sld hC (q := 958) (vp_in_nI (by omega) (by omega)) dL_law_957 rfl ?_
  rw [nI_clamp (by omega)]
  refine Vl_i2l hC (q := 959) dL_law_958 rfl ?_
  refine Vl_ldc2 hC (q := 962) dL_law_959 rfl kcL_122 ?_
  refine Vl_land hC (q := 963) dL_law_962 rfl ?_
  refine Vl_lor hC (q := 964) dL_law_963 rfl ?_
  refine Vl_callX hC (qX9_seed h hv _ |>.up (by decide)) rfl lkL_124 viX9_seed okX9_seed rfl dL_law_964 rfl rfl (Nat.le_of_ble_eq_true rfl) (fun r σ1 hm _ => ?_) (fun r _ hm a => by rw [hm.1]; intro z; cases z)
  obtain ⟨rfl, h1⟩ := hm
  show Vl p la e s m below meth c b F aX aM 967 _ [.long _] σ1 τ
  refine Vl_aloadn hC (q := 968) dL_law_967 rfl rfl rfl ?_
  refine Vl_aloadn hC (q := 969) dL_law_968 rfl rfl rfl ?_
  refine Vl_iloadn hC (q := 970) dL_law_969 rfl rfl rfl ?_
  refine Vl_iconst hC (q := 971) (v := 1) dL_law_970 rfl (by decide) ?_
  refine Vl_iadd hC (q := 972) dL_law_971 rfl ?_
  rw [show nI i + 1 = nI (i + 1) from nI_add i 1]
  refine Vl_sld hC (q := 973) (vp_in_nI (by omega) (by omega)) dL_law_972 rfl ?_
  rw [nI_clamp (by omega)]
  refine Vl_i2l hC (q := 974) dL_law_973 rfl ?_
  refine Vl_bipush hC (q := 976) (v := 32) dL_law_974 rfl (by decide) ?_
  refine Vl_lshl hC (q := 977) dL_law_976 rfl ?_
  refine Vl_aloadn hC (q := 978) dL_law_977 rfl rfl rfl ?_
  refine Vl_iloadn hC (q := 979) dL_law_978 rfl rfl rfl ?_
  refine Vl_iconst hC (q := 980) (v := 2) dL_law_979 rfl (by decide) ?_
  refine Vl_iadd hC (q := 981) dL_law_980 rfl ?_
  rw [show nI i + 2 = nI (i + 2) from nI_add i 2]
  refine Vl_sld hC (q := 982) (vp_in_nI (by omega) (by omega)) dL_law_981 rfl ?_
  rw [nI_clamp (by omega)]
  refine Vl_i2l hC (q := 983) dL_law_982 rfl ?_
  refine Vl_ldc2 hC (q := 986) dL_law_983 rfl kcL_122 ?_
  refine Vl_land hC (q := 987) dL_law_986 rfl ?_
  refine Vl_lor hC (q := 988) dL_law_987 rfl ?_
  refine Vl_callM hC (qX10_seed g hv _ |>.up (by decide)) rfl lkL_128 viX10_seed okX10_seed rfl dL_law_988 rfl rfl (Nat.le_of_ble_eq_true rfl) (fun r τ1 hm _ => ?_) (fun r _ hm a => by rw [hm.1]; intro z; cases z)
  obtain ⟨rfl, g1⟩ := hm
  show Vl p la e s m below meth c b F aX aM 991 _ [.long _, .long _] σ1 τ1
  refine Vl_lcmp hC (q := 992) dL_law_991 rfl ?_
  refine Vl_if_eq hC (tgt := 1089) dL_law_992 (by decide) rfl (fun _ => ?_) (fun hz => absurd (lg_cmp_self _) hz)
  exact kk _ _ _ _ _ _ _ _ _ _ _ h1 g1 (hv.up hN)
set_option maxRecDepth 100000 in
theorem v_evenings {p : Program} {la : Launch} {e : Jvm.Env} {s : State} {m : MethodId} {below : List Frame} {meth : Method} {c : Code} {b L : Nat} {xs : Nat → Int32} {F : u_F} {aX aM : Nat → Nat} (hC : Cl p s m meth c b L xs F aX aM) {i : Nat} (hi : i + 6 ≤ L) (hL : L ≤ 384) {tx : List Nat} {ρ : Rm} {c0 d0 p0 : Nat} {ac : List (Nat × Nat × Nat)} {sl : Nat → Option (Nat × Nat × Nat)} {se : List (Nat × Nat × Nat)} {sd : Int64} {N : Nat} {σ τ : Mem} (h : RX tx ρ c0 d0 p0 ac sl se sd σ) (g : RM tx ρ c0 d0 p0 ac sl se sd τ) (hv : okV N ρ c0 d0 p0 ac sl se) (hN : N < 1000) (kk : ∀ (tx : List Nat) (ρ : Rm) (c0 d0 p0 : Nat) (ac : List (Nat × Nat × Nat)) (sl : Nat → Option (Nat × Nat × Nat)) (se : List (Nat × Nat × Nat)) (sd : Int64) (σ τ : Mem), RX tx ρ c0 d0 p0 ac sl se sd σ → RM tx ρ c0 d0 p0 ac sl se sd τ → okV (N + 1) ρ c0 d0 p0 ac sl se → Vl p la e s m below meth c b F aX aM 1089 [some (.ref 2), some (.ref 0), some (.ref 1), some (.int (nI i))] [] σ τ) : Vl p la e s m below meth c b F aX aM 997 [some (.ref 2), some (.ref 0), some (.ref 1), some (.int (nI i))] [] σ τ := by
  obtain ⟨v, tx1, ρ1, c1, d1, p1, ac1, sl1, se1, sd1, hX, hM, hok⟩ := s_evenings h g hv hN (xs (i + 1))
  refine Vl_aloadn hC (q := 998) dL_law_997 rfl rfl rfl ?_
  refine Vl_aloadn hC (q := 999) dL_law_998 rfl rfl rfl ?_
  refine Vl_iloadn hC (q := 1000) dL_law_999 rfl rfl rfl ?_
  refine Vl_iconst hC (q := 1001) (v := 1) dL_law_1000 rfl (by decide) ?_
  refine Vl_iadd hC (q := 1002) dL_law_1001 rfl ?_
  rw [show nI i + 1 = nI (i + 1) from nI_add i 1]
  refine Vl_sld hC (q := 1003) (vp_in_nI (by omega) (by omega)) dL_law_1002 rfl ?_
  rw [nI_clamp (by omega)]
  refine Vl_callX hC hX rfl lkL_129 viX9_evenings okX9_evenings rfl dL_law_1003 rfl rfl (Nat.le_of_ble_eq_true rfl) (fun r σ1 hm _ => ?_) (fun r _ hm a => by rw [hm.1]; intro z; cases z)
  obtain ⟨rfl, h1⟩ := hm
  show Vl p la e s m below meth c b F aX aM 1006 _ [.int _] σ1 τ
  refine Vl_aloadn hC (q := 1007) dL_law_1006 rfl rfl rfl ?_
  refine Vl_aloadn hC (q := 1008) dL_law_1007 rfl rfl rfl ?_
  refine Vl_iloadn hC (q := 1009) dL_law_1008 rfl rfl rfl ?_
  refine Vl_iconst hC (q := 1010) (v := 1) dL_law_1009 rfl (by decide) ?_
  refine Vl_iadd hC (q := 1011) dL_law_1010 rfl ?_
  rw [show nI i + 1 = nI (i + 1) from nI_add i 1]
  refine Vl_sld hC (q := 1012) (vp_in_nI (by omega) (by omega)) dL_law_1011 rfl ?_
  rw [nI_clamp (by omega)]
  refine Vl_callM hC hM rfl lkL_132 viX10_evenings okX10_evenings rfl dL_law_1012 rfl rfl (Nat.le_of_ble_eq_true rfl) (fun r τ1 hm _ => ?_) (fun r _ hm a => by rw [hm.1]; intro z; cases z)
  obtain ⟨rfl, g1⟩ := hm
  show Vl p la e s m below meth c b F aX aM 1015 _ [.int _, .int _] σ1 τ1
  refine Vl_icmp_eq hC (tgt := 1089) dL_law_1015 (by decide) rfl (fun _ => ?_) (fun hz => absurd rfl hz)
  exact kk _ _ _ _ _ _ _ _ _ _ _ h1 g1 hok
set_option maxRecDepth 100000 in
theorem v_keep {p : Program} {la : Launch} {e : Jvm.Env} {s : State} {m : MethodId} {below : List Frame} {meth : Method} {c : Code} {b L : Nat} {xs : Nat → Int32} {F : u_F} {aX aM : Nat → Nat} (hC : Cl p s m meth c b L xs F aX aM) {i : Nat} (hi : i + 6 ≤ L) (hL : L ≤ 384) {tx : List Nat} {ρ : Rm} {c0 d0 p0 : Nat} {ac : List (Nat × Nat × Nat)} {sl : Nat → Option (Nat × Nat × Nat)} {se : List (Nat × Nat × Nat)} {sd : Int64} {N : Nat} {σ τ : Mem} (h : RX tx ρ c0 d0 p0 ac sl se sd σ) (g : RM tx ρ c0 d0 p0 ac sl se sd τ) (hv : okV N ρ c0 d0 p0 ac sl se) (hN : N < 1000) (kk : ∀ (tx : List Nat) (ρ : Rm) (c0 d0 p0 : Nat) (ac : List (Nat × Nat × Nat)) (sl : Nat → Option (Nat × Nat × Nat)) (se : List (Nat × Nat × Nat)) (sd : Int64) (σ τ : Mem), RX tx ρ c0 d0 p0 ac sl se sd σ → RM tx ρ c0 d0 p0 ac sl se sd τ → okV (N + 1) ρ c0 d0 p0 ac sl se → Vl p la e s m below meth c b F aX aM 1089 [some (.ref 2), some (.ref 0), some (.ref 1), some (.int (nI i))] [] σ τ) : Vl p la e s m below meth c b F aX aM 1020 [some (.ref 2), some (.ref 0), some (.ref 1), some (.int (nI i))] [] σ τ := by
  obtain ⟨v, tx1, ρ1, c1, d1, p1, ac1, sl1, se1, sd1, hX, hM, hok⟩ := s_keep h g hv hN (xs (i + 1))
  refine Vl_aloadn hC (q := 1021) dL_law_1020 rfl rfl rfl ?_
  refine Vl_aloadn hC (q := 1022) dL_law_1021 rfl rfl rfl ?_
  refine Vl_iloadn hC (q := 1023) dL_law_1022 rfl rfl rfl ?_
  refine Vl_iconst hC (q := 1024) (v := 1) dL_law_1023 rfl (by decide) ?_
  refine Vl_iadd hC (q := 1025) dL_law_1024 rfl ?_
  rw [show nI i + 1 = nI (i + 1) from nI_add i 1]
  refine Vl_sld hC (q := 1026) (vp_in_nI (by omega) (by omega)) dL_law_1025 rfl ?_
  rw [nI_clamp (by omega)]
  refine Vl_callX hC hX rfl lkL_133 viX9_keep okX9_keep rfl dL_law_1026 rfl rfl (Nat.le_of_ble_eq_true rfl) (fun r σ1 hm _ => ?_) (fun r _ hm a => by rw [hm.1]; intro z; cases z)
  obtain ⟨rfl, h1⟩ := hm
  show Vl p la e s m below meth c b F aX aM 1029 _ [.int _] σ1 τ
  refine Vl_aloadn hC (q := 1030) dL_law_1029 rfl rfl rfl ?_
  refine Vl_aloadn hC (q := 1031) dL_law_1030 rfl rfl rfl ?_
  refine Vl_iloadn hC (q := 1032) dL_law_1031 rfl rfl rfl ?_
  refine Vl_iconst hC (q := 1033) (v := 1) dL_law_1032 rfl (by decide) ?_
  refine Vl_iadd hC (q := 1034) dL_law_1033 rfl ?_
  rw [show nI i + 1 = nI (i + 1) from nI_add i 1]
  refine Vl_sld hC (q := 1035) (vp_in_nI (by omega) (by omega)) dL_law_1034 rfl ?_
  rw [nI_clamp (by omega)]
  refine Vl_callM hC hM rfl lkL_136 viX10_keep okX10_keep rfl dL_law_1035 rfl rfl (Nat.le_of_ble_eq_true rfl) (fun r τ1 hm _ => ?_) (fun r _ hm a => by rw [hm.1]; intro z; cases z)
  obtain ⟨rfl, g1⟩ := hm
  show Vl p la e s m below meth c b F aX aM 1038 _ [.int _, .int _] σ1 τ1
  refine Vl_icmp_eq hC (tgt := 1089) dL_law_1038 (by decide) rfl (fun _ => ?_) (fun hz => absurd rfl hz)
  exact kk _ _ _ _ _ _ _ _ _ _ _ h1 g1 hok
set_option maxRecDepth 100000 in
theorem v_again {p : Program} {la : Launch} {e : Jvm.Env} {s : State} {m : MethodId} {below : List Frame} {meth : Method} {c : Code} {b L : Nat} {xs : Nat → Int32} {F : u_F} {aX aM : Nat → Nat} (hC : Cl p s m meth c b L xs F aX aM) {i : Nat} (hi : i + 6 ≤ L) (hL : L ≤ 384) {tx : List Nat} {ρ : Rm} {c0 d0 p0 : Nat} {ac : List (Nat × Nat × Nat)} {sl : Nat → Option (Nat × Nat × Nat)} {se : List (Nat × Nat × Nat)} {sd : Int64} {N : Nat} {σ τ : Mem} (h : RX tx ρ c0 d0 p0 ac sl se sd σ) (g : RM tx ρ c0 d0 p0 ac sl se sd τ) (hv : okV N ρ c0 d0 p0 ac sl se) (hN : N < 1000) (kk : ∀ (tx : List Nat) (ρ : Rm) (c0 d0 p0 : Nat) (ac : List (Nat × Nat × Nat)) (sl : Nat → Option (Nat × Nat × Nat)) (se : List (Nat × Nat × Nat)) (sd : Int64) (σ τ : Mem), RX tx ρ c0 d0 p0 ac sl se sd σ → RM tx ρ c0 d0 p0 ac sl se sd τ → okV (N + 1) ρ c0 d0 p0 ac sl se → Vl p la e s m below meth c b F aX aM 1089 [some (.ref 2), some (.ref 0), some (.ref 1), some (.int (nI i))] [] σ τ) : Vl p la e s m below meth c b F aX aM 1043 [some (.ref 2), some (.ref 0), some (.ref 1), some (.int (nI i))] [] σ τ := by
  obtain ⟨v, tx1, ρ1, c1, d1, p1, ac1, sl1, se1, sd1, hX, hM, hok⟩ := s_again h g hv hN (xs (i + 1))
  refine Vl_aloadn hC (q := 1044) dL_law_1043 rfl rfl rfl ?_
  refine Vl_aloadn hC (q := 1045) dL_law_1044 rfl rfl rfl ?_
  refine Vl_iloadn hC (q := 1046) dL_law_1045 rfl rfl rfl ?_
  refine Vl_iconst hC (q := 1047) (v := 1) dL_law_1046 rfl (by decide) ?_
  refine Vl_iadd hC (q := 1048) dL_law_1047 rfl ?_
  rw [show nI i + 1 = nI (i + 1) from nI_add i 1]
  refine Vl_sld hC (q := 1049) (vp_in_nI (by omega) (by omega)) dL_law_1048 rfl ?_
  rw [nI_clamp (by omega)]
  refine Vl_callX hC hX rfl lkL_137 viX9_again okX9_again rfl dL_law_1049 rfl rfl (Nat.le_of_ble_eq_true rfl) (fun r σ1 hm _ => ?_) (fun r _ hm a => by rw [hm.1]; intro z; cases z)
  obtain ⟨rfl, h1⟩ := hm
  show Vl p la e s m below meth c b F aX aM 1052 _ [.int _] σ1 τ
  refine Vl_aloadn hC (q := 1053) dL_law_1052 rfl rfl rfl ?_
  refine Vl_aloadn hC (q := 1054) dL_law_1053 rfl rfl rfl ?_
  refine Vl_iloadn hC (q := 1055) dL_law_1054 rfl rfl rfl ?_
  refine Vl_iconst hC (q := 1056) (v := 1) dL_law_1055 rfl (by decide) ?_
  refine Vl_iadd hC (q := 1057) dL_law_1056 rfl ?_
  rw [show nI i + 1 = nI (i + 1) from nI_add i 1]
  refine Vl_sld hC (q := 1058) (vp_in_nI (by omega) (by omega)) dL_law_1057 rfl ?_
  rw [nI_clamp (by omega)]
  refine Vl_callM hC hM rfl lkL_140 viX10_again okX10_again rfl dL_law_1058 rfl rfl (Nat.le_of_ble_eq_true rfl) (fun r τ1 hm _ => ?_) (fun r _ hm a => by rw [hm.1]; intro z; cases z)
  obtain ⟨rfl, g1⟩ := hm
  show Vl p la e s m below meth c b F aX aM 1061 _ [.int _, .int _] σ1 τ1
  refine Vl_icmp_eq hC (tgt := 1089) dL_law_1061 (by decide) rfl (fun _ => ?_) (fun hz => absurd rfl hz)
  exact kk _ _ _ _ _ _ _ _ _ _ _ h1 g1 hok
set_option maxRecDepth 100000 in
theorem v_count {p : Program} {la : Launch} {e : Jvm.Env} {s : State} {m : MethodId} {below : List Frame} {meth : Method} {c : Code} {b L : Nat} {xs : Nat → Int32} {F : u_F} {aX aM : Nat → Nat} (hC : Cl p s m meth c b L xs F aX aM) {i : Nat} (hi : i + 6 ≤ L) (hL : L ≤ 384) {tx : List Nat} {ρ : Rm} {c0 d0 p0 : Nat} {ac : List (Nat × Nat × Nat)} {sl : Nat → Option (Nat × Nat × Nat)} {se : List (Nat × Nat × Nat)} {sd : Int64} {N : Nat} {σ τ : Mem} (h : RX tx ρ c0 d0 p0 ac sl se sd σ) (g : RM tx ρ c0 d0 p0 ac sl se sd τ) (hv : okV N ρ c0 d0 p0 ac sl se) (hN : N < 1000) (kk : ∀ (tx : List Nat) (ρ : Rm) (c0 d0 p0 : Nat) (ac : List (Nat × Nat × Nat)) (sl : Nat → Option (Nat × Nat × Nat)) (se : List (Nat × Nat × Nat)) (sd : Int64) (σ τ : Mem), RX tx ρ c0 d0 p0 ac sl se sd σ → RM tx ρ c0 d0 p0 ac sl se sd τ → okV (N + 1) ρ c0 d0 p0 ac sl se → Vl p la e s m below meth c b F aX aM 1089 [some (.ref 2), some (.ref 0), some (.ref 1), some (.int (nI i))] [] σ τ) : Vl p la e s m below meth c b F aX aM 1066 [some (.ref 2), some (.ref 0), some (.ref 1), some (.int (nI i))] [] σ τ := by
  obtain ⟨v, tx1, ρ1, c1, d1, p1, ac1, sl1, se1, sd1, hX, hM, hok⟩ := s_count h g hv hN (xs (i + 1))
  refine Vl_aloadn hC (q := 1067) dL_law_1066 rfl rfl rfl ?_
  refine Vl_aloadn hC (q := 1068) dL_law_1067 rfl rfl rfl ?_
  refine Vl_iloadn hC (q := 1069) dL_law_1068 rfl rfl rfl ?_
  refine Vl_iconst hC (q := 1070) (v := 1) dL_law_1069 rfl (by decide) ?_
  refine Vl_iadd hC (q := 1071) dL_law_1070 rfl ?_
  rw [show nI i + 1 = nI (i + 1) from nI_add i 1]
  refine Vl_sld hC (q := 1072) (vp_in_nI (by omega) (by omega)) dL_law_1071 rfl ?_
  rw [nI_clamp (by omega)]
  refine Vl_callX hC hX rfl lkL_141 viX9_count okX9_count rfl dL_law_1072 rfl rfl (Nat.le_of_ble_eq_true rfl) (fun r σ1 hm _ => ?_) (fun r _ hm a => by rw [hm.1]; intro z; cases z)
  obtain ⟨rfl, h1⟩ := hm
  show Vl p la e s m below meth c b F aX aM 1075 _ [.int _] σ1 τ
  refine Vl_aloadn hC (q := 1076) dL_law_1075 rfl rfl rfl ?_
  refine Vl_aloadn hC (q := 1077) dL_law_1076 rfl rfl rfl ?_
  refine Vl_iloadn hC (q := 1078) dL_law_1077 rfl rfl rfl ?_
  refine Vl_iconst hC (q := 1079) (v := 1) dL_law_1078 rfl (by decide) ?_
  refine Vl_iadd hC (q := 1080) dL_law_1079 rfl ?_
  rw [show nI i + 1 = nI (i + 1) from nI_add i 1]
  refine Vl_sld hC (q := 1081) (vp_in_nI (by omega) (by omega)) dL_law_1080 rfl ?_
  rw [nI_clamp (by omega)]
  refine Vl_callM hC hM rfl lkL_144 viX10_count okX10_count rfl dL_law_1081 rfl rfl (Nat.le_of_ble_eq_true rfl) (fun r τ1 hm _ => ?_) (fun r _ hm a => by rw [hm.1]; intro z; cases z)
  obtain ⟨rfl, g1⟩ := hm
  show Vl p la e s m below meth c b F aX aM 1084 _ [.int _, .int _] σ1 τ1
  refine Vl_icmp_eq hC (tgt := 1089) dL_law_1084 (by decide) rfl (fun _ => ?_) (fun hz => absurd rfl hz)
  exact kk _ _ _ _ _ _ _ _ _ _ _ h1 g1 hok
