/-! the reference: readPart, readText, fault -/
set_option maxRecDepth 100000 in
theorem qX10_readPart_s178 {tx : List Nat} {σ0 : Mem} {L F : List Nat} {B : List (Nat × Nat × Nat)} {p : Nat} {g : Nat} (hg : g < 2 ^ 31) (hR : stpR tx p L F B = .inl g) (hB6 : B.length < 6) {le al t k may : Int32} {σ : Mem} (hE : Eqr σ0 σ) (hB : σ.1 0 16 = nI B.length) (hf : σ.1 0 20 = nI g) : Vj shM 2 mX10_readPart (RpP (stpR tx p L F B) σ0) 178 [some (.ref 0), some (.int le), some (.int al), some (.int t), some (.int k), some (.int may)] [] σ := by
  refine Vj_aloadn (q := 179) dX10_readPart_178 rfl rfl rfl ?_
  refine Vj_getR (q := 182) flX10_34 rfl rfl dX10_readPart_179 rfl ?_
  refine Vj_iconst (q := 183) (v := 3) dX10_readPart_182 rfl (by decide) ?_
  refine Vj_aloadn (q := 184) dX10_readPart_183 rfl rfl rfl ?_
  refine Vj_getI (q := 187) flX10_96 rfl rfl dX10_readPart_184 rfl ?_
  rw [hB]
  refine Vj_imul (q := 188) dX10_readPart_187 rfl ?_
  rw [i_3]
  refine Vj_iloadn (q := 189) dX10_readPart_188 rfl rfl rfl ?_
  refine Vj_iast (q := 190) rfl (vp_in_nI (by omega) (by decide)) dX10_readPart_189 rfl ?_
  rw [nI_clamp (by omega)]
  generalize e1 : uI σ 9 (3 * B.length) t = σ1
  refine Vj_aloadn (q := 191) dX10_readPart_190 rfl rfl rfl ?_
  refine Vj_getR (q := 194) flX10_34 rfl rfl dX10_readPart_191 rfl ?_
  refine Vj_iconst (q := 195) (v := 3) dX10_readPart_194 rfl (by decide) ?_
  refine Vj_aloadn (q := 196) dX10_readPart_195 rfl rfl rfl ?_
  refine Vj_getI (q := 199) flX10_96 rfl rfl dX10_readPart_196 rfl ?_
  rw [show σ1.1 0 16 = nI B.length by rw [← e1]; exact hB]
  refine Vj_imul (q := 200) dX10_readPart_199 rfl ?_
  rw [i_3]
  refine Vj_iconst (q := 201) (v := 1) dX10_readPart_200 rfl (by decide) ?_
  refine Vj_iadd (q := 202) dX10_readPart_201 rfl ?_
  rw [nI_1]
  refine Vj_iload (q := 204) dX10_readPart_202 rfl rfl ?_
  refine Vj_iast (q := 205) rfl (vp_in_nI (by omega) (by decide)) dX10_readPart_204 rfl ?_
  rw [nI_clamp (by omega)]
  generalize e2 : uI σ1 9 (3 * B.length + 1) k = σ2
  refine Vj_aloadn (q := 206) dX10_readPart_205 rfl rfl rfl ?_
  refine Vj_getR (q := 209) flX10_34 rfl rfl dX10_readPart_206 rfl ?_
  refine Vj_iconst (q := 210) (v := 3) dX10_readPart_209 rfl (by decide) ?_
  refine Vj_aloadn (q := 211) dX10_readPart_210 rfl rfl rfl ?_
  refine Vj_getI (q := 214) flX10_96 rfl rfl dX10_readPart_211 rfl ?_
  rw [show σ2.1 0 16 = nI B.length by rw [← e2, ← e1]; exact hB]
  refine Vj_imul (q := 215) dX10_readPart_214 rfl ?_
  rw [i_3]
  refine Vj_iconst (q := 216) (v := 2) dX10_readPart_215 rfl (by decide) ?_
  refine Vj_iadd (q := 217) dX10_readPart_216 rfl ?_
  rw [show nI (3 * B.length) + 2 = nI (3 * B.length + 2) from nI_add _ 2]
  refine Vj_aloadn (q := 218) dX10_readPart_217 rfl rfl rfl ?_
  refine Vj_iload (q := 220) dX10_readPart_218 rfl rfl ?_
  refine Vj_callVi (q := 223) (sX10_figureOf hg (show σ2.1 0 20 = nI g by rw [← e2, ← e1]; exact hf) _) (by decide) rfl rfl lkX10_103 viX10_figureOf okX10_figureOf dX10_readPart_220 rfl rfl (Nat.le_of_ble_eq_true rfl) ?_
  refine Vj_iast (q := 224) rfl (vp_in_nI (by omega) (by decide)) dX10_readPart_223 rfl ?_
  rw [nI_clamp (by omega)]
  generalize e3 : uI σ2 9 (3 * B.length + 2) 0 = σ3
  refine Vj_aloadn (q := 225) dX10_readPart_224 rfl rfl rfl ?_
  refine Vj_dup (q := 226) dX10_readPart_225 rfl rfl ?_
  refine Vj_getI (q := 229) flX10_96 rfl rfl dX10_readPart_226 rfl ?_
  rw [show σ3.1 0 16 = nI B.length by rw [← e3, ← e2, ← e1]; exact hB]
  refine Vj_iconst (q := 230) (v := 1) dX10_readPart_229 rfl (by decide) ?_
  refine Vj_iadd (q := 231) dX10_readPart_230 rfl ?_
  refine Vj_putI (q := 234) flX10_96 rfl rfl dX10_readPart_231 rfl ?_
  refine Vj_goto (q := 245) dX10_readPart_234 (by decide) ?_
  refine Vr_vret rfl dX10_readPart_245 ?_
  subst e1 e2 e3
  unfold RpP
  rw [hR]
  exact ⟨rfl, (((hE.u (q := 9) rfl).u (q := 9) rfl).u (q := 9) rfl).u (q := 0) rfl, hf⟩
set_option maxRecDepth 100000 in
theorem qX10_readPart_n178 {tx : List Nat} {σ0 : Mem} {L F : List Nat} {B : List (Nat × Nat × Nat)} {p : Nat} (hL5 : L.length < 5) (hL0 : 0 < L.length) (hB6 : B.length < 6) (hp : p < 900) (h66 : tx.getD p 0 = 66) (hs : ∀ t, t < L.length → L.getD t 0 < 5) {t k : Nat} (ht : fgA tx (2 ^ L.length - 1) (p + 1) = some t) (hk : fgA tx (alR L) (p + 2) = some k) {le al : Int32} {σ : Mem} (hE : Eqr σ0 σ) (hTx : TxM tx σ) (hRd : RdM L F B σ) (hat : σ.1 0 19 = nI (p + 3)) (hf : σ.1 0 20 = -9) : Vj shM 2 mX10_readPart (RpP (stpR tx p L F B) σ0) 178 [some (.ref 0), some (.int le), some (.int al), some (.int (nI t)), some (.int (nI k)), some (.int (nI (mvR L t k)))] [] σ := by
  have hB := hRd.2.1
  obtain ⟨k4, w1, w2⟩ := pBu_3 hL5 hL0 hB6 hs ht hk
  have t5 := (pBu_2 hL5 hL0 hB6 ht).1
  have st5 := hs t t5
  refine Vj_aloadn (q := 179) dX10_readPart_178 rfl rfl rfl ?_
  refine Vj_getR (q := 182) flX10_34 rfl rfl dX10_readPart_179 rfl ?_
  refine Vj_iconst (q := 183) (v := 3) dX10_readPart_182 rfl (by decide) ?_
  refine Vj_aloadn (q := 184) dX10_readPart_183 rfl rfl rfl ?_
  refine Vj_getI (q := 187) flX10_96 rfl rfl dX10_readPart_184 rfl ?_
  rw [hB]
  refine Vj_imul (q := 188) dX10_readPart_187 rfl ?_
  rw [i_3]
  refine Vj_iloadn (q := 189) dX10_readPart_188 rfl rfl rfl ?_
  refine Vj_iast (q := 190) rfl (vp_in_nI (by omega) (by decide)) dX10_readPart_189 rfl ?_
  rw [nI_clamp (by omega)]
  generalize e1 : uI σ 9 (3 * B.length) (nI t) = σ1
  refine Vj_aloadn (q := 191) dX10_readPart_190 rfl rfl rfl ?_
  refine Vj_getR (q := 194) flX10_34 rfl rfl dX10_readPart_191 rfl ?_
  refine Vj_iconst (q := 195) (v := 3) dX10_readPart_194 rfl (by decide) ?_
  refine Vj_aloadn (q := 196) dX10_readPart_195 rfl rfl rfl ?_
  refine Vj_getI (q := 199) flX10_96 rfl rfl dX10_readPart_196 rfl ?_
  rw [show σ1.1 0 16 = nI B.length by rw [← e1]; exact hB]
  refine Vj_imul (q := 200) dX10_readPart_199 rfl ?_
  rw [i_3]
  refine Vj_iconst (q := 201) (v := 1) dX10_readPart_200 rfl (by decide) ?_
  refine Vj_iadd (q := 202) dX10_readPart_201 rfl ?_
  rw [nI_1]
  refine Vj_iload (q := 204) dX10_readPart_202 rfl rfl ?_
  refine Vj_iast (q := 205) rfl (vp_in_nI (by omega) (by decide)) dX10_readPart_204 rfl ?_
  rw [nI_clamp (by omega)]
  generalize e2 : uI σ1 9 (3 * B.length + 1) (nI k) = σ2
  refine Vj_aloadn (q := 206) dX10_readPart_205 rfl rfl rfl ?_
  refine Vj_getR (q := 209) flX10_34 rfl rfl dX10_readPart_206 rfl ?_
  refine Vj_iconst (q := 210) (v := 3) dX10_readPart_209 rfl (by decide) ?_
  refine Vj_aloadn (q := 211) dX10_readPart_210 rfl rfl rfl ?_
  refine Vj_getI (q := 214) flX10_96 rfl rfl dX10_readPart_211 rfl ?_
  rw [show σ2.1 0 16 = nI B.length by rw [← e2, ← e1]; exact hB]
  refine Vj_imul (q := 215) dX10_readPart_214 rfl ?_
  rw [i_3]
  refine Vj_iconst (q := 216) (v := 2) dX10_readPart_215 rfl (by decide) ?_
  refine Vj_iadd (q := 217) dX10_readPart_216 rfl ?_
  rw [show nI (3 * B.length) + 2 = nI (3 * B.length + 2) from nI_add _ 2]
  refine Vj_aloadn (q := 218) dX10_readPart_217 rfl rfl rfl ?_
  refine Vj_iload (q := 220) dX10_readPart_218 rfl rfl ?_
  refine Vj_callV (q := 223) (qX10_figureOf (show TxM tx σ2 by rw [← e2, ← e1]; exact hTx.of rfl rfl) (p := p + 3) (al := mvR L t k) (by omega) (mv_lt hL5 st5) (show σ2.1 0 19 = nI (p + 3) by rw [← e2, ← e1]; exact hat) (show σ2.1 0 20 = -9 by rw [← e2, ← e1]; exact hf)) (by decide) rfl rfl lkX10_103 viX10_figureOf okX10_figureOf dX10_readPart_220 rfl rfl (Nat.le_of_ble_eq_true rfl) ?_
  rcases ea : fgA tx (mvR L t k) (p + 3) with _ | a
  ·
    intro r2 σ3 hm
    obtain ⟨rfl, rfl⟩ := FgM_n ea hm
    show Vj shM 2 mX10_readPart _ 223 _ [.int _, .int _, .ref _] _
    refine Vj_iast (q := 224) rfl (vp_in_nI (by omega) (by decide)) dX10_readPart_223 rfl ?_
    rw [nI_clamp (by omega)]
    generalize e3 : uI (uI σ2 0 20 (nI (p + 3))) 9 (3 * B.length + 2) 0 = σ3
    refine Vj_aloadn (q := 225) dX10_readPart_224 rfl rfl rfl ?_
    refine Vj_dup (q := 226) dX10_readPart_225 rfl rfl ?_
    refine Vj_getI (q := 229) flX10_96 rfl rfl dX10_readPart_226 rfl ?_
    rw [show σ3.1 0 16 = nI B.length by rw [← e3, ← e2, ← e1]; exact hB]
    refine Vj_iconst (q := 230) (v := 1) dX10_readPart_229 rfl (by decide) ?_
    refine Vj_iadd (q := 231) dX10_readPart_230 rfl ?_
    refine Vj_putI (q := 234) flX10_96 rfl rfl dX10_readPart_231 rfl ?_
    refine Vj_goto (q := 245) dX10_readPart_234 (by decide) ?_
    refine Vr_vret rfl dX10_readPart_245 ?_
    subst e1 e2 e3
    have hR : stpR tx p L F B = .inl (p + 3) := by unfold stpR; rw [if_neg (by omega), if_pos h66, w1 ea]
    unfold RpP
    rw [hR]
    exact ⟨rfl, ((((hE.u (q := 9) rfl).u (q := 9) rfl).u (q := 0) rfl).u (q := 9) rfl).u (q := 0) rfl, rfl⟩
  ·
    intro r2 σ3 hm
    obtain ⟨rfl, rfl⟩ := FgM_s ea hm
    show Vj shM 2 mX10_readPart _ 223 _ [.int _, .int _, .ref _] _
    refine Vj_iast (q := 224) rfl (vp_in_nI (by omega) (by decide)) dX10_readPart_223 rfl ?_
    rw [nI_clamp (by omega)]
    generalize e3 : uI (uI σ2 0 19 (nI (p + 3 + 1))) 9 (3 * B.length + 2) (nI a) = σ3
    refine Vj_aloadn (q := 225) dX10_readPart_224 rfl rfl rfl ?_
    refine Vj_dup (q := 226) dX10_readPart_225 rfl rfl ?_
    refine Vj_getI (q := 229) flX10_96 rfl rfl dX10_readPart_226 rfl ?_
    rw [show σ3.1 0 16 = nI B.length by rw [← e3, ← e2, ← e1]; exact hB]
    refine Vj_iconst (q := 230) (v := 1) dX10_readPart_229 rfl (by decide) ?_
    refine Vj_iadd (q := 231) dX10_readPart_230 rfl ?_
    rw [nI_1]
    refine Vj_putI (q := 234) flX10_96 rfl rfl dX10_readPart_231 rfl ?_
    refine Vj_goto (q := 245) dX10_readPart_234 (by decide) ?_
    refine Vr_vret rfl dX10_readPart_245 ?_
    subst e1 e2 e3
    have hR : stpR tx p L F B = .inr (p + 4, L, F, B ++ [(t, k, a)]) := by unfold stpR; rw [if_neg (by omega), if_pos h66, w2 a ea]
    unfold RpP
    rw [hR]
    exact ⟨rfl, ((((hE.u (q := 9) rfl).u (q := 9) rfl).u (q := 0) rfl).u (q := 9) rfl).u (q := 0) rfl, rfl, hf, hRd.addB rfl rfl rfl rfl rfl⟩
set_option maxRecDepth 100000 in
theorem qX10_readPart_k {tx : List Nat} {σ0 : Mem} {L F : List Nat} {B : List (Nat × Nat × Nat)} {p : Nat} (hL5 : L.length < 5) (hL0 : 0 < L.length) (hB6 : B.length < 6) (hp : p < 900) (h66 : tx.getD p 0 = 66) (hs : ∀ t, t < L.length → L.getD t 0 < 5) {t : Nat} (ht : fgA tx (2 ^ L.length - 1) (p + 1) = some t) {le : Int32} {σ : Mem} (hE : Eqr σ0 σ) (hTx : TxM tx σ) (hRd : RdM L F B σ) (hat : σ.1 0 19 = nI (p + 2)) (hf : σ.1 0 20 = -9) : Vj shM 2 mX10_readPart (RpP (stpR tx p L F B) σ0) 135 [some (.ref 0), some (.int le), some (.int (nI (2 ^ L.length - 1))), some (.int (nI t)), none, none] [.int (nI (alR L)), .ref 0] σ := by
  obtain ⟨t5, w1⟩ := pBu_2 hL5 hL0 hB6 ht
  have st5 := hs t t5
  have p5 := p2n _ hL5
  have ps := p2n _ st5
  have al64 : alR L < 64 := by unfold alR; split <;> decide
  have w2 := fun k hk => pBu_3 (k := k) hL5 hL0 hB6 hs ht hk
  refine Vj_callV (q := 138) (qX10_figureOf hTx (p := p + 2) (al := alR L) (by omega) al64 hat hf) (by decide) rfl rfl lkX10_103 viX10_figureOf okX10_figureOf dX10_readPart_135 rfl rfl (Nat.le_of_ble_eq_true rfl) ?_
  rcases ek : fgA tx (alR L) (p + 2) with _ | k
  ·
    intro r2 σ3 hm
    obtain ⟨rfl, rfl⟩ := FgM_n ek hm
    show Vj shM 2 mX10_readPart _ 138 _ [.int _] _
    refine Vs_istore4 (q := 140) dX10_readPart_138 rfl (by decide) rfl ?_
    refine Vj_iload (q := 142) dX10_readPart_140 rfl rfl ?_
    refine Vj_iconst (q := 143) (v := 1) dX10_readPart_142 rfl (by decide) ?_
    refine Vj_icmp_ne (q := 146) (tgt := 159) dX10_readPart_143 (by decide) rfl (fun _ => ?_) (fun hz => absurd hz (by decide))
    refine Vj_iload (q := 161) dX10_readPart_159 rfl rfl ?_
    refine Vj_iconst (q := 162) (v := 3) dX10_readPart_161 rfl (by decide) ?_
    refine Vj_icmp_ne (q := 165) (tgt := 175) dX10_readPart_162 (by decide) rfl (fun _ => ?_) (fun hz => absurd hz (by decide))
    refine Vj_iconst (q := 176) (v := 1) dX10_readPart_175 rfl (by decide) ?_
    refine Vs_istore5 (q := 178) dX10_readPart_176 rfl (by decide) rfl ?_
    exact qX10_readPart_s178 (g := p + 2) (by omega) (by unfold stpR; rw [if_neg (by omega), if_pos h66, w1 ek]) hB6 (hE.u (q := 0) rfl) hRd.2.1 rfl
  ·
    intro r2 σ3 hm
    obtain ⟨rfl, rfl⟩ := FgM_s ek hm
    show Vj shM 2 mX10_readPart _ 138 _ [.int _] _
    have k4 := (w2 k ek).1
    refine Vs_istore4 (q := 140) dX10_readPart_138 rfl (by decide) rfl ?_
    refine Vj_iload (q := 142) dX10_readPart_140 rfl rfl ?_
    refine Vj_iconst (q := 143) (v := 1) dX10_readPart_142 rfl (by decide) ?_
    refine Vj_icmp_ne (q := 146) (tgt := 159) dX10_readPart_143 (by decide) rfl (fun h143 => ?_) (fun h143 => ?_)
    ·
      refine Vj_iload (q := 161) dX10_readPart_159 rfl rfl ?_
      refine Vj_iconst (q := 162) (v := 3) dX10_readPart_161 rfl (by decide) ?_
      refine Vj_icmp_ne (q := 165) (tgt := 175) dX10_readPart_162 (by decide) rfl (fun h162 => ?_) (fun h162 => ?_)
      ·
        refine Vj_iconst (q := 176) (v := 1) dX10_readPart_175 rfl (by decide) ?_
        refine Vs_istore5 (q := 178) dX10_readPart_176 rfl (by decide) rfl ?_
        have em : mvR L t k = 1 := by
          unfold mvR
          rw [if_neg (fun z => h143 (by rw [z]; rfl)), if_neg (fun z => h162 (by rw [z]; rfl))]
        have z := qX10_readPart_n178 (σ := uI σ 0 19 (nI (p + 2 + 1))) (le := le) (al := nI (2 ^ L.length - 1)) hL5 hL0 hB6 hp h66 hs ht ek (hE.u (q := 0) rfl) (hTx.of rfl rfl) hRd rfl hf
        rw [em] at z
        exact z
      ·
        refine Vj_iloadn (q := 166) dX10_readPart_165 rfl rfl rfl ?_
        refine Vj_iconst (q := 167) (v := 1) dX10_readPart_166 rfl (by decide) ?_
        refine Vj_iloadn (q := 168) dX10_readPart_167 rfl rfl rfl ?_
        refine Vj_ishl (q := 169) dX10_readPart_168 rfl ?_
        refine Vj_iconst (q := 170) (v := (-1)) dX10_readPart_169 rfl (by decide) ?_
        refine Vj_ixor (q := 171) dX10_readPart_170 rfl ?_
        refine Vj_iand (q := 172) dX10_readPart_171 rfl ?_
        rw [(fb_nt _ hL5 t t5).1]
        refine Vj_goto (q := 176) dX10_readPart_172 (by decide) ?_
        refine Vs_istore5 (q := 178) dX10_readPart_176 rfl (by decide) rfl ?_
        have em : mvR L t k = 2 ^ L.length - 1 - 2 ^ t := by
          unfold mvR
          have ek3 : k = 3 := (nI_eq (b := 3) (by omega) (by decide)).mp h162
          rw [if_neg (by omega), if_pos ek3]
        have z := qX10_readPart_n178 (σ := uI σ 0 19 (nI (p + 2 + 1))) (le := le) (al := nI (2 ^ L.length - 1)) hL5 hL0 hB6 hp h66 hs ht ek (hE.u (q := 0) rfl) (hTx.of rfl rfl) hRd rfl hf
        rw [em] at z
        exact z
    ·
      refine Vj_iconst (q := 147) (v := 1) dX10_readPart_146 rfl (by decide) ?_
      refine Vj_aloadn (q := 148) dX10_readPart_147 rfl rfl rfl ?_
      refine Vj_getR (q := 151) flX10_28 rfl rfl dX10_readPart_148 rfl ?_
      refine Vj_iloadn (q := 152) dX10_readPart_151 rfl rfl rfl ?_
      refine Vj_iald (q := 153) rfl (vp_in_nI (by omega) (by decide)) dX10_readPart_152 rfl ?_
      rw [nI_clamp (by omega), show (uI σ 0 19 (nI (p + 2 + 1))).1 7 t = nI (L.getD t 0) from (hRd.2.2.1 t t5).1]
      refine Vj_ishl (q := 154) dX10_readPart_153 rfl ?_
      rw [i_p2 _ st5]
      refine Vj_iconst (q := 155) (v := 1) dX10_readPart_154 rfl (by decide) ?_
      refine Vj_isub (q := 156) dX10_readPart_155 rfl ?_
      rw [nI_s1 ps.2]
      refine Vj_goto (q := 176) dX10_readPart_156 (by decide) ?_
      refine Vs_istore5 (q := 178) dX10_readPart_176 rfl (by decide) rfl ?_
      have em : mvR L t k = 2 ^ L.getD t 0 - 1 := by
        unfold mvR
        have ek1 : k = 1 := (nI_eq (b := 1) (by omega) (by decide)).mp h143
        rw [if_pos ek1]
      have z := qX10_readPart_n178 (σ := uI σ 0 19 (nI (p + 2 + 1))) (le := le) (al := nI (2 ^ L.length - 1)) hL5 hL0 hB6 hp h66 hs ht ek (hE.u (q := 0) rfl) (hTx.of rfl rfl) hRd rfl hf
      rw [em] at z
      exact z
set_option maxRecDepth 100000 in
theorem qX10_readPart_b {tx : List Nat} {σ0 : Mem} {L F : List Nat} {B : List (Nat × Nat × Nat)} {p : Nat} (hO : PO L F B) (hB6 : B.length < 6) (hL0 : 0 < L.length) (hp : p < 900) (h66 : tx.getD p 0 = 66) {le : Int32} (hTx : TxM tx σ0) (hRd : RdM L F B σ0) (hat : σ0.1 0 19 = nI p) (hf : σ0.1 0 20 = -9) : Vj shM 2 mX10_readPart (RpP (stpR tx p L F B) σ0) 94 [some (.ref 0), some (.int le), none, none, none, none] [] σ0 := by
  have hL5 : L.length < 5 := hO.1.1
  have hs : ∀ t, t < L.length → L.getD t 0 < 5 := fun t ht => by have := (hO.1.2.1 t ht).2; have e : rS (L, B) t = L.getD t 0 := rfl; omega
  have p5 := p2n _ hL5
  refine Vj_aloadn (q := 95) dX10_readPart_94 rfl rfl rfl ?_
  refine Vj_dup (q := 96) dX10_readPart_95 rfl rfl ?_
  refine Vj_getI (q := 99) flX10_84 rfl rfl dX10_readPart_96 rfl ?_
  rw [hat]
  refine Vj_iconst (q := 100) (v := 1) dX10_readPart_99 rfl (by decide) ?_
  refine Vj_iadd (q := 101) dX10_readPart_100 rfl ?_
  rw [nI_1]
  refine Vj_putI (q := 104) flX10_84 rfl rfl dX10_readPart_101 rfl ?_
  refine Vj_iconst (q := 105) (v := 1) dX10_readPart_104 rfl (by decide) ?_
  refine Vj_aloadn (q := 106) dX10_readPart_105 rfl rfl rfl ?_
  refine Vj_getI (q := 109) flX10_93 rfl rfl dX10_readPart_106 rfl ?_
  rw [show (uI σ0 0 19 (nI (p + 1))).1 0 15 = nI L.length from hRd.1]
  refine Vj_ishl (q := 110) dX10_readPart_109 rfl ?_
  rw [i_p2 _ hL5]
  refine Vj_iconst (q := 111) (v := 1) dX10_readPart_110 rfl (by decide) ?_
  refine Vj_isub (q := 112) dX10_readPart_111 rfl ?_
  rw [nI_s1 p5.2]
  refine Vs_istore2 (q := 113) dX10_readPart_112 rfl (by decide) rfl ?_
  refine Vj_aloadn (q := 114) dX10_readPart_113 rfl rfl rfl ?_
  refine Vj_iloadn (q := 115) dX10_readPart_114 rfl rfl rfl ?_
  refine Vj_callV (q := 118) (qX10_figureOf (σ := uI σ0 0 19 (nI (p + 1))) (hTx.of rfl rfl) (p := p + 1) (al := 2 ^ L.length - 1) (by omega) (by omega) rfl hf) (by decide) rfl rfl lkX10_103 viX10_figureOf okX10_figureOf dX10_readPart_115 rfl rfl (Nat.le_of_ble_eq_true rfl) ?_
  rcases et : fgA tx (2 ^ L.length - 1) (p + 1) with _ | t
  ·
    intro r2 σ3 hm
    obtain ⟨rfl, rfl⟩ := FgM_n et hm
    show Vj shM 2 mX10_readPart _ 118 _ [.int _] _
    refine Vs_istore3 (q := 119) dX10_readPart_118 rfl (by decide) rfl ?_
    refine Vj_aloadn (q := 120) dX10_readPart_119 rfl rfl rfl ?_
    refine Vj_aloadn (q := 121) dX10_readPart_120 rfl rfl rfl ?_
    refine Vj_getI (q := 124) flX10_93 rfl rfl dX10_readPart_121 rfl ?_
    rw [show (uI (uI σ0 0 19 (nI (p + 1))) 0 20 (nI (p + 1))).1 0 15 = nI L.length from hRd.1]
    refine Vj_iconst (q := 125) (v := 1) dX10_readPart_124 rfl (by decide) ?_
    refine Vj_icmp_le (q := 128) (tgt := 133) dX10_readPart_125 (by decide) rfl (fun h125 => ?_) (fun h125 => ?_)
    ·
      refine Vj_bipush (q := 135) (v := 7) dX10_readPart_133 rfl (by decide) ?_
      refine Vj_callVi (q := 138) (sX10_figureOf (f := p + 1) (by omega) rfl _) (by decide) rfl rfl lkX10_103 viX10_figureOf okX10_figureOf dX10_readPart_135 rfl rfl (Nat.le_of_ble_eq_true rfl) ?_
      refine Vs_istore4 (q := 140) dX10_readPart_138 rfl (by decide) rfl ?_
      refine Vj_iload (q := 142) dX10_readPart_140 rfl rfl ?_
      refine Vj_iconst (q := 143) (v := 1) dX10_readPart_142 rfl (by decide) ?_
      refine Vj_icmp_ne (q := 146) (tgt := 159) dX10_readPart_143 (by decide) rfl (fun _ => ?_) (fun hz => absurd hz (by decide))
      refine Vj_iload (q := 161) dX10_readPart_159 rfl rfl ?_
      refine Vj_iconst (q := 162) (v := 3) dX10_readPart_161 rfl (by decide) ?_
      refine Vj_icmp_ne (q := 165) (tgt := 175) dX10_readPart_162 (by decide) rfl (fun _ => ?_) (fun hz => absurd hz (by decide))
      refine Vj_iconst (q := 176) (v := 1) dX10_readPart_175 rfl (by decide) ?_
      refine Vs_istore5 (q := 178) dX10_readPart_176 rfl (by decide) rfl ?_
      exact qX10_readPart_s178 (g := p + 1) (by omega) (by unfold stpR; rw [if_neg (by omega), if_pos h66, pBu_1 hL5 hL0 hB6 et]) hB6 ((Eqr.rf.u (q := 0) rfl).u (q := 0) rfl) hRd.2.1 rfl
    ·
      refine Vj_bipush (q := 130) (v := 15) dX10_readPart_128 rfl (by decide) ?_
      refine Vj_goto (q := 135) dX10_readPart_130 (by decide) ?_
      refine Vj_callVi (q := 138) (sX10_figureOf (f := p + 1) (by omega) rfl _) (by decide) rfl rfl lkX10_103 viX10_figureOf okX10_figureOf dX10_readPart_135 rfl rfl (Nat.le_of_ble_eq_true rfl) ?_
      refine Vs_istore4 (q := 140) dX10_readPart_138 rfl (by decide) rfl ?_
      refine Vj_iload (q := 142) dX10_readPart_140 rfl rfl ?_
      refine Vj_iconst (q := 143) (v := 1) dX10_readPart_142 rfl (by decide) ?_
      refine Vj_icmp_ne (q := 146) (tgt := 159) dX10_readPart_143 (by decide) rfl (fun _ => ?_) (fun hz => absurd hz (by decide))
      refine Vj_iload (q := 161) dX10_readPart_159 rfl rfl ?_
      refine Vj_iconst (q := 162) (v := 3) dX10_readPart_161 rfl (by decide) ?_
      refine Vj_icmp_ne (q := 165) (tgt := 175) dX10_readPart_162 (by decide) rfl (fun _ => ?_) (fun hz => absurd hz (by decide))
      refine Vj_iconst (q := 176) (v := 1) dX10_readPart_175 rfl (by decide) ?_
      refine Vs_istore5 (q := 178) dX10_readPart_176 rfl (by decide) rfl ?_
      exact qX10_readPart_s178 (g := p + 1) (by omega) (by unfold stpR; rw [if_neg (by omega), if_pos h66, pBu_1 hL5 hL0 hB6 et]) hB6 ((Eqr.rf.u (q := 0) rfl).u (q := 0) rfl) hRd.2.1 rfl
  ·
    intro r2 σ3 hm
    obtain ⟨rfl, rfl⟩ := FgM_s et hm
    show Vj shM 2 mX10_readPart _ 118 _ [.int _] _
    refine Vs_istore3 (q := 119) dX10_readPart_118 rfl (by decide) rfl ?_
    refine Vj_aloadn (q := 120) dX10_readPart_119 rfl rfl rfl ?_
    refine Vj_aloadn (q := 121) dX10_readPart_120 rfl rfl rfl ?_
    refine Vj_getI (q := 124) flX10_93 rfl rfl dX10_readPart_121 rfl ?_
    rw [show (uI (uI σ0 0 19 (nI (p + 1))) 0 19 (nI (p + 1 + 1))).1 0 15 = nI L.length from hRd.1]
    refine Vj_iconst (q := 125) (v := 1) dX10_readPart_124 rfl (by decide) ?_
    refine Vj_icmp_le (q := 128) (tgt := 133) dX10_readPart_125 (by decide) rfl (fun h125 => ?_) (fun h125 => ?_)
    ·
      refine Vj_bipush (q := 135) (v := 7) dX10_readPart_133 rfl (by decide) ?_
      refine Vj_top (show (7 : Int32) = nI (alR L) by unfold alR; rw [if_pos ((nI_leI (b := 1) (by omega) (by decide)).mp h125)]; rfl) ?_
      exact qX10_readPart_k hL5 hL0 hB6 hp h66 hs et ((Eqr.rf.u (q := 0) rfl).u (q := 0) rfl) (hTx.of rfl rfl) hRd rfl hf
    ·
      refine Vj_bipush (q := 130) (v := 15) dX10_readPart_128 rfl (by decide) ?_
      refine Vj_goto (q := 135) dX10_readPart_130 (by decide) ?_
      refine Vj_top (show (15 : Int32) = nI (alR L) by unfold alR; rw [if_neg (fun z => h125 (nI_le (b := 1) z (by decide)))]; rfl) ?_
      exact qX10_readPart_k hL5 hL0 hB6 hp h66 hs et ((Eqr.rf.u (q := 0) rfl).u (q := 0) rfl) (hTx.of rfl rfl) hRd rfl hf
set_option maxRecDepth 100000 in
theorem qX10_readPart_t {tx : List Nat} {σ0 : Mem} {L F : List Nat} {B : List (Nat × Nat × Nat)} {p : Nat} (hO : PO L F B) (hL4 : L.length < 4) (hp : p < 900) (h84 : tx.getD p 0 = 84) {le : Int32} (hTx : TxM tx σ0) (hRd : RdM L F B σ0) (hat : σ0.1 0 19 = nI p) (hf : σ0.1 0 20 = -9) : Vj shM 2 mX10_readPart (RpP (stpR tx p L F B) σ0) 14 [some (.ref 0), some (.int le), none, none, none, none] [] σ0 := by
  have hFL := hO.2.1
  refine Vj_aloadn (q := 15) dX10_readPart_14 rfl rfl rfl ?_
  refine Vj_dup (q := 16) dX10_readPart_15 rfl rfl ?_
  refine Vj_getI (q := 19) flX10_84 rfl rfl dX10_readPart_16 rfl ?_
  rw [hat]
  refine Vj_iconst (q := 20) (v := 1) dX10_readPart_19 rfl (by decide) ?_
  refine Vj_iadd (q := 21) dX10_readPart_20 rfl ?_
  rw [nI_1]
  refine Vj_putI (q := 24) flX10_84 rfl rfl dX10_readPart_21 rfl ?_
  refine Vj_aloadn (q := 25) dX10_readPart_24 rfl rfl rfl ?_
  refine Vj_bipush (q := 27) (v := 28) dX10_readPart_25 rfl (by decide) ?_
  refine Vj_callV (q := 30) (qX10_figureOf (σ := uI σ0 0 19 (nI (p + 1))) (hTx.of rfl rfl) (p := p + 1) (al := 28) (by omega) (by decide) rfl hf) (by decide) rfl rfl lkX10_103 viX10_figureOf okX10_figureOf dX10_readPart_27 rfl rfl (Nat.le_of_ble_eq_true rfl) ?_
  rcases es : fgA tx 28 (p + 1) with _ | s
  ·
    intro r2 σ3 hm
    obtain ⟨rfl, rfl⟩ := FgM_n es hm
    show Vj shM 2 mX10_readPart _ 30 _ [.int _] _
    refine Vs_istore2 (q := 31) dX10_readPart_30 rfl (by decide) rfl ?_
    refine Vj_aloadn (q := 32) dX10_readPart_31 rfl rfl rfl ?_
    refine Vj_getR (q := 35) flX10_28 rfl rfl dX10_readPart_32 rfl ?_
    refine Vj_aloadn (q := 36) dX10_readPart_35 rfl rfl rfl ?_
    refine Vj_getI (q := 39) flX10_93 rfl rfl dX10_readPart_36 rfl ?_
    rw [show (uI (uI σ0 0 19 (nI (p + 1))) 0 20 (nI (p + 1))).1 0 15 = nI L.length from hRd.1]
    refine Vj_iloadn (q := 40) dX10_readPart_39 rfl rfl rfl ?_
    refine Vj_iast (q := 41) rfl (vp_in_nI (by omega) (by decide)) dX10_readPart_40 rfl ?_
    rw [nI_clamp (by omega)]
    refine Vj_aloadn (q := 42) dX10_readPart_41 rfl rfl rfl ?_
    refine Vj_getR (q := 45) flX10_31 rfl rfl dX10_readPart_42 rfl ?_
    refine Vj_aloadn (q := 46) dX10_readPart_45 rfl rfl rfl ?_
    refine Vj_getI (q := 49) flX10_93 rfl rfl dX10_readPart_46 rfl ?_
    rw [show (uI (uI (uI σ0 0 19 (nI (p + 1))) 0 20 (nI (p + 1))) 7 L.length 0).1 0 15 = nI L.length from hRd.1]
    refine Vj_aloadn (q := 50) dX10_readPart_49 rfl rfl rfl ?_
    refine Vj_iconst (q := 51) (v := 1) dX10_readPart_50 rfl (by decide) ?_
    refine Vj_iloadn (q := 52) dX10_readPart_51 rfl rfl rfl ?_
    refine Vj_ishl (q := 53) dX10_readPart_52 rfl ?_
    refine Vj_iconst (q := 54) (v := 1) dX10_readPart_53 rfl (by decide) ?_
    refine Vj_isub (q := 55) dX10_readPart_54 rfl ?_
    refine Vj_callVi (q := 58) (sX10_figureOf (f := p + 1) (by omega) rfl _) (by decide) rfl rfl lkX10_103 viX10_figureOf okX10_figureOf dX10_readPart_55 rfl rfl (Nat.le_of_ble_eq_true rfl) ?_
    refine Vj_iast (q := 59) rfl (vp_in_nI (by omega) (by decide)) dX10_readPart_58 rfl ?_
    rw [nI_clamp (by omega)]
    refine Vj_aloadn (q := 60) dX10_readPart_59 rfl rfl rfl ?_
    refine Vj_dup (q := 61) dX10_readPart_60 rfl rfl ?_
    refine Vj_getI (q := 64) flX10_93 rfl rfl dX10_readPart_61 rfl ?_
    refine Vj_iconst (q := 65) (v := 1) dX10_readPart_64 rfl (by decide) ?_
    refine Vj_iadd (q := 66) dX10_readPart_65 rfl ?_
    refine Vj_putI (q := 69) flX10_93 rfl rfl dX10_readPart_66 rfl ?_
    refine Vj_goto (q := 245) dX10_readPart_69 (by decide) ?_
    refine Vr_vret rfl dX10_readPart_245 ?_
    have hR : stpR tx p L F B = .inl (p + 1) := by unfold stpR; rw [if_pos h84, pTh_1 hL4 es]
    unfold RpP
    rw [hR]
    exact ⟨rfl, ((((Eqr.rf.u (q := 0) rfl).u (q := 0) rfl).u (q := 7) rfl).u (q := 8) rfl).u (q := 0) rfl, rfl⟩
  ·
    intro r2 σ3 hm
    obtain ⟨rfl, rfl⟩ := FgM_s es hm
    show Vj shM 2 mX10_readPart _ 30 _ [.int _] _
    obtain ⟨hs4, w1, w2⟩ := pTh_2 hL4 es
    have ps := p2n s (by omega)
    have i2 := i_p2 s (by omega)
    refine Vs_istore2 (q := 31) dX10_readPart_30 rfl (by decide) rfl ?_
    refine Vj_aloadn (q := 32) dX10_readPart_31 rfl rfl rfl ?_
    refine Vj_getR (q := 35) flX10_28 rfl rfl dX10_readPart_32 rfl ?_
    refine Vj_aloadn (q := 36) dX10_readPart_35 rfl rfl rfl ?_
    refine Vj_getI (q := 39) flX10_93 rfl rfl dX10_readPart_36 rfl ?_
    rw [show (uI (uI σ0 0 19 (nI (p + 1))) 0 19 (nI (p + 1 + 1))).1 0 15 = nI L.length from hRd.1]
    refine Vj_iloadn (q := 40) dX10_readPart_39 rfl rfl rfl ?_
    refine Vj_iast (q := 41) rfl (vp_in_nI (by omega) (by decide)) dX10_readPart_40 rfl ?_
    rw [nI_clamp (by omega)]
    refine Vj_aloadn (q := 42) dX10_readPart_41 rfl rfl rfl ?_
    refine Vj_getR (q := 45) flX10_31 rfl rfl dX10_readPart_42 rfl ?_
    refine Vj_aloadn (q := 46) dX10_readPart_45 rfl rfl rfl ?_
    refine Vj_getI (q := 49) flX10_93 rfl rfl dX10_readPart_46 rfl ?_
    rw [show (uI (uI (uI σ0 0 19 (nI (p + 1))) 0 19 (nI (p + 1 + 1))) 7 L.length (nI s)).1 0 15 = nI L.length from hRd.1]
    refine Vj_aloadn (q := 50) dX10_readPart_49 rfl rfl rfl ?_
    refine Vj_iconst (q := 51) (v := 1) dX10_readPart_50 rfl (by decide) ?_
    refine Vj_iloadn (q := 52) dX10_readPart_51 rfl rfl rfl ?_
    refine Vj_ishl (q := 53) dX10_readPart_52 rfl ?_
    rw [i2]
    refine Vj_iconst (q := 54) (v := 1) dX10_readPart_53 rfl (by decide) ?_
    refine Vj_isub (q := 55) dX10_readPart_54 rfl ?_
    rw [nI_s1 ps.2]
    refine Vj_callV (q := 58) (qX10_figureOf (σ := uI (uI (uI σ0 0 19 (nI (p + 1))) 0 19 (nI (p + 1 + 1))) 7 L.length (nI s)) (hTx.of rfl rfl) (p := p + 2) (al := 2 ^ s - 1) (by omega) (by omega) rfl hf) (by decide) rfl rfl lkX10_103 viX10_figureOf okX10_figureOf dX10_readPart_55 rfl rfl (Nat.le_of_ble_eq_true rfl) ?_
    rcases ei : fgA tx (2 ^ s - 1) (p + 2) with _ | i
    ·
      intro r2 σ3 hm
      obtain ⟨rfl, rfl⟩ := FgM_n ei hm
      show Vj shM 2 mX10_readPart _ 58 _ [.int _, .int _, .ref _] _
      refine Vj_iast (q := 59) rfl (vp_in_nI (by omega) (by decide)) dX10_readPart_58 rfl ?_
      rw [nI_clamp (by omega)]
      refine Vj_aloadn (q := 60) dX10_readPart_59 rfl rfl rfl ?_
      refine Vj_dup (q := 61) dX10_readPart_60 rfl rfl ?_
      refine Vj_getI (q := 64) flX10_93 rfl rfl dX10_readPart_61 rfl ?_
      rw [show (uI (uI (uI (uI (uI σ0 0 19 (nI (p + 1))) 0 19 (nI (p + 1 + 1))) 7 L.length (nI s)) 0 20 (nI (p + 2))) 8 L.length 0).1 0 15 = nI L.length from hRd.1]
      refine Vj_iconst (q := 65) (v := 1) dX10_readPart_64 rfl (by decide) ?_
      refine Vj_iadd (q := 66) dX10_readPart_65 rfl ?_
      refine Vj_putI (q := 69) flX10_93 rfl rfl dX10_readPart_66 rfl ?_
      refine Vj_goto (q := 245) dX10_readPart_69 (by decide) ?_
      refine Vr_vret rfl dX10_readPart_245 ?_
      have hR : stpR tx p L F B = .inl (p + 2) := by unfold stpR; rw [if_pos h84, w1 ei]
      unfold RpP
      rw [hR]
      exact ⟨rfl, (((((Eqr.rf.u (q := 0) rfl).u (q := 0) rfl).u (q := 7) rfl).u (q := 0) rfl).u (q := 8) rfl).u (q := 0) rfl, rfl⟩
    ·
      intro r2 σ3 hm
      obtain ⟨rfl, rfl⟩ := FgM_s ei hm
      show Vj shM 2 mX10_readPart _ 58 _ [.int _, .int _, .ref _] _
      refine Vj_iast (q := 59) rfl (vp_in_nI (by omega) (by decide)) dX10_readPart_58 rfl ?_
      rw [nI_clamp (by omega)]
      refine Vj_aloadn (q := 60) dX10_readPart_59 rfl rfl rfl ?_
      refine Vj_dup (q := 61) dX10_readPart_60 rfl rfl ?_
      refine Vj_getI (q := 64) flX10_93 rfl rfl dX10_readPart_61 rfl ?_
      rw [show (uI (uI (uI (uI (uI σ0 0 19 (nI (p + 1))) 0 19 (nI (p + 1 + 1))) 7 L.length (nI s)) 0 19 (nI (p + 2 + 1))) 8 L.length (nI i)).1 0 15 = nI L.length from hRd.1]
      refine Vj_iconst (q := 65) (v := 1) dX10_readPart_64 rfl (by decide) ?_
      refine Vj_iadd (q := 66) dX10_readPart_65 rfl ?_
      rw [nI_1]
      refine Vj_putI (q := 69) flX10_93 rfl rfl dX10_readPart_66 rfl ?_
      refine Vj_goto (q := 245) dX10_readPart_69 (by decide) ?_
      refine Vr_vret rfl dX10_readPart_245 ?_
      have hR : stpR tx p L F B = .inr (p + 3, L ++ [s], F ++ [i], B) := by unfold stpR; rw [if_pos h84, w2 i ei]
      unfold RpP
      rw [hR]
      exact ⟨rfl, (((((Eqr.rf.u (q := 0) rfl).u (q := 0) rfl).u (q := 7) rfl).u (q := 0) rfl).u (q := 8) rfl).u (q := 0) rfl, rfl, hf, hRd.addT hFL rfl rfl rfl rfl rfl⟩
set_option maxRecDepth 100000 in
theorem qX10_readPart {tx : List Nat} {σ0 : Mem} {L F : List Nat} {B : List (Nat × Nat × Nat)} {p : Nat} (hO : PO L F B) (hp : p < tx.length) (hTx : TxM tx σ0) (hRd : RdM L F B σ0) (hat : σ0.1 0 19 = nI p) (hf : σ0.1 0 20 = -9) : Ct shM 2 mX10_readPart [.ref 0, .int (nI (tx.getD p 0))] σ0 (RpP (stpR tx p L F B) σ0) := by
  have hO5 : L.length < 5 := hO.1.1
  have hB7 : B.length < 7 := hO.1.2.2.1
  have h44 := hTx.2.1
  have hc := (hTx.2.2 p hp).2
  refine Ct.of (by decide) (Nat.le_of_ble_eq_true rfl) (l := [some (.ref 0), some (.int (nI (tx.getD p 0))), none, none, none, none]) rfl ?_
  refine Vj_iloadn (q := 1) dX10_readPart_0 rfl rfl rfl ?_
  refine Vj_bipush (q := 3) (v := 84) dX10_readPart_1 rfl (by decide) ?_
  refine Vj_icmp_ne (q := 6) (tgt := 72) dX10_readPart_3 (by decide) rfl (fun h3 => ?_) (fun h3 => ?_)
  ·
    have n84 : ¬ tx.getD p 0 = 84 := fun z => h3 (by rw [z]; rfl)
    refine Vj_iloadn (q := 73) dX10_readPart_72 rfl rfl rfl ?_
    refine Vj_bipush (q := 75) (v := 66) dX10_readPart_73 rfl (by decide) ?_
    refine Vj_icmp_ne (q := 78) (tgt := 237) dX10_readPart_75 (by decide) rfl (fun h75 => ?_) (fun h75 => ?_)
    ·
      refine Vj_aloadn (q := 238) dX10_readPart_237 rfl rfl rfl ?_
      refine Vj_aloadn (q := 239) dX10_readPart_238 rfl rfl rfl ?_
      refine Vj_getI (q := 242) flX10_84 rfl rfl dX10_readPart_239 rfl ?_
      rw [hat]
      refine Vj_putI (q := 245) flX10_81 rfl rfl dX10_readPart_242 rfl ?_
      refine Vr_vret rfl dX10_readPart_245 ?_
      have hR : stpR tx p L F B = .inl p := by
        have n66 : ¬ tx.getD p 0 = 66 := fun z => h75 (by rw [z]; rfl)
        unfold stpR; rw [if_neg n84, if_neg n66]
      unfold RpP
      rw [hR]
      exact ⟨rfl, Eqr.rf.u (q := 0) rfl, rfl⟩
    ·
      refine Vj_aloadn (q := 79) dX10_readPart_78 rfl rfl rfl ?_
      refine Vj_getI (q := 82) flX10_96 rfl rfl dX10_readPart_79 rfl ?_
      rw [hRd.2.1]
      refine Vj_bipush (q := 84) (v := 6) dX10_readPart_82 rfl (by decide) ?_
      refine Vj_icmp_ge (q := 87) (tgt := 237) dX10_readPart_84 (by decide) rfl (fun h84 => ?_) (fun h84 => ?_)
      ·
        refine Vj_aloadn (q := 238) dX10_readPart_237 rfl rfl rfl ?_
        refine Vj_aloadn (q := 239) dX10_readPart_238 rfl rfl rfl ?_
        refine Vj_getI (q := 242) flX10_84 rfl rfl dX10_readPart_239 rfl ?_
        rw [hat]
        refine Vj_putI (q := 245) flX10_81 rfl rfl dX10_readPart_242 rfl ?_
        refine Vr_vret rfl dX10_readPart_245 ?_
        have hR : stpR tx p L F B = .inl p := by
          have e66 := (nI_eq (b := 66) (by omega) (by decide)).mp h75
          have hB6 : 6 ≤ B.length := (nI_leI (a := 6) (by decide) (by omega)).mp h84
          unfold stpR; rw [if_neg n84, if_pos e66, show pBu tx p L B = .inl 0 by unfold pBu; rw [if_pos (Or.inl hB6)]]; rfl
        unfold RpP
        rw [hR]
        exact ⟨rfl, Eqr.rf.u (q := 0) rfl, rfl⟩
      ·
        refine Vj_aloadn (q := 88) dX10_readPart_87 rfl rfl rfl ?_
        refine Vj_getI (q := 91) flX10_93 rfl rfl dX10_readPart_88 rfl ?_
        rw [hRd.1]
        refine Vj_if_le (q := 94) (tgt := 237) dX10_readPart_91 (by decide) rfl (fun h91 => ?_) (fun h91 => ?_)
        ·
          refine Vj_aloadn (q := 238) dX10_readPart_237 rfl rfl rfl ?_
          refine Vj_aloadn (q := 239) dX10_readPart_238 rfl rfl rfl ?_
          refine Vj_getI (q := 242) flX10_84 rfl rfl dX10_readPart_239 rfl ?_
          rw [hat]
          refine Vj_putI (q := 245) flX10_81 rfl rfl dX10_readPart_242 rfl ?_
          refine Vr_vret rfl dX10_readPart_245 ?_
          have hR : stpR tx p L F B = .inl p := by
            have e66 := (nI_eq (b := 66) (by omega) (by decide)).mp h75
            have hL0 : L.length = 0 := by have := (nI_leI (b := 0) (by omega) (by decide)).mp h91; omega
            unfold stpR; rw [if_neg n84, if_pos e66, show pBu tx p L B = .inl 0 by unfold pBu; rw [if_pos (Or.inr hL0)]]; rfl
          unfold RpP
          rw [hR]
          exact ⟨rfl, Eqr.rf.u (q := 0) rfl, rfl⟩
        ·
          exact qX10_readPart_b hO (Nat.not_le.mp fun z => h84 (nI_le (a := 6) z (by omega))) (Nat.pos_of_ne_zero fun z => h91 (by rw [z]; decide)) (by omega) ((nI_eq (b := 66) (by omega) (by decide)).mp h75) hTx hRd hat hf
  ·
    refine Vj_aloadn (q := 7) dX10_readPart_6 rfl rfl rfl ?_
    refine Vj_getI (q := 10) flX10_93 rfl rfl dX10_readPart_7 rfl ?_
    rw [hRd.1]
    refine Vj_iconst (q := 11) (v := 4) dX10_readPart_10 rfl (by decide) ?_
    refine Vj_icmp_ge (q := 14) (tgt := 72) dX10_readPart_11 (by decide) rfl (fun h11 => ?_) (fun h11 => ?_)
    ·
      have e84 : tx.getD p 0 = 84 := (nI_eq (b := 84) (by omega) (by decide)).mp h3
      have hL4 : 4 ≤ L.length := (nI_leI (a := 4) (by decide) (by omega)).mp h11
      refine Vj_iloadn (q := 73) dX10_readPart_72 rfl rfl rfl ?_
      refine Vj_bipush (q := 75) (v := 66) dX10_readPart_73 rfl (by decide) ?_
      refine Vj_icmp_ne (q := 78) (tgt := 237) dX10_readPart_75 (by decide) rfl (fun h75 => ?_) (fun h75 => ?_)
      ·
        refine Vj_aloadn (q := 238) dX10_readPart_237 rfl rfl rfl ?_
        refine Vj_aloadn (q := 239) dX10_readPart_238 rfl rfl rfl ?_
        refine Vj_getI (q := 242) flX10_84 rfl rfl dX10_readPart_239 rfl ?_
        rw [hat]
        refine Vj_putI (q := 245) flX10_81 rfl rfl dX10_readPart_242 rfl ?_
        refine Vr_vret rfl dX10_readPart_245 ?_
        have hR : stpR tx p L F B = .inl p := by
          unfold stpR; rw [if_pos e84, show pTh tx p L = .inl 0 by unfold pTh; rw [if_pos hL4]]; rfl
        unfold RpP
        rw [hR]
        exact ⟨rfl, Eqr.rf.u (q := 0) rfl, rfl⟩
      ·
        refine Vj_aloadn (q := 79) dX10_readPart_78 rfl rfl rfl ?_
        refine Vj_getI (q := 82) flX10_96 rfl rfl dX10_readPart_79 rfl ?_
        rw [hRd.2.1]
        refine Vj_bipush (q := 84) (v := 6) dX10_readPart_82 rfl (by decide) ?_
        refine Vj_icmp_ge (q := 87) (tgt := 237) dX10_readPart_84 (by decide) rfl (fun h84 => ?_) (fun h84 => ?_)
        ·
          refine Vj_aloadn (q := 238) dX10_readPart_237 rfl rfl rfl ?_
          refine Vj_aloadn (q := 239) dX10_readPart_238 rfl rfl rfl ?_
          refine Vj_getI (q := 242) flX10_84 rfl rfl dX10_readPart_239 rfl ?_
          rw [hat]
          refine Vj_putI (q := 245) flX10_81 rfl rfl dX10_readPart_242 rfl ?_
          refine Vr_vret rfl dX10_readPart_245 ?_
          have hR : stpR tx p L F B = .inl p := by
            have e66 := (nI_eq (b := 66) (by omega) (by decide)).mp h75
            exact absurd (e84.symm.trans e66) (by decide)
          unfold RpP
          rw [hR]
          exact ⟨rfl, Eqr.rf.u (q := 0) rfl, rfl⟩
        ·
          refine Vj_aloadn (q := 88) dX10_readPart_87 rfl rfl rfl ?_
          refine Vj_getI (q := 91) flX10_93 rfl rfl dX10_readPart_88 rfl ?_
          rw [hRd.1]
          refine Vj_if_le (q := 94) (tgt := 237) dX10_readPart_91 (by decide) rfl (fun h91 => ?_) (fun h91 => ?_)
          ·
            refine Vj_aloadn (q := 238) dX10_readPart_237 rfl rfl rfl ?_
            refine Vj_aloadn (q := 239) dX10_readPart_238 rfl rfl rfl ?_
            refine Vj_getI (q := 242) flX10_84 rfl rfl dX10_readPart_239 rfl ?_
            rw [hat]
            refine Vj_putI (q := 245) flX10_81 rfl rfl dX10_readPart_242 rfl ?_
            refine Vr_vret rfl dX10_readPart_245 ?_
            have hR : stpR tx p L F B = .inl p := by
              have e66 := (nI_eq (b := 66) (by omega) (by decide)).mp h75
              exact absurd (e84.symm.trans e66) (by decide)
            unfold RpP
            rw [hR]
            exact ⟨rfl, Eqr.rf.u (q := 0) rfl, rfl⟩
          ·
            exact absurd (e84.symm.trans ((nI_eq (b := 66) (by omega) (by decide)).mp h75)) (by decide)
    ·
      exact qX10_readPart_t hO (Nat.not_le.mp fun z => h11 (nI_le (a := 4) z (by omega))) (by omega) ((nI_eq (b := 84) (by omega) (by decide)).mp h3) hTx hRd hat hf
theorem pTh_g {tx : List Nat} {p : Nat} {L : List Nat} {g : Nat} (h : pTh tx p L = .inl g) : g < 4 := by
  unfold pTh at h
  split at h
  · cases h; decide
  · split at h
    · cases h; decide
    · split at h
      · cases h; decide
      · split at h
        · cases h; decide
        · split at h
          · cases h; decide
          · cases h
theorem pBu_g {tx : List Nat} {p : Nat} {L : List Nat} {B : List (Nat × Nat × Nat)} {g : Nat} (h : pBu tx p L B = .inl g) : g < 4 := by
  unfold pBu at h
  split at h
  · cases h; decide
  · split at h
    · cases h; decide
    · split at h
      · cases h; decide
      · split at h
        · cases h; decide
        · split at h
          · cases h; decide
          · split at h
            · cases h; decide
            · split at h
              · cases h
              · cases h; decide
theorem stp_lt {tx : List Nat} {p : Nat} {L F : List Nat} {B : List (Nat × Nat × Nat)} {g : Nat} (h44 : tx.length ≤ 44) (hO : PO L F B) (hp : p < tx.length) (h : stpR tx p L F B = .inl g) : g < 100 := by
  unfold stpR at h
  split at h
  · cases e : pTh tx p L with
    | inl g' =>
      rw [e] at h
      have e2 : p + g' = g := by simpa using h
      have := pTh_g e; omega
    | inr u => rw [e] at h; cases h
  · split at h
    · cases e : pBu tx p L B with
      | inl g' =>
        rw [e] at h
        have e2 : p + g' = g := by simpa using h
        have := pBu_g e; omega
      | inr u => rw [e] at h; cases h
    · have e2 : p = g := by simpa using h
      omega
theorem stp_PO {tx : List Nat} {p : Nat} {L F : List Nat} {B : List (Nat × Nat × Nat)} {s : Nat × List Nat × List Nat × List (Nat × Nat × Nat)} (hO : PO L F B) (hp : p < tx.length) (h : stpR tx p L F B = .inr s) : PO s.2.1 s.2.2.1 s.2.2.2 ∧ p + 1 ≤ s.1 ∧ s.1 ≤ p + 4 := by
  unfold stpR at h
  split at h
  · cases e : pTh tx p L with
    | inl g' => rw [e] at h; cases h
    | inr u =>
      rw [e] at h
      obtain ⟨g1, g2, g3, g4⟩ := pTh_r e
      have e2 : (p + 3, L ++ [u.1], F ++ [u.2], B) = s := by simpa using h
      subst e2
      exact ⟨hO.addT g1 g2 g3 g4, by simp only; omega, by simp only; omega⟩
  · split at h
    · cases e : pBu tx p L B with
      | inl g' => rw [e] at h; cases h
      | inr u =>
        rw [e] at h
        obtain ⟨g1, g2, g3, g4, g5⟩ := pBu_r e
        have e2 : (p + 4, L, F, B ++ [u]) = s := by simpa using h
        subst e2
        exact ⟨hO.addB g1 g2 g3 g4 g5, by simp only; omega, by simp only; omega⟩
    · cases h

set_option maxRecDepth 100000 in
theorem qX10_readText_loop {tx : List Nat} {σ0 : Mem} (h44 : tx.length ≤ 44) : ∀ (n p : Nat) (L F : List Nat) (B : List (Nat × Nat × Nat)) (σ : Mem), tx.length ≤ p + n → p < 100 → TxM tx σ → PO L F B → RdM L F B σ → σ.1 0 19 = nI p → σ.1 0 20 = -9 → Eqr σ0 σ → Vj shM 3 mX10_readText (fun r σ' => r = some (.int (fI (pLoop tx n p L F B).1)) ∧ Eqr σ0 σ' ∧ ((pLoop tx n p L F B).1 = none → RdM (pLoop tx n p L F B).2.1 (pLoop tx n p L F B).2.2.1 (pLoop tx n p L F B).2.2.2 σ')) 46 [some (.ref 0)] [] σ := by
  intro n
  induction n with
  | zero =>
    intro p L F B σ hn hp hTx hO hRd hat hf hE
    refine Vj_aloadn (q := 47) dX10_readText_46 rfl rfl rfl ?_
    refine Vj_getI (q := 50) flX10_81 rfl rfl dX10_readText_47 rfl ?_
    rw [hf]
    refine Vj_bipush (q := 52) (v := (-9)) dX10_readText_50 rfl (by decide) ?_
    refine Vj_icmp_ne (q := 55) (tgt := 82) dX10_readText_52 (by decide) rfl (fun hz => absurd rfl hz) (fun _ => ?_)
    refine Vj_aloadn (q := 56) dX10_readText_55 rfl rfl rfl ?_
    refine Vj_getI (q := 59) flX10_84 rfl rfl dX10_readText_56 rfl ?_
    rw [hat]
    refine Vj_aloadn (q := 60) dX10_readText_59 rfl rfl rfl ?_
    refine Vj_getI (q := 63) flX10_78 rfl rfl dX10_readText_60 rfl ?_
    rw [hTx.1]
    refine Vj_icmp_ge (q := 66) (tgt := 82) dX10_readText_63 (by decide) rfl (fun _ => ?_) (fun hz => absurd (nI_le (by omega) (by omega)) hz)
    refine Vj_aloadn (q := 83) dX10_readText_82 rfl rfl rfl ?_
    refine Vj_getI (q := 86) flX10_81 rfl rfl dX10_readText_83 rfl ?_
    rw [hf]
    exact Vr_iret rfl rfl dX10_readText_86 (⟨rfl, hE, fun _ => hRd⟩)
  | succ n ih =>
    intro p L F B σ hn hp hTx hO hRd hat hf hE
    by_cases hlt : p < tx.length
    · rw [pLoop_s hlt]
      refine Vj_aloadn (q := 47) dX10_readText_46 rfl rfl rfl ?_
      refine Vj_getI (q := 50) flX10_81 rfl rfl dX10_readText_47 rfl ?_
      rw [hf]
      refine Vj_bipush (q := 52) (v := (-9)) dX10_readText_50 rfl (by decide) ?_
      refine Vj_icmp_ne (q := 55) (tgt := 82) dX10_readText_52 (by decide) rfl (fun hz => absurd rfl hz) (fun _ => ?_)
      refine Vj_aloadn (q := 56) dX10_readText_55 rfl rfl rfl ?_
      refine Vj_getI (q := 59) flX10_84 rfl rfl dX10_readText_56 rfl ?_
      rw [hat]
      refine Vj_aloadn (q := 60) dX10_readText_59 rfl rfl rfl ?_
      refine Vj_getI (q := 63) flX10_78 rfl rfl dX10_readText_60 rfl ?_
      rw [hTx.1]
      refine Vj_icmp_ge (q := 66) (tgt := 82) dX10_readText_63 (by decide) rfl (fun hz => absurd hz (nI_ge (by omega) (by omega))) (fun _ => ?_)
      refine Vj_aloadn (q := 67) dX10_readText_66 rfl rfl rfl ?_
      refine Vj_aloadn (q := 68) dX10_readText_67 rfl rfl rfl ?_
      refine Vj_getR (q := 71) flX10_37 rfl rfl dX10_readText_68 rfl ?_
      refine Vj_aloadn (q := 72) dX10_readText_71 rfl rfl rfl ?_
      refine Vj_getI (q := 75) flX10_84 rfl rfl dX10_readText_72 rfl ?_
      rw [hat]
      refine Vj_iald (q := 76) rfl (vp_in_nI (by omega) (by decide)) dX10_readText_75 rfl ?_
      rw [nI_clamp (by omega), (hTx.2.2 p hlt).1]
      refine Vj_callV (q := 79) (qX10_readPart hO hlt hTx hRd hat hf) (by decide) rfl rfl lkX10_99 viX10_readPart okX10_readPart dX10_readText_76 rfl rfl (Nat.le_of_ble_eq_true rfl) ?_
      cases es : stpR tx p L F B with
      | inl g =>
        intro r2 σ2 hm
        unfold RpP at hm
        obtain ⟨rfl, hE2, hf2⟩ := hm
        have hg := stp_lt h44 hO hlt es
        show Vj shM 3 mX10_readText _ 79 _ [] _
        refine Vj_goto (q := 46) dX10_readText_79 (by decide) ?_
        refine Vj_aloadn (q := 47) dX10_readText_46 rfl rfl rfl ?_
        refine Vj_getI (q := 50) flX10_81 rfl rfl dX10_readText_47 rfl ?_
        rw [hf2]
        refine Vj_bipush (q := 52) (v := (-9)) dX10_readText_50 rfl (by decide) ?_
        refine Vj_icmp_ne (q := 55) (tgt := 82) dX10_readText_52 (by decide) rfl (fun _ => ?_) (fun hz => absurd hz (nI_nm9 (by omega)))
        refine Vj_aloadn (q := 83) dX10_readText_82 rfl rfl rfl ?_
        refine Vj_getI (q := 86) flX10_81 rfl rfl dX10_readText_83 rfl ?_
        rw [hf2]
        exact Vr_iret rfl rfl dX10_readText_86 (⟨rfl, hE.tr hE2, fun z => by cases z⟩)
      | inr s =>
        intro r2 σ2 hm
        unfold RpP at hm
        obtain ⟨rfl, hE2, hat2, hf2, hRd2⟩ := hm
        obtain ⟨hO2, hp2, hp3⟩ := stp_PO hO hlt es
        show Vj shM 3 mX10_readText _ 79 _ [] _
        refine Vj_goto (q := 46) dX10_readText_79 (by decide) ?_
        exact ih s.1 s.2.1 s.2.2.1 s.2.2.2 σ2 (by omega) (by omega) (hTx.eqr hE2) hO2 hRd2 hat2 hf2 (hE.tr hE2)
    · rw [pLoop, if_pos (by omega)]
      refine Vj_aloadn (q := 47) dX10_readText_46 rfl rfl rfl ?_
      refine Vj_getI (q := 50) flX10_81 rfl rfl dX10_readText_47 rfl ?_
      rw [hf]
      refine Vj_bipush (q := 52) (v := (-9)) dX10_readText_50 rfl (by decide) ?_
      refine Vj_icmp_ne (q := 55) (tgt := 82) dX10_readText_52 (by decide) rfl (fun hz => absurd rfl hz) (fun _ => ?_)
      refine Vj_aloadn (q := 56) dX10_readText_55 rfl rfl rfl ?_
      refine Vj_getI (q := 59) flX10_84 rfl rfl dX10_readText_56 rfl ?_
      rw [hat]
      refine Vj_aloadn (q := 60) dX10_readText_59 rfl rfl rfl ?_
      refine Vj_getI (q := 63) flX10_78 rfl rfl dX10_readText_60 rfl ?_
      rw [hTx.1]
      refine Vj_icmp_ge (q := 66) (tgt := 82) dX10_readText_63 (by decide) rfl (fun _ => ?_) (fun hz => absurd (nI_le (by omega) (by omega)) hz)
      refine Vj_aloadn (q := 83) dX10_readText_82 rfl rfl rfl ?_
      refine Vj_getI (q := 86) flX10_81 rfl rfl dX10_readText_83 rfl ?_
      rw [hf]
      exact Vr_iret rfl rfl dX10_readText_86 (⟨rfl, hE, fun _ => hRd⟩)
set_option maxRecDepth 100000 in
theorem qX10_readText {tx : List Nat} {σ : Mem} (hTx : TxM tx σ) : Ct shM 3 mX10_readText [.ref 0] σ (fun r σ' => r = some (.int (fI (pText tx).1)) ∧ Eqr σ σ' ∧ ((pText tx).1 = none → RdM (pText tx).2.1 (pText tx).2.2.1 (pText tx).2.2.2 σ')) := by
  obtain ⟨hL, h44, hx⟩ := hTx
  have hTx : TxM tx σ := ⟨hL, h44, hx⟩
  refine Ct.of (by decide) (Nat.le_of_ble_eq_true rfl) (l := [some (.ref 0)]) rfl ?_
  refine Vj_aloadn (q := 1) dX10_readText_0 rfl rfl rfl ?_
  refine Vj_iconst (q := 2) (v := 0) dX10_readText_1 rfl (by decide) ?_
  refine Vj_putI (q := 5) flX10_84 rfl rfl dX10_readText_2 rfl ?_
  refine Vj_aloadn (q := 6) dX10_readText_5 rfl rfl rfl ?_
  refine Vj_bipush (q := 8) (v := (-9)) dX10_readText_6 rfl (by decide) ?_
  refine Vj_putI (q := 11) flX10_81 rfl rfl dX10_readText_8 rfl ?_
  refine Vj_aloadn (q := 12) dX10_readText_11 rfl rfl rfl ?_
  refine Vj_iconst (q := 13) (v := 0) dX10_readText_12 rfl (by decide) ?_
  refine Vj_putI (q := 16) flX10_93 rfl rfl dX10_readText_13 rfl ?_
  refine Vj_aloadn (q := 17) dX10_readText_16 rfl rfl rfl ?_
  refine Vj_iconst (q := 18) (v := 0) dX10_readText_17 rfl (by decide) ?_
  refine Vj_putI (q := 21) flX10_96 rfl rfl dX10_readText_18 rfl ?_
  refine Vj_aloadn (q := 22) dX10_readText_21 rfl rfl rfl ?_
  refine Vj_getI (q := 25) flX10_78 rfl rfl dX10_readText_22 rfl ?_
  rw [show (uI (uI (uI (uI σ 0 19 0) 0 20 (-9)) 0 15 0) 0 16 0).1 0 18 = nI tx.length from hL]
  refine Vj_if_eq (q := 28) (tgt := 39) dX10_readText_25 (by decide) rfl (fun h25 => ?_) (fun h25 => ?_)
  ·
    refine Vj_iconst (q := 40) (v := 0) dX10_readText_39 rfl (by decide) ?_
    refine Vr_iret rfl rfl dX10_readText_40 ?_
    have hR : pText tx = (some 0, [], [], []) := by unfold pText; rw [if_neg (fun z => by have := (nI_z (by omega)).mp h25; omega)]
    rw [hR]
    exact ⟨rfl, (((Eqr.rf.u (q := 0) rfl).u (q := 0) rfl).u (q := 0) rfl).u (q := 0) rfl, fun z => by cases z⟩
  ·
    have h0 : 0 < tx.length := Nat.pos_of_ne_zero fun z => h25 (by rw [z]; rfl)
    refine Vj_aloadn (q := 29) dX10_readText_28 rfl rfl rfl ?_
    refine Vj_getR (q := 32) flX10_37 rfl rfl dX10_readText_29 rfl ?_
    refine Vj_iconst (q := 33) (v := 0) dX10_readText_32 rfl (by decide) ?_
    refine Vj_iald (q := 34) rfl (vp_in_nI (n := 0) (by decide) (by decide)) dX10_readText_33 rfl ?_
    rw [show ((0 : Int32).toNatClampNeg) = 0 from rfl, show (uI (uI (uI (uI σ 0 19 0) 0 20 (-9)) 0 15 0) 0 16 0).1 10 0 = nI (tx.getD 0 0) from (hx 0 h0).1]
    refine Vj_bipush (q := 36) (v := 82) dX10_readText_34 rfl (by decide) ?_
    refine Vj_icmp_eq (q := 39) (tgt := 41) dX10_readText_36 (by decide) rfl (fun h36 => ?_) (fun h36 => ?_)
    ·
      refine Vj_aloadn (q := 42) dX10_readText_41 rfl rfl rfl ?_
      refine Vj_iconst (q := 43) (v := 1) dX10_readText_42 rfl (by decide) ?_
      refine Vj_putI (q := 46) flX10_84 rfl rfl dX10_readText_43 rfl ?_
      have hR : pText tx = pLoop tx 45 1 [] [] [] := by unfold pText; rw [if_pos ⟨h0, (nI_eq (b := 82) (by have := (hx 0 h0).2; omega) (by decide)).mp h36⟩]
      rw [hR]
      exact qX10_readText_loop h44 45 1 [] [] [] _ (by omega) (by decide) (hTx.of rfl rfl) PO_nil ⟨rfl, rfl, fun t ht => absurd ht (Nat.not_lt_zero t), fun b hb => absurd hb (Nat.not_lt_zero b)⟩ rfl rfl (((((Eqr.rf.u (q := 0) rfl).u (q := 0) rfl).u (q := 0) rfl).u (q := 0) rfl).u (q := 0) rfl)
    ·
      refine Vj_iconst (q := 40) (v := 0) dX10_readText_39 rfl (by decide) ?_
      refine Vr_iret rfl rfl dX10_readText_40 ?_
      have hR : pText tx = (some 0, [], [], []) := by unfold pText; rw [if_neg (fun z => h36 (by rw [z.2]; rfl))]
      rw [hR]
      exact ⟨rfl, (((Eqr.rf.u (q := 0) rfl).u (q := 0) rfl).u (q := 0) rfl).u (q := 0) rfl, fun z => by cases z⟩
set_option maxRecDepth 100000 in
theorem qX10_fault {tx : List Nat} {ρ : Rm} {c d p : Nat} {ac : List (Nat × Nat × Nat)} {sl : Nat → Option (Nat × Nat × Nat)} {se : List (Nat × Nat × Nat)} {sd : Int64} {N : Nat} {σ : Mem} (h : RM tx ρ c d p ac sl se sd σ) (hv : okV N ρ c d p ac sl se) : Ct shM 4 mX10_fault [.ref 0] σ (PM (fI (pText tx).1) tx ρ c d p ac sl se sd) := by
  refine Ct.of (by decide) (Nat.le_of_ble_eq_true rfl) (l := [some (.ref 0)]) rfl ?_
  refine Vj_aloadn (q := 1) dX10_fault_0 rfl rfl rfl ?_
  refine Vj_callV (q := 4) (qX10_readText h.1) (by decide) rfl rfl lkX10_107 viX10_readText okX10_readText dX10_fault_1 rfl rfl (Nat.le_of_ble_eq_true rfl) ?_
  rintro r1 σ1 ⟨rfl, hE, -⟩
  show Vj shM 4 mX10_fault _ 4 _ [.int _] σ1
  exact Vr_iret rfl rfl dX10_fault_4 (⟨rfl, h.eqr hE⟩)
