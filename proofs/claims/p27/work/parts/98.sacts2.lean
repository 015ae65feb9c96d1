/-! the law's choices: numbers, marks, and what follows -/
theorem lk_inB {x : Int32} {N : Nat} (hN : N < 2 ^ 31) (h : tb_inB x N = true) : ∃ a, a < N ∧ x = nI a := by
  unfold tb_inB at h
  rw [Bool.and_eq_true, decide_eq_true_eq, decide_eq_true_eq] at h
  have h1 := (fa_le _ _).mp h.1
  have h2 := (fa_lt _ _).mp h.2
  rw [show (0 : Int32).toInt = 0 by decide] at h1
  rw [nI_toInt hN] at h2
  refine ⟨x.toInt.toNat, by omega, ?_⟩
  rw [fa_eq, nI_toInt (by omega)]
  omega
theorem lk_notin {N : Nat} (hN : N < 2 ^ 31) : tb_inB (nI N) N = false := by
  unfold tb_inB
  rw [decide_eq_false (show ¬ nI N < nI N from fun q => (fa_of_lt q).2.2.1 q), Bool.and_false]
theorem lk_stOk {v : Int32} (h : tb_stOk v = true) : ∃ s, s ≤ 2 ∧ v = nI s := by
  obtain ⟨a, ha, hv⟩ := lk_inB (x := v) (N := 3) (by decide) (by
    unfold tb_stOk at h
    unfold tb_inB
    rw [Bool.and_eq_true, decide_eq_true_eq, decide_eq_true_eq] at h ⊢
    refine ⟨h.1, ?_⟩
    have h2 := (fa_le _ _).mp h.2
    rw [fa_lt, nI_toInt (by decide)]
    rw [show (2 : Int32).toInt = 2 by decide] at h2
    omega)
  exact ⟨a, by omega, hv⟩
set_option maxHeartbeats 16000000 in
theorem la_num {l : Launch} {G : jq_G} {ad : Nat → Nat} {X : xs_T} {w h : Nat} {num : Nat → Int32} {mk : Nat → Nat} (hl : l.stackTraces = false) (hI : lk_I w h num mk X) (v1 y : Int32) (o6 o7 o8 o9 o10 o11 : Option Value) : jq_J l G mL_acts (jq_R 26 100 700) (jx_E []) (xj_Ye G 24 ad (xs_pi (fun r X' => r = nI 1 ∧ lk_Z X')) 100 700) 171 [some (.ref (ad 0)), some (.int (v1)), some (.int (y)), some (.ref (ad 21)), some (.ref (ad 22)), some (.ref (ad 23)), o6, o7, o8, o9, o10, o11] [] (24) ad (xs_mem G ad X) (0) (0) := by
  obtain ⟨hL, hA, hC, hn0⟩ := id hI
  obtain ⟨hB, hN, hS⟩ := id hL
  have hk := hB.2.2.2
  have hz := lr_sz hk
  have hn2 : 21 ≤ 24 := by decide
  have s297n : ∀ (A V D : Int32) (o8 : Option Value), (tb_inB A (tb_nc w h) && tb_numOk V) = false → D = (if tb_inB A (tb_nc w h) = true then -102 else -101) → jq_J l G mL_acts (jq_R 26 100 700) (jx_E []) (xj_Ye G 24 ad (xs_pi (fun r X' => r = nI 1 ∧ lk_Z X')) 100 700) 297 [some (.ref (ad 0)), some (.int (v1)), some (.int (y)), some (.ref (ad 21)), some (.ref (ad 22)), some (.ref (ad 23)), some (.int (A)), some (.int (V)), o8, some (.int (D)), o10, o11] [] (24) ad (xs_mem G ad X) (0) (0) := by
    intro A V D o8 hno hD
    have hDle : D ≤ -101 := by rw [hD]; split <;> decide
    refine jq_iload dL_acts_297 rfl ?_
    refine jq_bipush (v := (-101)) dL_acts_299 (by decide) ?_
    refine jq_icmp_le (tgt := 311) dL_acts_301 (by decide) (fun c301 => ?_) (fun c301 => ?_)
    · refine jq_aload_n dL_acts_311 rfl rfl ?_
      refine jq_iconst (v := (nI 1)) dL_acts_312 (by decide) ?_
      refine jq_iload dL_acts_313 rfl ?_
      refine jq_iload dL_acts_315 rfl ?_
      refine xx_sI (M' := mL_tells) (hh := hL_tells) (na := 4) jx_E_ok dL_acts_317 gL_142 ⟨by decide, by decide, by decide +kernel⟩ (c_L_tellsN_no hl hn2 hA.1 A V hno) rfl rfl (Nat.le_of_ble_eq_true rfl) ⟨⟨by decide, by decide⟩, by decide, by decide⟩ (fun v317 X317 h317 => ?_)
      refine jq_iload dL_acts_320 rfl ?_
      refine jq_icmp_ne (tgt := 329) dL_acts_322 (by decide) (fun c322 => ?_) (fun c322 => ?_)
      · exact absurd (h317.1.trans hD.symm) c322
      · refine jq_iconst (v := (nI 1)) dL_acts_325 (by decide) ?_
        refine jq_goto (tgt := 330) dL_acts_326 (by decide) ?_
        exact xj_ireturn dL_acts_330 rfl rfl (⟨by decide, by decide⟩) (by omega) (by omega) (fun _ _ => rfl) (⟨_, rfl, rfl, by rw [h317.2]; exact ⟨w, h, num, mk, hI⟩⟩)
    · exact absurd hDle c301
  have s297y : ∀ (a : Nat) (V : Int32) (o8 : Option Value), a < tb_nc w h → tb_numOk V = true → jq_J l G mL_acts (jq_R 26 100 700) (jx_E []) (xj_Ye G 24 ad (xs_pi (fun r X' => r = nI 1 ∧ lk_Z X')) 100 700) 297 [some (.ref (ad 0)), some (.int (v1)), some (.int (y)), some (.ref (ad 21)), some (.ref (ad 22)), some (.ref (ad 23)), some (.int (nI (a))), some (.int (V)), o8, some (.int (num a)), o10, o11] [] (24) ad (xs_mem G ad X) (0) (0) := by
    intro a V o8 ha hV
    have hia : vp_in (nI a) 9 := vp_inN (by omega) (by decide)
    have hf1 : xs_fr [22] [] X (xs_ai X 22 (upd (X.2.2.1 22) (nI a).toNatClampNeg V)) := xs_fr_ai xs_fr_rf (by decide)
    have hA1 := dv_afr hA hf1
    have hC1 := dv_lcfr hC hf1
    have hN1 : lr_N 24 w h (tb_up num a V) (xs_ai X 22 (upd (X.2.2.1 22) (nI a).toNatClampNeg V)) := ⟨hN.1, fun c hc => by
      rw [nI_clamp (show c < 2 ^ 31 by omega), lk_up1 (by omega)]
      unfold tb_up
      split
      · rfl
      · have := hN.2 c hc
        rw [nI_clamp (by omega)] at this
        exact this⟩
    have hB1 := lr_B_ai (f := upd (X.2.2.1 22) (nI a).toNatClampNeg V) hB (show 21 < 22 by decide)
    have hS1 : lr_S 24 w h 23 mk (xs_ai X 22 (upd (X.2.2.1 22) (nI a).toNatClampNeg V)) := ⟨hS.1, fun c hc => by rw [xs_ai_ne (by decide)]; exact hS.2 c hc⟩
    have hL1 : lk_Lw 24 w h (tb_up num a V) mk (xs_ai X 22 (upd (X.2.2.1 22) (nI a).toNatClampNeg V)) := ⟨hB1, hN1, hS1⟩
    have hup : ∀ c, c < tb_nc w h → tb_numOk (tb_up num a V c) = true := fun c hc => by
      unfold tb_up
      split
      · exact hV
      · exact hn0 c hc
    refine jq_iload dL_acts_297 rfl ?_
    refine jq_bipush (v := (-101)) dL_acts_299 (by decide) ?_
    refine jq_icmp_le (tgt := 311) dL_acts_301 (by decide) (fun c301 => ?_) (fun c301 => ?_)
    · exact absurd c301 (lk_num (hn0 a ha)).2.1
    · refine jq_aload dL_acts_304 rfl ?_
      refine jq_iload dL_acts_306 rfl ?_
      refine jq_iload dL_acts_308 rfl ?_
      refine xq_iast dL_acts_310 (hN.1) (hia) ?_
      refine jq_aload_n dL_acts_311 rfl rfl ?_
      refine jq_iconst (v := (nI 1)) dL_acts_312 (by decide) ?_
      refine jq_iload dL_acts_313 rfl ?_
      refine jq_iload dL_acts_315 rfl ?_
      refine xx_sI (M' := mL_tells) (hh := hL_tells) (na := 4) jx_E_ok dL_acts_317 gL_142 ⟨by decide, by decide, by decide +kernel⟩ (c_L_tellsN_ok hn2 hA1 ha hV) rfl rfl (Nat.le_of_ble_eq_true rfl) ⟨⟨by decide, by decide⟩, by decide, by decide⟩ (fun v317 X317 h317 => ?_)
      refine jq_iload dL_acts_320 rfl ?_
      refine jq_icmp_ne (tgt := 329) dL_acts_322 (by decide) (fun c322 => ?_) (fun c322 => ?_)
      · exact absurd h317.1 c322
      · refine jq_iconst (v := (nI 1)) dL_acts_325 (by decide) ?_
        refine jq_goto (tgt := 330) dL_acts_326 (by decide) ?_
        exact xj_ireturn dL_acts_330 rfl rfl (⟨by decide, by decide⟩) (by omega) (by omega) (fun _ _ => rfl) (⟨_, rfl, rfl, w, h, _, mk, lk_fr hL1 h317.2.1, h317.2.2, dv_lcfr hC1 h317.2.1, hup⟩)
  have s239 : ∀ (A V : Int32) (o8 o9 : Option Value), jq_J l G mL_acts (jq_R 26 100 700) (jx_E []) (xj_Ye G 24 ad (xs_pi (fun r X' => r = nI 1 ∧ lk_Z X')) 100 700) 239 [some (.ref (ad 0)), some (.int (v1)), some (.int (y)), some (.ref (ad 21)), some (.ref (ad 22)), some (.ref (ad 23)), some (.int (A)), some (.int (V)), o8, o9, o10, o11] [] (24) ad (xs_mem G ad X) (0) (0) := by
    intro A V o8 o9
    have s263f : tb_inB A (tb_nc w h) = false → jq_J l G mL_acts (jq_R 26 100 700) (jx_E []) (xj_Ye G 24 ad (xs_pi (fun r X' => r = nI 1 ∧ lk_Z X')) 100 700) 263 [some (.ref (ad 0)), some (.int (v1)), some (.int (y)), some (.ref (ad 21)), some (.ref (ad 22)), some (.ref (ad 23)), some (.int (A)), some (.int (V)), some (.int (nI (0))), o9, o10, o11] [] (24) ad (xs_mem G ad X) (0) (0) := by
      intro hin
      refine jq_iload dL_acts_263 rfl ?_
      refine jq_neZ (tgt := 273) dL_acts_265 (by decide) (by decide) (fun c265 => ?_) (fun c265 => ?_)
      · exact absurd rfl c265
      · refine jq_bipush (v := (-101)) dL_acts_268 (by decide) ?_
        refine jq_goto (tgt := 295) dL_acts_270 (by decide) ?_
        refine jq_istore dL_acts_295 (by decide) rfl rfl ?_
        exact s297n A V (-101) _ (by rw [hin]; rfl) (by rw [hin]; rfl)
    have s263y : tb_inB A (tb_nc w h) = true → jq_J l G mL_acts (jq_R 26 100 700) (jx_E []) (xj_Ye G 24 ad (xs_pi (fun r X' => r = nI 1 ∧ lk_Z X')) 100 700) 263 [some (.ref (ad 0)), some (.int (v1)), some (.int (y)), some (.ref (ad 21)), some (.ref (ad 22)), some (.ref (ad 23)), some (.int (A)), some (.int (V)), some (.int (nI (1))), o9, o10, o11] [] (24) ad (xs_mem G ad X) (0) (0) := by
      intro hin
      obtain ⟨a, ha, rfl⟩ := lk_inB (by omega) hin
      have hia : vp_in (nI a) 9 := vp_inN (by omega) (by decide)
      refine jq_iload dL_acts_263 rfl ?_
      refine jq_neZ (tgt := 273) dL_acts_265 (by decide) (by decide) (fun c265 => ?_) (fun c265 => ?_)
      · refine jq_iload dL_acts_273 rfl ?_
        refine jq_iconst (v := (-1)) dL_acts_275 (by decide) ?_
        refine jq_icmp_lt (tgt := 285) dL_acts_276 (by decide) (fun c276 => ?_) (fun c276 => ?_)
        · have hV : tb_numOk V = false := by unfold tb_numOk; rw [decide_eq_false (fun q => (fa_of_lt c276).2.1 q), Bool.false_and]
          refine jq_bipush (v := (-102)) dL_acts_285 (by decide) ?_
          refine jq_goto (tgt := 295) dL_acts_287 (by decide) ?_
          refine jq_istore dL_acts_295 (by decide) rfl rfl ?_
          first | exact s297y a V _ ha hV | exact s297n _ V (-102) _ (by rw [hV, Bool.and_false]) (by rw [hin]; rfl)
        · have g1 : -1 ≤ V := fa_of_nlt c276
          refine jq_iload dL_acts_279 rfl ?_
          refine jq_iconst (v := 3) dL_acts_281 (by decide) ?_
          refine jq_icmp_le (tgt := 290) dL_acts_282 (by decide) (fun c282 => ?_) (fun c282 => ?_)
          · have hV : tb_numOk V = true := by unfold tb_numOk; rw [decide_eq_true g1, decide_eq_true c282]; rfl
            refine jq_aload dL_acts_290 rfl ?_
            refine jq_iload dL_acts_292 rfl ?_
            refine xq_iald dL_acts_294 (hN.1) (hia) (hN.2 a ha) ?_
            refine jq_istore dL_acts_295 (by decide) rfl rfl ?_
            first | exact s297y a V _ ha hV | exact s297n _ V (-102) _ (by rw [hV, Bool.and_false]) (by rw [hin]; rfl)
          · have hV : tb_numOk V = false := by unfold tb_numOk; rw [decide_eq_false c282, Bool.and_false]
            refine jq_bipush (v := (-102)) dL_acts_285 (by decide) ?_
            refine jq_goto (tgt := 295) dL_acts_287 (by decide) ?_
            refine jq_istore dL_acts_295 (by decide) rfl rfl ?_
            first | exact s297y a V _ ha hV | exact s297n _ V (-102) _ (by rw [hV, Bool.and_false]) (by rw [hin]; rfl)
      · exact absurd c265 (by decide)
    refine jq_iload dL_acts_239 rfl ?_
    refine jq_if_lt (tgt := 260) dL_acts_241 (by decide) (fun c241 => ?_) (fun c241 => ?_)
    · have hgo := s263f (by unfold tb_inB; rw [decide_eq_false (fun q => (fa_of_lt c241).2.1 q), Bool.false_and])
      refine jq_iconst (v := (nI 0)) dL_acts_260 (by decide) ?_
      refine jq_istore dL_acts_261 (by decide) rfl rfl ?_
      exact hgo
    · refine jq_iload dL_acts_244 rfl ?_
      refine jq_aload_n dL_acts_246 rfl rfl ?_
      refine jq_iconst (v := (nI 0)) dL_acts_247 (by decide) ?_
      refine xq_iald dL_acts_248 hB.1 lr_v0 hB.2.1 ?_
      refine jq_aload_n dL_acts_249 rfl rfl ?_
      refine jq_iconst (v := (nI 1)) dL_acts_250 (by decide) ?_
      refine xq_iald dL_acts_251 hB.1 lr_v1 hB.2.2.1 ?_
      refine jq_imulN dL_acts_252 ?_
      refine jq_icmp_ge (tgt := 260) dL_acts_253 (by decide) (fun c253 => ?_) (fun c253 => ?_)
      · have hgo := s263f (by unfold tb_inB; rw [decide_eq_false (show ¬ A < nI (tb_nc w h) from fun q => (fa_of_lt q).2.1 c253), Bool.and_false])
        refine jq_iconst (v := (nI 0)) dL_acts_260 (by decide) ?_
        refine jq_istore dL_acts_261 (by decide) rfl rfl ?_
        exact hgo
      · have hgo := s263y (by unfold tb_inB; rw [decide_eq_true (fa_of_nlt c241), decide_eq_true (show A < nI (tb_nc w h) from fa_of_nle c253)]; rfl)
        refine jq_iconst (v := (nI 1)) dL_acts_256 (by decide) ?_
        refine jq_goto (tgt := 261) dL_acts_257 (by decide) ?_
        refine jq_istore dL_acts_261 (by decide) rfl rfl ?_
        exact hgo
  have s204 : ∀ (A : Int32) (o7 o8 o9 : Option Value), jq_J l G mL_acts (jq_R 26 100 700) (jx_E []) (xj_Ye G 24 ad (xs_pi (fun r X' => r = nI 1 ∧ lk_Z X')) 100 700) 204 [some (.ref (ad 0)), some (.int (v1)), some (.int (y)), some (.ref (ad 21)), some (.ref (ad 22)), some (.ref (ad 23)), some (.int (A)), o7, o8, o9, o10, o11] [] (24) ad (xs_mem G ad X) (0) (0) := by
    intro A o7 o8 o9
    have h19 := lr_sm_lt (y >>> (nI 4 &&& 31)) (show 0 < 19 by decide)
    refine jq_iload_n dL_acts_204 rfl rfl ?_
    refine jq_iconst (v := (nI 4)) dL_acts_205 (by decide) ?_
    refine jq_ishr dL_acts_206 rfl ?_
    refine jq_bipush (v := (nI 19)) dL_acts_207 (by decide) ?_
    refine xq_sI dL_acts_209 kL_135 (c_L_some _ (by decide) (by decide)) rfl rfl (Nat.le_of_ble_eq_true rfl) ⟨⟨by decide, by decide⟩, by decide, by decide⟩ ?_
    refine jq_neZ (tgt := 228) dL_acts_212 (by decide) (by omega) (fun c212 => ?_) (fun c212 => ?_)
    · refine jq_iload_n dL_acts_228 rfl rfl ?_
      refine jq_iconst (v := (nI 4)) dL_acts_229 (by decide) ?_
      refine jq_ishr dL_acts_230 rfl ?_
      refine jq_iconst (v := (nI 5)) dL_acts_231 (by decide) ?_
      refine xq_sI dL_acts_232 kL_135 (c_L_some _ (by decide) (by decide)) rfl rfl (Nat.le_of_ble_eq_true rfl) ⟨⟨by decide, by decide⟩, by decide, by decide⟩ ?_
      refine jq_iconst (v := (nI 1)) dL_acts_235 (by decide) ?_
      refine jq_isub dL_acts_236 ?_
      refine jq_istore dL_acts_237 (by decide) rfl rfl ?_
      exact s239 _ _ _ _
    · refine jq_iload_n dL_acts_215 rfl rfl ?_
      refine jq_iconst (v := (nI 2)) dL_acts_216 (by decide) ?_
      refine xq_sI dL_acts_217 kL_135 (c_L_some _ (by decide) (by decide)) rfl rfl (Nat.le_of_ble_eq_true rfl) ⟨⟨by decide, by decide⟩, by decide, by decide⟩ ?_
      refine jq_bipush (v := (nI 6)) dL_acts_220 (by decide) ?_
      refine jq_imulN dL_acts_222 ?_
      refine jq_iconst (v := (nI 2)) dL_acts_223 (by decide) ?_
      refine jq_isub dL_acts_224 ?_
      refine jq_goto (tgt := 237) dL_acts_225 (by decide) ?_
      refine jq_istore dL_acts_237 (by decide) rfl rfl ?_
      exact s239 _ _ _ _
  have h17 := lr_sm_lt (y >>> (nI 9 &&& 31)) (show 0 < 17 by decide)
  refine jq_iload_n dL_acts_171 rfl rfl ?_
  refine jq_aload_n dL_acts_172 rfl rfl ?_
  refine jq_iconst (v := (nI 0)) dL_acts_173 (by decide) ?_
  refine xq_iald dL_acts_174 hB.1 lr_v0 hB.2.1 ?_
  refine jq_aload_n dL_acts_175 rfl rfl ?_
  refine jq_iconst (v := (nI 1)) dL_acts_176 (by decide) ?_
  refine xq_iald dL_acts_177 hB.1 lr_v1 hB.2.2.1 ?_
  refine jq_imulN dL_acts_178 ?_
  refine jq_iconst (v := (nI 1)) dL_acts_179 (by decide) ?_
  refine jq_iaddN dL_acts_180 ?_
  refine xq_sI dL_acts_181 kL_135 (c_L_some y (by omega) (by omega)) rfl rfl (Nat.le_of_ble_eq_true rfl) ⟨⟨by decide, by decide⟩, by decide, by decide⟩ ?_
  refine jq_iload_n dL_acts_184 rfl rfl ?_
  refine jq_bipush (v := (nI 9)) dL_acts_185 (by decide) ?_
  refine jq_ishr dL_acts_187 rfl ?_
  refine jq_bipush (v := (nI 17)) dL_acts_188 (by decide) ?_
  refine xq_sI dL_acts_190 kL_135 (c_L_some _ (by decide) (by decide)) rfl rfl (Nat.le_of_ble_eq_true rfl) ⟨⟨by decide, by decide⟩, by decide, by decide⟩ ?_
  refine jq_neZ (tgt := 200) dL_acts_193 (by decide) (by omega) (fun c193 => ?_) (fun c193 => ?_)
  · refine jq_iconst (v := (nI 0)) dL_acts_200 (by decide) ?_
    refine jq_isub dL_acts_201 ?_
    refine jq_istore dL_acts_202 (by decide) rfl rfl ?_
    exact s204 _ _ _ _
  · refine jq_iconst (v := (nI 1)) dL_acts_196 (by decide) ?_
    refine jq_goto (tgt := 201) dL_acts_197 (by decide) ?_
    refine jq_isub dL_acts_201 ?_
    refine jq_istore dL_acts_202 (by decide) rfl rfl ?_
    exact s204 _ _ _ _
set_option maxHeartbeats 16000000 in
theorem la_mark {l : Launch} {G : jq_G} {ad : Nat → Nat} {X : xs_T} {w h : Nat} {num : Nat → Int32} {mk : Nat → Nat} (hl : l.stackTraces = false) (hI : lk_I w h num mk X) (v1 y : Int32) (o6 o7 o8 o9 o10 o11 : Option Value) : jq_J l G mL_acts (jq_R 26 100 700) (jx_E []) (xj_Ye G 24 ad (xs_pi (fun r X' => r = nI 1 ∧ lk_Z X')) 100 700) 337 [some (.ref (ad 0)), some (.int (v1)), some (.int (y)), some (.ref (ad 21)), some (.ref (ad 22)), some (.ref (ad 23)), o6, o7, o8, o9, o10, o11] [] (24) ad (xs_mem G ad X) (0) (0) := by
  obtain ⟨hL, hA, hC, hn0⟩ := id hI
  obtain ⟨hB, hN, hS⟩ := id hL
  have hk := hB.2.2.2
  have hz := lr_sz hk
  have hn2 : 21 ≤ 24 := by decide
  have s455n : ∀ (A V D : Int32) (o8 : Option Value), (tb_inB A (tb_ne w h) && tb_stOk V) = false → D = (if tb_inB A (tb_ne w h) = true then -102 else -101) → jq_J l G mL_acts (jq_R 26 100 700) (jx_E []) (xj_Ye G 24 ad (xs_pi (fun r X' => r = nI 1 ∧ lk_Z X')) 100 700) 455 [some (.ref (ad 0)), some (.int (v1)), some (.int (y)), some (.ref (ad 21)), some (.ref (ad 22)), some (.ref (ad 23)), some (.int (A)), some (.int (V)), o8, some (.int (D)), o10, o11] [] (24) ad (xs_mem G ad X) (0) (0) := by
    intro A V D o8 hno hD
    have hDle : D ≤ -101 := by rw [hD]; split <;> decide
    refine jq_iload dL_acts_455 rfl ?_
    refine jq_bipush (v := (-101)) dL_acts_457 (by decide) ?_
    refine jq_icmp_le (tgt := 469) dL_acts_459 (by decide) (fun c459 => ?_) (fun c459 => ?_)
    · refine jq_aload_n dL_acts_469 rfl rfl ?_
      refine jq_iconst (v := (nI 0)) dL_acts_470 (by decide) ?_
      refine jq_iload dL_acts_471 rfl ?_
      refine jq_iload dL_acts_473 rfl ?_
      refine xx_sI (M' := mL_tells) (hh := hL_tells) (na := 4) jx_E_ok dL_acts_475 gL_142 ⟨by decide, by decide, by decide +kernel⟩ (c_L_tellsM_no hl hn2 hA.1 A V hno) rfl rfl (Nat.le_of_ble_eq_true rfl) ⟨⟨by decide, by decide⟩, by decide, by decide⟩ (fun v475 X475 h475 => ?_)
      refine jq_iload dL_acts_478 rfl ?_
      refine jq_icmp_ne (tgt := 487) dL_acts_480 (by decide) (fun c480 => ?_) (fun c480 => ?_)
      · exact absurd (h475.1.trans hD.symm) c480
      · refine jq_iconst (v := (nI 1)) dL_acts_483 (by decide) ?_
        refine jq_goto (tgt := 488) dL_acts_484 (by decide) ?_
        exact xj_ireturn dL_acts_488 rfl rfl (⟨by decide, by decide⟩) (by omega) (by omega) (fun _ _ => rfl) (⟨_, rfl, rfl, by rw [h475.2]; exact ⟨w, h, num, mk, hI⟩⟩)
    · exact absurd hDle c459
  have s455y : ∀ (a s : Nat) (o8 : Option Value), a < tb_ne w h → s ≤ 2 → jq_J l G mL_acts (jq_R 26 100 700) (jx_E []) (xj_Ye G 24 ad (xs_pi (fun r X' => r = nI 1 ∧ lk_Z X')) 100 700) 455 [some (.ref (ad 0)), some (.int (v1)), some (.int (y)), some (.ref (ad 21)), some (.ref (ad 22)), some (.ref (ad 23)), some (.int (nI (a))), some (.int (nI (s))), o8, some (.int (nI (mk a))), o10, o11] [] (24) ad (xs_mem G ad X) (0) (0) := by
    intro a s o8 ha hs
    have hia : vp_in (nI a) 24 := vp_inN (by omega) (by decide)
    have hma := (hS.2 a ha).2
    have hf1 : xs_fr [23] [] X (xs_ai X 23 (upd (X.2.2.1 23) (nI a).toNatClampNeg (nI s))) := xs_fr_ai xs_fr_rf (by decide)
    have hA1 := dv_afr hA hf1
    have hC1 := dv_lcfr hC hf1
    have hS1 : lr_S 24 w h 23 (tb_up mk a s) (xs_ai X 23 (upd (X.2.2.1 23) (nI a).toNatClampNeg (nI s))) := ⟨hS.1, fun c hc => by
      rw [nI_clamp (show c < 2 ^ 31 by omega), lk_up1 (by omega)]
      unfold tb_up
      split
      · exact ⟨rfl, hs⟩
      · have := hS.2 c hc
        rw [nI_clamp (by omega)] at this
        exact this⟩
    have hB1 := lr_B_ai (f := upd (X.2.2.1 23) (nI a).toNatClampNeg (nI s)) hB (show 21 < 23 by decide)
    have hN1 := lr_N_ai (f := upd (X.2.2.1 23) (nI a).toNatClampNeg (nI s)) hN (show 22 < 23 by decide)
    have hL1 : lk_Lw 24 w h num (tb_up mk a s) (xs_ai X 23 (upd (X.2.2.1 23) (nI a).toNatClampNeg (nI s))) := ⟨hB1, hN1, hS1⟩
    have hng : ¬ nI (mk a) ≤ -101 := fun q => by
      have := (fa_le _ _).mp q
      rw [nI_toInt (by omega), show (-101 : Int32).toInt = -101 by decide] at this
      omega
    refine jq_iload dL_acts_455 rfl ?_
    refine jq_bipush (v := (-101)) dL_acts_457 (by decide) ?_
    refine jq_icmp_le (tgt := 469) dL_acts_459 (by decide) (fun c459 => ?_) (fun c459 => ?_)
    · exact absurd c459 hng
    · refine jq_aload dL_acts_462 rfl ?_
      refine jq_iload dL_acts_464 rfl ?_
      refine jq_iload dL_acts_466 rfl ?_
      refine xq_iast dL_acts_468 (hS.1) (hia) ?_
      refine jq_aload_n dL_acts_469 rfl rfl ?_
      refine jq_iconst (v := (nI 0)) dL_acts_470 (by decide) ?_
      refine jq_iload dL_acts_471 rfl ?_
      refine jq_iload dL_acts_473 rfl ?_
      refine xx_sI (M' := mL_tells) (hh := hL_tells) (na := 4) jx_E_ok dL_acts_475 gL_142 ⟨by decide, by decide, by decide +kernel⟩ (c_L_tellsM_ok hn2 hA1 ha hs) rfl rfl (Nat.le_of_ble_eq_true rfl) ⟨⟨by decide, by decide⟩, by decide, by decide⟩ (fun v475 X475 h475 => ?_)
      refine jq_iload dL_acts_478 rfl ?_
      refine jq_icmp_ne (tgt := 487) dL_acts_480 (by decide) (fun c480 => ?_) (fun c480 => ?_)
      · exact absurd h475.1 c480
      · refine jq_iconst (v := (nI 1)) dL_acts_483 (by decide) ?_
        refine jq_goto (tgt := 488) dL_acts_484 (by decide) ?_
        exact xj_ireturn dL_acts_488 rfl rfl (⟨by decide, by decide⟩) (by omega) (by omega) (fun _ _ => rfl) (⟨_, rfl, rfl, w, h, num, _, lk_fr hL1 h475.2.1, h475.2.2, dv_lcfr hC1 h475.2.1, hn0⟩)
  have s401 : ∀ (A V : Int32) (o8 o9 : Option Value), jq_J l G mL_acts (jq_R 26 100 700) (jx_E []) (xj_Ye G 24 ad (xs_pi (fun r X' => r = nI 1 ∧ lk_Z X')) 100 700) 401 [some (.ref (ad 0)), some (.int (v1)), some (.int (y)), some (.ref (ad 21)), some (.ref (ad 22)), some (.ref (ad 23)), some (.int (A)), some (.int (V)), o8, o9, o10, o11] [] (24) ad (xs_mem G ad X) (0) (0) := by
    intro A V o8 o9
    have s422f : tb_inB A (tb_ne w h) = false → jq_J l G mL_acts (jq_R 26 100 700) (jx_E []) (xj_Ye G 24 ad (xs_pi (fun r X' => r = nI 1 ∧ lk_Z X')) 100 700) 422 [some (.ref (ad 0)), some (.int (v1)), some (.int (y)), some (.ref (ad 21)), some (.ref (ad 22)), some (.ref (ad 23)), some (.int (A)), some (.int (V)), some (.int (nI (0))), o9, o10, o11] [] (24) ad (xs_mem G ad X) (0) (0) := by
      intro hin
      refine jq_iload dL_acts_422 rfl ?_
      refine jq_neZ (tgt := 432) dL_acts_424 (by decide) (by decide) (fun c424 => ?_) (fun c424 => ?_)
      · exact absurd rfl c424
      · refine jq_bipush (v := (-101)) dL_acts_427 (by decide) ?_
        refine jq_goto (tgt := 453) dL_acts_429 (by decide) ?_
        refine jq_istore dL_acts_453 (by decide) rfl rfl ?_
        exact s455n A V (-101) _ (by rw [hin]; rfl) (by rw [hin]; rfl)
    have s422y : tb_inB A (tb_ne w h) = true → jq_J l G mL_acts (jq_R 26 100 700) (jx_E []) (xj_Ye G 24 ad (xs_pi (fun r X' => r = nI 1 ∧ lk_Z X')) 100 700) 422 [some (.ref (ad 0)), some (.int (v1)), some (.int (y)), some (.ref (ad 21)), some (.ref (ad 22)), some (.ref (ad 23)), some (.int (A)), some (.int (V)), some (.int (nI (1))), o9, o10, o11] [] (24) ad (xs_mem G ad X) (0) (0) := by
      intro hin
      obtain ⟨a, ha, rfl⟩ := lk_inB (by omega) hin
      have hia : vp_in (nI a) 24 := vp_inN (by omega) (by decide)
      have bad : tb_stOk V = false → ∀ o8, jq_J l G mL_acts (jq_R 26 100 700) (jx_E []) (xj_Ye G 24 ad (xs_pi (fun r X' => r = nI 1 ∧ lk_Z X')) 100 700) 455 [some (.ref (ad 0)), some (.int (v1)), some (.int (y)), some (.ref (ad 21)), some (.ref (ad 22)), some (.ref (ad 23)), some (.int (nI (a))), some (.int (V)), o8, some (.int (-102)), o10, o11] [] (24) ad (xs_mem G ad X) (0) (0) := fun hV o8 => s455n _ V (-102) o8 (by rw [hV, Bool.and_false]) (by rw [hin]; rfl)
      have good : tb_stOk V = true → ∀ o8, jq_J l G mL_acts (jq_R 26 100 700) (jx_E []) (xj_Ye G 24 ad (xs_pi (fun r X' => r = nI 1 ∧ lk_Z X')) 100 700) 455 [some (.ref (ad 0)), some (.int (v1)), some (.int (y)), some (.ref (ad 21)), some (.ref (ad 22)), some (.ref (ad 23)), some (.int (nI (a))), some (.int (V)), o8, some (.int (nI (mk a))), o10, o11] [] (24) ad (xs_mem G ad X) (0) (0) := fun hV o8 => by
        obtain ⟨s, hs, rfl⟩ := lk_stOk hV
        exact s455y a s o8 ha hs
      refine jq_iload dL_acts_422 rfl ?_
      refine jq_neZ (tgt := 432) dL_acts_424 (by decide) (by decide) (fun c424 => ?_) (fun c424 => ?_)
      · refine jq_iload dL_acts_432 rfl ?_
        refine jq_if_lt (tgt := 443) dL_acts_434 (by decide) (fun c434 => ?_) (fun c434 => ?_)
        · have hV := bad (by unfold tb_stOk; rw [decide_eq_false (fun q => (fa_of_lt c434).2.1 q), Bool.false_and])
          refine jq_bipush (v := (-102)) dL_acts_443 (by decide) ?_
          refine jq_goto (tgt := 453) dL_acts_445 (by decide) ?_
          refine jq_istore dL_acts_453 (by decide) rfl rfl ?_
          exact hV _
        · refine jq_iload dL_acts_437 rfl ?_
          refine jq_iconst (v := 2) dL_acts_439 (by decide) ?_
          refine jq_icmp_le (tgt := 448) dL_acts_440 (by decide) (fun c440 => ?_) (fun c440 => ?_)
          · have hV := good (by unfold tb_stOk; rw [decide_eq_true (fa_of_nlt c434), decide_eq_true c440]; rfl)
            refine jq_aload dL_acts_448 rfl ?_
            refine jq_iload dL_acts_450 rfl ?_
            refine xq_iald dL_acts_452 (hS.1) (hia) ((hS.2 a ha).1) ?_
            refine jq_istore dL_acts_453 (by decide) rfl rfl ?_
            exact hV _
          · have hV := bad (by unfold tb_stOk; rw [decide_eq_false c440, Bool.and_false])
            refine jq_bipush (v := (-102)) dL_acts_443 (by decide) ?_
            refine jq_goto (tgt := 453) dL_acts_445 (by decide) ?_
            refine jq_istore dL_acts_453 (by decide) rfl rfl ?_
            exact hV _
      · exact absurd c424 (by decide)
    refine jq_iload dL_acts_401 rfl ?_
    refine jq_if_lt (tgt := 419) dL_acts_403 (by decide) (fun c403 => ?_) (fun c403 => ?_)
    · have hgo := s422f (by unfold tb_inB; rw [decide_eq_false (fun q => (fa_of_lt c403).2.1 q), Bool.false_and])
      refine jq_iconst (v := (nI 0)) dL_acts_419 (by decide) ?_
      refine jq_istore dL_acts_420 (by decide) rfl rfl ?_
      exact hgo
    · refine jq_iload dL_acts_406 rfl ?_
      refine jq_aload_n dL_acts_408 rfl rfl ?_
      refine xq_sI dL_acts_409 kL_32 (c_L_edges hB) rfl rfl (Nat.le_of_ble_eq_true rfl) ⟨⟨by decide, by decide⟩, by decide, by decide⟩ ?_
      refine jq_icmp_ge (tgt := 419) dL_acts_412 (by decide) (fun c412 => ?_) (fun c412 => ?_)
      · have hgo := s422f (by unfold tb_inB; rw [decide_eq_false (show ¬ A < nI (tb_ne w h) from fun q => (fa_of_lt q).2.1 c412), Bool.and_false])
        refine jq_iconst (v := (nI 0)) dL_acts_419 (by decide) ?_
        refine jq_istore dL_acts_420 (by decide) rfl rfl ?_
        exact hgo
      · have hgo := s422y (by unfold tb_inB; rw [decide_eq_true (fa_of_nlt c403), decide_eq_true (show A < nI (tb_ne w h) from fa_of_nle c412)]; rfl)
        refine jq_iconst (v := (nI 1)) dL_acts_415 (by decide) ?_
        refine jq_goto (tgt := 420) dL_acts_416 (by decide) ?_
        refine jq_istore dL_acts_420 (by decide) rfl rfl ?_
        exact hgo
  have s367 : ∀ (A : Int32) (o7 o8 o9 : Option Value), jq_J l G mL_acts (jq_R 26 100 700) (jx_E []) (xj_Ye G 24 ad (xs_pi (fun r X' => r = nI 1 ∧ lk_Z X')) 100 700) 367 [some (.ref (ad 0)), some (.int (v1)), some (.int (y)), some (.ref (ad 21)), some (.ref (ad 22)), some (.ref (ad 23)), some (.int (A)), o7, o8, o9, o10, o11] [] (24) ad (xs_mem G ad X) (0) (0) := by
    intro A o7 o8 o9
    have h20 := lr_sm_lt (y >>> (nI 5 &&& 31)) (show 0 < 20 by decide)
    have h4 := lr_sm_lt (y >>> (nI 5 &&& 31)) (show 0 < 4 by decide)
    refine jq_iload_n dL_acts_367 rfl rfl ?_
    refine jq_iconst (v := (nI 5)) dL_acts_368 (by decide) ?_
    refine jq_ishr dL_acts_369 rfl ?_
    refine jq_bipush (v := (nI 20)) dL_acts_370 (by decide) ?_
    refine xq_sI dL_acts_372 kL_135 (c_L_some _ (by decide) (by decide)) rfl rfl (Nat.le_of_ble_eq_true rfl) ⟨⟨by decide, by decide⟩, by decide, by decide⟩ ?_
    refine jq_neZ (tgt := 390) dL_acts_375 (by decide) (by omega) (fun c375 => ?_) (fun c375 => ?_)
    · refine jq_iload_n dL_acts_390 rfl rfl ?_
      refine jq_iconst (v := (nI 5)) dL_acts_391 (by decide) ?_
      refine jq_ishr dL_acts_392 rfl ?_
      refine jq_iconst (v := (nI 4)) dL_acts_393 (by decide) ?_
      refine xq_sI dL_acts_394 kL_135 (c_L_some _ (by decide) (by decide)) rfl rfl (Nat.le_of_ble_eq_true rfl) ⟨⟨by decide, by decide⟩, by decide, by decide⟩ ?_
      refine jq_iconst (v := (nI 3)) dL_acts_397 (by decide) ?_
      refine jq_iremN dL_acts_398 (⟨by omega, by omega, by omega⟩) ?_
      refine jq_istore dL_acts_399 (by decide) rfl rfl ?_
      exact s401 _ _ _ _
    · refine jq_iload_n dL_acts_378 rfl rfl ?_
      refine jq_iconst (v := (nI 2)) dL_acts_379 (by decide) ?_
      refine xq_sI dL_acts_380 kL_135 (c_L_some _ (by decide) (by decide)) rfl rfl (Nat.le_of_ble_eq_true rfl) ⟨⟨by decide, by decide⟩, by decide, by decide⟩ ?_
      refine jq_iconst (v := (nI 4)) dL_acts_383 (by decide) ?_
      refine jq_imulN dL_acts_384 ?_
      refine jq_iconst (v := (nI 1)) dL_acts_385 (by decide) ?_
      refine jq_isub dL_acts_386 ?_
      refine jq_goto (tgt := 399) dL_acts_387 (by decide) ?_
      refine jq_istore dL_acts_399 (by decide) rfl rfl ?_
      exact s401 _ _ _ _
  have h17 := lr_sm_lt (y >>> (nI 9 &&& 31)) (show 0 < 17 by decide)
  refine jq_iload_n dL_acts_337 rfl rfl ?_
  refine jq_aload_n dL_acts_338 rfl rfl ?_
  refine xq_sI dL_acts_339 kL_32 (c_L_edges hB) rfl rfl (Nat.le_of_ble_eq_true rfl) ⟨⟨by decide, by decide⟩, by decide, by decide⟩ ?_
  refine jq_iconst (v := (nI 1)) dL_acts_342 (by decide) ?_
  refine jq_iaddN dL_acts_343 ?_
  refine xq_sI dL_acts_344 kL_135 (c_L_some y (by omega) (by omega)) rfl rfl (Nat.le_of_ble_eq_true rfl) ⟨⟨by decide, by decide⟩, by decide, by decide⟩ ?_
  refine jq_iload_n dL_acts_347 rfl rfl ?_
  refine jq_bipush (v := (nI 9)) dL_acts_348 (by decide) ?_
  refine jq_ishr dL_acts_350 rfl ?_
  refine jq_bipush (v := (nI 17)) dL_acts_351 (by decide) ?_
  refine xq_sI dL_acts_353 kL_135 (c_L_some _ (by decide) (by decide)) rfl rfl (Nat.le_of_ble_eq_true rfl) ⟨⟨by decide, by decide⟩, by decide, by decide⟩ ?_
  refine jq_neZ (tgt := 363) dL_acts_356 (by decide) (by omega) (fun c356 => ?_) (fun c356 => ?_)
  · refine jq_iconst (v := (nI 0)) dL_acts_363 (by decide) ?_
    refine jq_isub dL_acts_364 ?_
    refine jq_istore dL_acts_365 (by decide) rfl rfl ?_
    exact s367 _ _ _ _
  · refine jq_iconst (v := (nI 1)) dL_acts_359 (by decide) ?_
    refine jq_goto (tgt := 364) dL_acts_360 (by decide) ?_
    refine jq_isub dL_acts_364 ?_
    refine jq_istore dL_acts_365 (by decide) rfl rfl ?_
    exact s367 _ _ _ _
set_option maxHeartbeats 16000000 in
theorem la_wipe {l : Launch} {G : jq_G} {ad : Nat → Nat} {X : xs_T} {w h : Nat} {num : Nat → Int32} {mk : Nat → Nat} (hI : lk_I w h num mk X) (v1 y : Int32) (o6 o7 o8 o9 o10 o11 : Option Value) : jq_J l G mL_acts (jq_R 26 100 700) (jx_E []) (xj_Ye G 24 ad (xs_pi (fun r X' => r = nI 1 ∧ lk_Z X')) 100 700) 503 [some (.ref (ad 0)), some (.int (v1)), some (.int (y)), some (.ref (ad 21)), some (.ref (ad 22)), some (.ref (ad 23)), o6, o7, o8, o9, o10, o11] [] (24) ad (xs_mem G ad X) (0) (0) := by
  obtain ⟨hL, hA, hC, hn0⟩ := id hI
  obtain ⟨hB, hN, hS⟩ := id hL
  have hk := hB.2.2.2
  have hz := lr_sz hk
  have hn : 21 ≤ 24 := by decide
  have hS0 : ∀ how, how ≠ 0 → dv_S w h (fun _ => 0) how = 0 := fun how hh => bm_zero.mpr (fun k _ => beq_eq_false_iff_ne.mpr (fun q => hh q.symm))
  have loop : ∀ (X1 : xs_T), xs_fr [] [(0, 4), (0, 5)] X X1 → X1.2.1 0 4 = lN 0 → X1.2.1 0 5 = lN 0 → ∀ (k e : Nat) (Y : xs_T), e + k = tb_ne w h → xs_fr [23] [] X1 Y → (∀ j, j < e → Y.2.2.1 23 j = nI 0) → jq_J l G mL_acts (jq_R 26 100 700) (jx_E []) (xj_Ye G 24 ad (xs_pi (fun r X' => r = nI 1 ∧ lk_Z X')) 100 700) 510 [some (.ref (ad 0)), some (.int (v1)), some (.int (y)), some (.ref (ad 21)), some (.ref (ad 22)), some (.ref (ad 23)), some (.int (nI (e))), o7, o8, o9, o10, o11] [] (24) ad (xs_mem G ad Y) (0) (0) := by
    intro X1 hf h4 h5 k
    induction k with
    | zero =>
      intro e Y he hfy h0
      have hL1 := lk_fr hL hf
      have hzm := hL1.2.2.1
      have hBY : lr_B 24 w h Y := ⟨⟨by decide, by decide, by rw [(hfy.1 21 0 (by simp)).1]; exact hL1.1.1.2.2⟩, by rw [xs_fa hfy 21]; exact hL1.1.2.1, by rw [xs_fa hfy 21]; exact hL1.1.2.2.1, hk⟩
      have hNY : lr_N 24 w h num Y := ⟨⟨by decide, by decide, by rw [(hfy.1 22 0 (by simp)).1]; exact hL1.2.1.1.2.2⟩, fun c hc => by rw [xs_fa hfy 22]; exact hL1.2.1.2 c hc⟩
      have hSY : lr_S 24 w h 23 (fun _ => 0) Y := ⟨⟨by decide, by decide, by rw [(hfy.1 23 0 (by simp)).1]; exact hzm.2.2⟩, fun c hc => ⟨by rw [nI_clamp (by omega)]; exact h0 c (by omega), Nat.zero_le _⟩⟩
      have hT := hA.1
      have hf2 := xs_fr_tr (xs_fr_mo hf (show _ = true by decide : (([] : List Nat).all (fun q => decide (q ∈ ([23] : List Nat))) && ([(0, 4), (0, 5)] : List (Nat × Nat)).all (fun q => decide (q ∈ ([(0, 4), (0, 5)] : List (Nat × Nat))))) = true)) (xs_fr_mo hfy (by decide))
      have hAY : dv_A w h num (fun _ => 0) Y := ⟨dv_fr hT hf2, dv_nfr hA.2.1 hf2, ⟨by rw [hS0 1 (by decide)]; exact xs_fl hfy 0 4 h4, by rw [hS0 2 (by decide)]; exact xs_fl hfy 0 5 h5⟩, fun _ _ => Nat.zero_le _⟩
      refine jq_iload dL_acts_510 rfl ?_
      refine jq_aload_n dL_acts_512 rfl rfl ?_
      refine xq_sI dL_acts_513 kL_32 (c_L_edges hBY) rfl rfl (Nat.le_of_ble_eq_true rfl) ⟨⟨by decide, by decide⟩, by decide, by decide⟩ ?_
      refine jq_geN (tgt := 531) dL_acts_516 (by decide) ⟨by omega, by omega⟩ (fun c516 => ?_) (fun c516 => ?_)
      · refine jq_iconst (v := (nI 1)) dL_acts_531 (by decide) ?_
        exact xj_ireturn dL_acts_532 rfl rfl (⟨by decide, by decide⟩) (by omega) (by omega) (fun _ _ => rfl) (⟨_, rfl, rfl, w, h, num, _, ⟨hBY, hNY, hSY⟩, hAY, dv_lcfr hC hf2, hn0⟩)
      · exact absurd c516 (by omega)
    | succ k ih =>
      intro e Y he hfy h0
      have hL1 := lk_fr hL hf
      have hie : vp_in (nI e) 24 := vp_inN (by omega) (by decide)
      have hzm : 23 < 24 ∧ 21 ≤ 23 ∧ (Y.1 23 0).toNatClampNeg = 24 := ⟨by decide, by decide, by rw [(hfy.1 23 0 (by simp)).1]; exact hL1.2.2.1.2.2⟩
      have hBY : lr_B 24 w h Y := ⟨⟨by decide, by decide, by rw [(hfy.1 21 0 (by simp)).1]; exact hL1.1.1.2.2⟩, by rw [xs_fa hfy 21]; exact hL1.1.2.1, by rw [xs_fa hfy 21]; exact hL1.1.2.2.1, hk⟩
      refine jq_iload dL_acts_510 rfl ?_
      refine jq_aload_n dL_acts_512 rfl rfl ?_
      refine xq_sI dL_acts_513 kL_32 (c_L_edges hBY) rfl rfl (Nat.le_of_ble_eq_true rfl) ⟨⟨by decide, by decide⟩, by decide, by decide⟩ ?_
      refine jq_geN (tgt := 531) dL_acts_516 (by decide) ⟨by omega, by omega⟩ (fun c516 => ?_) (fun c516 => ?_)
      · exact absurd c516 (by omega)
      · refine jq_aload dL_acts_519 rfl ?_
        refine jq_iload dL_acts_521 rfl ?_
        refine jq_iconst (v := (nI 0)) dL_acts_523 (by decide) ?_
        refine xq_iast dL_acts_524 (hzm) (hie) ?_
        refine jq_iincN dL_acts_525 (by decide) rfl rfl rfl ?_
        refine jq_goto (tgt := 510) dL_acts_528 (by decide) ?_
        refine ih (e + 1) _ (by omega) (xs_fr_ai (q := 23) hfy (by decide)) (fun j hj => ?_)
        rw [lk_up1 (by omega)]
        by_cases z : j = e
        · rw [if_pos z]
        · rw [if_neg z]; exact h0 j (by omega)
  refine jq_aload_n dL_acts_503 rfl rfl ?_
  refine xq_rV dL_acts_504 kL_146 (c_X5_wipe hn) (xs_lt (by decide) hn) ⟨rfl, rfl⟩ rfl rfl (Nat.le_of_ble_eq_true rfl) ⟨⟨by decide, by decide⟩, by decide, by decide⟩ (fun X504 h504 => ?_)
  refine jq_iconst (v := (nI 0)) dL_acts_507 (by decide) ?_
  refine jq_istore dL_acts_508 (by decide) rfl rfl ?_
  exact loop X504 h504.1 h504.2.1 h504.2.2 (tb_ne w h) 0 X504 (by omega) xs_fr_rf (fun j hj => absurd hj (Nat.not_lt_zero j))
