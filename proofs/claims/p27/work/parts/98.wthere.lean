/-! the law's solves: an answer that is there -/
set_option maxHeartbeats 16000000 in
theorem sv_there {l : Launch} {G : jq_G} {ad ad5 : Nat → Nat} {Y : xs_T} {w h : Nat} {num : Nat → Int32} {mk : Nat → Nat} (hl : l.stackTraces = false) (ha5 : ∀ k, k < 24 → ad5 k = ad k) (hI : ls_I w h num mk Y) (hn0 : ∀ c, c < tb_nc w h → tb_numOk (num c) = true) {C aa : Nat} (hC : C < 2 ^ tb_nc w h) (hC0 : C ≠ 0) (haa : aa < tb_cnt2 w h num mk (-1)) (hpk : tb_pk w h num mk (nI aa) = dv_bd w h C) (h0 : dv_bd w h C ≠ 0) (har : lr_ar w h C = true) (hli : lr_li w h num mk C (-1) = dv_bd w h C) (hah : lr_cn (fun S => lr_ok w h num mk (-1) S && lr_ah (lr_li w h num mk S (-1)) (dv_bd w h C)) (2 ^ tb_nc w h - 1) = aa) (y : Int32) (ii iv ce sl : Nat) (hce : ce ≤ 1100) (hsl : sl ≤ 25000) (o13 o18 o19 o20 o21 : Option Value) : jq_J l G mL_solves (jq_R 26 1700 45000) (jx_E []) (xj_Ye G 24 ad (xs_pi (fun r X' => r = nI 1 ∧ lk_Z X')) 1700 45000) 262 [some (.ref (ad5 0)), some (.int (y)), some (.ref (ad5 21)), some (.ref (ad5 22)), some (.ref (ad5 23)), some (.ref (ad5 24)), some (.ref (ad5 25)), some (.ref (ad5 26)), some (.ref (ad5 27)), some (.ref (ad5 28)), some (.int (nI (ii))), some (.int (nI (iv))), some (.int (nI (tb_cnt2 w h num mk (-1)))), o13, some (.int (nI (aa))), some (.long (lN (dv_bd w h C))), none, some (.int (nI (1))), o18, o19, o20, o21] [] (29) ad5 (xs_mem G ad5 Y) (ce) (sl) := by
  have hk := hI.1.1.2.2.2
  have hz := lr_sz hk
  have hn : 21 ≤ 29 := by decide
  have hcn := tb_cnt2_le (lr_W hk) num mk (-1)
  have hnum := lk_nums hn0
  have hC9 : C < 2 ^ 9 := Nat.lt_of_lt_of_le hC (Nat.pow_le_pow_right (by decide) (by omega))
  have hT24 : dv_bd w h C < 2 ^ 24 := Nat.lt_of_lt_of_le dv_bd_lt (Nat.pow_le_pow_right (by decide) (by omega))
  have hT63 : dv_bd w h C < 2 ^ 63 := Nat.lt_trans hT24 (by decide)
  have loop : ∀ (k c : Nat) (Z : xs_T) (o20 o21 : Option Value), c + k = tb_nc w h → ls_I w h num mk Z → jq_J l G mL_solves (jq_R 26 1700 45000) (jx_E []) (xj_Ye G 24 ad (xs_pi (fun r X' => r = nI 1 ∧ lk_Z X')) 1700 45000) 268 [some (.ref (ad5 0)), some (.int (y)), some (.ref (ad5 21)), some (.ref (ad5 22)), some (.ref (ad5 23)), some (.ref (ad5 24)), some (.ref (ad5 25)), some (.ref (ad5 26)), some (.ref (ad5 27)), some (.ref (ad5 28)), some (.int (nI (ii))), some (.int (nI (iv))), some (.int (nI (tb_cnt2 w h num mk (-1)))), o13, some (.int (nI (aa))), some (.long (lN (dv_bd w h C))), none, some (.int (nI (1))), some (.int (nI (bm (fun e => C.testBit e) c))), some (.int (nI (c))), o20, o21] [] (29) ad5 (xs_mem G ad5 Z) (ce + c) (sl + 6 * c) := by
    intro k
    induction k with
    | zero =>
      intro c Z o20 o21 hc hI
      have hB := hI.1.1
      have e1 : c = tb_nc w h := by omega
      subst e1
      rw [bm_self hC]
      refine jq_iload dL_solves_268 rfl ?_
      refine jq_aload_n dL_solves_270 rfl rfl ?_
      refine jq_iconst (v := (nI 0)) dL_solves_271 (by decide) ?_
      refine xq_iald dL_solves_272 hB.1 lr_v0 hB.2.1 ?_
      refine jq_aload_n dL_solves_273 rfl rfl ?_
      refine jq_iconst (v := (nI 1)) dL_solves_274 (by decide) ?_
      refine xq_iald dL_solves_275 hB.1 lr_v1 hB.2.2.1 ?_
      refine jq_imulN dL_solves_276 ?_
      refine jq_geN (tgt := 354) dL_solves_277 (by decide) ⟨by omega, by omega⟩ (fun c277 => ?_) (fun c277 => ?_)
      · refine jq_iload dL_solves_354 rfl ?_
        refine jq_eqZ (tgt := 403) dL_solves_356 (by decide) (by omega) (fun c356 => ?_) (fun c356 => ?_)
        · exact absurd c356 hC0
        · refine jq_aload_n dL_solves_359 rfl rfl ?_
          refine jq_iload dL_solves_360 rfl ?_
          refine xq_sI dL_solves_362 kL_79 (c_L_isArea hB hC) rfl rfl (Nat.le_of_ble_eq_true rfl) (⟨⟨by decide, by decide⟩, by show _ ≤ 1700; omega, by show _ ≤ 45000; omega⟩) ?_
          refine jq_if_eq (tgt := 403) dL_solves_365 (by decide) (fun c365 => ?_) (fun c365 => ?_)
          · exact absurd (tb_b0.mp c365) (by rw [har]; decide)
          · refine jq_aload_n dL_solves_368 rfl rfl ?_
            refine jq_aload dL_solves_369 rfl ?_
            refine jq_aload_n dL_solves_371 rfl rfl ?_
            refine jq_iload dL_solves_372 rfl ?_
            refine jq_iconst (v := (-1)) dL_solves_374 (by decide) ?_
            refine xm_dL dL_solves_375 kL_75 (hli ▸ c_L_lines hB hI.1.2.2 hI.1.2.1 hC (-1)) rfl rfl (Nat.le_of_ble_eq_true rfl) (⟨⟨by decide, by decide⟩, by show _ ≤ 1700; omega, by show _ ≤ 45000; omega⟩) ?_
            refine jq_lload dL_solves_378 rfl ?_
            refine jq_lcmp dL_solves_380 ?_
            rw [ls_cmp]
            refine jq_if_ne (tgt := 403) dL_solves_381 (by decide) (fun c381 => ?_) (fun c381 => ?_)
            · exact absurd rfl c381
            · refine jq_aload_n dL_solves_384 rfl rfl ?_
              refine jq_iconst (v := (nI 5)) dL_solves_385 (by decide) ?_
              refine jq_iload dL_solves_386 rfl ?_
              refine jq_aload_n dL_solves_388 rfl rfl ?_
              refine jq_iconst (v := (nI 0)) dL_solves_389 (by decide) ?_
              refine xq_iald dL_solves_390 hB.1 lr_v0 hB.2.1 ?_
              refine jq_aload_n dL_solves_391 rfl rfl ?_
              refine jq_iconst (v := (nI 1)) dL_solves_392 (by decide) ?_
              refine xq_iald dL_solves_393 hB.1 lr_v1 hB.2.2.1 ?_
              refine jq_imulN dL_solves_394 ?_
              refine xx_sI (M' := mL_of) (hh := hL_of) (na := 4) jx_E_ok dL_solves_395 gL_156 ⟨by decide, by decide, by decide +kernel⟩ (c_L_of5_no hl hn hI.2.1 hI.2.2.1 _ _ (Or.inr (show tb_inB (nI (w * h)) (tb_nc w h) = false from lk_notin (N := tb_nc w h) (by omega)))) rfl rfl (Nat.le_of_ble_eq_true rfl) (⟨⟨by decide, by decide⟩, by show _ ≤ 1700; omega, by show _ ≤ 45000; omega⟩) (fun v395 X395 h395 => ?_)
              obtain ⟨r395, f395, l395⟩ := h395
              have hI2 := ls_frL hI f395 l395
              refine jq_bipush (v := (-101)) dL_solves_398 (by decide) ?_
              refine jq_icmp_eq (tgt := 405) dL_solves_400 (by decide) (fun c400 => ?_) (fun c400 => ?_)
              · refine jq_aload_n dL_solves_405 rfl rfl ?_
                refine jq_aload dL_solves_406 rfl ?_
                refine jq_aload_n dL_solves_408 rfl rfl ?_
                refine jq_iconst (v := (-1)) dL_solves_409 (by decide) ?_
                refine jq_lload dL_solves_410 rfl ?_
                refine jq_aload dL_solves_412 rfl ?_
                refine jq_aload dL_solves_414 rfl ?_
                refine xm_sI dL_solves_416 kL_185 (c_L_answers (qw := 24) (qt := 28) hI2.1.1 hI2.1.2.2 hI2.1.2.1 ⟨by decide, by decide, hI2.2.2.2.1.2.2⟩ ⟨by decide, by decide, hI2.2.2.2.2.2.2.2.2.2⟩ (by decide) (-1) (Nat.lt_trans hT24 (by decide))) rfl rfl (Nat.le_of_ble_eq_true rfl) (⟨⟨by decide, by decide⟩, by show _ ≤ 1700; omega, by show _ ≤ 45000; omega⟩) (fun v416 X416 h416 => ?_)
                obtain ⟨r416, g416⟩ := h416
                have hI3 := ls_fr hI2 g416.1 (dv_afr hI2.2.1 g416.1) (dv_lcfr hI2.2.2.1 g416.1)
                have t3 : X416.2.2.1 28 (nI 3).toNatClampNeg = nI aa := by rw [show (nI 3).toNatClampNeg = 3 by decide, g416.2.2, hah]
                refine jq_pop dL_solves_419 rfl ?_
                refine jq_aload dL_solves_420 rfl ?_
                refine jq_iconst (v := (nI 3)) dL_solves_422 (by decide) ?_
                refine xq_iald dL_solves_423 (hI3.2.2.2.2.2.2.2) (lr_t3) (t3) ?_
                refine jq_iload dL_solves_424 rfl ?_
                refine jq_eqN (tgt := 431) dL_solves_426 (by decide) ⟨by omega, by omega⟩ (fun c426 => ?_) (fun c426 => ?_)
                · refine jq_aload_n dL_solves_431 rfl rfl ?_
                  refine jq_aload dL_solves_432 rfl ?_
                  refine jq_aload_n dL_solves_434 rfl rfl ?_
                  refine jq_aload dL_solves_435 rfl ?_
                  refine jq_aload dL_solves_437 rfl ?_
                  refine jq_aload dL_solves_439 rfl ?_
                  refine jq_aload dL_solves_441 rfl ?_
                  refine xm_sV dL_solves_443 kL_149 (c_L_follow (n := 29) (qs := 25) hI3.1.1 hI3.1.2.2 hI3.1.2.1 hnum ⟨by decide, by decide, hI3.2.2.2.2.1.2.2, hI3.2.2.2.2.2.1, hI3.2.2.2.2.2.2.1, hI3.2.2.2.2.2.2.2.2.2⟩) rfl rfl (Nat.le_of_ble_eq_true rfl) (⟨⟨by decide, by decide⟩, by show _ ≤ 1700; omega, by show _ ≤ 45000; omega⟩) (fun X443 h443 => ?_)
                  have hI4 := ls_fr hI3 h443.1 (dv_afr hI3.2.1 h443.1) (dv_lcfr hI3.2.2.1 h443.1)
                  exact sv_end hl ha5 hI4 hn0 (fun e he => by rw [xs_fa h443.1 24, nI_clamp (by omega), g416.2.1 e (by omega)]; exact congrArg nI (lr_wi_eq hk hnum (fun e he => (hI.1.2.2.2 e he).2) e)) (fun e he => (h443.2.1.2 e he).1) (fun e he => (h443.2.1.2 e he).2) (by omega) y ii iv _ _ (by omega) (by omega) _ _ _ _ _ _ _ _ _
                · exact absurd rfl c426
              · exact absurd r395 c400
      · exact absurd c277 (by omega)
    | succ k ih =>
      intro c Z o20 o21 hc hI
      have hB := hI.1.1
      have hcc : c < tb_nc w h := by omega
      have hsd := tb_sides (lr_W hk) c hcc 2 (by decide)
      have hbl : bm (fun e => C.testBit e) c < 2 ^ 9 := Nat.lt_of_lt_of_le (bm_lt _ _) (Nat.pow_le_pow_right (by decide) (by omega))
      have hlow : bm (fun e => C.testBit e) c ||| (if C.testBit c = true then 1 else 0) * 2 ^ c = bm (fun e => C.testBit e) (c + 1) := by
        rw [bm_step]
        by_cases z : C.testBit c = true
        · rw [if_pos z, if_pos z, Nat.one_mul]
        · rw [if_neg z, if_neg z, Nat.zero_mul, Nat.or_zero]
      have s313 : ∀ (lf : Bool) (Z : xs_T) (o21 : Option Value), ls_I w h num mk Z → lf = (if c % w = 0 then false else C.testBit (c - 1)) → jq_J l G mL_solves (jq_R 26 1700 45000) (jx_E []) (xj_Ye G 24 ad (xs_pi (fun r X' => r = nI 1 ∧ lk_Z X')) 1700 45000) 313 [some (.ref (ad5 0)), some (.int (y)), some (.ref (ad5 21)), some (.ref (ad5 22)), some (.ref (ad5 23)), some (.ref (ad5 24)), some (.ref (ad5 25)), some (.ref (ad5 26)), some (.ref (ad5 27)), some (.ref (ad5 28)), some (.int (nI (ii))), some (.int (nI (iv))), some (.int (nI (tb_cnt2 w h num mk (-1)))), o13, some (.int (nI (aa))), some (.long (lN (dv_bd w h C))), none, some (.int (nI (1))), some (.int (nI (bm (fun e => C.testBit e) c))), some (.int (nI (c))), some (.int (tb_b (C.testBit c))), o21] [.int (nI (if lf = true then 1 else 0))] (29) ad5 (xs_mem G ad5 Z) (ce + (c + 1)) (sl + 6 * (c + 1)) := by
        intro lf Z o21 hI hlf
        have hB := hI.1.1
        have hx : tb_b (C.testBit c) = nI (if lf = true then 1 else 0) ^^^ nI (if (dv_bd w h C).testBit (tb_sid w h c 2) = true then 1 else 0) := by
          rw [ls_side hk hC hcc, ← hlf]
          exact ls_xor _ _
        refine jq_istore dL_solves_313 (by decide) rfl rfl ?_
        refine jq_iload dL_solves_315 rfl ?_
        refine jq_iload dL_solves_317 rfl ?_
        refine jq_lload dL_solves_319 rfl ?_
        refine jq_aload_n dL_solves_321 rfl rfl ?_
        refine jq_iload dL_solves_322 rfl ?_
        refine jq_iconst (v := (nI 2)) dL_solves_324 (by decide) ?_
        refine xq_sI dL_solves_325 kL_29 (c_L_side hB hcc (by decide)) rfl rfl (Nat.le_of_ble_eq_true rfl) (⟨⟨by decide, by decide⟩, by show _ ≤ 1700; omega, by show _ ≤ 45000; omega⟩) ?_
        refine jq_lshr dL_solves_328 (lr_lsh hT63 (by omega)) ?_
        refine jq_lconst (v := (lN 1)) dL_solves_329 (by decide) ?_
        refine jq_land dL_solves_330 ?_
        rw [lr_lb1 hT63]
        refine jq_l2i dL_solves_331 lr_l2i ?_
        refine jq_ixor dL_solves_332 ?_
        refine jq_icmp_eq (tgt := 338) dL_solves_333 (by decide) (fun c333 => ?_) (fun c333 => ?_)
        · refine jq_iload dL_solves_338 rfl ?_
          refine jq_iload dL_solves_340 rfl ?_
          refine jq_iload dL_solves_342 rfl ?_
          refine jq_ishl dL_solves_344 (show tb_b (C.testBit c) <<< (nI c &&& 31) = nI ((if C.testBit c = true then 1 else 0) * 2 ^ c) by rw [ls_b]; exact lr_shl (by omega)) ?_
          refine jq_ior dL_solves_345 ?_
          rw [fa_or, hlow]
          refine jq_istore dL_solves_346 (by decide) rfl rfl ?_
          refine jq_iincN dL_solves_348 (by decide) rfl rfl rfl ?_
          refine jq_goto (tgt := 268) dL_solves_351 (by decide) ?_
          exact ih (c + 1) _ _ _ (by omega) hI
        · exact absurd hx c333
      have hwp : 1 ≤ w := hk.1
      have hw3 : w ≤ 3 := hk.2.1
      have hcp : c % w ≠ 0 → 0 < c := fun q => Nat.pos_of_ne_zero (fun z => q (by rw [z, Nat.zero_mod]))
      refine jq_iload dL_solves_268 rfl ?_
      refine jq_aload_n dL_solves_270 rfl rfl ?_
      refine jq_iconst (v := (nI 0)) dL_solves_271 (by decide) ?_
      refine xq_iald dL_solves_272 hB.1 lr_v0 hB.2.1 ?_
      refine jq_aload_n dL_solves_273 rfl rfl ?_
      refine jq_iconst (v := (nI 1)) dL_solves_274 (by decide) ?_
      refine xq_iald dL_solves_275 hB.1 lr_v1 hB.2.2.1 ?_
      refine jq_imulN dL_solves_276 ?_
      refine jq_geN (tgt := 354) dL_solves_277 (by decide) ⟨by omega, by omega⟩ (fun c277 => ?_) (fun c277 => ?_)
      · exact absurd c277 (by omega)
      · refine jq_aload_n dL_solves_280 rfl rfl ?_
        refine jq_iconst (v := (nI 5)) dL_solves_281 (by decide) ?_
        refine jq_iload dL_solves_282 rfl ?_
        refine jq_iload dL_solves_284 rfl ?_
        refine xx_sI (M' := mL_of) (hh := hL_of) (na := 4) jx_E_ok dL_solves_286 gL_156 ⟨by decide, by decide, by decide +kernel⟩ (c_L_of5_ok hn hI.2.1 hI.2.2.1 _ hcc hC (by rw [hpk]; exact h0) hpk) rfl rfl (Nat.le_of_ble_eq_true rfl) (⟨⟨by decide, by decide⟩, by show _ ≤ 1700; omega, by show _ ≤ 45000; omega⟩) (fun v286 X286 h286 => ?_)
        obtain ⟨r286, f286, l286⟩ := h286
        subst r286
        have hI2 := ls_frL hI f286 l286
        have hB := hI2.1.1
        refine jq_istore dL_solves_289 (by decide) rfl rfl ?_
        refine jq_iload dL_solves_291 rfl ?_
        refine jq_aload_n dL_solves_293 rfl rfl ?_
        refine jq_iconst (v := (nI 0)) dL_solves_294 (by decide) ?_
        refine xq_iald dL_solves_295 hB.1 lr_v0 hB.2.1 ?_
        refine jq_iremN dL_solves_296 (⟨by omega, by omega, by omega⟩) ?_
        refine jq_neZ (tgt := 304) dL_solves_297 (by decide) (by have := Nat.mod_le c w; omega) (fun c297 => ?_) (fun c297 => ?_)
        · refine jq_iload dL_solves_304 rfl ?_
          refine jq_iload dL_solves_306 rfl ?_
          refine jq_iconst (v := (nI 1)) dL_solves_308 (by decide) ?_
          refine jq_isubN dL_solves_309 ((hcp c297)) ?_
          refine jq_ishr dL_solves_310 (lr_shr (by omega) (by omega)) ?_
          refine jq_iconst (v := (nI 1)) dL_solves_311 (by decide) ?_
          refine jq_iand dL_solves_312 ?_
          rw [lr_tb1]
          have hb : (bm (fun e => C.testBit e) c).testBit (c - 1) = C.testBit (c - 1) := by rw [bm_bit, decide_eq_true (show c - 1 < c by have := hcp c297; omega), Bool.true_and]
          rw [hb]
          have hp : C.testBit (c - 1) = (if c % w = 0 then false else C.testBit (c - 1)) := by rw [if_neg c297]
          exact s313 _ _ _ hI2 hp
        · have hp : false = (if c % w = 0 then false else C.testBit (c - 1)) := by rw [if_pos c297]
          refine jq_iconst (v := (nI 0)) dL_solves_300 (by decide) ?_
          refine jq_goto (tgt := 313) dL_solves_301 (by decide) ?_
          exact s313 _ _ _ hI2 hp
  refine jq_iconst (v := (nI 0)) dL_solves_262 (by decide) ?_
  refine jq_istore dL_solves_263 (by decide) rfl rfl ?_
  refine jq_iconst (v := (nI 0)) dL_solves_265 (by decide) ?_
  refine jq_istore dL_solves_266 (by decide) rfl rfl ?_
  exact loop (tb_nc w h) 0 Y _ _ (by omega) hI
