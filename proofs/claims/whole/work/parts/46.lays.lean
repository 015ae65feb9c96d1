theorem tb_m1 : nI 0 - nI 1 < 0 := by decide
theorem tb_row_t {w h e : Nat} (he : e < tb_nf w h) : tb_row w h e = e / w := if_pos he
theorem tb_row_f {w h e : Nat} (he : tb_nf w h ≤ e) : tb_row w h e = (e - tb_nf w h) / (w + 1) := if_neg (Nat.not_lt.mpr he)
theorem tb_col_t {w h e : Nat} (he : e < tb_nf w h) : tb_col w h e = e % w := if_pos he
theorem tb_col_f {w h e : Nat} (he : tb_nf w h ≤ e) : tb_col w h e = (e - tb_nf w h) % (w + 1) := if_neg (Nat.not_lt.mpr he)
theorem tb_rc {w h : Nat} (hW : tb_W w h) : ∀ e, e < tb_ne w h → tb_row w h e ≤ h ∧ tb_col w h e ≤ w ∧ (e < tb_nf w h → tb_col w h e < w) ∧ (tb_nf w h ≤ e → tb_row w h e < h) :=
  tb_all (P := fun w h => ∀ e, e < tb_ne w h → tb_row w h e ≤ h ∧ tb_col w h e ≤ w ∧ (e < tb_nf w h → tb_col w h e < w) ∧ (tb_nf w h ≤ e → tb_row w h e < h)) (by decide +kernel) hW
abbrev rf_SL : List Nat := [22, 23, 24, 25, 26, 27, 28]
abbrev rf_FL : List (Nat × Nat) := [(21, 0), (21, 1), (21, 2), (21, 3), (21, 4)]
set_option maxHeartbeats 4000000 in
theorem c_X6_cellAt {l : Launch} {G : jq_G} {n : Nat} {ad : Nat → Nat} {X : xs_T} (hn : 39 ≤ n) {w h : Nat} (hw : X.1 21 0 = nI w ∧ X.1 21 1 = nI h ∧ X.1 21 2 = nI (tb_nc w h)) (hb : w < 5 ∧ h < 5) (x y : Int32) (v : Nat) (hv : (∃ r c, x = nI r ∧ y = nI c ∧ r < h ∧ c < w ∧ v = r * w + c) ∨ ((x < 0 ∨ nI h ≤ x ∨ y < 0 ∨ nI w ≤ y) ∧ v = tb_nc w h)) : xs_Ct l G mX6_cellAt 1 [.ref (ad 21), .int (x), .int (y)] n ad X (xs_pd (some (.int (nI v))) X) := by
  refine xs_Ct_of (L := [some (.ref (ad 21)), some (.int (x)), some (.int (y))]) rfl (Nat.le_of_ble_eq_true rfl) rfl ?_
  rcases hv with ⟨r, c, rfl, rfl, hr, hc, rfl⟩ | ⟨ho, rfl⟩
  · skip
    refine jq_iload_n dX6_cellAt_0 rfl rfl ?_
    refine jq_if_lt (tgt := 35) dX6_cellAt_1 (by decide) (fun c1 => ?_) (fun c1 => ?_)
    · exact absurd c1 (nI_pos (by omega))
    · refine jq_iload_n dX6_cellAt_4 rfl rfl ?_
      refine jq_aload_n dX6_cellAt_5 rfl rfl ?_
      refine xq_getI fX6_77 dX6_cellAt_6 (xs_lt (by decide) hn) (by decide) hw.2.1 ?_
      refine jq_icmp_ge (tgt := 35) dX6_cellAt_9 (by decide) (fun c9 => ?_) (fun c9 => ?_)
      · exact absurd c9 (nI_ge hr (by omega))
      · refine jq_iload_n dX6_cellAt_12 rfl rfl ?_
        refine jq_if_lt (tgt := 35) dX6_cellAt_13 (by decide) (fun c13 => ?_) (fun c13 => ?_)
        · exact absurd c13 (nI_pos (by omega))
        · refine jq_iload_n dX6_cellAt_16 rfl rfl ?_
          refine jq_aload_n dX6_cellAt_17 rfl rfl ?_
          refine xq_getI fX6_80 dX6_cellAt_18 (xs_lt (by decide) hn) (by decide) hw.1 ?_
          refine jq_icmp_ge (tgt := 35) dX6_cellAt_21 (by decide) (fun c21 => ?_) (fun c21 => ?_)
          · exact absurd c21 (nI_ge hc (by omega))
          · refine jq_iload_n dX6_cellAt_24 rfl rfl ?_
            refine jq_aload_n dX6_cellAt_25 rfl rfl ?_
            refine xq_getI fX6_80 dX6_cellAt_26 (xs_lt (by decide) hn) (by decide) hw.1 ?_
            refine jq_imulN dX6_cellAt_29 ?_
            refine jq_iload_n dX6_cellAt_30 rfl rfl ?_
            refine jq_iaddN dX6_cellAt_31 ?_
            refine jq_goto (tgt := 39) dX6_cellAt_32 (by decide) ?_
            exact xq_ireturn dX6_cellAt_39 rfl rfl (⟨rfl, rfl⟩)
  · skip
    refine jq_iload_n dX6_cellAt_0 rfl rfl ?_
    refine jq_if_lt (tgt := 35) dX6_cellAt_1 (by decide) (fun c1 => ?_) (fun c1 => ?_)
    · refine jq_aload_n dX6_cellAt_35 rfl rfl ?_
      refine xq_getI fX6_71 dX6_cellAt_36 (xs_lt (by decide) hn) (by decide) hw.2.2 ?_
      exact xq_ireturn dX6_cellAt_39 rfl rfl (⟨rfl, rfl⟩)
    · refine jq_iload_n dX6_cellAt_4 rfl rfl ?_
      refine jq_aload_n dX6_cellAt_5 rfl rfl ?_
      refine xq_getI fX6_77 dX6_cellAt_6 (xs_lt (by decide) hn) (by decide) hw.2.1 ?_
      refine jq_icmp_ge (tgt := 35) dX6_cellAt_9 (by decide) (fun c9 => ?_) (fun c9 => ?_)
      · refine jq_aload_n dX6_cellAt_35 rfl rfl ?_
        refine xq_getI fX6_71 dX6_cellAt_36 (xs_lt (by decide) hn) (by decide) hw.2.2 ?_
        exact xq_ireturn dX6_cellAt_39 rfl rfl (⟨rfl, rfl⟩)
      · refine jq_iload_n dX6_cellAt_12 rfl rfl ?_
        refine jq_if_lt (tgt := 35) dX6_cellAt_13 (by decide) (fun c13 => ?_) (fun c13 => ?_)
        · refine jq_aload_n dX6_cellAt_35 rfl rfl ?_
          refine xq_getI fX6_71 dX6_cellAt_36 (xs_lt (by decide) hn) (by decide) hw.2.2 ?_
          exact xq_ireturn dX6_cellAt_39 rfl rfl (⟨rfl, rfl⟩)
        · refine jq_iload_n dX6_cellAt_16 rfl rfl ?_
          refine jq_aload_n dX6_cellAt_17 rfl rfl ?_
          refine xq_getI fX6_80 dX6_cellAt_18 (xs_lt (by decide) hn) (by decide) hw.1 ?_
          refine jq_icmp_ge (tgt := 35) dX6_cellAt_21 (by decide) (fun c21 => ?_) (fun c21 => ?_)
          · refine jq_aload_n dX6_cellAt_35 rfl rfl ?_
            refine xq_getI fX6_71 dX6_cellAt_36 (xs_lt (by decide) hn) (by decide) hw.2.2 ?_
            exact xq_ireturn dX6_cellAt_39 rfl rfl (⟨rfl, rfl⟩)
          · exact absurd ho (by rintro (q | q | q | q); exact c1 q; exact c9 q; exact c13 q; exact c21 q)
set_option maxHeartbeats 8000000 in
theorem c_X6_lays {l : Launch} {G : jq_G} {n : Nat} {ad : Nat → Nat} {X : xs_T} (hn : 39 ≤ n) {w h : Nat} (hW : tb_W w h) : xs_Ct l G mX6_lays 2 [.ref (ad 21), .int (nI (w)), .int (nI (h))] n ad X (xs_pv (fun X' => xs_fr rf_SL rf_FL X X' ∧ rf_T w h X' ∧ rf_M w h (fun _ => 0) X' ∧ rf_N w h (fun _ => -1) X')) := by
  have hz := tb_sizes hW
  have hW2 := hW
  obtain ⟨hw1, hw2, hh1, hh2⟩ := hW2
  -- the cells
  have loop2 : ∀ (k c : Nat) (o5 o6 o7 : Option Value) (Y : xs_T), c + k = tb_nc w h → xs_fr rf_SL rf_FL X Y → (Y.1 21 0 = nI w ∧ Y.1 21 1 = nI h ∧ Y.1 21 2 = nI (tb_nc w h) ∧ Y.1 21 3 = nI (tb_ne w h) ∧ Y.1 21 4 = nI (tb_np w h)) → (∀ j, j < tb_ne w h → Y.2.2.1 22 j = nI (tb_one w h j) ∧ Y.2.2.1 23 j = nI (tb_oth w h j) ∧ Y.2.2.1 24 j = nI (tb_are w h j) ∧ Y.2.2.1 25 j = nI (tb_bes w h j) ∧ Y.2.2.1 28 j = nI 0) → (∀ j, j < c → (∀ s, s < 4 → Y.2.2.1 26 (4 * j + s) = nI (tb_sid w h j s)) ∧ Y.2.2.1 27 j = -1) → jq_J l G mX6_lays (jq_R 2 0 0) jq_E0 (xs_Ye G n ad (xs_pv (fun X' => xs_fr rf_SL rf_FL X X' ∧ rf_T w h X' ∧ rf_M w h (fun _ => 0) X' ∧ rf_N w h (fun _ => -1) X'))) 232 [some (.ref (ad 21)), some (.int (nI (w))), some (.int (nI (h))), some (.int (nI (tb_nf w h))), some (.int (nI (c))), o5, o6, o7] [] n ad (xs_mem G ad Y) 0 0 := by
    intro k
    induction k with
    | zero =>
      intro c o5 o6 o7 Y hk hf hF hY hS
      have hC := hF.2.2.1
      refine jq_iload dX6_lays_232 rfl ?_
      refine jq_aload_n dX6_lays_234 rfl rfl ?_
      refine xq_getI fX6_71 dX6_lays_235 (xs_lt (by decide) hn) (by decide) hC ?_
      refine jq_geN (tgt := 349) dX6_lays_238 (by decide) ⟨by omega, by omega⟩ (fun c238 => ?_) (fun c238 => ?_)
      · exact xq_return rfl dX6_lays_349 rfl (⟨rfl, hf, ⟨hW, hF.1, hF.2.1, hF.2.2.1, hF.2.2.2.1, hF.2.2.2.2, fun e he => (hY e he).1, fun e he => (hY e he).2.1, fun e he => (hY e he).2.2.1, fun e he => (hY e he).2.2.2.1, fun j hj => (hS j (by omega)).1⟩, fun e he => ⟨(hY e he).2.2.2.2, Nat.zero_le _⟩, fun j hj => (hS j (by omega)).2⟩)
      · exact absurd c238 (by omega)
    | succ k ih =>
      intro c o5 o6 o7 Y hk hf hF hY hS
      have hC := hF.2.2.1
      have hi0 : vp_in (nI (4 * c)) 64 := vp_inN (by omega) (by decide)
      have hi1 : vp_in (nI (4 * c + 1)) 64 := vp_inN (by omega) (by decide)
      have hi2 : vp_in (nI (4 * c + 2)) 64 := vp_inN (by omega) (by decide)
      have hi3 : vp_in (nI (4 * c + 3)) 64 := vp_inN (by omega) (by decide)
      have hic : vp_in (nI c) 16 := vp_inN (by omega) (by decide)
      have e0 : c / w * w + c % w = c := by rw [Nat.mul_comm]; exact Nat.div_add_mod c w
      have e1 : (c / w + 1) * w + c % w = c + w := by rw [Nat.succ_mul]; omega
      have hfin : ∀ (o5 o6 o7 : Option Value) (Z : xs_T), xs_fr [26, 27] [] Y Z → (∀ j, j < 4 * c → Z.2.2.1 26 j = Y.2.2.1 26 j) → (∀ j, j < c → Z.2.2.1 27 j = Y.2.2.1 27 j) → (∀ s, s < 4 → Z.2.2.1 26 (4 * c + s) = nI (tb_sid w h c s)) → Z.2.2.1 27 c = -1 → jq_J l G mX6_lays (jq_R 2 0 0) jq_E0 (xs_Ye G n ad (xs_pv (fun X' => xs_fr rf_SL rf_FL X X' ∧ rf_T w h X' ∧ rf_M w h (fun _ => 0) X' ∧ rf_N w h (fun _ => -1) X'))) 343 [some (.ref (ad 21)), some (.int (nI (w))), some (.int (nI (h))), some (.int (nI (tb_nf w h))), some (.int (nI (c))), o5, o6, o7] [] n ad (xs_mem G ad Z) 0 0 := by
        intro o5 o6 o7 Z hfZ h26 h27 hs hn1
        refine jq_iincN dX6_lays_343 (by decide) rfl rfl rfl ?_
        refine jq_goto (tgt := 232) dX6_lays_346 (by decide) ?_
        refine ih (c + 1) _ _ _ Z (by omega) (xs_fr_tr hf (xs_fr_mo hfZ (by decide))) ⟨xs_fi hfZ 21 0 hF.1, xs_fi hfZ 21 1 hF.2.1, xs_fi hfZ 21 2 hF.2.2.1, xs_fi hfZ 21 3 hF.2.2.2.1, xs_fi hfZ 21 4 hF.2.2.2.2⟩ (fun j hj => by rw [xs_fa hfZ 22, xs_fa hfZ 23, xs_fa hfZ 24, xs_fa hfZ 25, xs_fa hfZ 28]; exact hY j hj) (fun j hj => ?_)
        rcases Nat.lt_or_ge j c with q | q
        · exact ⟨fun s hs2 => by rw [h26 _ (by omega)]; exact (hS j q).1 s hs2, by rw [h27 j q]; exact (hS j q).2⟩
        · have : j = c := by omega
          subst this; exact ⟨hs, hn1⟩
      refine jq_iload dX6_lays_232 rfl ?_
      refine jq_aload_n dX6_lays_234 rfl rfl ?_
      refine xq_getI fX6_71 dX6_lays_235 (xs_lt (by decide) hn) (by decide) hC ?_
      refine jq_geN (tgt := 349) dX6_lays_238 (by decide) ⟨by omega, by omega⟩ (fun c238 => ?_) (fun c238 => ?_)
      · exact absurd c238 (by omega)
      · refine jq_iload dX6_lays_241 rfl ?_
        refine jq_iload_n dX6_lays_243 rfl rfl ?_
        refine jq_idivN dX6_lays_244 (⟨by omega, by omega, by omega⟩) ?_
        refine jq_istore dX6_lays_245 (by decide) rfl rfl ?_
        refine jq_iload dX6_lays_247 rfl ?_
        refine jq_iload_n dX6_lays_249 rfl rfl ?_
        refine jq_iremN dX6_lays_250 (⟨by omega, by omega, by omega⟩) ?_
        refine jq_istore dX6_lays_251 (by decide) rfl rfl ?_
        refine jq_aload_n dX6_lays_253 rfl rfl ?_
        refine xq_getR 26 fX6_22 dX6_lays_254 (xs_lt (by decide) hn) (by decide) ?_
        refine jq_iconst (v := (nI 4)) dX6_lays_257 (by decide) ?_
        refine jq_iload dX6_lays_258 rfl ?_
        refine jq_imulN dX6_lays_260 ?_
        refine jq_iload dX6_lays_261 rfl ?_
        refine jq_iload_n dX6_lays_263 rfl rfl ?_
        refine jq_imulN dX6_lays_264 ?_
        refine jq_iload dX6_lays_265 rfl ?_
        refine jq_iaddN dX6_lays_267 ?_
        refine xq_iastore dX6_lays_268 (xs_lt (by decide) hn) rfl hi0 ?_
        refine jq_aload_n dX6_lays_269 rfl rfl ?_
        refine xq_getR 26 fX6_22 dX6_lays_270 (xs_lt (by decide) hn) (by decide) ?_
        refine jq_iconst (v := (nI 4)) dX6_lays_273 (by decide) ?_
        refine jq_iload dX6_lays_274 rfl ?_
        refine jq_imulN dX6_lays_276 ?_
        refine jq_iconst (v := (nI 1)) dX6_lays_277 (by decide) ?_
        refine jq_iaddN dX6_lays_278 ?_
        refine jq_iload dX6_lays_279 rfl ?_
        refine jq_iconst (v := (nI 1)) dX6_lays_281 (by decide) ?_
        refine jq_iaddN dX6_lays_282 ?_
        refine jq_iload_n dX6_lays_283 rfl rfl ?_
        refine jq_imulN dX6_lays_284 ?_
        refine jq_iload dX6_lays_285 rfl ?_
        refine jq_iaddN dX6_lays_287 ?_
        refine xq_iastore dX6_lays_288 (xs_lt (by decide) hn) rfl hi1 ?_
        refine jq_aload_n dX6_lays_289 rfl rfl ?_
        refine xq_getR 26 fX6_22 dX6_lays_290 (xs_lt (by decide) hn) (by decide) ?_
        refine jq_iconst (v := (nI 4)) dX6_lays_293 (by decide) ?_
        refine jq_iload dX6_lays_294 rfl ?_
        refine jq_imulN dX6_lays_296 ?_
        refine jq_iconst (v := (nI 2)) dX6_lays_297 (by decide) ?_
        refine jq_iaddN dX6_lays_298 ?_
        refine jq_iload_n dX6_lays_299 rfl rfl ?_
        refine jq_iload dX6_lays_300 rfl ?_
        refine jq_iload_n dX6_lays_302 rfl rfl ?_
        refine jq_iconst (v := (nI 1)) dX6_lays_303 (by decide) ?_
        refine jq_iaddN dX6_lays_304 ?_
        refine jq_imulN dX6_lays_305 ?_
        refine jq_iaddN dX6_lays_306 ?_
        refine jq_iload dX6_lays_307 rfl ?_
        refine jq_iaddN dX6_lays_309 ?_
        refine xq_iastore dX6_lays_310 (xs_lt (by decide) hn) rfl hi2 ?_
        refine jq_aload_n dX6_lays_311 rfl rfl ?_
        refine xq_getR 26 fX6_22 dX6_lays_312 (xs_lt (by decide) hn) (by decide) ?_
        refine jq_iconst (v := (nI 4)) dX6_lays_315 (by decide) ?_
        refine jq_iload dX6_lays_316 rfl ?_
        refine jq_imulN dX6_lays_318 ?_
        refine jq_iconst (v := (nI 3)) dX6_lays_319 (by decide) ?_
        refine jq_iaddN dX6_lays_320 ?_
        refine jq_aload_n dX6_lays_321 rfl rfl ?_
        refine xq_getR 26 fX6_22 dX6_lays_322 (xs_lt (by decide) hn) (by decide) ?_
        refine jq_iconst (v := (nI 4)) dX6_lays_325 (by decide) ?_
        refine jq_iload dX6_lays_326 rfl ?_
        refine jq_imulN dX6_lays_328 ?_
        refine jq_iconst (v := (nI 2)) dX6_lays_329 (by decide) ?_
        refine jq_iaddN dX6_lays_330 ?_
        refine xq_iaload (v := nI (tb_nf w h + c / w * (w + 1) + c % w)) dX6_lays_331 (xs_lt (by decide) hn) rfl hi2 (xs_rd (by rw [xs_ai_at, xs_upd_at (by omega)]) (by omega)) ?_
        refine jq_iconst (v := (nI 1)) dX6_lays_332 (by decide) ?_
        refine jq_iaddN dX6_lays_333 ?_
        refine xq_iastore dX6_lays_334 (xs_lt (by decide) hn) rfl hi3 ?_
        refine jq_aload_n dX6_lays_335 rfl rfl ?_
        refine xq_getR 27 fX6_25 dX6_lays_336 (xs_lt (by decide) hn) (by decide) ?_
        refine jq_iload dX6_lays_339 rfl ?_
        refine jq_iconst (v := (-1)) dX6_lays_341 (by decide) ?_
        refine xq_iastore dX6_lays_342 (xs_lt (by decide) hn) rfl hic ?_
        refine hfin _ _ _ _ (xs_fr_ai (xs_fr_ai (xs_fr_ai (xs_fr_ai (xs_fr_ai xs_fr_rf (by decide)) (by decide)) (by decide)) (by decide)) (by decide)) (fun j hj => ?_) (fun j hj => ?_) (fun s hs => ?_) ?_
        · rw [xs_ai_ne (by decide), xs_ai_at, xs_upd_ne (by omega) (by omega), xs_ai_at, xs_upd_ne (by omega) (by omega), xs_ai_at, xs_upd_ne (by omega) (by omega), xs_ai_at, xs_upd_ne (by omega) (by omega)]
        · rw [xs_ai_at, xs_upd_ne (by omega) (by omega), xs_ai_ne (by decide), xs_ai_ne (by decide), xs_ai_ne (by decide), xs_ai_ne (by decide)]
        · rw [xs_ai_ne (by decide), xs_ai_at]
          have : s = 0 ∨ s = 1 ∨ s = 2 ∨ s = 3 := by omega
          rcases this with rfl | rfl | rfl | rfl
          · rw [xs_upd_ne (by omega) (by omega), xs_ai_at, xs_upd_ne (by omega) (by omega), xs_ai_at, xs_upd_ne (by omega) (by omega), xs_ai_at, Nat.add_zero, xs_upd_at (by omega), e0]; rfl
          · rw [xs_upd_ne (by omega) (by omega), xs_ai_at, xs_upd_ne (by omega) (by omega), xs_ai_at, xs_upd_at (by omega), e1]; rfl
          · rw [xs_upd_ne (by omega) (by omega), xs_ai_at, xs_upd_at (by omega), Nat.add_assoc]; rfl
          · rw [xs_upd_at (by omega), Nat.add_assoc (tb_nf w h)]; rfl
        · rw [xs_ai_at, xs_upd_at (by omega)]
  -- the edges
  have loop1 : ∀ (k e : Nat) (o5 o6 o7 : Option Value) (Y : xs_T), e + k = tb_ne w h → xs_fr rf_SL rf_FL X Y → (Y.1 21 0 = nI w ∧ Y.1 21 1 = nI h ∧ Y.1 21 2 = nI (tb_nc w h) ∧ Y.1 21 3 = nI (tb_ne w h) ∧ Y.1 21 4 = nI (tb_np w h)) → (∀ j, j < e → Y.2.2.1 22 j = nI (tb_one w h j) ∧ Y.2.2.1 23 j = nI (tb_oth w h j) ∧ Y.2.2.1 24 j = nI (tb_are w h j) ∧ Y.2.2.1 25 j = nI (tb_bes w h j) ∧ Y.2.2.1 28 j = nI 0) → jq_J l G mX6_lays (jq_R 2 0 0) jq_E0 (xs_Ye G n ad (xs_pv (fun X' => xs_fr rf_SL rf_FL X X' ∧ rf_T w h X' ∧ rf_M w h (fun _ => 0) X' ∧ rf_N w h (fun _ => -1) X'))) 48 [some (.ref (ad 21)), some (.int (nI (w))), some (.int (nI (h))), some (.int (nI (tb_nf w h))), some (.int (nI (e))), o5, o6, o7] [] n ad (xs_mem G ad Y) 0 0 := by
    intro k
    induction k with
    | zero =>
      intro e o5 o6 o7 Y hk hf hF hY
      have hE := hF.2.2.2.1
      have e1 : e = tb_ne w h := by omega
      subst e1
      refine jq_iload dX6_lays_48 rfl ?_
      refine jq_aload_n dX6_lays_50 rfl rfl ?_
      refine xq_getI fX6_74 dX6_lays_51 (xs_lt (by decide) hn) (by decide) hE ?_
      refine jq_geN (tgt := 229) dX6_lays_54 (by decide) ⟨by omega, by omega⟩ (fun c54 => ?_) (fun c54 => ?_)
      · refine jq_iconst (v := (nI 0)) dX6_lays_229 (by decide) ?_
        refine jq_istore dX6_lays_230 (by decide) rfl rfl ?_
        exact loop2 (tb_nc w h) 0 _ _ _ Y (by omega) hf hF hY (fun j hj => absurd hj (Nat.not_lt_zero j))
      · exact absurd c54 (by omega)
    | succ k ih =>
      intro e o5 o6 o7 Y hk hf hF hY
      have hE := hF.2.2.2.1
      have he : e < tb_ne w h := by omega
      have hi : vp_in (nI e) 40 := vp_inN (by omega) (by decide)
      obtain ⟨b1, b2, b3, b4⟩ := tb_rc hW e he
      have hfin : ∀ (o5 : Option Value) (Z : xs_T), xs_fr [22, 23, 24, 25, 28] [] Y Z → (∀ j, j < e → Z.2.2.1 22 j = Y.2.2.1 22 j ∧ Z.2.2.1 23 j = Y.2.2.1 23 j ∧ Z.2.2.1 24 j = Y.2.2.1 24 j ∧ Z.2.2.1 25 j = Y.2.2.1 25 j ∧ Z.2.2.1 28 j = Y.2.2.1 28 j) → (Z.2.2.1 22 e = nI (tb_one w h e) ∧ Z.2.2.1 23 e = nI (tb_oth w h e) ∧ Z.2.2.1 24 e = nI (tb_are w h e) ∧ Z.2.2.1 25 e = nI (tb_bes w h e) ∧ Z.2.2.1 28 e = nI 0) → jq_J l G mX6_lays (jq_R 2 0 0) jq_E0 (xs_Ye G n ad (xs_pv (fun X' => xs_fr rf_SL rf_FL X X' ∧ rf_T w h X' ∧ rf_M w h (fun _ => 0) X' ∧ rf_N w h (fun _ => -1) X'))) 223 [some (.ref (ad 21)), some (.int (nI (w))), some (.int (nI (h))), some (.int (nI (tb_nf w h))), some (.int (nI (e))), o5, some (.int (nI (tb_row w h e))), some (.int (nI (tb_col w h e)))] [] n ad (xs_mem G ad Z) 0 0 := by
        intro o5 Z hfZ hZ hv
        refine jq_iincN dX6_lays_223 (by decide) rfl rfl rfl ?_
        refine jq_goto (tgt := 48) dX6_lays_226 (by decide) ?_
        refine ih (e + 1) _ _ _ Z (by omega) (xs_fr_tr hf (xs_fr_mo hfZ (by decide))) ⟨xs_fi hfZ 21 0 hF.1, xs_fi hfZ 21 1 hF.2.1, xs_fi hfZ 21 2 hF.2.2.1, xs_fi hfZ 21 3 hF.2.2.2.1, xs_fi hfZ 21 4 hF.2.2.2.2⟩ (fun j hj => ?_)
        rcases Nat.lt_or_ge j e with q | q
        · obtain ⟨z1, z2, z3, z4, z5⟩ := hZ j q
          rw [z1, z2, z3, z4, z5]; exact hY j q
        · rw [show j = e by omega]; exact hv
      -- beside and the mark, behind the three other rows
      have h200 : ∀ (o5 : Option Value) (Z : xs_T), xs_fr [22, 23, 24] [] Y Z → (∀ j, j < e → Z.2.2.1 22 j = Y.2.2.1 22 j ∧ Z.2.2.1 23 j = Y.2.2.1 23 j ∧ Z.2.2.1 24 j = Y.2.2.1 24 j) → (Z.2.2.1 22 e = nI (tb_one w h e) ∧ Z.2.2.1 23 e = nI (tb_oth w h e) ∧ Z.2.2.1 24 e = nI (tb_are w h e)) → jq_J l G mX6_lays (jq_R 2 0 0) jq_E0 (xs_Ye G n ad (xs_pv (fun X' => xs_fr rf_SL rf_FL X X' ∧ rf_T w h X' ∧ rf_M w h (fun _ => 0) X' ∧ rf_N w h (fun _ => -1) X'))) 200 [some (.ref (ad 21)), some (.int (nI (w))), some (.int (nI (h))), some (.int (nI (tb_nf w h))), some (.int (nI (e))), o5, some (.int (nI (tb_row w h e))), some (.int (nI (tb_col w h e)))] [] n ad (xs_mem G ad Z) 0 0 := by
        intro o5 Z hfZ hZ hv
        have hbes : (∃ r c, nI (tb_row w h e) = nI r ∧ nI (tb_col w h e) = nI c ∧ r < h ∧ c < w ∧ tb_bes w h e = r * w + c) ∨ ((nI (tb_row w h e) < 0 ∨ nI h ≤ nI (tb_row w h e) ∨ nI (tb_col w h e) < 0 ∨ nI w ≤ nI (tb_col w h e)) ∧ tb_bes w h e = tb_nc w h) := by
          unfold tb_bes
          by_cases q : e < tb_nf w h
          · rw [if_pos q]
            by_cases q2 : tb_row w h e < h
            · rw [if_pos q2]; exact Or.inl ⟨_, _, rfl, rfl, q2, b3 q, rfl⟩
            · rw [if_neg q2]; exact Or.inr ⟨Or.inr (Or.inl (nI_le (by omega) (by omega))), rfl⟩
          · rw [if_neg q]
            by_cases q2 : tb_col w h e < w
            · rw [if_pos q2]; exact Or.inl ⟨_, _, rfl, rfl, b4 (by omega), q2, rfl⟩
            · rw [if_neg q2]; exact Or.inr ⟨Or.inr (Or.inr (Or.inr (nI_le (by omega) (by omega)))), rfl⟩
        refine jq_aload_n dX6_lays_200 rfl rfl ?_
        refine xq_getR 25 fX6_19 dX6_lays_201 (xs_lt (by decide) hn) (by decide) ?_
        refine jq_iload dX6_lays_204 rfl ?_
        refine jq_aload_n dX6_lays_206 rfl rfl ?_
        refine jq_iload dX6_lays_207 rfl ?_
        refine jq_iload dX6_lays_209 rfl ?_
        refine xq_vI dX6_lays_211 kX6_86 (c_X6_cellAt hn ⟨xs_fi hfZ 21 0 hF.1, xs_fi hfZ 21 1 hF.2.1, xs_fi hfZ 21 2 hF.2.2.1⟩ ⟨by omega, by omega⟩ _ _ _ hbes) (xs_lt (by decide) hn) ⟨rfl, rfl⟩ rfl rfl (Nat.le_of_ble_eq_true rfl) ⟨⟨by decide, by decide⟩, Nat.le_refl _, Nat.le_refl _⟩ ?_
        refine xq_iastore dX6_lays_214 (xs_lt (by decide) hn) rfl hi ?_
        refine jq_aload_n dX6_lays_215 rfl rfl ?_
        refine xq_getR 28 fX6_28 dX6_lays_216 (xs_lt (by decide) hn) (by decide) ?_
        refine jq_iload dX6_lays_219 rfl ?_
        refine jq_iconst (v := (nI 0)) dX6_lays_221 (by decide) ?_
        refine xq_iastore dX6_lays_222 (xs_lt (by decide) hn) rfl hi ?_
        refine hfin _ _ (xs_fr_ai (xs_fr_ai (xs_fr_mo hfZ (by decide)) (by decide)) (by decide)) (fun j hj => ?_) ?_
        · obtain ⟨z1, z2, z3⟩ := hZ j hj
          refine ⟨?_, ?_, ?_, ?_, ?_⟩
          · rw [xs_ai_ne (by decide), xs_ai_ne (by decide)]; exact z1
          · rw [xs_ai_ne (by decide), xs_ai_ne (by decide)]; exact z2
          · rw [xs_ai_ne (by decide), xs_ai_ne (by decide)]; exact z3
          · rw [xs_ai_ne (by decide), xs_ai_at, xs_upd_ne (by omega) (by omega), xs_fa hfZ 25]
          · rw [xs_ai_at, xs_upd_ne (by omega) (by omega), xs_ai_ne (by decide), xs_fa hfZ 28]
        · refine ⟨?_, ?_, ?_, ?_, ?_⟩
          · rw [xs_ai_ne (by decide), xs_ai_ne (by decide)]; exact hv.1
          · rw [xs_ai_ne (by decide), xs_ai_ne (by decide)]; exact hv.2.1
          · rw [xs_ai_ne (by decide), xs_ai_ne (by decide)]; exact hv.2.2
          · rw [xs_ai_ne (by decide), xs_ai_at, xs_upd_at (by omega)]
          · rw [xs_ai_at, xs_upd_at (by omega)]
      -- the area on the one side is written
      have h199 : ∀ (o5 : Option Value) (Z : xs_T), xs_fr [22, 23] [] Y Z → (∀ j, j < e → Z.2.2.1 22 j = Y.2.2.1 22 j ∧ Z.2.2.1 23 j = Y.2.2.1 23 j) → (Z.2.2.1 22 e = nI (tb_one w h e) ∧ Z.2.2.1 23 e = nI (tb_oth w h e)) → jq_J l G mX6_lays (jq_R 2 0 0) jq_E0 (xs_Ye G n ad (xs_pv (fun X' => xs_fr rf_SL rf_FL X X' ∧ rf_T w h X' ∧ rf_M w h (fun _ => 0) X' ∧ rf_N w h (fun _ => -1) X'))) 199 [some (.ref (ad 21)), some (.int (nI (w))), some (.int (nI (h))), some (.int (nI (tb_nf w h))), some (.int (nI (e))), o5, some (.int (nI (tb_row w h e))), some (.int (nI (tb_col w h e)))] [.int (nI (tb_are w h e)), .int (nI (e)), .ref (ad 24)] n ad (xs_mem G ad Z) 0 0 := by
        intro o5 Z hfZ hZ hv
        refine xq_iastore dX6_lays_199 (xs_lt (by decide) hn) rfl hi ?_
        refine h200 _ _ (xs_fr_ai (xs_fr_mo hfZ (by decide)) (by decide)) (fun j hj => ⟨?_, ?_, ?_⟩) ⟨?_, ?_, ?_⟩
        · rw [xs_ai_ne (by decide)]; exact (hZ j hj).1
        · rw [xs_ai_ne (by decide)]; exact (hZ j hj).2
        · rw [xs_ai_at, xs_upd_ne (by omega) (by omega), xs_fa hfZ 24]
        · rw [xs_ai_ne (by decide)]; exact hv.1
        · rw [xs_ai_ne (by decide)]; exact hv.2
        · rw [xs_ai_at, xs_upd_at (by omega)]
      -- the other point is written
      have h164 : ∀ (b : Int32) (Z : xs_T), ((b = 1 ∧ e < tb_nf w h) ∨ (b = 0 ∧ tb_nf w h ≤ e)) → xs_fr [22] [] Y Z → (∀ j, j < e → Z.2.2.1 22 j = Y.2.2.1 22 j) → Z.2.2.1 22 e = nI (tb_one w h e) → jq_J l G mX6_lays (jq_R 2 0 0) jq_E0 (xs_Ye G n ad (xs_pv (fun X' => xs_fr rf_SL rf_FL X X' ∧ rf_T w h X' ∧ rf_M w h (fun _ => 0) X' ∧ rf_N w h (fun _ => -1) X'))) 164 [some (.ref (ad 21)), some (.int (nI (w))), some (.int (nI (h))), some (.int (nI (tb_nf w h))), some (.int (nI (e))), some (.int (b)), some (.int (nI (tb_row w h e))), some (.int (nI (tb_col w h e)))] [.int (nI (tb_oth w h e)), .int (nI (e)), .ref (ad 23)] n ad (xs_mem G ad Z) 0 0 := by
        intro b Z hb hfZ hZ hv
        have hfU : xs_fr [22, 23] [] Y (xs_ai Z 23 (upd (Z.2.2.1 23) (nI e).toNatClampNeg (nI (tb_oth w h e)))) := xs_fr_ai (xs_fr_mo hfZ (by decide)) (by decide)
        have h199' := h199 (some (.int b)) _ hfU (fun j hj => ⟨by rw [xs_ai_ne (by decide)]; exact hZ j hj, by rw [xs_ai_at, xs_upd_ne (by omega) (by omega), xs_fa hfZ 23]⟩) ⟨by rw [xs_ai_ne (by decide)]; exact hv, by rw [xs_ai_at, xs_upd_at (by omega)]⟩
        have hcw : (xs_ai Z 23 (upd (Z.2.2.1 23) (nI e).toNatClampNeg (nI (tb_oth w h e)))).1 21 0 = nI w ∧ (xs_ai Z 23 (upd (Z.2.2.1 23) (nI e).toNatClampNeg (nI (tb_oth w h e)))).1 21 1 = nI h ∧ (xs_ai Z 23 (upd (Z.2.2.1 23) (nI e).toNatClampNeg (nI (tb_oth w h e)))).1 21 2 = nI (tb_nc w h) := ⟨xs_fi hfU 21 0 hF.1, xs_fi hfU 21 1 hF.2.1, xs_fi hfU 21 2 hF.2.2.1⟩
        have hare1 : e < tb_nf w h → ((∃ r c, nI (tb_row w h e) - nI 1 = nI r ∧ nI (tb_col w h e) = nI c ∧ r < h ∧ c < w ∧ tb_are w h e = r * w + c) ∨ ((nI (tb_row w h e) - nI 1 < 0 ∨ nI h ≤ nI (tb_row w h e) - nI 1 ∨ nI (tb_col w h e) < 0 ∨ nI w ≤ nI (tb_col w h e)) ∧ tb_are w h e = tb_nc w h)) := by
          intro q
          unfold tb_are
          rw [if_pos q]
          by_cases q2 : 0 < tb_row w h e
          · rw [if_pos q2]; exact Or.inl ⟨tb_row w h e - 1, _, pk_sub q2, rfl, by omega, b3 q, rfl⟩
          · rw [if_neg q2]; exact Or.inr ⟨Or.inl (by rw [show tb_row w h e = 0 by omega]; exact tb_m1), rfl⟩
        have hare2 : tb_nf w h ≤ e → ((∃ r c, nI (tb_row w h e) = nI r ∧ nI (tb_col w h e) - nI 1 = nI c ∧ r < h ∧ c < w ∧ tb_are w h e = r * w + c) ∨ ((nI (tb_row w h e) < 0 ∨ nI h ≤ nI (tb_row w h e) ∨ nI (tb_col w h e) - nI 1 < 0 ∨ nI w ≤ nI (tb_col w h e) - nI 1) ∧ tb_are w h e = tb_nc w h)) := by
          intro q
          unfold tb_are
          rw [if_neg (by omega)]
          by_cases q2 : 0 < tb_col w h e
          · rw [if_pos q2]; exact Or.inl ⟨_, tb_col w h e - 1, rfl, pk_sub q2, b4 q, by omega, rfl⟩
          · rw [if_neg q2]; exact Or.inr ⟨Or.inr (Or.inr (Or.inl (by rw [show tb_col w h e = 0 by omega]; exact tb_m1))), rfl⟩
        rcases hb with ⟨rfl, q⟩ | ⟨rfl, q⟩
        · skip
          refine xq_iastore dX6_lays_164 (xs_lt (by decide) hn) rfl hi ?_
          refine jq_aload_n dX6_lays_165 rfl rfl ?_
          refine xq_getR 24 fX6_16 dX6_lays_166 (xs_lt (by decide) hn) (by decide) ?_
          refine jq_iload dX6_lays_169 rfl ?_
          refine jq_iload dX6_lays_171 rfl ?_
          refine jq_if_eq (tgt := 189) dX6_lays_173 (by decide) (fun c173 => ?_) (fun c173 => ?_)
          · exact absurd c173 (by decide)
          · refine jq_aload_n dX6_lays_176 rfl rfl ?_
            refine jq_iload dX6_lays_177 rfl ?_
            refine jq_iconst (v := (nI 1)) dX6_lays_179 (by decide) ?_
            refine jq_isub dX6_lays_180 ?_
            refine jq_iload dX6_lays_181 rfl ?_
            refine xq_vI dX6_lays_183 kX6_86 (c_X6_cellAt hn hcw ⟨by omega, by omega⟩ _ _ _ (hare1 q)) (xs_lt (by decide) hn) ⟨rfl, rfl⟩ rfl rfl (Nat.le_of_ble_eq_true rfl) ⟨⟨by decide, by decide⟩, Nat.le_refl _, Nat.le_refl _⟩ ?_
            refine jq_goto (tgt := 199) dX6_lays_186 (by decide) ?_
            exact h199'
        · skip
          refine xq_iastore dX6_lays_164 (xs_lt (by decide) hn) rfl hi ?_
          refine jq_aload_n dX6_lays_165 rfl rfl ?_
          refine xq_getR 24 fX6_16 dX6_lays_166 (xs_lt (by decide) hn) (by decide) ?_
          refine jq_iload dX6_lays_169 rfl ?_
          refine jq_iload dX6_lays_171 rfl ?_
          refine jq_if_eq (tgt := 189) dX6_lays_173 (by decide) (fun c173 => ?_) (fun c173 => ?_)
          · refine jq_aload_n dX6_lays_189 rfl rfl ?_
            refine jq_iload dX6_lays_190 rfl ?_
            refine jq_iload dX6_lays_192 rfl ?_
            refine jq_iconst (v := (nI 1)) dX6_lays_194 (by decide) ?_
            refine jq_isub dX6_lays_195 ?_
            refine xq_vI dX6_lays_196 kX6_86 (c_X6_cellAt hn hcw ⟨by omega, by omega⟩ _ _ _ (hare2 q)) (xs_lt (by decide) hn) ⟨rfl, rfl⟩ rfl rfl (Nat.le_of_ble_eq_true rfl) ⟨⟨by decide, by decide⟩, Nat.le_refl _, Nat.le_refl _⟩ ?_
            exact h199'
          · exact absurd rfl c173
      have h114 : ∀ (b : Int32), ((b = 1 ∧ e < tb_nf w h) ∨ (b = 0 ∧ tb_nf w h ≤ e)) → jq_J l G mX6_lays (jq_R 2 0 0) jq_E0 (xs_Ye G n ad (xs_pv (fun X' => xs_fr rf_SL rf_FL X X' ∧ rf_T w h X' ∧ rf_M w h (fun _ => 0) X' ∧ rf_N w h (fun _ => -1) X'))) 114 [some (.ref (ad 21)), some (.int (nI (w))), some (.int (nI (h))), some (.int (nI (tb_nf w h))), some (.int (nI (e))), some (.int (b)), some (.int (nI (tb_row w h e))), some (.int (nI (tb_col w h e)))] [] n ad (xs_mem G ad Y) 0 0 := by
        intro b hb
        have hfU : xs_fr [22] [] Y (xs_ai Y 22 (upd (Y.2.2.1 22) (nI e).toNatClampNeg (nI (tb_one w h e)))) := xs_fr_ai xs_fr_rf (by decide)
        have h164' := h164 b _ hb hfU (fun j hj => by rw [xs_ai_at, xs_upd_ne (by omega) (by omega)]) (by rw [xs_ai_at, xs_upd_at (by omega)])
        have hrd : (xs_ai Y 22 (upd (Y.2.2.1 22) (nI e).toNatClampNeg (nI (tb_one w h e)))).2.2.1 22 e = nI (tb_one w h e) := by rw [xs_ai_at, xs_upd_at (by omega)]
        rcases hb with ⟨rfl, q⟩ | ⟨rfl, q⟩
        · skip
          refine jq_aload_n dX6_lays_114 rfl rfl ?_
          refine xq_getR 22 fX6_7 dX6_lays_115 (xs_lt (by decide) hn) (by decide) ?_
          refine jq_iload dX6_lays_118 rfl ?_
          refine jq_iload dX6_lays_120 rfl ?_
          refine jq_iload_n dX6_lays_122 rfl rfl ?_
          refine jq_iconst (v := (nI 1)) dX6_lays_123 (by decide) ?_
          refine jq_iaddN dX6_lays_124 ?_
          refine jq_imulN dX6_lays_125 ?_
          refine jq_iload dX6_lays_126 rfl ?_
          refine jq_iaddN dX6_lays_128 ?_
          refine xq_iastore dX6_lays_129 (xs_lt (by decide) hn) rfl hi ?_
          refine jq_aload_n dX6_lays_130 rfl rfl ?_
          refine xq_getR 23 fX6_13 dX6_lays_131 (xs_lt (by decide) hn) (by decide) ?_
          refine jq_iload dX6_lays_134 rfl ?_
          refine jq_iload dX6_lays_136 rfl ?_
          refine jq_if_eq (tgt := 153) dX6_lays_138 (by decide) (fun c138 => ?_) (fun c138 => ?_)
          · exact absurd c138 (by decide)
          · refine jq_aload_n dX6_lays_141 rfl rfl ?_
            refine xq_getR 22 fX6_7 dX6_lays_142 (xs_lt (by decide) hn) (by decide) ?_
            refine jq_iload dX6_lays_145 rfl ?_
            refine xq_iaload dX6_lays_147 (xs_lt (by decide) hn) rfl hi (xs_rd hrd (by omega)) ?_
            refine jq_iconst (v := (nI 1)) dX6_lays_148 (by decide) ?_
            refine jq_iaddN dX6_lays_149 ?_
            refine jq_goto (tgt := 164) dX6_lays_150 (by decide) ?_
            exact xs_nm (congrArg nI (by unfold tb_oth; rw [if_pos q])) h164'
        · skip
          refine jq_aload_n dX6_lays_114 rfl rfl ?_
          refine xq_getR 22 fX6_7 dX6_lays_115 (xs_lt (by decide) hn) (by decide) ?_
          refine jq_iload dX6_lays_118 rfl ?_
          refine jq_iload dX6_lays_120 rfl ?_
          refine jq_iload_n dX6_lays_122 rfl rfl ?_
          refine jq_iconst (v := (nI 1)) dX6_lays_123 (by decide) ?_
          refine jq_iaddN dX6_lays_124 ?_
          refine jq_imulN dX6_lays_125 ?_
          refine jq_iload dX6_lays_126 rfl ?_
          refine jq_iaddN dX6_lays_128 ?_
          refine xq_iastore dX6_lays_129 (xs_lt (by decide) hn) rfl hi ?_
          refine jq_aload_n dX6_lays_130 rfl rfl ?_
          refine xq_getR 23 fX6_13 dX6_lays_131 (xs_lt (by decide) hn) (by decide) ?_
          refine jq_iload dX6_lays_134 rfl ?_
          refine jq_iload dX6_lays_136 rfl ?_
          refine jq_if_eq (tgt := 153) dX6_lays_138 (by decide) (fun c138 => ?_) (fun c138 => ?_)
          · refine jq_aload_n dX6_lays_153 rfl rfl ?_
            refine xq_getR 22 fX6_7 dX6_lays_154 (xs_lt (by decide) hn) (by decide) ?_
            refine jq_iload dX6_lays_157 rfl ?_
            refine xq_iaload dX6_lays_159 (xs_lt (by decide) hn) rfl hi (xs_rd hrd (by omega)) ?_
            refine jq_iload_n dX6_lays_160 rfl rfl ?_
            refine jq_iaddN dX6_lays_161 ?_
            refine jq_iconst (v := (nI 1)) dX6_lays_162 (by decide) ?_
            refine jq_iaddN dX6_lays_163 ?_
            exact xs_nm (congrArg nI (by unfold tb_oth; rw [if_neg (by omega)])) h164'
          · exact absurd rfl c138
      refine jq_iload dX6_lays_48 rfl ?_
      refine jq_aload_n dX6_lays_50 rfl rfl ?_
      refine xq_getI fX6_74 dX6_lays_51 (xs_lt (by decide) hn) (by decide) hE ?_
      refine jq_geN (tgt := 229) dX6_lays_54 (by decide) ⟨by omega, by omega⟩ (fun c54 => ?_) (fun c54 => ?_)
      · exact absurd c54 (by omega)
      · refine jq_iload dX6_lays_57 rfl ?_
        refine jq_iload_n dX6_lays_59 rfl rfl ?_
        refine jq_geN (tgt := 67) dX6_lays_60 (by decide) ⟨by omega, by omega⟩ (fun c60 => ?_) (fun c60 => ?_)
        · refine jq_iconst (v := 0) dX6_lays_67 (by decide) ?_
          refine jq_istore dX6_lays_68 (by decide) rfl rfl ?_
          refine jq_iload dX6_lays_70 rfl ?_
          refine jq_if_eq (tgt := 82) dX6_lays_72 (by decide) (fun c72 => ?_) (fun c72 => ?_)
          · first
            | exact absurd c72 (by decide)
            | (refine jq_iload dX6_lays_82 rfl ?_
               refine jq_iload_n dX6_lays_84 rfl rfl ?_
               refine jq_isubN dX6_lays_85 (by omega) ?_
               refine jq_iload_n dX6_lays_86 rfl rfl ?_
               refine jq_iconst (v := nI 1) dX6_lays_87 (by decide) ?_
               refine jq_iaddN dX6_lays_88 ?_
               refine jq_idivN dX6_lays_89 (⟨by omega, by omega, by omega⟩) ?_
               refine jq_istore dX6_lays_90 (by decide) rfl rfl ?_
               refine jq_iload dX6_lays_92 rfl ?_
               refine jq_if_eq (tgt := 104) dX6_lays_94 (by decide) (fun c94 => ?_) (fun c94 => absurd rfl c94)
               refine jq_iload dX6_lays_104 rfl ?_
               refine jq_iload_n dX6_lays_106 rfl rfl ?_
               refine jq_isubN dX6_lays_107 (by omega) ?_
               refine jq_iload_n dX6_lays_108 rfl rfl ?_
               refine jq_iconst (v := nI 1) dX6_lays_109 (by decide) ?_
               refine jq_iaddN dX6_lays_110 ?_
               refine jq_iremN dX6_lays_111 (⟨by omega, by omega, by omega⟩) ?_
               refine jq_istore dX6_lays_112 (by decide) rfl rfl ?_
               have h := h114 0 (Or.inr ⟨rfl, c60⟩)
               rw [tb_row_f c60, tb_col_f c60] at h
               exact h)
          · first
            | exact absurd rfl c72
            | (refine jq_iload dX6_lays_75 rfl ?_
               refine jq_iload_n dX6_lays_77 rfl rfl ?_
               refine jq_idivN dX6_lays_78 (⟨by omega, by omega, by omega⟩) ?_
               refine jq_goto (tgt := 90) dX6_lays_79 (by decide) ?_
               refine jq_istore dX6_lays_90 (by decide) rfl rfl ?_
               refine jq_iload dX6_lays_92 rfl ?_
               refine jq_if_eq (tgt := 104) dX6_lays_94 (by decide) (fun c94 => absurd c94 (by decide)) (fun c94 => ?_)
               refine jq_iload dX6_lays_97 rfl ?_
               refine jq_iload_n dX6_lays_99 rfl rfl ?_
               refine jq_iremN dX6_lays_100 (⟨by omega, by omega, by omega⟩) ?_
               refine jq_goto (tgt := 112) dX6_lays_101 (by decide) ?_
               refine jq_istore dX6_lays_112 (by decide) rfl rfl ?_
               have h := h114 1 (Or.inl ⟨rfl, c60⟩)
               rw [tb_row_t c60, tb_col_t c60] at h
               exact h)
        · refine jq_iconst (v := 1) dX6_lays_63 (by decide) ?_
          refine jq_goto (tgt := 68) dX6_lays_64 (by decide) ?_
          refine jq_istore dX6_lays_68 (by decide) rfl rfl ?_
          refine jq_iload dX6_lays_70 rfl ?_
          refine jq_if_eq (tgt := 82) dX6_lays_72 (by decide) (fun c72 => ?_) (fun c72 => ?_)
          · first
            | exact absurd c72 (by decide)
            | (refine jq_iload dX6_lays_82 rfl ?_
               refine jq_iload_n dX6_lays_84 rfl rfl ?_
               refine jq_isubN dX6_lays_85 (by omega) ?_
               refine jq_iload_n dX6_lays_86 rfl rfl ?_
               refine jq_iconst (v := nI 1) dX6_lays_87 (by decide) ?_
               refine jq_iaddN dX6_lays_88 ?_
               refine jq_idivN dX6_lays_89 (⟨by omega, by omega, by omega⟩) ?_
               refine jq_istore dX6_lays_90 (by decide) rfl rfl ?_
               refine jq_iload dX6_lays_92 rfl ?_
               refine jq_if_eq (tgt := 104) dX6_lays_94 (by decide) (fun c94 => ?_) (fun c94 => absurd rfl c94)
               refine jq_iload dX6_lays_104 rfl ?_
               refine jq_iload_n dX6_lays_106 rfl rfl ?_
               refine jq_isubN dX6_lays_107 (by omega) ?_
               refine jq_iload_n dX6_lays_108 rfl rfl ?_
               refine jq_iconst (v := nI 1) dX6_lays_109 (by decide) ?_
               refine jq_iaddN dX6_lays_110 ?_
               refine jq_iremN dX6_lays_111 (⟨by omega, by omega, by omega⟩) ?_
               refine jq_istore dX6_lays_112 (by decide) rfl rfl ?_
               have h := h114 0 (Or.inr ⟨rfl, c60⟩)
               rw [tb_row_f c60, tb_col_f c60] at h
               exact h)
          · first
            | exact absurd rfl c72
            | (refine jq_iload dX6_lays_75 rfl ?_
               refine jq_iload_n dX6_lays_77 rfl rfl ?_
               refine jq_idivN dX6_lays_78 (⟨by omega, by omega, by omega⟩) ?_
               refine jq_goto (tgt := 90) dX6_lays_79 (by decide) ?_
               refine jq_istore dX6_lays_90 (by decide) rfl rfl ?_
               refine jq_iload dX6_lays_92 rfl ?_
               refine jq_if_eq (tgt := 104) dX6_lays_94 (by decide) (fun c94 => absurd c94 (by decide)) (fun c94 => ?_)
               refine jq_iload dX6_lays_97 rfl ?_
               refine jq_iload_n dX6_lays_99 rfl rfl ?_
               refine jq_iremN dX6_lays_100 (⟨by omega, by omega, by omega⟩) ?_
               refine jq_goto (tgt := 112) dX6_lays_101 (by decide) ?_
               refine jq_istore dX6_lays_112 (by decide) rfl rfl ?_
               have h := h114 1 (Or.inl ⟨rfl, c60⟩)
               rw [tb_row_t c60, tb_col_t c60] at h
               exact h)
  refine xs_Ct_of (L := [some (.ref (ad 21)), some (.int (nI (w))), some (.int (nI (h))), none, none, none, none, none]) rfl (Nat.le_of_ble_eq_true rfl) rfl ?_
  refine jq_aload_n dX6_lays_0 rfl rfl ?_
  refine jq_iload_n dX6_lays_1 rfl rfl ?_
  refine xq_putI pX6_80 dX6_lays_2 (xs_lt (by decide) hn) (by decide) rfl rfl ?_
  refine jq_aload_n dX6_lays_5 rfl rfl ?_
  refine jq_iload_n dX6_lays_6 rfl rfl ?_
  refine xq_putI pX6_77 dX6_lays_7 (xs_lt (by decide) hn) (by decide) rfl rfl ?_
  refine jq_aload_n dX6_lays_10 rfl rfl ?_
  refine jq_iload_n dX6_lays_11 rfl rfl ?_
  refine jq_iload_n dX6_lays_12 rfl rfl ?_
  refine jq_imulN dX6_lays_13 ?_
  refine xq_putI pX6_71 dX6_lays_14 (xs_lt (by decide) hn) (by decide) rfl rfl ?_
  refine jq_aload_n dX6_lays_17 rfl rfl ?_
  refine jq_iload_n dX6_lays_18 rfl rfl ?_
  refine jq_iconst (v := (nI 1)) dX6_lays_19 (by decide) ?_
  refine jq_iaddN dX6_lays_20 ?_
  refine jq_iload_n dX6_lays_21 rfl rfl ?_
  refine jq_iconst (v := (nI 1)) dX6_lays_22 (by decide) ?_
  refine jq_iaddN dX6_lays_23 ?_
  refine jq_imulN dX6_lays_24 ?_
  refine xq_putI pX6_83 dX6_lays_25 (xs_lt (by decide) hn) (by decide) rfl rfl ?_
  refine jq_iload_n dX6_lays_28 rfl rfl ?_
  refine jq_iconst (v := (nI 1)) dX6_lays_29 (by decide) ?_
  refine jq_iaddN dX6_lays_30 ?_
  refine jq_iload_n dX6_lays_31 rfl rfl ?_
  refine jq_imulN dX6_lays_32 ?_
  refine jq_istore_n dX6_lays_33 rfl (by decide) rfl rfl ?_
  refine jq_aload_n dX6_lays_34 rfl rfl ?_
  refine jq_iload_n dX6_lays_35 rfl rfl ?_
  refine jq_iload_n dX6_lays_36 rfl rfl ?_
  refine jq_iload_n dX6_lays_37 rfl rfl ?_
  refine jq_iconst (v := (nI 1)) dX6_lays_38 (by decide) ?_
  refine jq_iaddN dX6_lays_39 ?_
  refine jq_imulN dX6_lays_40 ?_
  refine jq_iaddN dX6_lays_41 ?_
  refine xq_putI pX6_74 dX6_lays_42 (xs_lt (by decide) hn) (by decide) rfl rfl ?_
  refine jq_iconst (v := (nI 0)) dX6_lays_45 (by decide) ?_
  refine jq_istore dX6_lays_46 (by decide) rfl rfl ?_
  refine loop1 (tb_ne w h) 0 _ _ _ _ (by omega) (xs_fr_si (xs_fr_si (xs_fr_si (xs_fr_si (xs_fr_si xs_fr_rf (by decide)) (by decide)) (by decide)) (by decide)) (by decide)) ⟨?_, ?_, ?_, ?_, ?_⟩ (fun j hj => absurd hj (Nat.not_lt_zero j))
  · rw [xs_si_ne (by decide), xs_si_ne (by decide), xs_si_ne (by decide), xs_si_ne (by decide), xs_si_at]
  · rw [xs_si_ne (by decide), xs_si_ne (by decide), xs_si_ne (by decide), xs_si_at]
  · rw [xs_si_ne (by decide), xs_si_ne (by decide), xs_si_at]; rfl
  · rw [xs_si_at]; rfl
  · rw [xs_si_ne (by decide), xs_si_at]; rfl
