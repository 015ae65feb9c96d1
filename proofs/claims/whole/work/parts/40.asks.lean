set_option maxHeartbeats 8000000 in
theorem c_X6_asks {l : Launch} {G : jq_G} {n : Nat} {ad : Nat → Nat} {X : xs_T} (hn : 39 ≤ n) {w h : Nat} {num : Nat → Int32} {st : Nat → Nat} (hT : rf_T w h X) (hS : rf_S w h st X) (hN : rf_N w h num X) : xs_Ct l G mX6_asks 5 [.ref (ad 21)] n ad X (xs_pv (fun X' => xs_fr [29, 30, 31, 34, 35, 36] [] X X' ∧ rf_S w h st X' ∧ rf_W w h (tb_asks w h num st) X')) := by
  have hz := tb_sizes hT.1
  -- the edges
  have loop4 : ∀ (k e : Nat) (o2 o3 : Option Value) (Y : xs_T), e + k = tb_ne w h → xs_fr [29, 30, 31, 34, 35, 36] [] X Y → rf_S w h st Y → rf_L w h (tb_isL st) Y → rf_C w h st (tb_ne w h) Y → rf_W w h (tb_askE w h num st e) Y → jq_J l G mX6_asks (jq_R 5 0 0) jq_E0 (xs_Ye G n ad (xs_pv (fun X' => xs_fr [29, 30, 31, 34, 35, 36] [] X X' ∧ rf_S w h st X' ∧ rf_W w h (tb_asks w h num st) X'))) 180 [some (.ref (ad 21)), some (.int (nI (e))), o2, o3] [] n ad (xs_mem G ad Y) 0 0 := by
    intro k
    induction k with
    | zero =>
      intro e o2 o3 Y hk hf hY hLY hCY hWY
      have hT2 := rf_fr hT hf
      refine jq_iload_n dX6_asks_180 rfl rfl ?_
      refine jq_aload_n dX6_asks_181 rfl rfl ?_
      refine xq_getI fX6_74 dX6_asks_182 (xs_lt (by decide) hn) (by decide) hT2.2.2.2.2.1 ?_
      refine jq_geN (tgt := 306) dX6_asks_185 (by decide) ⟨by omega, by omega⟩ (fun c185 => ?_) (fun c185 => ?_)
      · exact xq_return rfl dX6_asks_306 rfl (⟨rfl, hf, hY, by unfold tb_asks; rw [show tb_ne w h = e by omega]; exact hWY⟩)
      · exact absurd c185 (by omega)
    | succ k ih =>
      intro e o2 o3 Y hk hf hY hLY hCY hWY
      have he : e < tb_ne w h := by omega
      have hi : vp_in (nI e) 40 := vp_inN (by omega) (by decide)
      have hb := tb_ends hT.1 e he
      have hle := tb_ch_le hT.1 st (tb_ne w h) (Nat.le_refl _)
      have hla := hle _ hb.2.2.2.1
      have hlb := hle _ hb.2.2.2.2
      have hia : vp_in (nI (tb_are w h e)) 17 := vp_inN (by omega) (by decide)
      have hib : vp_in (nI (tb_bes w h e)) 17 := vp_inN (by omega) (by decide)
      have hi1 : vp_in (nI (tb_one w h e)) 25 := vp_inN (by omega) (by decide)
      have hi2 : vp_in (nI (tb_oth w h e)) 25 := vp_inN (by omega) (by decide)
      have hl1 := tb_L_lt (S := tb_isL st) hb.1
      have hl2 := tb_L_lt (S := tb_isL st) hb.2.1
      -- behind rule 7
      have h300 : ∀ Z : xs_T, xs_fr [29, 30, 31, 34, 35, 36] [] X Z → rf_S w h st Z → rf_L w h (tb_isL st) Z → rf_C w h st (tb_ne w h) Z → rf_W w h (tb_askE w h num st (e + 1)) Z → jq_J l G mX6_asks (jq_R 5 0 0) jq_E0 (xs_Ye G n ad (xs_pv (fun X' => xs_fr [29, 30, 31, 34, 35, 36] [] X X' ∧ rf_S w h st X' ∧ rf_W w h (tb_asks w h num st) X'))) 300 [some (.ref (ad 21)), some (.int (nI (e))), o2, o3] [] n ad (xs_mem G ad Z) 0 0 := by
        intro Z hfZ hZ hLZ hCZ hWZ
        refine jq_iincN dX6_asks_300 (by decide) rfl rfl rfl ?_
        refine jq_goto (tgt := 180) dX6_asks_303 (by decide) ?_
        exact ih (e + 1) _ _ Z (by omega) hfZ hZ hLZ hCZ hWZ
      -- rule 7
      have h238 : ∀ Z : xs_T, xs_fr [29, 30, 31, 34, 35, 36] [] X Z → rf_S w h st Z → rf_L w h (tb_isL st) Z → rf_C w h st (tb_ne w h) Z → rf_W w h (tb_askE6 w h num st (tb_askE w h num st e) e) Z → jq_J l G mX6_asks (jq_R 5 0 0) jq_E0 (xs_Ye G n ad (xs_pv (fun X' => xs_fr [29, 30, 31, 34, 35, 36] [] X X' ∧ rf_S w h st X' ∧ rf_W w h (tb_asks w h num st) X'))) 238 [some (.ref (ad 21)), some (.int (nI (e))), o2, o3] [] n ad (xs_mem G ad Z) 0 0 := by
        intro Z hfZ hZ hLZ hCZ hWZ
        have hT2 := rf_fr hT hfZ
        have h1 := hT2.2.2.2.2.2.2.2.2.1 e he
        have h2 := hT2.2.2.2.2.2.2.2.2.2.1 e he
        have hA := hCZ _ hb.2.2.2.1
        have hB := hCZ _ hb.2.2.2.2
        have h295 : (tb_chE w h st).1 (tb_are w h e) = (tb_chE w h st).1 (tb_bes w h e) → ∀ v : Nat, v = (if (tb_chE w h st).2.1 (tb_are w h e) = (tb_chE w h st).2.1 (tb_bes w h e) then 2 else 1) → jq_J l G mX6_asks (jq_R 5 0 0) jq_E0 (xs_Ye G n ad (xs_pv (fun X' => xs_fr [29, 30, 31, 34, 35, 36] [] X X' ∧ rf_S w h st X' ∧ rf_W w h (tb_asks w h num st) X'))) 295 [some (.ref (ad 21)), some (.int (nI (e))), o2, o3] [.int (nI (v)), .int (nI (e)), .ref (ad 21)] n ad (xs_mem G ad Z) 0 0 := by
          intro hsm v hv
          have hv3 : v ≤ 3 := by rw [hv]; split <;> omega
          refine jq_bipush (v := (nI 7)) dX6_asks_295 (by decide) ?_
          refine xq_rV dX6_asks_297 kX6_134 (c_X6_want hn hT2 hZ hWZ he hv3 (by decide)) (xs_lt (by decide) hn) ⟨rfl, rfl⟩ rfl rfl (Nat.le_of_ble_eq_true rfl) ⟨⟨by decide, by decide⟩, Nat.le_refl _, Nat.le_refl _⟩ (fun X297 h297 => ?_)
          exact h300 _ (xs_fr_tr hfZ (xs_fr_mo h297.1 (by decide))) (rf_sfr hZ h297.1) (rf_lfr hLZ h297.1) (rf_cfr hCZ h297.1) (by rw [tb_askE]; unfold tb_askE7; rw [if_pos hsm, ← hv]; exact h297.2)
        refine jq_aload_n dX6_asks_238 rfl rfl ?_
        refine xq_getR 35 fX6_49 dX6_asks_239 (xs_lt (by decide) hn) (by decide) ?_
        refine jq_aload_n dX6_asks_242 rfl rfl ?_
        refine xq_getR 24 fX6_16 dX6_asks_243 (xs_lt (by decide) hn) (by decide) ?_
        refine jq_iload_n dX6_asks_246 rfl rfl ?_
        refine xq_iaload dX6_asks_247 (xs_lt (by decide) hn) rfl hi (xs_rd h1 (by omega)) ?_
        refine xq_iaload dX6_asks_248 (xs_lt (by decide) hn) rfl hia (xs_rd hA.1 (by omega)) ?_
        refine jq_aload_n dX6_asks_249 rfl rfl ?_
        refine xq_getR 35 fX6_49 dX6_asks_250 (xs_lt (by decide) hn) (by decide) ?_
        refine jq_aload_n dX6_asks_253 rfl rfl ?_
        refine xq_getR 25 fX6_19 dX6_asks_254 (xs_lt (by decide) hn) (by decide) ?_
        refine jq_iload_n dX6_asks_257 rfl rfl ?_
        refine xq_iaload dX6_asks_258 (xs_lt (by decide) hn) rfl hi (xs_rd h2 (by omega)) ?_
        refine xq_iaload dX6_asks_259 (xs_lt (by decide) hn) rfl hib (xs_rd hB.1 (by omega)) ?_
        refine jq_neN (tgt := 300) dX6_asks_260 (by decide) ⟨by omega, by omega⟩ (fun c260 => ?_) (fun c260 => ?_)
        · exact h300 Z hfZ hZ hLZ hCZ (by rw [tb_askE]; unfold tb_askE7 tb_chE; rw [if_neg c260]; exact hWZ)
        · refine jq_aload_n dX6_asks_263 rfl rfl ?_
          refine jq_iload_n dX6_asks_264 rfl rfl ?_
          refine jq_aload_n dX6_asks_265 rfl rfl ?_
          refine xq_getR 36 fX6_52 dX6_asks_266 (xs_lt (by decide) hn) (by decide) ?_
          refine jq_aload_n dX6_asks_269 rfl rfl ?_
          refine xq_getR 24 fX6_16 dX6_asks_270 (xs_lt (by decide) hn) (by decide) ?_
          refine jq_iload_n dX6_asks_273 rfl rfl ?_
          refine xq_iaload dX6_asks_274 (xs_lt (by decide) hn) rfl hi (xs_rd h1 (by omega)) ?_
          refine xq_baload dX6_asks_275 (xs_lt (by decide) hn) rfl hia (xs_rd hA.2 (by omega)) ?_
          refine jq_aload_n dX6_asks_276 rfl rfl ?_
          refine xq_getR 36 fX6_52 dX6_asks_277 (xs_lt (by decide) hn) (by decide) ?_
          refine jq_aload_n dX6_asks_280 rfl rfl ?_
          refine xq_getR 25 fX6_19 dX6_asks_281 (xs_lt (by decide) hn) (by decide) ?_
          refine jq_iload_n dX6_asks_284 rfl rfl ?_
          refine xq_iaload dX6_asks_285 (xs_lt (by decide) hn) rfl hi (xs_rd h2 (by omega)) ?_
          refine xq_baload dX6_asks_286 (xs_lt (by decide) hn) rfl hib (xs_rd hB.2 (by omega)) ?_
          refine jq_icmp_eq (tgt := 294) dX6_asks_287 (by decide) (fun c287 => ?_) (fun c287 => ?_)
          · refine jq_iconst (v := (nI 2)) dX6_asks_294 (by decide) ?_
            exact h295 c260 _ (by first | exact (if_pos (tb_b_eq.mp c287)).symm | exact (if_neg (fun q => c287 (tb_b_eq.mpr q))).symm)
          · refine jq_iconst (v := (nI 1)) dX6_asks_290 (by decide) ?_
            refine jq_goto (tgt := 295) dX6_asks_291 (by decide) ?_
            exact h295 c260 _ (by first | exact (if_pos (tb_b_eq.mp c287)).symm | exact (if_neg (fun q => c287 (tb_b_eq.mpr q))).symm)
      have hT2 := rf_fr hT hf
      have h1 := hT2.2.2.2.2.2.2.1 e he
      have h2 := hT2.2.2.2.2.2.2.2.1 e he
      have h3 := hY e he
      have hN2 := rf_nfr hN hf
      have hno : ¬ (st e = 0 ∧ tb_L w h (tb_isL st) (tb_one w h e) = tb_L w h (tb_isL st) (tb_oth w h e) ∧ tb_closes w h num st e = false) → jq_J l G mX6_asks (jq_R 5 0 0) jq_E0 (xs_Ye G n ad (xs_pv (fun X' => xs_fr [29, 30, 31, 34, 35, 36] [] X X' ∧ rf_S w h st X' ∧ rf_W w h (tb_asks w h num st) X'))) 238 [some (.ref (ad 21)), some (.int (nI (e))), o2, o3] [] n ad (xs_mem G ad Y) 0 0 := fun q => h238 Y hf hY hLY hCY (by unfold tb_askE6; rw [if_neg q]; exact hWY)
      refine jq_iload_n dX6_asks_180 rfl rfl ?_
      refine jq_aload_n dX6_asks_181 rfl rfl ?_
      refine xq_getI fX6_74 dX6_asks_182 (xs_lt (by decide) hn) (by decide) hT2.2.2.2.2.1 ?_
      refine jq_geN (tgt := 306) dX6_asks_185 (by decide) ⟨by omega, by omega⟩ (fun c185 => ?_) (fun c185 => ?_)
      · exact absurd c185 (by omega)
      · refine jq_aload_n dX6_asks_188 rfl rfl ?_
        refine xq_getR 29 fX6_31 dX6_asks_189 (xs_lt (by decide) hn) (by decide) ?_
        refine jq_iload_n dX6_asks_192 rfl rfl ?_
        refine xq_iaload dX6_asks_193 (xs_lt (by decide) hn) rfl hi (xs_rd h3.1 (by omega)) ?_
        refine jq_neZ (tgt := 238) dX6_asks_194 (by decide) (by omega) (fun c194 => ?_) (fun c194 => ?_)
        · exact hno (fun q => c194 q.1)
        · refine jq_aload_n dX6_asks_197 rfl rfl ?_
          refine xq_getR 34 fX6_46 dX6_asks_198 (xs_lt (by decide) hn) (by decide) ?_
          refine jq_aload_n dX6_asks_201 rfl rfl ?_
          refine xq_getR 22 fX6_7 dX6_asks_202 (xs_lt (by decide) hn) (by decide) ?_
          refine jq_iload_n dX6_asks_205 rfl rfl ?_
          refine xq_iaload dX6_asks_206 (xs_lt (by decide) hn) rfl hi (xs_rd h1 (by omega)) ?_
          refine xq_iaload dX6_asks_207 (xs_lt (by decide) hn) rfl hi1 (xs_rd (hLY _ hb.1) (by omega)) ?_
          refine jq_aload_n dX6_asks_208 rfl rfl ?_
          refine xq_getR 34 fX6_46 dX6_asks_209 (xs_lt (by decide) hn) (by decide) ?_
          refine jq_aload_n dX6_asks_212 rfl rfl ?_
          refine xq_getR 23 fX6_13 dX6_asks_213 (xs_lt (by decide) hn) (by decide) ?_
          refine jq_iload_n dX6_asks_216 rfl rfl ?_
          refine xq_iaload dX6_asks_217 (xs_lt (by decide) hn) rfl hi (xs_rd h2 (by omega)) ?_
          refine xq_iaload dX6_asks_218 (xs_lt (by decide) hn) rfl hi2 (xs_rd (hLY _ hb.2.1) (by omega)) ?_
          refine jq_neN (tgt := 238) dX6_asks_219 (by decide) ⟨by omega, by omega⟩ (fun c219 => ?_) (fun c219 => ?_)
          · exact hno (fun q => c219 q.2.1)
          · refine jq_aload_n dX6_asks_222 rfl rfl ?_
            refine jq_iload_n dX6_asks_223 rfl rfl ?_
            refine xq_rI dX6_asks_224 kX6_147 (c_X6_closes hn hT2 hY hN2 he c194) (xs_lt (by decide) hn) ⟨rfl, rfl⟩ rfl rfl (Nat.le_of_ble_eq_true rfl) ⟨⟨by decide, by decide⟩, Nat.le_refl _, Nat.le_refl _⟩ (fun v224 X224 h224 => ?_)
            obtain ⟨rfl, hf4, hS4, hL4⟩ := h224
            have hf5 := xs_fr_tr hf (xs_fr_mo (S' := [29, 30, 31, 34, 35, 36]) (F' := []) hf4 (by decide))
            have hC4 := rf_cfr hCY hf4
            have hW4 := rf_wfr hWY hf4
            have hT4 := rf_fr hT hf5
            refine jq_if_ne (tgt := 238) dX6_asks_227 (by decide) (fun c227 => ?_) (fun c227 => ?_)
            · exact h238 _ hf5 hS4 hL4 hC4 (by unfold tb_askE6; rw [if_neg (fun q => c227 (tb_b0.mpr q.2.2))]; exact hW4)
            · refine jq_aload_n dX6_asks_230 rfl rfl ?_
              refine jq_iload_n dX6_asks_231 rfl rfl ?_
              refine jq_iconst (v := (nI 2)) dX6_asks_232 (by decide) ?_
              refine jq_bipush (v := (nI 6)) dX6_asks_233 (by decide) ?_
              refine xq_rV dX6_asks_235 kX6_134 (c_X6_want hn hT4 hS4 hW4 he (by decide) (by decide)) (xs_lt (by decide) hn) ⟨rfl, rfl⟩ rfl rfl (Nat.le_of_ble_eq_true rfl) ⟨⟨by decide, by decide⟩, Nat.le_refl _, Nat.le_refl _⟩ (fun X235 h235 => ?_)
              exact h238 _ (xs_fr_tr hf5 (xs_fr_mo h235.1 (by decide))) (rf_sfr hS4 h235.1) (rf_lfr hL4 h235.1) (rf_cfr hC4 h235.1) (by unfold tb_askE6; rw [if_pos ⟨c194, c219, tb_b0.mp c227⟩]; exact h235.2)
  -- the points
  have loop3 : ∀ (k p : Nat) (o2 o3 : Option Value) (Y : xs_T), p + k = tb_np w h → xs_fr [29, 30, 31, 34, 35, 36] [] X Y → rf_S w h st Y → rf_W w h (tb_askP w h num st p) Y → jq_J l G mX6_asks (jq_R 5 0 0) jq_E0 (xs_Ye G n ad (xs_pv (fun X' => xs_fr [29, 30, 31, 34, 35, 36] [] X X' ∧ rf_S w h st X' ∧ rf_W w h (tb_asks w h num st) X'))) 96 [some (.ref (ad 21)), some (.int (nI (p))), o2, o3] [] n ad (xs_mem G ad Y) 0 0 := by
    intro k
    induction k with
    | zero =>
      intro p o2 o3 Y hk hf hY hWY
      have hT2 := rf_fr hT hf
      refine jq_iload_n dX6_asks_96 rfl rfl ?_
      refine jq_aload_n dX6_asks_97 rfl rfl ?_
      refine xq_getI fX6_83 dX6_asks_98 (xs_lt (by decide) hn) (by decide) hT2.2.2.2.2.2.1 ?_
      refine jq_geN (tgt := 169) dX6_asks_101 (by decide) ⟨by omega, by omega⟩ (fun c101 => ?_) (fun c101 => ?_)
      · refine jq_aload_n dX6_asks_169 rfl rfl ?_
        refine xq_rV dX6_asks_170 kX6_121 (c_X6_labels hn hT2 hY) (xs_lt (by decide) hn) ⟨rfl, rfl⟩ rfl rfl (Nat.le_of_ble_eq_true rfl) ⟨⟨by decide, by decide⟩, Nat.le_refl _, Nat.le_refl _⟩ (fun X170 h170 => ?_)
        have hf1 := xs_fr_tr hf (xs_fr_mo (S' := [29, 30, 31, 34, 35, 36]) (F' := []) h170.1 (by decide))
        have hS1 := rf_sfr hY h170.1
        refine jq_aload_n dX6_asks_173 rfl rfl ?_
        refine xq_rI dX6_asks_174 kX6_131 (c_X6_chains hn (rf_fr hT hf1) hS1) (xs_lt (by decide) hn) ⟨rfl, rfl⟩ rfl rfl (Nat.le_of_ble_eq_true rfl) ⟨⟨by decide, by decide⟩, Nat.le_refl _, Nat.le_refl _⟩ (fun v174 X174 h174 => ?_)
        obtain ⟨rfl, hf2, hC2⟩ := h174
        refine jq_pop dX6_asks_177 rfl ?_
        refine jq_iconst (v := (nI 0)) dX6_asks_178 (by decide) ?_
        refine jq_istore_n dX6_asks_179 rfl (by decide) rfl rfl ?_
        exact loop4 (tb_ne w h) 0 _ _ _ (by omega) (xs_fr_tr hf1 (xs_fr_mo hf2 (by decide))) (rf_sfr hS1 hf2) (rf_lfr h170.2 hf2) hC2 (rf_wfr (by rw [tb_askE, show tb_np w h = p by omega]; exact rf_wfr hWY h170.1) hf2)
      · exact absurd c101 (by omega)
    | succ k ih =>
      intro p o2 o3 Y hk hf hY hWY
      have hd := tb_at_le hT.1 st p 1
      have hd0 := tb_at_le hT.1 st p 0
      have h163 : ∀ Z : xs_T, xs_fr [29, 30, 31, 34, 35, 36] [] X Z → rf_S w h st Z → rf_W w h (tb_askP w h num st (p + 1)) Z → jq_J l G mX6_asks (jq_R 5 0 0) jq_E0 (xs_Ye G n ad (xs_pv (fun X' => xs_fr [29, 30, 31, 34, 35, 36] [] X X' ∧ rf_S w h st X' ∧ rf_W w h (tb_asks w h num st) X'))) 163 [some (.ref (ad 21)), some (.int (nI (p))), some (.int (nI (tb_at w h st p 1))), some (.int (nI (tb_at w h st p 0)))] [] n ad (xs_mem G ad Z) 0 0 := by
        intro Z hfZ hZ hWZ
        refine jq_iincN dX6_asks_163 (by decide) rfl rfl rfl ?_
        refine jq_goto (tgt := 96) dX6_asks_166 (by decide) ?_
        exact ih (p + 1) _ _ Z (by omega) hfZ hZ hWZ
      have h147 : ∀ Z : xs_T, xs_fr [29, 30, 31, 34, 35, 36] [] X Z → rf_S w h st Z → rf_W w h (tb_askP2 w h st (tb_askP1 w h st (tb_askP w h num st p) p) p) Z → jq_J l G mX6_asks (jq_R 5 0 0) jq_E0 (xs_Ye G n ad (xs_pv (fun X' => xs_fr [29, 30, 31, 34, 35, 36] [] X X' ∧ rf_S w h st X' ∧ rf_W w h (tb_asks w h num st) X'))) 147 [some (.ref (ad 21)), some (.int (nI (p))), some (.int (nI (tb_at w h st p 1))), some (.int (nI (tb_at w h st p 0)))] [] n ad (xs_mem G ad Z) 0 0 := by
        intro Z hfZ hZ hWZ
        refine jq_iload_n dX6_asks_147 rfl rfl ?_
        refine jq_neZ (tgt := 163) dX6_asks_148 (by decide) (by omega) (fun c148 => ?_) (fun c148 => ?_)
        · first | exact h163 _ (xs_fr_tr hfZ (xs_fr_mo h160.1 (by decide))) (rf_sfr hZ h160.1) hg | exact h163 Z hfZ hZ (by rw [tb_askP]; unfold tb_askP3; rw [if_neg (by unfold tb_deg; omega)]; exact hWZ)
        · refine jq_iload_n dX6_asks_151 rfl rfl ?_
          refine jq_iconst (v := (nI 1)) dX6_asks_152 (by decide) ?_
          refine jq_neN (tgt := 163) dX6_asks_153 (by decide) ⟨by omega, by omega⟩ (fun c153 => ?_) (fun c153 => ?_)
          · first | exact h163 _ (xs_fr_tr hfZ (xs_fr_mo h160.1 (by decide))) (rf_sfr hZ h160.1) hg | exact h163 Z hfZ hZ (by rw [tb_askP]; unfold tb_askP3; rw [if_neg (by unfold tb_deg; omega)]; exact hWZ)
          · refine jq_aload_n dX6_asks_156 rfl rfl ?_
            refine jq_iload_n dX6_asks_157 rfl rfl ?_
            refine jq_iconst (v := (nI 2)) dX6_asks_158 (by decide) ?_
            refine jq_iconst (v := (nI 5)) dX6_asks_159 (by decide) ?_
            refine xq_rV dX6_asks_160 kX6_144 (c_X6_wantAt hn (rf_fr hT hfZ) hZ hWZ (by omega) (by decide) (by decide)) (xs_lt (by decide) hn) ⟨rfl, rfl⟩ rfl rfl (Nat.le_of_ble_eq_true rfl) ⟨⟨by decide, by decide⟩, Nat.le_refl _, Nat.le_refl _⟩ (fun X160 h160 => ?_)
            have hg : rf_W w h (tb_askP w h num st (p + 1)) X160 := by
              rw [tb_askP]; unfold tb_askP3; rw [if_pos (by unfold tb_deg; exact ⟨c148, c153⟩)]; exact h160.2
            first | exact h163 _ (xs_fr_tr hfZ (xs_fr_mo h160.1 (by decide))) (rf_sfr hZ h160.1) hg | exact h163 Z hfZ hZ (by rw [tb_askP]; unfold tb_askP3; rw [if_neg (by unfold tb_deg; omega)]; exact hWZ)
      have h130 : ∀ Z : xs_T, xs_fr [29, 30, 31, 34, 35, 36] [] X Z → rf_S w h st Z → rf_W w h (tb_askP1 w h st (tb_askP w h num st p) p) Z → jq_J l G mX6_asks (jq_R 5 0 0) jq_E0 (xs_Ye G n ad (xs_pv (fun X' => xs_fr [29, 30, 31, 34, 35, 36] [] X X' ∧ rf_S w h st X' ∧ rf_W w h (tb_asks w h num st) X'))) 130 [some (.ref (ad 21)), some (.int (nI (p))), some (.int (nI (tb_at w h st p 1))), some (.int (nI (tb_at w h st p 0)))] [] n ad (xs_mem G ad Z) 0 0 := by
        intro Z hfZ hZ hWZ
        refine jq_iload_n dX6_asks_130 rfl rfl ?_
        refine jq_iconst (v := (nI 1)) dX6_asks_131 (by decide) ?_
        refine jq_neN (tgt := 147) dX6_asks_132 (by decide) ⟨by omega, by omega⟩ (fun c132 => ?_) (fun c132 => ?_)
        · first | exact h147 _ (xs_fr_tr hfZ (xs_fr_mo h144.1 (by decide))) (rf_sfr hZ h144.1) hg | exact h147 Z hfZ hZ (by unfold tb_askP2; rw [if_neg (by unfold tb_deg; omega)]; exact hWZ)
        · refine jq_iload_n dX6_asks_135 rfl rfl ?_
          refine jq_iconst (v := (nI 1)) dX6_asks_136 (by decide) ?_
          refine jq_neN (tgt := 147) dX6_asks_137 (by decide) ⟨by omega, by omega⟩ (fun c137 => ?_) (fun c137 => ?_)
          · first | exact h147 _ (xs_fr_tr hfZ (xs_fr_mo h144.1 (by decide))) (rf_sfr hZ h144.1) hg | exact h147 Z hfZ hZ (by unfold tb_askP2; rw [if_neg (by unfold tb_deg; omega)]; exact hWZ)
          · refine jq_aload_n dX6_asks_140 rfl rfl ?_
            refine jq_iload_n dX6_asks_141 rfl rfl ?_
            refine jq_iconst (v := (nI 1)) dX6_asks_142 (by decide) ?_
            refine jq_iconst (v := (nI 4)) dX6_asks_143 (by decide) ?_
            refine xq_rV dX6_asks_144 kX6_144 (c_X6_wantAt hn (rf_fr hT hfZ) hZ hWZ (by omega) (by decide) (by decide)) (xs_lt (by decide) hn) ⟨rfl, rfl⟩ rfl rfl (Nat.le_of_ble_eq_true rfl) ⟨⟨by decide, by decide⟩, Nat.le_refl _, Nat.le_refl _⟩ (fun X144 h144 => ?_)
            have hg : rf_W w h (tb_askP2 w h st (tb_askP1 w h st (tb_askP w h num st p) p) p) X144 := by
              unfold tb_askP2; rw [if_pos (by unfold tb_deg; exact ⟨c132, c137⟩)]; exact h144.2
            first | exact h147 _ (xs_fr_tr hfZ (xs_fr_mo h144.1 (by decide))) (rf_sfr hZ h144.1) hg | exact h147 Z hfZ hZ (by unfold tb_askP2; rw [if_neg (by unfold tb_deg; omega)]; exact hWZ)
      have hT2 := rf_fr hT hf
      refine jq_iload_n dX6_asks_96 rfl rfl ?_
      refine jq_aload_n dX6_asks_97 rfl rfl ?_
      refine xq_getI fX6_83 dX6_asks_98 (xs_lt (by decide) hn) (by decide) hT2.2.2.2.2.2.1 ?_
      refine jq_geN (tgt := 169) dX6_asks_101 (by decide) ⟨by omega, by omega⟩ (fun c101 => ?_) (fun c101 => ?_)
      · exact absurd c101 (by omega)
      · refine jq_aload_n dX6_asks_104 rfl rfl ?_
        refine jq_iload_n dX6_asks_105 rfl rfl ?_
        refine jq_iconst (v := (nI 1)) dX6_asks_106 (by decide) ?_
        refine xq_vI dX6_asks_107 kX6_114 (c_X6_at hn hT2 hY (by omega) (by decide)) (xs_lt (by decide) hn) ⟨rfl, rfl⟩ rfl rfl (Nat.le_of_ble_eq_true rfl) ⟨⟨by decide, by decide⟩, Nat.le_refl _, Nat.le_refl _⟩ ?_
        refine jq_istore_n dX6_asks_110 rfl (by decide) rfl rfl ?_
        refine jq_aload_n dX6_asks_111 rfl rfl ?_
        refine jq_iload_n dX6_asks_112 rfl rfl ?_
        refine jq_iconst (v := (nI 0)) dX6_asks_113 (by decide) ?_
        refine xq_vI dX6_asks_114 kX6_114 (c_X6_at hn hT2 hY (by omega) (by decide)) (xs_lt (by decide) hn) ⟨rfl, rfl⟩ rfl rfl (Nat.le_of_ble_eq_true rfl) ⟨⟨by decide, by decide⟩, Nat.le_refl _, Nat.le_refl _⟩ ?_
        refine jq_istore_n dX6_asks_117 rfl (by decide) rfl rfl ?_
        refine jq_iload_n dX6_asks_118 rfl rfl ?_
        refine jq_iconst (v := (nI 2)) dX6_asks_119 (by decide) ?_
        refine jq_neN (tgt := 130) dX6_asks_120 (by decide) ⟨by omega, by omega⟩ (fun c120 => ?_) (fun c120 => ?_)
        · first | exact h130 _ (xs_fr_tr hf (xs_fr_mo h127.1 (by decide))) (rf_sfr hY h127.1) hg | exact h130 Y hf hY (by unfold tb_askP1; rw [if_neg (by unfold tb_deg; exact c120)]; exact hWY)
        · refine jq_aload_n dX6_asks_123 rfl rfl ?_
          refine jq_iload_n dX6_asks_124 rfl rfl ?_
          refine jq_iconst (v := (nI 2)) dX6_asks_125 (by decide) ?_
          refine jq_iconst (v := (nI 3)) dX6_asks_126 (by decide) ?_
          refine xq_rV dX6_asks_127 kX6_144 (c_X6_wantAt hn hT2 hY hWY (by omega) (by decide) (by decide)) (xs_lt (by decide) hn) ⟨rfl, rfl⟩ rfl rfl (Nat.le_of_ble_eq_true rfl) ⟨⟨by decide, by decide⟩, Nat.le_refl _, Nat.le_refl _⟩ (fun X127 h127 => ?_)
          have hg : rf_W w h (tb_askP1 w h st (tb_askP w h num st p) p) X127 := by
            unfold tb_askP1; rw [if_pos (by unfold tb_deg; exact c120)]; exact h127.2
          first | exact h130 _ (xs_fr_tr hf (xs_fr_mo h127.1 (by decide))) (rf_sfr hY h127.1) hg | exact h130 Y hf hY (by unfold tb_askP1; rw [if_neg (by unfold tb_deg; exact c120)]; exact hWY)
  -- the cells
  have loop2 : ∀ (k c : Nat) (o2 o3 : Option Value) (Y : xs_T), c + k = tb_nc w h → xs_fr [29, 30, 31, 34, 35, 36] [] X Y → rf_S w h st Y → rf_W w h (tb_askC w h num st c) Y → jq_J l G mX6_asks (jq_R 5 0 0) jq_E0 (xs_Ye G n ad (xs_pv (fun X' => xs_fr [29, 30, 31, 34, 35, 36] [] X X' ∧ rf_S w h st X' ∧ rf_W w h (tb_asks w h num st) X'))) 32 [some (.ref (ad 21)), some (.int (nI (c))), o2, o3] [] n ad (xs_mem G ad Y) 0 0 := by
    intro k
    induction k with
    | zero =>
      intro c o2 o3 Y hk hf hY hWY
      have hT2 := rf_fr hT hf
      refine jq_iload_n dX6_asks_32 rfl rfl ?_
      refine jq_aload_n dX6_asks_33 rfl rfl ?_
      refine xq_getI fX6_71 dX6_asks_34 (xs_lt (by decide) hn) (by decide) hT2.2.2.2.1 ?_
      refine jq_geN (tgt := 94) dX6_asks_37 (by decide) ⟨by omega, by omega⟩ (fun c37 => ?_) (fun c37 => ?_)
      · refine jq_iconst (v := (nI 0)) dX6_asks_94 (by decide) ?_
        refine jq_istore_n dX6_asks_95 rfl (by decide) rfl rfl ?_
        exact loop3 (tb_np w h) 0 _ _ Y (by omega) hf hY (by rw [tb_askP, show tb_nc w h = c by omega]; exact hWY)
      · exact absurd c37 (by omega)
    | succ k ih =>
      intro c o2 o3 Y hk hf hY hWY
      have hc : c < tb_nc w h := by omega
      have hi : vp_in (nI c) 16 := vp_inN (by omega) (by decide)
      have h88 : ∀ Z : xs_T, xs_fr [29, 30, 31, 34, 35, 36] [] X Z → rf_S w h st Z → rf_W w h (tb_askC w h num st (c + 1)) Z → jq_J l G mX6_asks (jq_R 5 0 0) jq_E0 (xs_Ye G n ad (xs_pv (fun X' => xs_fr [29, 30, 31, 34, 35, 36] [] X X' ∧ rf_S w h st X' ∧ rf_W w h (tb_asks w h num st) X'))) 88 [some (.ref (ad 21)), some (.int (nI (c))), some (.int (nI (tb_ar w h st c 1))), o3] [] n ad (xs_mem G ad Z) 0 0 := by
        intro Z hfZ hZ hWZ
        refine jq_iincN dX6_asks_88 (by decide) rfl rfl rfl ?_
        refine jq_goto (tgt := 32) dX6_asks_91 (by decide) ?_
        exact ih (c + 1) _ _ Z (by omega) hfZ hZ hWZ
      have h64 : ∀ Z : xs_T, xs_fr [29, 30, 31, 34, 35, 36] [] X Z → rf_S w h st Z → rf_W w h (if num c = nI (tb_ar w h st c 1) then tb_wantA w h st (tb_askC w h num st c) c 2 1 4 else tb_askC w h num st c) Z → jq_J l G mX6_asks (jq_R 5 0 0) jq_E0 (xs_Ye G n ad (xs_pv (fun X' => xs_fr [29, 30, 31, 34, 35, 36] [] X X' ∧ rf_S w h st X' ∧ rf_W w h (tb_asks w h num st) X'))) 64 [some (.ref (ad 21)), some (.int (nI (c))), some (.int (nI (tb_ar w h st c 1))), o3] [] n ad (xs_mem G ad Z) 0 0 := by
        intro Z hfZ hZ hWZ
        have hT2 := rf_fr hT hfZ
        have h3 := rf_nfr hN hfZ (by decide) c hc
        refine jq_aload_n dX6_asks_64 rfl rfl ?_
        refine xq_getR 27 fX6_25 dX6_asks_65 (xs_lt (by decide) hn) (by decide) ?_
        refine jq_iload_n dX6_asks_68 rfl rfl ?_
        refine xq_iaload dX6_asks_69 (xs_lt (by decide) hn) rfl hi (xs_rd h3 (by omega)) ?_
        refine jq_iload_n dX6_asks_70 rfl rfl ?_
        refine jq_aload_n dX6_asks_71 rfl rfl ?_
        refine jq_iload_n dX6_asks_72 rfl rfl ?_
        refine jq_iconst (v := (nI 0)) dX6_asks_73 (by decide) ?_
        refine xq_vI dX6_asks_74 kX6_111 (c_X6_around hn hT2 hZ (by omega) (by decide)) (xs_lt (by decide) hn) ⟨rfl, rfl⟩ rfl rfl (Nat.le_of_ble_eq_true rfl) ⟨⟨by decide, by decide⟩, Nat.le_refl _, Nat.le_refl _⟩ ?_
        refine jq_iaddN dX6_asks_77 ?_
        refine jq_icmp_ne (tgt := 88) dX6_asks_78 (by decide) (fun c78 => ?_) (fun c78 => ?_)
        · first | exact h88 _ (xs_fr_tr hfZ (xs_fr_mo h85.1 (by decide))) (rf_sfr hZ h85.1) hg | exact h88 Z hfZ hZ (by rw [tb_askC]; rw [if_neg c78]; exact hWZ)
        · refine jq_aload_n dX6_asks_81 rfl rfl ?_
          refine jq_iload_n dX6_asks_82 rfl rfl ?_
          refine jq_iconst (v := (nI 1)) dX6_asks_83 (by decide) ?_
          refine jq_iconst (v := (nI 2)) dX6_asks_84 (by decide) ?_
          refine xq_rV dX6_asks_85 kX6_141 (c_X6_wantAround hn hT2 hZ hWZ hc (by decide) (by decide)) (xs_lt (by decide) hn) ⟨rfl, rfl⟩ rfl rfl (Nat.le_of_ble_eq_true rfl) ⟨⟨by decide, by decide⟩, Nat.le_refl _, Nat.le_refl _⟩ (fun X85 h85 => ?_)
          have hg : rf_W w h (tb_askC w h num st (c + 1)) X85 := by
            rw [tb_askC]; rw [if_pos c78]; exact h85.2
          first | exact h88 _ (xs_fr_tr hfZ (xs_fr_mo h85.1 (by decide))) (rf_sfr hZ h85.1) hg | exact h88 Z hfZ hZ (by rw [tb_askC]; rw [if_neg c78]; exact hWZ)
      have hT2 := rf_fr hT hf
      have h3 := rf_nfr hN hf (by decide) c hc
      refine jq_iload_n dX6_asks_32 rfl rfl ?_
      refine jq_aload_n dX6_asks_33 rfl rfl ?_
      refine xq_getI fX6_71 dX6_asks_34 (xs_lt (by decide) hn) (by decide) hT2.2.2.2.1 ?_
      refine jq_geN (tgt := 94) dX6_asks_37 (by decide) ⟨by omega, by omega⟩ (fun c37 => ?_) (fun c37 => ?_)
      · exact absurd c37 (by omega)
      · refine jq_aload_n dX6_asks_40 rfl rfl ?_
        refine jq_iload_n dX6_asks_41 rfl rfl ?_
        refine jq_iconst (v := (nI 1)) dX6_asks_42 (by decide) ?_
        refine xq_vI dX6_asks_43 kX6_111 (c_X6_around hn hT2 hY (by omega) (by decide)) (xs_lt (by decide) hn) ⟨rfl, rfl⟩ rfl rfl (Nat.le_of_ble_eq_true rfl) ⟨⟨by decide, by decide⟩, Nat.le_refl _, Nat.le_refl _⟩ ?_
        refine jq_istore_n dX6_asks_46 rfl (by decide) rfl rfl ?_
        refine jq_aload_n dX6_asks_47 rfl rfl ?_
        refine xq_getR 27 fX6_25 dX6_asks_48 (xs_lt (by decide) hn) (by decide) ?_
        refine jq_iload_n dX6_asks_51 rfl rfl ?_
        refine xq_iaload dX6_asks_52 (xs_lt (by decide) hn) rfl hi (xs_rd h3 (by omega)) ?_
        refine jq_iload_n dX6_asks_53 rfl rfl ?_
        refine jq_icmp_ne (tgt := 64) dX6_asks_54 (by decide) (fun c54 => ?_) (fun c54 => ?_)
        · first | exact h64 _ (xs_fr_tr hf (xs_fr_mo h61.1 (by decide))) (rf_sfr hY h61.1) (by rw [if_pos c54]; exact h61.2) | exact h64 Y hf hY (by rw [if_neg c54]; exact hWY)
        · refine jq_aload_n dX6_asks_57 rfl rfl ?_
          refine jq_iload_n dX6_asks_58 rfl rfl ?_
          refine jq_iconst (v := (nI 2)) dX6_asks_59 (by decide) ?_
          refine jq_iconst (v := (nI 1)) dX6_asks_60 (by decide) ?_
          refine xq_rV dX6_asks_61 kX6_141 (c_X6_wantAround hn hT2 hY hWY hc (by decide) (by decide)) (xs_lt (by decide) hn) ⟨rfl, rfl⟩ rfl rfl (Nat.le_of_ble_eq_true rfl) ⟨⟨by decide, by decide⟩, Nat.le_refl _, Nat.le_refl _⟩ (fun X61 h61 => ?_)
          first | exact h64 _ (xs_fr_tr hf (xs_fr_mo h61.1 (by decide))) (rf_sfr hY h61.1) (by rw [if_pos c54]; exact h61.2) | exact h64 Y hf hY (by rw [if_neg c54]; exact hWY)
  -- the rows cleared
  have loop1 : ∀ (k e : Nat) (o2 o3 : Option Value) (Y : xs_T), e + k = tb_ne w h → xs_fr [29, 30, 31, 34, 35, 36] [] X Y → rf_S w h st Y → (∀ j, j < e → Y.2.2.1 30 j = nI 0 ∧ Y.2.2.1 31 j = nI 0) → jq_J l G mX6_asks (jq_R 5 0 0) jq_E0 (xs_Ye G n ad (xs_pv (fun X' => xs_fr [29, 30, 31, 34, 35, 36] [] X X' ∧ rf_S w h st X' ∧ rf_W w h (tb_asks w h num st) X'))) 2 [some (.ref (ad 21)), some (.int (nI (e))), o2, o3] [] n ad (xs_mem G ad Y) 0 0 := by
    intro k
    induction k with
    | zero =>
      intro e o2 o3 Y hk hf hY h0
      have hT2 := rf_fr hT hf
      refine jq_iload_n dX6_asks_2 rfl rfl ?_
      refine jq_aload_n dX6_asks_3 rfl rfl ?_
      refine xq_getI fX6_74 dX6_asks_4 (xs_lt (by decide) hn) (by decide) hT2.2.2.2.2.1 ?_
      refine jq_geN (tgt := 30) dX6_asks_7 (by decide) ⟨by omega, by omega⟩ (fun c7 => ?_) (fun c7 => ?_)
      · refine jq_iconst (v := (nI 0)) dX6_asks_30 (by decide) ?_
        refine jq_istore_n dX6_asks_31 rfl (by decide) rfl rfl ?_
        exact loop2 (tb_nc w h) 0 _ _ Y (by omega) hf hY (fun j hj => ⟨(h0 j (by omega)).1, (h0 j (by omega)).2, Nat.zero_le _, Nat.zero_le _⟩)
      · exact absurd c7 (by omega)
    | succ k ih =>
      intro e o2 o3 Y hk hf hY h0
      have hT2 := rf_fr hT hf
      have hi : vp_in (nI e) 40 := vp_inN (by omega) (by decide)
      refine jq_iload_n dX6_asks_2 rfl rfl ?_
      refine jq_aload_n dX6_asks_3 rfl rfl ?_
      refine xq_getI fX6_74 dX6_asks_4 (xs_lt (by decide) hn) (by decide) hT2.2.2.2.2.1 ?_
      refine jq_geN (tgt := 30) dX6_asks_7 (by decide) ⟨by omega, by omega⟩ (fun c7 => ?_) (fun c7 => ?_)
      · exact absurd c7 (by omega)
      · refine jq_aload_n dX6_asks_10 rfl rfl ?_
        refine xq_getR 30 fX6_34 dX6_asks_11 (xs_lt (by decide) hn) (by decide) ?_
        refine jq_iload_n dX6_asks_14 rfl rfl ?_
        refine jq_iconst (v := (nI 0)) dX6_asks_15 (by decide) ?_
        refine xq_iastore dX6_asks_16 (xs_lt (by decide) hn) rfl hi ?_
        refine jq_aload_n dX6_asks_17 rfl rfl ?_
        refine xq_getR 31 fX6_37 dX6_asks_18 (xs_lt (by decide) hn) (by decide) ?_
        refine jq_iload_n dX6_asks_21 rfl rfl ?_
        refine jq_iconst (v := (nI 0)) dX6_asks_22 (by decide) ?_
        refine xq_iastore dX6_asks_23 (xs_lt (by decide) hn) rfl hi ?_
        refine jq_iincN dX6_asks_24 (by decide) rfl rfl rfl ?_
        refine jq_goto (tgt := 2) dX6_asks_27 (by decide) ?_
        refine ih (e + 1) _ _ _ (by omega) (xs_fr_ai (xs_fr_ai hf (by decide)) (by decide)) (fun j hj => ?_) (fun j hj => ?_)
        · rw [xs_ai_ne (by decide), xs_ai_ne (by decide)]; exact hY j hj
        rw [xs_ai_at, xs_ai_ne (by decide), xs_ai_at]
        rcases Nat.lt_or_ge j e with q | q
        · rw [xs_upd_ne (by omega) (by omega), xs_upd_ne (by omega) (by omega)]; exact h0 j q
        · rw [show j = e by omega, xs_upd_at (by omega), xs_upd_at (by omega)]; exact ⟨rfl, rfl⟩
  refine xs_Ct_of (L := [some (.ref (ad 21)), none, none, none]) rfl (Nat.le_of_ble_eq_true rfl) rfl ?_
  refine jq_iconst (v := (nI 0)) dX6_asks_0 (by decide) ?_
  refine jq_istore_n dX6_asks_1 rfl (by decide) rfl rfl ?_
  exact loop1 (tb_ne w h) 0 _ _ X (by omega) xs_fr_rf hS (fun j hj => absurd hj (Nat.not_lt_zero j))
