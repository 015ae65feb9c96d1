/-! what the law looks at -/
def lw_any (w h : Nat) (mk : Nat → Nat) (p e : Nat) : Bool := (List.range e).any (fun j => mk j == 1 && tb_L w h (tb_isL mk) (tb_one w h j) == p)
def lw_wy (w h : Nat) (mk : Nat → Nat) (e : Nat) : Nat := fb_ct (fun p => tb_L w h (tb_isL mk) p == p && lw_any w h mk p e) (tb_np w h)
theorem lw_any_s {w h : Nat} {mk : Nat → Nat} {p e : Nat} : lw_any w h mk p (e + 1) = (lw_any w h mk p e || (mk e == 1 && tb_L w h (tb_isL mk) (tb_one w h e) == p)) := lr_any_s
theorem lw_no {w h : Nat} {mk : Nat → Nat} {e : Nat} (hm : mk e ≠ 1) (p : Nat) : lw_any w h mk p (e + 1) = lw_any w h mk p e := by
  rw [lw_any_s, beq_eq_false_iff_ne.mpr hm]; simp
theorem lw_old {w h : Nat} {mk : Nat → Nat} {e : Nat} (hm : lw_any w h mk (tb_L w h (tb_isL mk) (tb_one w h e)) e = true) (p : Nat) : lw_any w h mk p (e + 1) = lw_any w h mk p e := by
  rw [lw_any_s]
  cases z : lw_any w h mk p e with
  | true => rfl
  | false =>
    cases y : (mk e == 1 && tb_L w h (tb_isL mk) (tb_one w h e) == p) with
    | false => rfl
    | true =>
      rw [Bool.and_eq_true, beq_iff_eq, beq_iff_eq] at y
      rw [y.2, z] at hm
      cases hm
theorem lw_wy_same {w h : Nat} {mk : Nat → Nat} {e : Nat} (hs : ∀ p, lw_any w h mk p (e + 1) = lw_any w h mk p e) : lw_wy w h mk (e + 1) = lw_wy w h mk e := fb_ct_cong (fun p _ => by rw [hs])
theorem lw_wy_new {w h : Nat} (k : lr_k w h) {mk : Nat → Nat} {e : Nat} (he : e < tb_ne w h) (h1 : mk e = 1) (hm : lw_any w h mk (tb_L w h (tb_isL mk) (tb_one w h e)) e = false) : lw_wy w h mk (e + 1) = lw_wy w h mk e + 1 := by
  have hlt := (lr_way_of k he h1).2
  have hid : tb_L w h (tb_isL mk) (tb_L w h (tb_isL mk) (tb_one w h e)) = tb_L w h (tb_isL mk) (tb_one w h e) := lb_idem _ _
  have h2 := fb_ct_upd (fun p => tb_L w h (tb_isL mk) p == p && lw_any w h mk p e) true hlt
  simp only [hm, Bool.and_false, Bool.false_eq_true, if_false, if_true] at h2
  unfold lw_wy
  rw [← h2, Nat.add_zero]
  refine fb_ct_cong (fun p _ => ?_)
  rw [lw_any_s]
  by_cases z : p = tb_L w h (tb_isL mk) (tb_one w h e)
  · rw [if_pos z, z, hid, h1]; simp
  · rw [if_neg z, show (tb_L w h (tb_isL mk) (tb_one w h e) == p) = false from beq_eq_false_iff_ne.mpr (fun q => z q.symm)]; simp
theorem lw_wy_all {w h : Nat} (k : lr_k w h) (mk : Nat → Nat) : lw_wy w h mk (tb_ne w h) = tb_ways w h mk := by
  unfold lw_wy tb_ways
  refine fb_ct_cong (fun p hp => ?_)
  rw [Bool.eq_iff_iff, lr_way, Bool.and_eq_true, beq_iff_eq]
  refine and_congr_right (fun hL => ?_)
  unfold lw_any
  rw [lr_anyI]
  constructor
  · rintro ⟨j, hj, hb⟩
    rw [Bool.and_eq_true, beq_iff_eq, beq_iff_eq] at hb
    have := (lr_way.mp (lr_way_of k hj hb.1).1).2
    rw [hb.2] at this
    exact this
  · intro hd
    obtain ⟨j, hj, h1, h2⟩ := lr_deg_pos.mp hd
    refine ⟨j, hj, ?_⟩
    rw [Bool.and_eq_true, beq_iff_eq, beq_iff_eq, ← lr_join hj h1 h2]
    exact ⟨h1, hL⟩
set_option maxHeartbeats 16000000 in
theorem lo_all {l : Launch} {G : jq_G} {ad ad4 : Nat → Nat} {X X5 : xs_T} {w h : Nat} {num : Nat → Int32} {mk : Nat → Nat} (hl : l.stackTraces = false) (ha4 : ∀ k, k < 24 → ad4 k = ad k) (hL : lk_Lw 28 w h num mk X5) (hA : dv_A w h num mk X5) (hC : dv_LC w h X5) (hn0 : ∀ c, c < tb_nc w h → tb_numOk (num c) = true) (hR : lr_rows 28 24 X) (hF : lr_F 28 w h 24 (tb_follow w h num mk) (tb_hint w h num mk) X X5) (y : Int32) (v11 : Int32) (o12 o13 o14 : Option Value) : jq_J l G mL_looks (jq_R 26 10 200) (jx_E []) (xj_Ye G 24 ad (xs_pi (fun r X' => r = nI 1 ∧ lk_Z X')) 10 200) 119 [some (.ref (ad4 0)), some (.int (y)), some (.ref (ad4 21)), some (.ref (ad4 22)), some (.ref (ad4 23)), some (.ref (ad4 24)), some (.ref (ad4 25)), some (.ref (ad4 26)), some (.ref (ad4 27)), some (.int (nI (tb_cnt w h mk 1))), some (.int (nI (tb_ways w h mk))), some (.int (v11)), o12, o13, o14] [] (28) ad4 (xs_mem G ad4 X5) (5) (100) := by
  obtain ⟨hB, hN, hS⟩ := id hL
  have hk := hB.2.2.2
  have hz := lr_sz hk
  have hn : 21 ≤ 28 := by decide
  have hnum := lk_nums hn0
  obtain ⟨hzr, hzl, hzt⟩ := lk_F28 hF hR
  have t1 : X5.2.2.1 27 (nI 1).toNatClampNeg = nI (tb_follow w h num mk).2.2.2.2 := hF.2.2.2.2.1
  have t2 : X5.2.2.1 27 (nI 2).toNatClampNeg = tb_hint w h num mk := hF.2.2.2.2.2
  have facts : ∀ Y, xs_fr dv_SC dv_FC X5 Y → lr_B 28 w h Y ∧ lr_N 28 w h num Y ∧ lr_S 28 w h 23 mk Y ∧ dv_A w h num mk Y ∧ dv_LC w h Y ∧ (27 < 28 ∧ 21 ≤ 27 ∧ (Y.1 27 0).toNatClampNeg = 4) ∧ Y.2.2.1 27 = X5.2.2.1 27 := fun Y hf =>
    ⟨(lk_fr hL hf).1, (lk_fr hL hf).2.1, (lk_fr hL hf).2.2, dv_afr hA hf, dv_lcfr hC hf, ⟨by decide, by decide, by rw [(hf.1 27 0 (by decide)).1]; exact hzt.2.2⟩, xs_fa hf 27⟩
  have done : ∀ Y, xs_fr dv_SC dv_FC X5 Y → lk_Z Y := fun Y hf => ⟨w, h, num, mk, lk_24 (lk_fr hL hf), dv_afr hA hf, dv_lcfr hC hf, hn0⟩
  have s279 : ∀ (c s : Nat) (iv : Nat) (Y : xs_T), xs_fr dv_SC dv_FC X5 Y → c ≤ tb_nc w h → s < 5 → iv = (if c < tb_nc w h ∧ s < 4 then 1 else 0) → jq_J l G mL_looks (jq_R 26 10 200) (jx_E []) (xj_Ye G 24 ad (xs_pi (fun r X' => r = nI 1 ∧ lk_Z X')) 10 200) 279 [some (.ref (ad4 0)), some (.int (y)), some (.ref (ad4 21)), some (.ref (ad4 22)), some (.ref (ad4 23)), some (.ref (ad4 24)), some (.ref (ad4 25)), some (.ref (ad4 26)), some (.ref (ad4 27)), some (.int (nI (tb_cnt w h mk 1))), some (.int (nI (tb_ways w h mk))), some (.int (v11)), some (.int (nI (c))), some (.int (nI (s))), some (.int (nI (iv)))] [] (28) ad4 (xs_mem G ad4 Y) (5) (100) := by
    intro c s iv Y hf hc hs hiv
    obtain ⟨hB, hN, hS, hA, hC, hzt, e27⟩ := facts Y hf
    by_cases hin : c < tb_nc w h ∧ s < 4
    · rw [if_pos hin] at hiv
      subst hiv
      refine jq_aload_n dL_looks_279 rfl rfl ?_
      refine jq_iconst (v := (nI 3)) dL_looks_280 (by decide) ?_
      refine jq_iload dL_looks_281 rfl ?_
      refine jq_iload dL_looks_283 rfl ?_
      refine xx_sI (M' := mL_of) (hh := hL_of) (na := 4) jx_E_ok dL_looks_285 gL_156 ⟨by decide, by decide, by decide +kernel⟩ (c_L_of3_ok hn hA.1 hin.1 hin.2) rfl rfl (Nat.le_of_ble_eq_true rfl) ⟨⟨by decide, by decide⟩, by decide, by decide⟩ (fun v285 X285 h285 => ?_)
      obtain ⟨r285, f285⟩ := h285
      subst f285
      refine jq_iload dL_looks_288 rfl ?_
      refine jq_eqZ (tgt := 304) dL_looks_290 (by decide) (by decide) (fun c290 => ?_) (fun c290 => ?_)
      · exact absurd c290 (by decide)
      · refine jq_aload_n dL_looks_293 rfl rfl ?_
        refine jq_iload dL_looks_294 rfl ?_
        refine jq_iload dL_looks_296 rfl ?_
        refine xq_sI dL_looks_298 kL_29 (c_L_side hB hin.1 hin.2) rfl rfl (Nat.le_of_ble_eq_true rfl) ⟨⟨by decide, by decide⟩, by decide, by decide⟩ ?_
        refine jq_goto (tgt := 306) dL_looks_301 (by decide) ?_
        refine jq_icmp_ne (tgt := 313) dL_looks_306 (by decide) (fun c306 => ?_) (fun c306 => ?_)
        · exact absurd r285 c306
        · refine jq_iconst (v := (nI 1)) dL_looks_309 (by decide) ?_
          refine jq_goto (tgt := 314) dL_looks_310 (by decide) ?_
          exact xj_ireturn dL_looks_314 rfl rfl (⟨by decide, by decide⟩) (by omega) (by omega) ha4 (⟨_, rfl, rfl, done _ hf⟩)
    · rw [if_neg hin] at hiv
      subst hiv
      have hno : (tb_inB (nI c) (tb_nc w h) && tb_inB (nI s) 4) = false := by
        rw [Bool.eq_false_iff]
        intro q
        rw [Bool.and_eq_true] at q
        obtain ⟨a, ha, ea⟩ := lk_inB (by omega) q.1
        obtain ⟨b, hb, eb⟩ := lk_inB (by decide) q.2
        rw [nI_eq (by omega) (by omega)] at ea eb
        exact hin ⟨by omega, by omega⟩
      refine jq_aload_n dL_looks_279 rfl rfl ?_
      refine jq_iconst (v := (nI 3)) dL_looks_280 (by decide) ?_
      refine jq_iload dL_looks_281 rfl ?_
      refine jq_iload dL_looks_283 rfl ?_
      refine xx_sI (M' := mL_of) (hh := hL_of) (na := 4) jx_E_ok dL_looks_285 gL_156 ⟨by decide, by decide, by decide +kernel⟩ (c_L_of3_no hl hn hA.1 _ _ hno) rfl rfl (Nat.le_of_ble_eq_true rfl) ⟨⟨by decide, by decide⟩, by decide, by decide⟩ (fun v285 X285 h285 => ?_)
      obtain ⟨r285, f285⟩ := h285
      subst f285
      refine jq_iload dL_looks_288 rfl ?_
      refine jq_eqZ (tgt := 304) dL_looks_290 (by decide) (by decide) (fun c290 => ?_) (fun c290 => ?_)
      · refine jq_bipush (v := (-101)) dL_looks_304 (by decide) ?_
        refine jq_icmp_ne (tgt := 313) dL_looks_306 (by decide) (fun c306 => ?_) (fun c306 => ?_)
        · exact absurd r285 c306
        · refine jq_iconst (v := (nI 1)) dL_looks_309 (by decide) ?_
          refine jq_goto (tgt := 314) dL_looks_310 (by decide) ?_
          exact xj_ireturn dL_looks_314 rfl rfl (⟨by decide, by decide⟩) (by omega) (by omega) ha4 (⟨_, rfl, rfl, done _ hf⟩)
      · exact absurd rfl c290
  have s168 : ∀ (c s : Nat) (iv : Nat), c ≤ tb_nc w h → s < 5 → iv = (if c < tb_nc w h ∧ s < 4 then 1 else 0) → jq_J l G mL_looks (jq_R 26 10 200) (jx_E []) (xj_Ye G 24 ad (xs_pi (fun r X' => r = nI 1 ∧ lk_Z X')) 10 200) 168 [some (.ref (ad4 0)), some (.int (y)), some (.ref (ad4 21)), some (.ref (ad4 22)), some (.ref (ad4 23)), some (.ref (ad4 24)), some (.ref (ad4 25)), some (.ref (ad4 26)), some (.ref (ad4 27)), some (.int (nI (tb_cnt w h mk 1))), some (.int (nI (tb_ways w h mk))), some (.int (v11)), some (.int (nI (c))), some (.int (nI (s))), some (.int (nI (iv)))] [] (28) ad4 (xs_mem G ad4 X5) (5) (100) := by
    intro c s iv hc hs hiv
    have s229 : ∀ (Y : xs_T) (v : Nat), xs_fr dv_SC dv_FC X5 Y → nI v = tb_b (tb_isLoop w h mk && tb_right w h num mk) → jq_J l G mL_looks (jq_R 26 10 200) (jx_E []) (xj_Ye G 24 ad (xs_pi (fun r X' => r = nI 1 ∧ lk_Z X')) 10 200) 229 [some (.ref (ad4 0)), some (.int (y)), some (.ref (ad4 21)), some (.ref (ad4 22)), some (.ref (ad4 23)), some (.ref (ad4 24)), some (.ref (ad4 25)), some (.ref (ad4 26)), some (.ref (ad4 27)), some (.int (nI (tb_cnt w h mk 1))), some (.int (nI (tb_ways w h mk))), some (.int (v11)), some (.int (nI (c))), some (.int (nI (s))), some (.int (nI (iv)))] [.int (nI (v)), .int (tb_b (tb_isLoop w h mk && tb_right w h num mk))] (28) ad4 (xs_mem G ad4 Y) (5) (100) := by
      intro Y v hf hv
      obtain ⟨hB, hN, hS, hA, hC, hzt, e27⟩ := facts Y hf
      refine jq_icmp_ne (tgt := 313) dL_looks_229 (by decide) (fun c229 => ?_) (fun c229 => ?_)
      · exact absurd hv.symm c229
      · refine jq_aload_n dL_looks_232 rfl rfl ?_
        refine xq_rI dL_looks_233 kL_177 (c_X5_hint hn hA) (xs_lt (by decide) hn) ⟨rfl, rfl⟩ rfl rfl (Nat.le_of_ble_eq_true rfl) ⟨⟨by decide, by decide⟩, by decide, by decide⟩ (fun v233 X233 h233 => ?_)
        obtain ⟨r233, f233⟩ := h233
        have g233 := xs_fr_tr hf f233
        obtain ⟨hB3, hN3, hS3, hA3, hC3, hzt3, e3⟩ := facts _ g233
        refine jq_aload dL_looks_236 rfl ?_
        refine jq_iconst (v := (nI 2)) dL_looks_238 (by decide) ?_
        refine xq_iald dL_looks_239 (hzt3) (lr_t2) (((congrFun e3 _).trans t2)) ?_
        refine jq_icmp_ne (tgt := 313) dL_looks_240 (by decide) (fun c240 => ?_) (fun c240 => ?_)
        · exact absurd r233 c240
        · refine jq_aload_n dL_looks_243 rfl rfl ?_
          refine xq_rI dL_looks_244 kL_163 (c_X5_end hn hA3) (xs_lt (by decide) hn) ⟨rfl, rfl⟩ rfl rfl (Nat.le_of_ble_eq_true rfl) ⟨⟨by decide, by decide⟩, by decide, by decide⟩ (fun v244 X244 h244 => ?_)
          obtain ⟨r244, f244⟩ := h244
          have g244 := xs_fr_tr g233 f244
          obtain ⟨hB4, hN4, hS4, hA4, hC4, hzt4, e4⟩ := facts _ g244
          have hB := hB4
          refine jq_aload dL_looks_247 rfl ?_
          refine jq_iconst (v := (nI 1)) dL_looks_249 (by decide) ?_
          refine xq_iald dL_looks_250 (hzt4) (lr_t1) (((congrFun e4 _).trans t1)) ?_
          refine jq_icmp_ne (tgt := 313) dL_looks_251 (by decide) (fun c251 => ?_) (fun c251 => ?_)
          · exact absurd r244 c251
          · refine jq_aload_n dL_looks_254 rfl rfl ?_
            refine xq_vI dL_looks_255 kL_180 (c_X5_cells hn hA4.1) (xs_lt (by decide) hn) ⟨rfl, rfl⟩ rfl rfl (Nat.le_of_ble_eq_true rfl) ⟨⟨by decide, by decide⟩, by decide, by decide⟩ ?_
            refine jq_aload_n dL_looks_258 rfl rfl ?_
            refine jq_iconst (v := (nI 0)) dL_looks_259 (by decide) ?_
            refine xq_iald dL_looks_260 hB.1 lr_v0 hB.2.1 ?_
            refine jq_aload_n dL_looks_261 rfl rfl ?_
            refine jq_iconst (v := (nI 1)) dL_looks_262 (by decide) ?_
            refine xq_iald dL_looks_263 hB.1 lr_v1 hB.2.2.1 ?_
            refine jq_imulN dL_looks_264 ?_
            refine jq_icmp_ne (tgt := 313) dL_looks_265 (by decide) (fun c265 => ?_) (fun c265 => ?_)
            · exact absurd rfl c265
            · refine jq_aload_n dL_looks_268 rfl rfl ?_
              refine xq_vI dL_looks_269 kL_183 (c_X5_edges hn hA4.1) (xs_lt (by decide) hn) ⟨rfl, rfl⟩ rfl rfl (Nat.le_of_ble_eq_true rfl) ⟨⟨by decide, by decide⟩, by decide, by decide⟩ ?_
              refine jq_aload_n dL_looks_272 rfl rfl ?_
              refine xq_sI dL_looks_273 kL_32 (c_L_edges hB4) rfl rfl (Nat.le_of_ble_eq_true rfl) ⟨⟨by decide, by decide⟩, by decide, by decide⟩ ?_
              refine jq_icmp_ne (tgt := 313) dL_looks_276 (by decide) (fun c276 => ?_) (fun c276 => ?_)
              · exact absurd rfl c276
              · exact s279 c s iv _ g244 hc hs hiv
    refine jq_aload_n dL_looks_168 rfl rfl ?_
    refine xq_vI dL_looks_169 kL_166 (c_X5_lines hn hA) (xs_lt (by decide) hn) ⟨rfl, rfl⟩ rfl rfl (Nat.le_of_ble_eq_true rfl) ⟨⟨by decide, by decide⟩, by decide, by decide⟩ ?_
    refine jq_iload dL_looks_172 rfl ?_
    refine jq_icmp_ne (tgt := 313) dL_looks_174 (by decide) (fun c174 => ?_) (fun c174 => ?_)
    · exact absurd rfl c174
    · refine jq_aload_n dL_looks_177 rfl rfl ?_
      refine xq_vI dL_looks_178 kL_168 (c_X5_ways hn hA) (xs_lt (by decide) hn) ⟨rfl, rfl⟩ rfl rfl (Nat.le_of_ble_eq_true rfl) ⟨⟨by decide, by decide⟩, by decide, by decide⟩ ?_
      refine jq_iload dL_looks_181 rfl ?_
      refine jq_icmp_ne (tgt := 313) dL_looks_183 (by decide) (fun c183 => ?_) (fun c183 => ?_)
      · exact absurd rfl c183
      · refine jq_aload_n dL_looks_186 rfl rfl ?_
        refine xq_rI dL_looks_187 kL_171 (c_X5_broken hn hA) (xs_lt (by decide) hn) ⟨rfl, rfl⟩ rfl rfl (Nat.le_of_ble_eq_true rfl) ⟨⟨by decide, by decide⟩, by decide, by decide⟩ (fun v187 X187 h187 => ?_)
        obtain ⟨r187, f187⟩ := h187
        obtain ⟨hB2, hN2, hS2, hA2, hC2, hzt2, e2⟩ := facts _ f187
        refine jq_aload_n dL_looks_190 rfl rfl ?_
        refine jq_aload dL_looks_191 rfl ?_
        refine jq_aload_n dL_looks_193 rfl rfl ?_
        refine xq_sI dL_looks_194 kL_67 (c_L_broken hB2 hS2 hN2) rfl rfl (Nat.le_of_ble_eq_true rfl) ⟨⟨by decide, by decide⟩, by decide, by decide⟩ ?_
        rw [lr_br_eq hk hnum]
        refine jq_icmp_ne (tgt := 313) dL_looks_197 (by decide) (fun c197 => ?_) (fun c197 => ?_)
        · exact absurd r187 c197
        · refine jq_aload_n dL_looks_200 rfl rfl ?_
          refine xq_vI dL_looks_201 kL_173 (c_X5_isAnswer hn hA2) (xs_lt (by decide) hn) ⟨rfl, rfl⟩ rfl rfl (Nat.le_of_ble_eq_true rfl) ⟨⟨by decide, by decide⟩, by decide, by decide⟩ ?_
          refine jq_aload_n dL_looks_204 rfl rfl ?_
          refine jq_aload dL_looks_205 rfl ?_
          refine xq_sI dL_looks_207 kL_63 (c_L_isLoop hB2 hS2) rfl rfl (Nat.le_of_ble_eq_true rfl) ⟨⟨by decide, by decide⟩, by decide, by decide⟩ ?_
          rw [lr_lp_eq hk]
          refine jq_if_eq (tgt := 228) dL_looks_210 (by decide) (fun c210 => ?_) (fun c210 => ?_)
          · have d210 := tb_b0.mp c210
            have hv : nI 0 = tb_b (tb_isLoop w h mk && tb_right w h num mk) := by rw [d210]; rfl
            refine jq_iconst (v := (nI 0)) dL_looks_228 (by decide) ?_
            exact s229 _ _ f187 hv
          · have d210 := tb_b1.mp c210
            refine jq_aload_n dL_looks_213 rfl rfl ?_
            refine jq_aload dL_looks_214 rfl ?_
            refine jq_aload_n dL_looks_216 rfl rfl ?_
            refine jq_iconst (v := (-1)) dL_looks_217 (by decide) ?_
            refine xq_sI dL_looks_218 kL_55 (c_L_areRight hB2 hS2 hN2 (-1)) rfl rfl (Nat.le_of_ble_eq_true rfl) ⟨⟨by decide, by decide⟩, by decide, by decide⟩ ?_
            rw [lr_rt_eq hk hnum]
            refine jq_if_eq (tgt := 228) dL_looks_221 (by decide) (fun c221 => ?_) (fun c221 => ?_)
            · have hv : nI 0 = tb_b (tb_isLoop w h mk && tb_right w h num mk) := by rw [tb_b0.mp c221, Bool.and_false]; rfl
              refine jq_iconst (v := (nI 0)) dL_looks_228 (by decide) ?_
              exact s229 _ _ f187 hv
            · have hv : nI 1 = tb_b (tb_isLoop w h mk && tb_right w h num mk) := by rw [tb_b1.mp c221, d210]; rfl
              refine jq_iconst (v := (nI 1)) dL_looks_224 (by decide) ?_
              refine jq_goto (tgt := 229) dL_looks_225 (by decide) ?_
              exact s229 _ _ f187 hv
  have h5 := lr_sm_lt (y >>> (nI 3 &&& 31)) (show 0 < 5 by decide)
  have hcm := lr_sm_lt y (show 0 < w * h + 1 by omega)
  refine jq_iload_n dL_looks_119 rfl rfl ?_
  refine jq_aload_n dL_looks_120 rfl rfl ?_
  refine jq_iconst (v := (nI 0)) dL_looks_121 (by decide) ?_
  refine xq_iald dL_looks_122 hB.1 lr_v0 hB.2.1 ?_
  refine jq_aload_n dL_looks_123 rfl rfl ?_
  refine jq_iconst (v := (nI 1)) dL_looks_124 (by decide) ?_
  refine xq_iald dL_looks_125 hB.1 lr_v1 hB.2.2.1 ?_
  refine jq_imulN dL_looks_126 ?_
  refine jq_iconst (v := (nI 1)) dL_looks_127 (by decide) ?_
  refine jq_iaddN dL_looks_128 ?_
  refine xq_sI dL_looks_129 kL_135 (c_L_some y (by omega) (by omega)) rfl rfl (Nat.le_of_ble_eq_true rfl) ⟨⟨by decide, by decide⟩, by decide, by decide⟩ ?_
  refine jq_istore dL_looks_132 (by decide) rfl rfl ?_
  refine jq_iload_n dL_looks_134 rfl rfl ?_
  refine jq_iconst (v := (nI 3)) dL_looks_135 (by decide) ?_
  refine jq_ishr dL_looks_136 rfl ?_
  refine jq_iconst (v := (nI 5)) dL_looks_137 (by decide) ?_
  refine xq_sI dL_looks_138 kL_135 (c_L_some _ (by decide) (by decide)) rfl rfl (Nat.le_of_ble_eq_true rfl) ⟨⟨by decide, by decide⟩, by decide, by decide⟩ ?_
  refine jq_istore dL_looks_141 (by decide) rfl rfl ?_
  refine jq_iload dL_looks_143 rfl ?_
  refine jq_aload_n dL_looks_145 rfl rfl ?_
  refine jq_iconst (v := (nI 0)) dL_looks_146 (by decide) ?_
  refine xq_iald dL_looks_147 hB.1 lr_v0 hB.2.1 ?_
  refine jq_aload_n dL_looks_148 rfl rfl ?_
  refine jq_iconst (v := (nI 1)) dL_looks_149 (by decide) ?_
  refine xq_iald dL_looks_150 hB.1 lr_v1 hB.2.2.1 ?_
  refine jq_imulN dL_looks_151 ?_
  refine jq_geN (tgt := 165) dL_looks_152 (by decide) ⟨by omega, by omega⟩ (fun c152 => ?_) (fun c152 => ?_)
  · have hiv : 0 = (if lr_sm y (w * h + 1) < tb_nc w h ∧ lr_sm (y >>> (nI 3 &&& 31)) 5 < 4 then 1 else 0) := by rw [if_neg (fun q => by omega)]
    refine jq_iconst (v := (nI 0)) dL_looks_165 (by decide) ?_
    refine jq_istore dL_looks_166 (by decide) rfl rfl ?_
    exact s168 _ _ _ (by omega) h5 hiv
  · refine jq_iload dL_looks_155 rfl ?_
    refine jq_iconst (v := (nI 4)) dL_looks_157 (by decide) ?_
    refine jq_geN (tgt := 165) dL_looks_158 (by decide) ⟨by omega, by omega⟩ (fun c158 => ?_) (fun c158 => ?_)
    · have hiv : 0 = (if lr_sm y (w * h + 1) < tb_nc w h ∧ lr_sm (y >>> (nI 3 &&& 31)) 5 < 4 then 1 else 0) := by rw [if_neg (fun q => by omega)]
      refine jq_iconst (v := (nI 0)) dL_looks_165 (by decide) ?_
      refine jq_istore dL_looks_166 (by decide) rfl rfl ?_
      exact s168 _ _ _ (by omega) h5 hiv
    · have hiv : 1 = (if lr_sm y (w * h + 1) < tb_nc w h ∧ lr_sm (y >>> (nI 3 &&& 31)) 5 < 4 then 1 else 0) := by rw [if_pos ⟨by omega, by omega⟩]
      refine jq_iconst (v := (nI 1)) dL_looks_161 (by decide) ?_
      refine jq_goto (tgt := 166) dL_looks_162 (by decide) ?_
      refine jq_istore dL_looks_166 (by decide) rfl rfl ?_
      exact s168 _ _ _ (by omega) h5 hiv
set_option maxHeartbeats 16000000 in
theorem c_L_looks {l : Launch} {G : jq_G} {ad : Nat → Nat} {X : xs_T} {w h : Nat} {num : Nat → Int32} {mk : Nat → Nat} (hl : l.stackTraces = false) (hI : lk_I w h num mk X) (y : Int32) : xj_Ct l G mL_looks 26 10 200 [.ref (ad 0), .int (y), .ref (ad 21), .ref (ad 22), .ref (ad 23)] 24 ad X (xs_pi (fun r X' => r = nI 1 ∧ lk_Z X')) := by
  obtain ⟨hL, hA, hC, hn0⟩ := id hI
  have hk := hL.1.2.2.2
  have hz := lr_sz hk
  have hf4 := lk_fr4 (X := X)
  have hL4 := lk_up (lk_fr hL hf4) (show 24 ≤ 28 by decide)
  obtain ⟨hB, hN, hS⟩ := id hL4
  refine xj_Ct_of (L := [some (.ref (ad 0)), some (.int y), some (.ref (ad 21)), some (.ref (ad 22)), some (.ref (ad 23)), none, none, none, none, none, none, none, none, none, none]) rfl (Nat.le_of_ble_eq_true rfl) rfl ?_
  refine jq_bipush (v := (nI 24)) dL_looks_0 (by decide) ?_
  refine xm_newI dL_looks_2 (by decide) (by decide) ⟨by decide, by decide⟩ (fun ad1 ha1 => ?_)
  rw [← ha1 0 (by decide), ← ha1 21 (by decide), ← ha1 22 (by decide), ← ha1 23 (by decide)]
  refine jq_astore dL_looks_4 (by decide) rfl rfl ?_
  refine jq_bipush (v := (nI 24)) dL_looks_6 (by decide) ?_
  refine xm_newI dL_looks_8 (by decide) (by decide) ⟨by decide, by decide⟩ (fun ad2 ha2 => ?_)
  rw [← ha2 0 (by decide), ← ha2 21 (by decide), ← ha2 22 (by decide), ← ha2 23 (by decide), ← ha2 24 (by decide)]
  refine jq_astore dL_looks_10 (by decide) rfl rfl ?_
  refine jq_bipush (v := (nI 24)) dL_looks_12 (by decide) ?_
  refine xm_newI dL_looks_14 (by decide) (by decide) ⟨by decide, by decide⟩ (fun ad3 ha3 => ?_)
  rw [← ha3 0 (by decide), ← ha3 21 (by decide), ← ha3 22 (by decide), ← ha3 23 (by decide), ← ha3 24 (by decide), ← ha3 25 (by decide)]
  refine jq_astore dL_looks_16 (by decide) rfl rfl ?_
  refine jq_iconst (v := (nI 4)) dL_looks_18 (by decide) ?_
  refine xm_newI dL_looks_19 (by decide) (by decide) ⟨by decide, by decide⟩ (fun ad4 ha4 => ?_)
  rw [← ha4 0 (by decide), ← ha4 21 (by decide), ← ha4 22 (by decide), ← ha4 23 (by decide), ← ha4 24 (by decide), ← ha4 25 (by decide), ← ha4 26 (by decide)]
  have ha : ∀ k, k < 24 → ad4 k = ad k := fun k hk => by rw [ha4 k (by omega), ha3 k (by omega), ha2 k (by omega), ha1 k hk]
  refine jq_astore dL_looks_21 (by decide) rfl rfl ?_
  have loop : ∀ (k e m : Nat) (o13 o14 : Option Value), e + k = tb_ne w h → m < 2 ^ 16 → (∀ q, m.testBit q = lw_any w h mk (tb_L w h (tb_isL mk) q) e) → jq_J l G mL_looks (jq_R 26 10 200) (jx_E []) (xj_Ye G 24 ad (xs_pi (fun r X' => r = nI 1 ∧ lk_Z X')) 10 200) 35 [some (.ref (ad4 0)), some (.int (y)), some (.ref (ad4 21)), some (.ref (ad4 22)), some (.ref (ad4 23)), some (.ref (ad4 24)), some (.ref (ad4 25)), some (.ref (ad4 26)), some (.ref (ad4 27)), some (.int (nI (fb_ct (fun e => mk e == 1) e))), some (.int (nI (lw_wy w h mk e))), some (.int (nI (m))), some (.int (nI (e))), o13, o14] [] (28) ad4 (xs_mem G ad4 (xs_nw (xs_nw (xs_nw (xs_nw X 24 24) 25 24) 26 24) 27 4)) (4) (76) := by
    intro k
    induction k with
    | zero =>
      intro e m o13 o14 he hm hmb
      have e1 : e = tb_ne w h := by omega
      subst e1
      rw [lw_wy_all hk]
      refine jq_iload dL_looks_35 rfl ?_
      refine jq_aload_n dL_looks_37 rfl rfl ?_
      refine xq_sI dL_looks_38 kL_32 (c_L_edges hB) rfl rfl (Nat.le_of_ble_eq_true rfl) ⟨⟨by decide, by decide⟩, by decide, by decide⟩ ?_
      refine jq_geN (tgt := 104) dL_looks_41 (by decide) ⟨by omega, by omega⟩ (fun c41 => ?_) (fun c41 => ?_)
      · refine jq_aload_n dL_looks_104 rfl rfl ?_
        refine jq_aload dL_looks_105 rfl ?_
        refine jq_aload_n dL_looks_107 rfl rfl ?_
        refine jq_aload dL_looks_108 rfl ?_
        refine jq_aload dL_looks_110 rfl ?_
        refine jq_aload dL_looks_112 rfl ?_
        refine jq_aload dL_looks_114 rfl ?_
        refine xm_sV dL_looks_116 kL_149 (c_L_follow (n := 28) (ad := ad4) (qs := 24) hB hS hN (lk_nums hn0) lk_rows4) rfl rfl (Nat.le_of_ble_eq_true rfl) ⟨⟨by decide, by decide⟩, by decide, by decide⟩ (fun X5 hF => ?_)
        exact lo_all hl ha (lk_fr hL4 hF.1) (dv_afr (dv_afr hA hf4) hF.1) (dv_lcfr (dv_lcfr hC hf4) hF.1) hn0 lk_rows4 hF y _ _ _ _
      · exact absurd c41 (by omega)
    | succ k ih =>
      intro e m o13 o14 he hm hmb
      have hee : e < tb_ne w h := by omega
      have hq := lr_ends hk hee
      have hi : vp_in (nI e) 24 := vp_inN (by omega) (by decide)
      have h3 := hS.2 e hee
      have hrl := lr_rc_lt hk (T := lr_T mk (-1)) hq.1
      have one := hmb (tb_one w h e)
      have nomark : mk e ≠ 1 → jq_J l G mL_looks (jq_R 26 10 200) (jx_E []) (xj_Ye G 24 ad (xs_pi (fun r X' => r = nI 1 ∧ lk_Z X')) 10 200) 98 [some (.ref (ad4 0)), some (.int (y)), some (.ref (ad4 21)), some (.ref (ad4 22)), some (.ref (ad4 23)), some (.ref (ad4 24)), some (.ref (ad4 25)), some (.ref (ad4 26)), some (.ref (ad4 27)), some (.int (nI (fb_ct (fun e => mk e == 1) e))), some (.int (nI (lw_wy w h mk e))), some (.int (nI (m))), some (.int (nI (e))), o13, o14] [] (28) ad4 (xs_mem G ad4 (xs_nw (xs_nw (xs_nw (xs_nw X 24 24) 25 24) 26 24) 27 4)) (4) (76) := by
        intro hne
        have hgo := ih (e + 1) m o13 o14 (by omega) hm (fun q => by rw [lw_no hne]; exact hmb q)
        rw [lw_wy_same (lw_no hne), fb_ct_succ, if_neg (by simp [hne]), Nat.add_zero] at hgo
        refine jq_iincN dL_looks_98 (by decide) rfl rfl rfl ?_
        refine jq_goto (tgt := 35) dL_looks_101 (by decide) ?_
        exact hgo
      have mark : ∀ (wy : Nat), mk e = 1 → wy = lw_wy w h mk (e + 1) → jq_J l G mL_looks (jq_R 26 10 200) (jx_E []) (xj_Ye G 24 ad (xs_pi (fun r X' => r = nI 1 ∧ lk_Z X')) 10 200) 80 [some (.ref (ad4 0)), some (.int (y)), some (.ref (ad4 21)), some (.ref (ad4 22)), some (.ref (ad4 23)), some (.ref (ad4 24)), some (.ref (ad4 25)), some (.ref (ad4 26)), some (.ref (ad4 27)), some (.int (nI (fb_ct (fun e => mk e == 1) e + 1))), some (.int (nI (wy))), some (.int (nI (m))), some (.int (nI (e))), o13, o14] [] (28) ad4 (xs_mem G ad4 (xs_nw (xs_nw (xs_nw (xs_nw X 24 24) 25 24) 26 24) 27 4)) (4) (76) := by
        intro wy h1 hwy
        have hgo := ih (e + 1) (m ||| lr_rc w h (lr_T mk (-1)) (tb_one w h e)) o13 o14 (by omega) (lr_or_lt hm hrl) (fun q => by
          rw [Nat.testBit_or, hmb q, lr_rc_b hk hq.1, lr_T1 hk, lw_any_s, h1, Bool.eq_iff_iff, Bool.or_eq_true, Bool.or_eq_true, beq_iff_eq, Bool.and_eq_true, beq_iff_eq]
          exact or_congr Iff.rfl ⟨fun z => ⟨rfl, beq_iff_eq.mpr z.symm⟩, fun z => (beq_iff_eq.mp z.2).symm⟩)
        rw [fb_ct_succ, if_pos (by simp [h1])] at hgo
        subst hwy
        refine jq_iload dL_looks_80 rfl ?_
        refine jq_aload_n dL_looks_82 rfl rfl ?_
        refine jq_aload dL_looks_83 rfl ?_
        refine jq_aload_n dL_looks_85 rfl rfl ?_
        refine jq_iload dL_looks_86 rfl ?_
        refine xq_sI dL_looks_88 kL_22 (c_L_from hB hee) rfl rfl (Nat.le_of_ble_eq_true rfl) ⟨⟨by decide, by decide⟩, by decide, by decide⟩ ?_
        refine jq_iconst (v := (-1)) dL_looks_91 (by decide) ?_
        refine xq_sI dL_looks_92 kL_49 (c_L_reached hB hS hq.1 (-1)) rfl rfl (Nat.le_of_ble_eq_true rfl) ⟨⟨by decide, by decide⟩, by decide, by decide⟩ ?_
        refine jq_ior dL_looks_95 ?_
        rw [fa_or]
        refine jq_istore dL_looks_96 (by decide) rfl rfl ?_
        refine jq_iincN dL_looks_98 (by decide) rfl rfl rfl ?_
        refine jq_goto (tgt := 35) dL_looks_101 (by decide) ?_
        exact hgo
      refine jq_iload dL_looks_35 rfl ?_
      refine jq_aload_n dL_looks_37 rfl rfl ?_
      refine xq_sI dL_looks_38 kL_32 (c_L_edges hB) rfl rfl (Nat.le_of_ble_eq_true rfl) ⟨⟨by decide, by decide⟩, by decide, by decide⟩ ?_
      refine jq_geN (tgt := 104) dL_looks_41 (by decide) ⟨by omega, by omega⟩ (fun c41 => ?_) (fun c41 => ?_)
      · exact absurd c41 (by omega)
      · refine jq_aload dL_looks_44 rfl ?_
        refine jq_iload dL_looks_46 rfl ?_
        refine xq_iald dL_looks_48 (hS.1) (hi) (h3.1) ?_
        refine jq_iconst (v := (nI 1)) dL_looks_49 (by decide) ?_
        refine jq_neN (tgt := 98) dL_looks_50 (by decide) ⟨by omega, by omega⟩ (fun c50 => ?_) (fun c50 => ?_)
        · exact nomark c50
        · refine jq_iincN dL_looks_53 (by decide) rfl rfl rfl ?_
          refine jq_iload dL_looks_56 rfl ?_
          refine jq_iload dL_looks_58 rfl ?_
          refine jq_aload_n dL_looks_60 rfl rfl ?_
          refine jq_iload dL_looks_61 rfl ?_
          refine xq_sI dL_looks_63 kL_22 (c_L_from hB hee) rfl rfl (Nat.le_of_ble_eq_true rfl) ⟨⟨by decide, by decide⟩, by decide, by decide⟩ ?_
          refine jq_ishr dL_looks_66 (lr_shr (by omega) (by omega)) ?_
          refine jq_iconst (v := (nI 1)) dL_looks_67 (by decide) ?_
          refine jq_iand dL_looks_68 ?_
          rw [lr_tb1]
          refine jq_if_ne (tgt := 76) dL_looks_69 (by decide) (fun c69 => ?_) (fun c69 => ?_)
          · have hy := lr_tbN c69
            have hw2 : lw_wy w h mk e + 0 = lw_wy w h mk (e + 1) := (lw_wy_same (lw_old (one.symm.trans hy))).symm
            refine jq_iconst (v := (nI 0)) dL_looks_76 (by decide) ?_
            refine jq_iaddN dL_looks_77 ?_
            refine jq_istore dL_looks_78 (by decide) rfl rfl ?_
            exact mark _ c50 hw2
          · have hy := lr_tb0 c69
            have hw2 : lw_wy w h mk e + 1 = lw_wy w h mk (e + 1) := (lw_wy_new hk hee c50 (one.symm.trans hy)).symm
            refine jq_iconst (v := (nI 1)) dL_looks_72 (by decide) ?_
            refine jq_goto (tgt := 77) dL_looks_73 (by decide) ?_
            refine jq_iaddN dL_looks_77 ?_
            refine jq_istore dL_looks_78 (by decide) rfl rfl ?_
            exact mark _ c50 hw2
  have h0 : lw_wy w h mk 0 = 0 := fb_ct_zero.mpr (fun p _ => Bool.and_false _)
  have hgo := loop (tb_ne w h) 0 0 none none (by omega) (by decide) (fun q => by rw [Nat.zero_testBit]; rfl)
  rw [h0] at hgo
  refine jq_iconst (v := (nI 0)) dL_looks_23 (by decide) ?_
  refine jq_istore dL_looks_24 (by decide) rfl rfl ?_
  refine jq_iconst (v := (nI 0)) dL_looks_26 (by decide) ?_
  refine jq_istore dL_looks_27 (by decide) rfl rfl ?_
  refine jq_iconst (v := (nI 0)) dL_looks_29 (by decide) ?_
  refine jq_istore dL_looks_30 (by decide) rfl rfl ?_
  refine jq_iconst (v := (nI 0)) dL_looks_32 (by decide) ?_
  refine jq_istore dL_looks_33 (by decide) rfl rfl ?_
  exact hgo
