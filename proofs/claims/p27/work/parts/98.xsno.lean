/-! the law's solves: an answer that is not there; the choice -/
set_option maxHeartbeats 16000000 in
theorem sv_no {l : Launch} {G : jq_G} {ad ad5 : Nat → Nat} {Y : xs_T} {w h : Nat} {num : Nat → Int32} {mk : Nat → Nat} (hl : l.stackTraces = false) (ha5 : ∀ k, k < 24 → ad5 k = ad k) (hI : ls_I w h num mk Y) (hn0 : ∀ c, c < tb_nc w h → tb_numOk (num c) = true) {kv : Int32} (hkv : kv < 0 ∨ nI (tb_cnt2 w h num mk (-1)) ≤ kv) (hpk : tb_pk w h num mk kv = 0) (y : Int32) (ii iv ce sl : Nat) (hce : ce ≤ 1100) (hsl : sl ≤ 25000) (o13 o15 o16 o17 o18 o19 o20 o21 : Option Value) : jq_J l G mL_solves (jq_R 26 1700 45000) (jx_E []) (xj_Ye G 24 ad (xs_pi (fun r X' => r = nI 1 ∧ lk_Z X')) 1700 45000) 168 [some (.ref (ad5 0)), some (.int (y)), some (.ref (ad5 21)), some (.ref (ad5 22)), some (.ref (ad5 23)), some (.ref (ad5 24)), some (.ref (ad5 25)), some (.ref (ad5 26)), some (.ref (ad5 27)), some (.ref (ad5 28)), some (.int (nI (ii))), some (.int (nI (iv))), some (.int (nI (tb_cnt2 w h num mk (-1)))), o13, some (.int (kv)), o15, o16, o17, o18, o19, o20, o21] [] (29) ad5 (xs_mem G ad5 Y) (ce) (sl) := by
  have hk := hI.1.1.2.2.2
  have hz := lr_sz hk
  have hn : 21 ≤ 29 := by decide
  have hcn := tb_cnt2_le (lr_W hk) num mk (-1)
  have s192 : ∀ (Z : xs_T) (o17 : Option Value), ls_I w h num mk Z → jq_J l G mL_solves (jq_R 26 1700 45000) (jx_E []) (xj_Ye G 24 ad (xs_pi (fun r X' => r = nI 1 ∧ lk_Z X')) 1700 45000) 192 [some (.ref (ad5 0)), some (.int (y)), some (.ref (ad5 21)), some (.ref (ad5 22)), some (.ref (ad5 23)), some (.ref (ad5 24)), some (.ref (ad5 25)), some (.ref (ad5 26)), some (.ref (ad5 27)), some (.ref (ad5 28)), some (.int (nI (ii))), some (.int (nI (iv))), some (.int (nI (tb_cnt2 w h num mk (-1)))), o13, some (.int (kv)), some (.long (-101)), none, o17, o18, o19, o20, o21] [] (29) ad5 (xs_mem G ad5 Z) (ce + 1) (sl + 6) := by
    intro Z o17 hI
    refine jq_iconst (v := (nI 0)) dL_solves_192 (by decide) ?_
    refine jq_istore dL_solves_193 (by decide) rfl rfl ?_
    refine jq_iload dL_solves_195 rfl ?_
    refine jq_neZ (tgt := 262) dL_solves_197 (by decide) (by decide) (fun c197 => ?_) (fun c197 => ?_)
    · exact absurd rfl c197
    · refine jq_lload dL_solves_200 rfl ?_
      refine jq_ldc2 dL_solves_202 vL_124 ?_
      refine jq_lcmp dL_solves_205 ?_
      rw [ls_cmp]
      refine jq_if_ne (tgt := 260) dL_solves_206 (by decide) (fun c206 => ?_) (fun c206 => ?_)
      · exact absurd rfl c206
      · refine jq_aload_n dL_solves_209 rfl rfl ?_
        refine jq_iconst (v := (nI 5)) dL_solves_210 (by decide) ?_
        refine jq_iload dL_solves_211 rfl ?_
        refine jq_iconst (v := (nI 0)) dL_solves_213 (by decide) ?_
        refine xx_sI (M' := mL_of) (hh := hL_of) (na := 4) jx_E_ok dL_solves_214 gL_156 ⟨by decide, by decide, by decide +kernel⟩ (c_L_of5_no hl hn hI.2.1 hI.2.2.1 kv _ (Or.inl hpk)) rfl rfl (Nat.le_of_ble_eq_true rfl) (⟨⟨by decide, by decide⟩, by show _ ≤ 1700; omega, by show _ ≤ 45000; omega⟩) (fun v214 X214 h214 => ?_)
        obtain ⟨r214, f214, l214⟩ := h214
        have hI2 := ls_frL hI f214 l214
        refine jq_bipush (v := (-101)) dL_solves_217 (by decide) ?_
        refine jq_icmp_ne (tgt := 260) dL_solves_219 (by decide) (fun c219 => ?_) (fun c219 => ?_)
        · exact absurd r214 c219
        · refine jq_iload dL_solves_222 rfl ?_
          refine jq_gtZ (tgt := 256) dL_solves_224 (by decide) (by omega) (fun c224 => ?_) (fun c224 => ?_)
          · have hIz := hI2
            refine jq_iconst (v := (nI 1)) dL_solves_256 (by decide) ?_
            refine jq_goto (tgt := 261) dL_solves_257 (by decide) ?_
            exact xj_ireturn dL_solves_261 rfl rfl (⟨by show _ ≤ 1700; omega, by show _ ≤ 45000; omega⟩) (by omega) (by omega) ha5 (⟨_, rfl, rfl, ls_Z hIz hn0⟩)
          · refine jq_aload_n dL_solves_227 rfl rfl ?_
            refine jq_iconst (v := (nI 0)) dL_solves_228 (by decide) ?_
            refine xx_sI (M' := mL_proved) (hh := hL_proved) (na := 2) jx_E_ok dL_solves_229 gL_194 ⟨by decide, by decide, by decide +kernel⟩ (c_L_proved_no hl hn hI2.2.1 hI2.2.2.1 _ (show (tb_inB (nI 0) (tb_ne w h) && decide (0 < tb_cnt2 w h num mk (-1))) = false by rw [c224, show decide (0 < 0) = false from rfl, Bool.and_false])) rfl rfl (Nat.le_of_ble_eq_true rfl) (⟨⟨by decide, by decide⟩, by show _ ≤ 1700; omega, by show _ ≤ 45000; omega⟩) (fun v229 X229 h229 => ?_)
            obtain ⟨r229, f229, l229⟩ := h229
            rw [tb_inB_nI (show 0 < tb_ne w h by omega) (by omega)] at r229
            have hI3 := ls_frL hI2 f229 l229
            refine jq_bipush (v := (-102)) dL_solves_232 (by decide) ?_
            refine jq_icmp_ne (tgt := 260) dL_solves_234 (by decide) (fun c234 => ?_) (fun c234 => ?_)
            · exact absurd r229 c234
            · refine jq_aload_n dL_solves_237 rfl rfl ?_
              refine jq_iconst (v := (-1)) dL_solves_238 (by decide) ?_
              refine xx_sI (M' := mL_proved) (hh := hL_proved) (na := 2) jx_E_ok dL_solves_239 gL_194 ⟨by decide, by decide, by decide +kernel⟩ (c_L_proved_no hl hn hI3.2.1 hI3.2.2.1 _ (show (tb_inB (-1) (tb_ne w h) && decide (0 < tb_cnt2 w h num mk (-1))) = false by rw [c224, show decide (0 < 0) = false from rfl, Bool.and_false])) rfl rfl (Nat.le_of_ble_eq_true rfl) (⟨⟨by decide, by decide⟩, by show _ ≤ 1700; omega, by show _ ≤ 45000; omega⟩) (fun v239 X239 h239 => ?_)
              obtain ⟨r239, f239, l239⟩ := h239
              rw [show tb_inB (-1) (tb_ne w h) = false by unfold tb_inB; rw [show decide ((0 : Int32) ≤ -1) = false by decide]; rfl] at r239
              have hI4 := ls_frL hI3 f239 l239
              refine jq_bipush (v := (-101)) dL_solves_242 (by decide) ?_
              refine jq_icmp_ne (tgt := 260) dL_solves_244 (by decide) (fun c244 => ?_) (fun c244 => ?_)
              · exact absurd r239 c244
              · refine jq_aload_n dL_solves_247 rfl rfl ?_
                refine xx_sI (M' := mL_beyond) (hh := hL_beyond) (na := 1) jx_E_ok dL_solves_248 gL_197 ⟨by decide, by decide, by decide +kernel⟩ (c_L_beyond_no hl hn hI4.2.1 hI4.2.2.1 c224) rfl rfl (Nat.le_of_ble_eq_true rfl) (⟨⟨by decide, by decide⟩, by show _ ≤ 1700; omega, by show _ ≤ 45000; omega⟩) (fun v248 X248 h248 => ?_)
                obtain ⟨r248, f248, l248⟩ := h248
                have hIz := ls_frL hI4 f248 l248
                refine jq_bipush (v := (-101)) dL_solves_251 (by decide) ?_
                refine jq_icmp_ne (tgt := 260) dL_solves_253 (by decide) (fun c253 => ?_) (fun c253 => ?_)
                · exact absurd r248 c253
                · refine jq_iconst (v := (nI 1)) dL_solves_256 (by decide) ?_
                  refine jq_goto (tgt := 261) dL_solves_257 (by decide) ?_
                  exact xj_ireturn dL_solves_261 rfl rfl (⟨by show _ ≤ 1700; omega, by show _ ≤ 45000; omega⟩) (by omega) (by omega) ha5 (⟨_, rfl, rfl, ls_Z hIz hn0⟩)
  refine jq_aload_n dL_solves_168 rfl rfl ?_
  refine jq_iload dL_solves_169 rfl ?_
  refine xx_sL (M' := mL_answer) (hh := hL_answer) (na := 2) jx_E_ok dL_solves_171 gL_191 ⟨by decide, by decide, by decide +kernel⟩ (c_L_answer_no hl hn hI.2.1 hI.2.2.1 kv hpk) rfl rfl (Nat.le_of_ble_eq_true rfl) (⟨⟨by decide, by decide⟩, by show _ ≤ 1700; omega, by show _ ≤ 45000; omega⟩) (fun v171 X171 h171 => ?_)
  obtain ⟨r171, f171, l171⟩ := h171
  subst r171
  have hI1 := ls_frL hI f171 l171
  refine jq_lstore dL_solves_174 (by decide) rfl rfl ?_
  refine jq_iload dL_solves_176 rfl ?_
  refine jq_if_lt (tgt := 192) dL_solves_178 (by decide) (fun c178 => ?_) (fun c178 => ?_)
  · exact s192 _ _ hI1
  · refine jq_iload dL_solves_181 rfl ?_
    refine jq_iload dL_solves_183 rfl ?_
    refine jq_icmp_ge (tgt := 192) dL_solves_185 (by decide) (fun c185 => ?_) (fun c185 => ?_)
    · exact s192 _ _ hI1
    · exact absurd hkv (fun q => q.elim c178 c185)
set_option maxHeartbeats 16000000 in
theorem sv_mid {l : Launch} {G : jq_G} {ad ad5 : Nat → Nat} {Y : xs_T} {w h : Nat} {num : Nat → Int32} {mk : Nat → Nat} (hl : l.stackTraces = false) (ha5 : ∀ k, k < 24 → ad5 k = ad k) (hI : ls_I w h num mk Y) (hn0 : ∀ c, c < tb_nc w h → tb_numOk (num c) = true) (y : Int32) (ii iv fr ce sl : Nat) (hce : ce ≤ 1090) (hsl : sl ≤ 24900) (o14 o15 o16 o17 o18 o19 o20 o21 : Option Value) : jq_J l G mL_solves (jq_R 26 1700 45000) (jx_E []) (xj_Ye G 24 ad (xs_pi (fun r X' => r = nI 1 ∧ lk_Z X')) 1700 45000) 154 [some (.ref (ad5 0)), some (.int (y)), some (.ref (ad5 21)), some (.ref (ad5 22)), some (.ref (ad5 23)), some (.ref (ad5 24)), some (.ref (ad5 25)), some (.ref (ad5 26)), some (.ref (ad5 27)), some (.ref (ad5 28)), some (.int (nI (ii))), some (.int (nI (iv))), some (.int (nI (tb_cnt2 w h num mk (-1)))), some (.int (nI (fr))), o14, o15, o16, o17, o18, o19, o20, o21] [] (29) ad5 (xs_mem G ad5 Y) (ce) (sl) := by
  have hk := hI.1.1.2.2.2
  have hz := lr_sz hk
  have hn : 21 ≤ 29 := by decide
  have hcn := tb_cnt2_le (lr_W hk) num mk (-1)
  have hnum := lk_nums hn0
  have hmk : ∀ e, e < tb_ne w h → mk e ≤ 2 := fun e he => (hI.1.2.2.2 e he).2
  have hlen : (dv_loops w h).length ≤ 9349 := dv_loops_le (lr_W hk)
  have s168 : ∀ (a : Nat), a < tb_cnt2 w h num mk (-1) + 2 → jq_J l G mL_solves (jq_R 26 1700 45000) (jx_E []) (xj_Ye G 24 ad (xs_pi (fun r X' => r = nI 1 ∧ lk_Z X')) 1700 45000) 168 [some (.ref (ad5 0)), some (.int (y)), some (.ref (ad5 21)), some (.ref (ad5 22)), some (.ref (ad5 23)), some (.ref (ad5 24)), some (.ref (ad5 25)), some (.ref (ad5 26)), some (.ref (ad5 27)), some (.ref (ad5 28)), some (.int (nI (ii))), some (.int (nI (iv))), some (.int (nI (tb_cnt2 w h num mk (-1)))), some (.int (nI (fr))), some (.int (nI a - nI 1)), o15, o16, o17, o18, o19, o20, o21] [] (29) ad5 (xs_mem G ad5 Y) (ce) (sl) := by
    intro a ha
    rcases a with _ | b
    · exact sv_no hl ha5 hI hn0 (Or.inl (by decide)) (dv_pick_neg (by decide) _ _ (by omega)) y ii iv _ _ (by omega) (by omega) _ _ _ _ _ _ _ _
    · rw [show nI (b + 1) - nI 1 = nI b from nI_pred b]
      by_cases hb : b < tb_cnt2 w h num mk (-1)
      · obtain ⟨hin, hfit, hlenb⟩ := (lr_pk hk num mk (a := b) (by omega)).1 hb
        obtain ⟨hlp, C, hC, hpk⟩ := (dv_mem_loops (lr_W hk)).mp hin
        have h0 : tb_pk w h num mk (nI b) ≠ 0 := dv_loops_pos (lr_W hk) hin
        have hC0 : C ≠ 0 := fun z => by
          rw [z] at hpk
          refine h0 (hpk.trans ?_)
          refine bm_zero.mpr (fun k _ => ?_)
          rw [Nat.zero_testBit, Nat.zero_testBit]; rfl
        have h0' : dv_bd w h C ≠ 0 := hpk ▸ h0
        have hok := lr_ok_eq hk hnum hmk (-1) (S := C) (Nat.pos_of_ne_zero hC0) hC
        have har : lr_ar w h C = true := by rw [lr_ar_eq hk hC hC0, ← hpk]; exact hlp
        have hli : lr_li w h num mk C (-1) = dv_bd w h C := hok.2 (by rw [← hpk]; exact hfit)
        have hah : lr_cn (fun S => lr_ok w h num mk (-1) S && lr_ah (lr_li w h num mk S (-1)) (dv_bd w h C)) (2 ^ tb_nc w h - 1) = b := by
          rw [lr_cnt_and hk hnum hmk (-1) (fun L => lr_ah L (dv_bd w h C)), ← hpk]
          exact hlenb
        refine jq_aload_n dL_solves_168 rfl rfl ?_
        refine jq_iload dL_solves_169 rfl ?_
        refine xx_sL (M' := mL_answer) (hh := hL_answer) (na := 2) jx_E_ok dL_solves_171 gL_191 ⟨by decide, by decide, by decide +kernel⟩ (c_L_answer_ok hn hI.2.1 hI.2.2.1 (nI b) h0) rfl rfl (Nat.le_of_ble_eq_true rfl) (⟨⟨by decide, by decide⟩, by show _ ≤ 1700; omega, by show _ ≤ 45000; omega⟩) (fun v171 X171 h171 => ?_)
        obtain ⟨r171, f171, l171⟩ := h171
        subst r171
        have hI1 := ls_frL hI f171 l171
        rw [hpk]
        refine jq_lstore dL_solves_174 (by decide) rfl rfl ?_
        refine jq_iload dL_solves_176 rfl ?_
        refine jq_if_lt (tgt := 192) dL_solves_178 (by decide) (fun c178 => ?_) (fun c178 => ?_)
        · exact absurd c178 (nI_pos (by omega))
        · refine jq_iload dL_solves_181 rfl ?_
          refine jq_iload dL_solves_183 rfl ?_
          refine jq_geN (tgt := 192) dL_solves_185 (by decide) ⟨by omega, by omega⟩ (fun c185 => ?_) (fun c185 => ?_)
          · exact absurd c185 (by omega)
          · refine jq_iconst (v := (nI 1)) dL_solves_188 (by decide) ?_
            refine jq_goto (tgt := 193) dL_solves_189 (by decide) ?_
            refine jq_istore dL_solves_193 (by decide) rfl rfl ?_
            refine jq_iload dL_solves_195 rfl ?_
            refine jq_neZ (tgt := 262) dL_solves_197 (by decide) (by decide) (fun c197 => ?_) (fun c197 => ?_)
            · exact sv_there hl ha5 hI1 hn0 hC hC0 hb hpk h0' har hli hah y ii iv _ _ (by omega) (by omega) _ _ _ _ _
            · exact absurd c197 (by decide)
      · exact sv_no hl ha5 hI hn0 (Or.inr (nI_le (by omega) (by omega))) ((lr_pk hk num mk (a := b) (by omega)).2 (by omega)) y ii iv _ _ (by omega) (by omega) _ _ _ _ _ _ _ _
  refine jq_iload_n dL_solves_154 rfl rfl ?_
  refine jq_iconst (v := (nI 3)) dL_solves_155 (by decide) ?_
  refine jq_ishr dL_solves_156 rfl ?_
  refine jq_iload dL_solves_157 rfl ?_
  refine jq_iconst (v := (nI 2)) dL_solves_159 (by decide) ?_
  refine jq_iaddN dL_solves_160 ?_
  refine xq_sI dL_solves_161 kL_135 (c_L_some _ (by omega) (by omega)) rfl rfl (Nat.le_of_ble_eq_true rfl) (⟨⟨by decide, by decide⟩, by show _ ≤ 1700; omega, by show _ ≤ 45000; omega⟩) ?_
  refine jq_iconst (v := (nI 1)) dL_solves_164 (by decide) ?_
  refine jq_isub dL_solves_165 ?_
  refine jq_istore dL_solves_166 (by decide) rfl rfl ?_
  exact s168 _ (lr_sm_lt _ (by omega))
