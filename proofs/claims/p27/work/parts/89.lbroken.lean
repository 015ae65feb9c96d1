/-! what the law finds broken, and what its rules want -/
def lr_cb (w h : Nat) (num : Nat → Int32) (st : Nat → Nat) (c : Nat) : Bool := !decide (num c < 0) && (decide (num c < nI (tb_ar w h st c 1)) || !decide (num c ≤ nI (tb_ar w h st c 1 + tb_ar w h st c 0)))
def lr_eb (w h : Nat) (num : Nat → Int32) (st : Nat → Nat) (e : Nat) : Bool := st e == 1 && ((lr_rc w h (lr_T st (nI e)) (tb_one w h e)).testBit (tb_oth w h e) && (!lr_rt w h num st (-1) || (List.range (tb_ne w h)).any (fun k => st k == 1 && !(lr_rc w h (lr_T st (-1)) (tb_one w h e)).testBit (tb_one w h k))))
def lr_ab (w h : Nat) (st : Nat → Nat) (a : Nat) : Bool := (lr_ch w h st a).testBit (2 * a + 1)
def lr_br (w h : Nat) (num : Nat → Int32) (st : Nat → Nat) : Nat :=
  if (List.range (tb_nc w h)).any (lr_cb w h num st) = true then 1 else if (List.range (tb_np w h)).any (tb_ptBad w h st) = true then 2 else if (List.range (tb_ne w h)).any (lr_eb w h num st) = true then 3 else if (List.range (tb_nc w h + 1)).any (lr_ab w h st) = true then 4 else 0
theorem lr_any_up {p : Nat → Bool} {m n : Nat} (hm : m ≤ n) (h : (List.range n).any p = true) (h2 : ∀ k, m ≤ k → k < n → p k = false) : (List.range m).any p = true := by
  obtain ⟨c, h3, h4⟩ := List.any_eq_true.mp h
  have h5 := List.mem_range.mp h3
  rcases Nat.lt_or_ge c m with q | q
  · exact tb_anyT q h4
  · rw [h2 c q h5] at h4; cases h4
theorem lr_any_succ {p : Nat → Bool} {n : Nat} : (List.range (n + 1)).any p = ((List.range n).any p || p n) := by
  rw [List.range_succ, List.any_append]
  simp
theorem lr_bb {b : Bool} {v : Nat} (h : nI v = 0 ↔ b = false) : b = true ↔ ¬ nI v = 0 := by cases b <;> simp [h]
set_option maxHeartbeats 8000000 in
theorem c_L_broken {l : Launch} {G : jq_G} {n : Nat} {ad : Nat → Nat} {X : xs_T} {w h q : Nat} {st : Nat → Nat} {num : Nat → Int32} (hB : lr_B n w h X) (hS : lr_S n w h q st X) (hN : lr_N n w h num X) : xs_Ct l G mL_broken 6 [.ref (ad 21), .ref (ad q), .ref (ad 22)] n ad X (xs_pd (some (.int (nI (lr_br w h num st)))) X) := by
  have hz := lr_sz hB.2.2.2
  have hnp : (w + 1) * (h + 1) = tb_np w h := rfl
  have loop4 : (List.range (tb_nc w h)).any (lr_cb w h num st) = false → (List.range (tb_np w h)).any (tb_ptBad w h st) = false → (List.range (tb_ne w h)).any (lr_eb w h num st) = false → ∀ (k a : Nat) (o4 o5 o6 : Option Value), a + k = tb_nc w h + 1 → (∀ j, j < a → lr_ab w h st j = false) → jq_J l G mL_broken (jq_R 6 0 0) jq_E0 (xs_Ye G n ad (xs_pd (some (.int (nI (lr_br w h num st)))) X)) 253 [some (.ref (ad 21)), some (.ref (ad q)), some (.ref (ad 22)), some (.int (nI (a))), o4, o5, o6] [] n ad (xs_mem G ad X) 0 0 := by
    intro b1 b2 b3 k
    induction k with
    | zero =>
      intro a o4 o5 o6 hk hc
      have hres : 0 = lr_br w h num st := by
        unfold lr_br
        rw [b1, b2, b3, tb_anyF (fun j hj => hc j (by omega))]
        rfl
      refine jq_iload_n dL_broken_253 rfl rfl ?_
      refine jq_aload_n dL_broken_254 rfl rfl ?_
      refine jq_iconst (v := (nI 0)) dL_broken_255 (by decide) ?_
      refine xq_iald dL_broken_256 hB.1 lr_v0 hB.2.1 ?_
      refine jq_aload_n dL_broken_257 rfl rfl ?_
      refine jq_iconst (v := (nI 1)) dL_broken_258 (by decide) ?_
      refine xq_iald dL_broken_259 hB.1 lr_v1 hB.2.2.1 ?_
      refine jq_imulN dL_broken_260 ?_
      refine jq_gtN (tgt := 290) dL_broken_261 (by decide) ⟨by omega, by omega⟩ (fun c261 => ?_) (fun c261 => ?_)
      · refine jq_iconst (v := (nI 0)) dL_broken_290 (by decide) ?_
        exact xq_ireturn dL_broken_291 rfl rfl (⟨by rw [← hres], rfl⟩)
      · exact absurd c261 (by omega)
    | succ k ih =>
      intro a o4 o5 o6 hk hc
      have hcl := lr_ch_lt hB.2.2.2 (st := st) (show a ≤ tb_nc w h by omega)
      refine jq_iload_n dL_broken_253 rfl rfl ?_
      refine jq_aload_n dL_broken_254 rfl rfl ?_
      refine jq_iconst (v := (nI 0)) dL_broken_255 (by decide) ?_
      refine xq_iald dL_broken_256 hB.1 lr_v0 hB.2.1 ?_
      refine jq_aload_n dL_broken_257 rfl rfl ?_
      refine jq_iconst (v := (nI 1)) dL_broken_258 (by decide) ?_
      refine xq_iald dL_broken_259 hB.1 lr_v1 hB.2.2.1 ?_
      refine jq_imulN dL_broken_260 ?_
      refine jq_gtN (tgt := 290) dL_broken_261 (by decide) ⟨by omega, by omega⟩ (fun c261 => ?_) (fun c261 => ?_)
      · exact absurd c261 (by omega)
      · refine jq_aload_n dL_broken_264 rfl rfl ?_
        refine jq_aload_n dL_broken_265 rfl rfl ?_
        refine jq_iload_n dL_broken_266 rfl rfl ?_
        refine xq_sI dL_broken_267 kL_59 (c_L_chained hB hS (by omega)) rfl rfl (Nat.le_of_ble_eq_true rfl) ⟨⟨by decide, by decide⟩, Nat.le_refl _, Nat.le_refl _⟩ ?_
        refine jq_iconst (v := (nI 2)) dL_broken_270 (by decide) ?_
        refine jq_iload_n dL_broken_271 rfl rfl ?_
        refine jq_imulN dL_broken_272 ?_
        refine jq_iconst (v := (nI 1)) dL_broken_273 (by decide) ?_
        refine jq_iaddN dL_broken_274 ?_
        refine jq_ishr dL_broken_275 (lr_shr (by omega) (by omega)) ?_
        refine jq_iconst (v := (nI 1)) dL_broken_276 (by decide) ?_
        refine jq_iand dL_broken_277 ?_
        rw [lr_tb1]
        refine jq_iconst (v := (nI 1)) dL_broken_278 (by decide) ?_
        refine jq_neN (tgt := 284) dL_broken_279 (by decide) ⟨lr_ile, by omega⟩ (fun c279 => ?_) (fun c279 => ?_)
        · have hn : ∀ j, j < a + 1 → lr_ab w h st j = false := fun j hj => by rcases Nat.lt_or_ge j a with z | z; (· exact hc j z); (· rw [show j = a by omega]; exact lr_i0 c279)
          refine jq_iincN dL_broken_284 (by decide) rfl rfl rfl ?_
          refine jq_goto (tgt := 253) dL_broken_287 (by decide) ?_
          exact ih (a + 1) _ _ _ (by omega) hn
        · have hy : lr_ab w h st a = true := lr_i1 c279
          have hres : 4 = lr_br w h num st := by unfold lr_br; rw [b1, b2, b3, tb_anyT (show a < tb_nc w h + 1 by omega) hy]; rfl
          refine jq_iconst (v := (nI 4)) dL_broken_282 (by decide) ?_
          exact xq_ireturn dL_broken_283 rfl rfl (⟨by rw [← hres], rfl⟩)
  have loop3 : (List.range (tb_nc w h)).any (lr_cb w h num st) = false → (List.range (tb_np w h)).any (tb_ptBad w h st) = false → ∀ (k e : Nat) (o4 o5 o6 : Option Value), e + k = tb_ne w h → (∀ j, j < e → lr_eb w h num st j = false) → jq_J l G mL_broken (jq_R 6 0 0) jq_E0 (xs_Ye G n ad (xs_pd (some (.int (nI (lr_br w h num st)))) X)) 118 [some (.ref (ad 21)), some (.ref (ad q)), some (.ref (ad 22)), some (.int (nI (e))), o4, o5, o6] [] n ad (xs_mem G ad X) 0 0 := by
    intro b1 b2 k
    induction k with
    | zero =>
      intro e o4 o5 o6 hk hc
      have b3 : (List.range (tb_ne w h)).any (lr_eb w h num st) = false := tb_anyF (fun j hj => hc j (by omega))
      refine jq_iload_n dL_broken_118 rfl rfl ?_
      refine jq_aload_n dL_broken_119 rfl rfl ?_
      refine xq_sI dL_broken_120 kL_32 (c_L_edges hB) rfl rfl (Nat.le_of_ble_eq_true rfl) ⟨⟨by decide, by decide⟩, Nat.le_refl _, Nat.le_refl _⟩ ?_
      refine jq_geN (tgt := 251) dL_broken_123 (by decide) ⟨by omega, by omega⟩ (fun c123 => ?_) (fun c123 => ?_)
      · refine jq_iconst (v := (nI 0)) dL_broken_251 (by decide) ?_
        refine jq_istore_n dL_broken_252 rfl (by decide) rfl rfl ?_
        exact loop4 b1 b2 b3 (tb_nc w h + 1) 0 _ _ _ (by omega) (fun j hj => absurd hj (Nat.not_lt_zero j))
      · exact absurd c123 (by omega)
    | succ k ih =>
      intro e o4 o5 o6 hk hc
      have he : e < tb_ne w h := by omega
      have hq := lr_ends hB.2.2.2 he
      have h3 := hS.2 _ he
      have hi : vp_in (nI e) 24 := vp_inN (by omega) (by decide)
      have hl1 := lr_rc_lt hB.2.2.2 (T := lr_T st (nI e)) hq.1
      have hl2 := lr_rc_lt hB.2.2.2 (T := lr_T st (-1)) hq.1
      have next : ∀ (o4 o5 o6 : Option Value), lr_eb w h num st e = false → jq_J l G mL_broken (jq_R 6 0 0) jq_E0 (xs_Ye G n ad (xs_pd (some (.int (nI (lr_br w h num st)))) X)) 245 [some (.ref (ad 21)), some (.ref (ad q)), some (.ref (ad 22)), some (.int (nI (e))), o4, o5, o6] [] n ad (xs_mem G ad X) 0 0 := by
        intro o4 o5 o6 hz2
        have hn : ∀ j, j < e + 1 → lr_eb w h num st j = false := fun j hj => by
          rcases Nat.lt_or_ge j e with z | z
          · exact hc j z
          · rw [show j = e by omega]; exact hz2
        refine jq_iincN dL_broken_245 (by decide) rfl rfl rfl ?_
        refine jq_goto (tgt := 118) dL_broken_248 (by decide) ?_
        exact ih (e + 1) _ _ _ (by omega) hn
      -- the lines elsewhere
      have inner : st e = 1 → (lr_rc w h (lr_T st (nI e)) (tb_one w h e)).testBit (tb_oth w h e) = true → ∀ (k2 j : Nat) (b : Bool), j + k2 = tb_ne w h → b = (!lr_rt w h num st (-1) || (List.range j).any (fun k => st k == 1 && !(lr_rc w h (lr_T st (-1)) (tb_one w h e)).testBit (tb_one w h k))) → jq_J l G mL_broken (jq_R 6 0 0) jq_E0 (xs_Ye G n ad (xs_pd (some (.int (nI (lr_br w h num st)))) X)) 189 [some (.ref (ad 21)), some (.ref (ad q)), some (.ref (ad 22)), some (.int (nI (e))), some (.int (nI (lr_rc w h (lr_T st (-1)) (tb_one w h e)))), some (.int (tb_b b)), some (.int (nI (j)))] [] n ad (xs_mem G ad X) 0 0 := by
        intro y1 y2 k2
        induction k2 with
        | zero =>
          intro j b hk2 hb
          have e1 : j = tb_ne w h := by omega
          subst e1
          have hval : lr_eb w h num st e = b := by unfold lr_eb; rw [y1, y2, ← hb]; rfl
          refine jq_iload dL_broken_189 rfl ?_
          refine jq_aload_n dL_broken_191 rfl rfl ?_
          refine xq_sI dL_broken_192 kL_32 (c_L_edges hB) rfl rfl (Nat.le_of_ble_eq_true rfl) ⟨⟨by decide, by decide⟩, Nat.le_refl _, Nat.le_refl _⟩ ?_
          refine jq_geN (tgt := 238) dL_broken_195 (by decide) ⟨by omega, by omega⟩ (fun c195 => ?_) (fun c195 => ?_)
          · refine jq_iload dL_broken_238 rfl ?_
            refine jq_if_eq (tgt := 245) dL_broken_240 (by decide) (fun c240 => ?_) (fun c240 => ?_)
            · have d240 := tb_b0.mp c240
              exact next _ _ _ (by rw [hval]; exact d240)
            · have d240 := tb_b1.mp c240
              refine jq_iconst (v := (nI 3)) dL_broken_243 (by decide) ?_
              exact xq_ireturn dL_broken_244 rfl rfl (⟨by rw [show lr_br w h num st = 3 by unfold lr_br; rw [b1, b2, tb_anyT he (by rw [hval]; exact d240)]; rfl], rfl⟩)
          · exact absurd c195 (by omega)
        | succ k2 ih2 =>
          intro j b hk2 hb
          have hj : j < tb_ne w h := by omega
          have hqj := lr_ends hB.2.2.2 hj
          have h3j := hS.2 _ hj
          have hij : vp_in (nI j) 24 := vp_inN (by omega) (by decide)
          have stepT : (b || (st j == 1 && !(lr_rc w h (lr_T st (-1)) (tb_one w h e)).testBit (tb_one w h j))) = true → jq_J l G mL_broken (jq_R 6 0 0) jq_E0 (xs_Ye G n ad (xs_pd (some (.int (nI (lr_br w h num st)))) X)) 230 [some (.ref (ad 21)), some (.ref (ad q)), some (.ref (ad 22)), some (.int (nI (e))), some (.int (nI (lr_rc w h (lr_T st (-1)) (tb_one w h e)))), some (.int (tb_b b)), some (.int (nI (j)))] [.int (nI (1))] n ad (xs_mem G ad X) 0 0 := by
            intro z
            refine jq_istore dL_broken_230 (by decide) rfl rfl ?_
            refine jq_iincN dL_broken_232 (by decide) rfl rfl rfl ?_
            refine jq_goto (tgt := 189) dL_broken_235 (by decide) ?_
            exact ih2 (j + 1) true (by omega) (by rw [lr_any_succ, ← Bool.or_assoc, ← hb, z])
          have stepF : (b || (st j == 1 && !(lr_rc w h (lr_T st (-1)) (tb_one w h e)).testBit (tb_one w h j))) = false → jq_J l G mL_broken (jq_R 6 0 0) jq_E0 (xs_Ye G n ad (xs_pd (some (.int (nI (lr_br w h num st)))) X)) 230 [some (.ref (ad 21)), some (.ref (ad q)), some (.ref (ad 22)), some (.int (nI (e))), some (.int (nI (lr_rc w h (lr_T st (-1)) (tb_one w h e)))), some (.int (tb_b b)), some (.int (nI (j)))] [.int (nI (0))] n ad (xs_mem G ad X) 0 0 := by
            intro z
            refine jq_istore dL_broken_230 (by decide) rfl rfl ?_
            refine jq_iincN dL_broken_232 (by decide) rfl rfl rfl ?_
            refine jq_goto (tgt := 189) dL_broken_235 (by decide) ?_
            exact ih2 (j + 1) false (by omega) (by rw [lr_any_succ, ← Bool.or_assoc, ← hb, z])
          refine jq_iload dL_broken_189 rfl ?_
          refine jq_aload_n dL_broken_191 rfl rfl ?_
          refine xq_sI dL_broken_192 kL_32 (c_L_edges hB) rfl rfl (Nat.le_of_ble_eq_true rfl) ⟨⟨by decide, by decide⟩, Nat.le_refl _, Nat.le_refl _⟩ ?_
          refine jq_geN (tgt := 238) dL_broken_195 (by decide) ⟨by omega, by omega⟩ (fun c195 => ?_) (fun c195 => ?_)
          · exact absurd c195 (by omega)
          · refine jq_iload dL_broken_198 rfl ?_
            refine jq_if_ne (tgt := 225) dL_broken_200 (by decide) (fun c200 => ?_) (fun c200 => ?_)
            · have hT := stepT (by rw [tb_b1.mp c200]; rfl)
              refine jq_iconst (v := (nI 1)) dL_broken_225 (by decide) ?_
              refine jq_goto (tgt := 230) dL_broken_226 (by decide) ?_
              first | exact hT | exact hF
            · have d200 := tb_b0.mp c200
              refine jq_aload_n dL_broken_203 rfl rfl ?_
              refine jq_iload dL_broken_204 rfl ?_
              refine xq_iald dL_broken_206 hS.1 hij h3j.1 ?_
              refine jq_iconst (v := (nI 1)) dL_broken_207 (by decide) ?_
              refine jq_neN (tgt := 229) dL_broken_208 (by decide) ⟨by omega, by omega⟩ (fun c208 => ?_) (fun c208 => ?_)
              · have hF := stepF (by simp [d200, c208])
                refine jq_iconst (v := (nI 0)) dL_broken_229 (by decide) ?_
                first | exact hT | exact hF
              · refine jq_iload dL_broken_211 rfl ?_
                refine jq_aload_n dL_broken_213 rfl rfl ?_
                refine jq_iload dL_broken_214 rfl ?_
                refine xq_sI dL_broken_216 kL_22 (c_L_from hB hj) rfl rfl (Nat.le_of_ble_eq_true rfl) ⟨⟨by decide, by decide⟩, Nat.le_refl _, Nat.le_refl _⟩ ?_
                refine jq_ishr dL_broken_219 (lr_shr (by omega) (by omega)) ?_
                refine jq_iconst (v := (nI 1)) dL_broken_220 (by decide) ?_
                refine jq_iand dL_broken_221 ?_
                rw [lr_tb1]
                refine jq_if_ne (tgt := 229) dL_broken_222 (by decide) (fun c222 => ?_) (fun c222 => ?_)
                · have hF := stepF (by simp [d200, c208, lr_tbN c222])
                  refine jq_iconst (v := (nI 0)) dL_broken_229 (by decide) ?_
                  first | exact hT | exact hF
                · have hT := stepT (by simp [d200, c208, lr_tb0 c222])
                  refine jq_iconst (v := (nI 1)) dL_broken_225 (by decide) ?_
                  refine jq_goto (tgt := 230) dL_broken_226 (by decide) ?_
                  first | exact hT | exact hF
      refine jq_iload_n dL_broken_118 rfl rfl ?_
      refine jq_aload_n dL_broken_119 rfl rfl ?_
      refine xq_sI dL_broken_120 kL_32 (c_L_edges hB) rfl rfl (Nat.le_of_ble_eq_true rfl) ⟨⟨by decide, by decide⟩, Nat.le_refl _, Nat.le_refl _⟩ ?_
      refine jq_geN (tgt := 251) dL_broken_123 (by decide) ⟨by omega, by omega⟩ (fun c123 => ?_) (fun c123 => ?_)
      · exact absurd c123 (by omega)
      · refine jq_aload_n dL_broken_126 rfl rfl ?_
        refine jq_iload_n dL_broken_127 rfl rfl ?_
        refine xq_iald dL_broken_128 hS.1 hi h3.1 ?_
        refine jq_iconst (v := (nI 1)) dL_broken_129 (by decide) ?_
        refine jq_neN (tgt := 245) dL_broken_130 (by decide) ⟨by omega, by omega⟩ (fun c130 => ?_) (fun c130 => ?_)
        · have hno : lr_eb w h num st e = false := by simp [lr_eb, c130]
          exact next _ _ _ hno
        · refine jq_aload_n dL_broken_133 rfl rfl ?_
          refine jq_aload_n dL_broken_134 rfl rfl ?_
          refine jq_aload_n dL_broken_135 rfl rfl ?_
          refine jq_iload_n dL_broken_136 rfl rfl ?_
          refine xq_sI dL_broken_137 kL_22 (c_L_from hB he) rfl rfl (Nat.le_of_ble_eq_true rfl) ⟨⟨by decide, by decide⟩, Nat.le_refl _, Nat.le_refl _⟩ ?_
          refine jq_iload_n dL_broken_140 rfl rfl ?_
          refine xq_sI dL_broken_141 kL_49 (c_L_reached hB hS hq.1 (nI e)) rfl rfl (Nat.le_of_ble_eq_true rfl) ⟨⟨by decide, by decide⟩, Nat.le_refl _, Nat.le_refl _⟩ ?_
          refine jq_aload_n dL_broken_144 rfl rfl ?_
          refine jq_iload_n dL_broken_145 rfl rfl ?_
          refine xq_sI dL_broken_146 kL_36 (c_L_to hB he) rfl rfl (Nat.le_of_ble_eq_true rfl) ⟨⟨by decide, by decide⟩, Nat.le_refl _, Nat.le_refl _⟩ ?_
          refine jq_ishr dL_broken_149 (lr_shr (by omega) (by omega)) ?_
          refine jq_iconst (v := (nI 1)) dL_broken_150 (by decide) ?_
          refine jq_iand dL_broken_151 ?_
          rw [lr_tb1]
          refine jq_iconst (v := (nI 1)) dL_broken_152 (by decide) ?_
          refine jq_neN (tgt := 245) dL_broken_153 (by decide) ⟨lr_ile, by omega⟩ (fun c153 => ?_) (fun c153 => ?_)
          · have hno : lr_eb w h num st e = false := by simp [lr_eb, lr_i0 c153]
            exact next _ _ _ hno
          · have y2 := lr_i1 c153
            refine jq_aload_n dL_broken_156 rfl rfl ?_
            refine jq_aload_n dL_broken_157 rfl rfl ?_
            refine jq_aload_n dL_broken_158 rfl rfl ?_
            refine jq_iload_n dL_broken_159 rfl rfl ?_
            refine xq_sI dL_broken_160 kL_22 (c_L_from hB he) rfl rfl (Nat.le_of_ble_eq_true rfl) ⟨⟨by decide, by decide⟩, Nat.le_refl _, Nat.le_refl _⟩ ?_
            refine jq_iconst (v := (-1)) dL_broken_163 (by decide) ?_
            refine xq_sI dL_broken_164 kL_49 (c_L_reached hB hS hq.1 (-1)) rfl rfl (Nat.le_of_ble_eq_true rfl) ⟨⟨by decide, by decide⟩, Nat.le_refl _, Nat.le_refl _⟩ ?_
            refine jq_istore dL_broken_167 (by decide) rfl rfl ?_
            refine jq_aload_n dL_broken_169 rfl rfl ?_
            refine jq_aload_n dL_broken_170 rfl rfl ?_
            refine jq_aload_n dL_broken_171 rfl rfl ?_
            refine jq_iconst (v := (-1)) dL_broken_172 (by decide) ?_
            refine xq_sI dL_broken_173 kL_55 (c_L_areRight hB hS hN (-1)) rfl rfl (Nat.le_of_ble_eq_true rfl) ⟨⟨by decide, by decide⟩, Nat.le_refl _, Nat.le_refl _⟩ ?_
            refine jq_if_ne (tgt := 183) dL_broken_176 (by decide) (fun c176 => ?_) (fun c176 => ?_)
            · have d176 := tb_b1.mp c176
              refine jq_iconst (v := (nI 0)) dL_broken_183 (by decide) ?_
              refine jq_istore dL_broken_184 (by decide) rfl rfl ?_
              refine jq_iconst (v := (nI 0)) dL_broken_186 (by decide) ?_
              refine jq_istore dL_broken_187 (by decide) rfl rfl ?_
              first | exact inner c130 y2 (tb_ne w h) 0 false (by omega) (by rw [d176]; rfl) | exact inner c130 y2 (tb_ne w h) 0 true (by omega) (by rw [d176]; rfl)
            · have d176 := tb_b0.mp c176
              refine jq_iconst (v := (nI 1)) dL_broken_179 (by decide) ?_
              refine jq_goto (tgt := 184) dL_broken_180 (by decide) ?_
              refine jq_istore dL_broken_184 (by decide) rfl rfl ?_
              refine jq_iconst (v := (nI 0)) dL_broken_186 (by decide) ?_
              refine jq_istore dL_broken_187 (by decide) rfl rfl ?_
              first | exact inner c130 y2 (tb_ne w h) 0 false (by omega) (by rw [d176]; rfl) | exact inner c130 y2 (tb_ne w h) 0 true (by omega) (by rw [d176]; rfl)
  have loop2 : (List.range (tb_nc w h)).any (lr_cb w h num st) = false → ∀ (k p : Nat) (o4 o5 o6 : Option Value), p + k = tb_np w h → (∀ j, j < p → tb_ptBad w h st j = false) → jq_J l G mL_broken (jq_R 6 0 0) jq_E0 (xs_Ye G n ad (xs_pd (some (.int (nI (lr_br w h num st)))) X)) 62 [some (.ref (ad 21)), some (.ref (ad q)), some (.ref (ad 22)), some (.int (nI (p))), o4, o5, o6] [] n ad (xs_mem G ad X) 0 0 := by
    intro b1 k
    induction k with
    | zero =>
      intro p o4 o5 o6 hk hc
      have b2 : (List.range (tb_np w h)).any (tb_ptBad w h st) = false := tb_anyF (fun j hj => hc j (by omega))
      refine jq_iload_n dL_broken_62 rfl rfl ?_
      refine jq_aload_n dL_broken_63 rfl rfl ?_
      refine jq_iconst (v := (nI 0)) dL_broken_64 (by decide) ?_
      refine xq_iald dL_broken_65 hB.1 lr_v0 hB.2.1 ?_
      refine jq_iconst (v := (nI 1)) dL_broken_66 (by decide) ?_
      refine jq_iaddN dL_broken_67 ?_
      refine jq_aload_n dL_broken_68 rfl rfl ?_
      refine jq_iconst (v := (nI 1)) dL_broken_69 (by decide) ?_
      refine xq_iald dL_broken_70 hB.1 lr_v1 hB.2.2.1 ?_
      refine jq_iconst (v := (nI 1)) dL_broken_71 (by decide) ?_
      refine jq_iaddN dL_broken_72 ?_
      refine jq_imulN dL_broken_73 ?_
      refine jq_geN (tgt := 116) dL_broken_74 (by decide) ⟨by omega, by omega⟩ (fun c74 => ?_) (fun c74 => ?_)
      · refine jq_iconst (v := (nI 0)) dL_broken_116 (by decide) ?_
        refine jq_istore_n dL_broken_117 rfl (by decide) rfl rfl ?_
        exact loop3 b1 b2 (tb_ne w h) 0 _ _ _ (by omega) (fun j hj => absurd hj (Nat.not_lt_zero j))
      · exact absurd c74 (by omega)
    | succ k ih =>
      intro p o4 o5 o6 hk hc
      have hp : p < tb_np w h := by omega
      have ha1 : tb_at w h st p 1 ≤ tb_ne w h := fb_ct_le _ _
      have ha0 : tb_at w h st p 0 ≤ tb_ne w h := fb_ct_le _ _
      have next : tb_ptBad w h st p = false → ∀ j, j < p + 1 → tb_ptBad w h st j = false := by
        intro z j hj
        rcases Nat.lt_or_ge j p with q | q
        · exact hc j q
        · rw [show j = p by omega]; exact z
      have yes : tb_ptBad w h st p = true → 2 = lr_br w h num st := by
        intro z
        unfold lr_br
        rw [b1, tb_anyT hp z]
        rfl
      refine jq_iload_n dL_broken_62 rfl rfl ?_
      refine jq_aload_n dL_broken_63 rfl rfl ?_
      refine jq_iconst (v := (nI 0)) dL_broken_64 (by decide) ?_
      refine xq_iald dL_broken_65 hB.1 lr_v0 hB.2.1 ?_
      refine jq_iconst (v := (nI 1)) dL_broken_66 (by decide) ?_
      refine jq_iaddN dL_broken_67 ?_
      refine jq_aload_n dL_broken_68 rfl rfl ?_
      refine jq_iconst (v := (nI 1)) dL_broken_69 (by decide) ?_
      refine xq_iald dL_broken_70 hB.1 lr_v1 hB.2.2.1 ?_
      refine jq_iconst (v := (nI 1)) dL_broken_71 (by decide) ?_
      refine jq_iaddN dL_broken_72 ?_
      refine jq_imulN dL_broken_73 ?_
      refine jq_geN (tgt := 116) dL_broken_74 (by decide) ⟨by omega, by omega⟩ (fun c74 => ?_) (fun c74 => ?_)
      · exact absurd c74 (by omega)
      · refine jq_aload_n dL_broken_77 rfl rfl ?_
        refine jq_aload_n dL_broken_78 rfl rfl ?_
        refine jq_iload_n dL_broken_79 rfl rfl ?_
        refine jq_iconst (v := (nI 1)) dL_broken_80 (by decide) ?_
        refine xq_sI dL_broken_81 kL_52 (c_L_at hB hS (by omega) (by decide)) rfl rfl (Nat.le_of_ble_eq_true rfl) ⟨⟨by decide, by decide⟩, Nat.le_refl _, Nat.le_refl _⟩ ?_
        refine jq_istore dL_broken_84 (by decide) rfl rfl ?_
        refine jq_iload dL_broken_86 rfl ?_
        refine jq_iconst (v := (nI 2)) dL_broken_88 (by decide) ?_
        refine jq_gtN (tgt := 108) dL_broken_89 (by decide) ⟨by omega, by omega⟩ (fun c89 => ?_) (fun c89 => ?_)
        · have hy := yes (by simp [tb_ptBad, tb_deg, c89])
          refine jq_iconst (v := (nI 2)) dL_broken_108 (by decide) ?_
          exact xq_ireturn dL_broken_109 rfl rfl (⟨by rw [← hy], rfl⟩)
        · refine jq_iload dL_broken_92 rfl ?_
          refine jq_iconst (v := (nI 1)) dL_broken_94 (by decide) ?_
          refine jq_neN (tgt := 110) dL_broken_95 (by decide) ⟨by omega, by omega⟩ (fun c95 => ?_) (fun c95 => ?_)
          · have hn := next (by simp [tb_ptBad, tb_deg, c95, Nat.not_lt.mpr c89])
            refine jq_iincN dL_broken_110 (by decide) rfl rfl rfl ?_
            refine jq_goto (tgt := 62) dL_broken_113 (by decide) ?_
            exact ih (p + 1) _ _ _ (by omega) hn
          · refine jq_aload_n dL_broken_98 rfl rfl ?_
            refine jq_aload_n dL_broken_99 rfl rfl ?_
            refine jq_iload_n dL_broken_100 rfl rfl ?_
            refine jq_iconst (v := (nI 0)) dL_broken_101 (by decide) ?_
            refine xq_sI dL_broken_102 kL_52 (c_L_at hB hS (by omega) (by decide)) rfl rfl (Nat.le_of_ble_eq_true rfl) ⟨⟨by decide, by decide⟩, Nat.le_refl _, Nat.le_refl _⟩ ?_
            refine jq_neZ (tgt := 110) dL_broken_105 (by decide) (by omega) (fun c105 => ?_) (fun c105 => ?_)
            · have hn := next (by simp [tb_ptBad, tb_deg, c105, Nat.not_lt.mpr c89])
              refine jq_iincN dL_broken_110 (by decide) rfl rfl rfl ?_
              refine jq_goto (tgt := 62) dL_broken_113 (by decide) ?_
              exact ih (p + 1) _ _ _ (by omega) hn
            · have hy := yes (by simp [tb_ptBad, tb_deg, c95, c105])
              refine jq_iconst (v := (nI 2)) dL_broken_108 (by decide) ?_
              exact xq_ireturn dL_broken_109 rfl rfl (⟨by rw [← hy], rfl⟩)
  have loop1 : ∀ (k c : Nat) (o4 o5 o6 : Option Value), c + k = tb_nc w h → (∀ j, j < c → lr_cb w h num st j = false) → jq_J l G mL_broken (jq_R 6 0 0) jq_E0 (xs_Ye G n ad (xs_pd (some (.int (nI (lr_br w h num st)))) X)) 2 [some (.ref (ad 21)), some (.ref (ad q)), some (.ref (ad 22)), some (.int (nI (c))), o4, o5, o6] [] n ad (xs_mem G ad X) 0 0 := by
    intro k
    induction k with
    | zero =>
      intro c o4 o5 o6 hk hc
      have b1 : (List.range (tb_nc w h)).any (lr_cb w h num st) = false := tb_anyF (fun j hj => hc j (by omega))
      refine jq_iload_n dL_broken_2 rfl rfl ?_
      refine jq_aload_n dL_broken_3 rfl rfl ?_
      refine jq_iconst (v := (nI 0)) dL_broken_4 (by decide) ?_
      refine xq_iald dL_broken_5 hB.1 lr_v0 hB.2.1 ?_
      refine jq_aload_n dL_broken_6 rfl rfl ?_
      refine jq_iconst (v := (nI 1)) dL_broken_7 (by decide) ?_
      refine xq_iald dL_broken_8 hB.1 lr_v1 hB.2.2.1 ?_
      refine jq_imulN dL_broken_9 ?_
      refine jq_geN (tgt := 60) dL_broken_10 (by decide) ⟨by omega, by omega⟩ (fun c10 => ?_) (fun c10 => ?_)
      · refine jq_iconst (v := (nI 0)) dL_broken_60 (by decide) ?_
        refine jq_istore_n dL_broken_61 rfl (by decide) rfl rfl ?_
        exact loop2 b1 (tb_np w h) 0 _ _ _ (by omega) (fun j hj => absurd hj (Nat.not_lt_zero j))
      · exact absurd c10 (by omega)
    | succ k ih =>
      intro c o4 o5 o6 hk hc
      have hcc : c < tb_nc w h := by omega
      have h3 := hN.2 _ hcc
      have hi : vp_in (nI c) 9 := vp_inN (by omega) (by decide)
      have next : lr_cb w h num st c = false → ∀ j, j < c + 1 → lr_cb w h num st j = false := by
        intro z j hj
        rcases Nat.lt_or_ge j c with q | q
        · exact hc j q
        · rw [show j = c by omega]; exact z
      have yes : lr_cb w h num st c = true → 1 = lr_br w h num st := by
        intro z
        unfold lr_br
        rw [tb_anyT hcc z]
        rfl
      refine jq_iload_n dL_broken_2 rfl rfl ?_
      refine jq_aload_n dL_broken_3 rfl rfl ?_
      refine jq_iconst (v := (nI 0)) dL_broken_4 (by decide) ?_
      refine xq_iald dL_broken_5 hB.1 lr_v0 hB.2.1 ?_
      refine jq_aload_n dL_broken_6 rfl rfl ?_
      refine jq_iconst (v := (nI 1)) dL_broken_7 (by decide) ?_
      refine xq_iald dL_broken_8 hB.1 lr_v1 hB.2.2.1 ?_
      refine jq_imulN dL_broken_9 ?_
      refine jq_geN (tgt := 60) dL_broken_10 (by decide) ⟨by omega, by omega⟩ (fun c10 => ?_) (fun c10 => ?_)
      · exact absurd c10 (by omega)
      · refine jq_aload_n dL_broken_13 rfl rfl ?_
        refine jq_aload_n dL_broken_14 rfl rfl ?_
        refine jq_iload_n dL_broken_15 rfl rfl ?_
        refine jq_iconst (v := (nI 1)) dL_broken_16 (by decide) ?_
        refine xq_sI dL_broken_17 kL_45 (c_L_around hB hS hcc (by decide)) rfl rfl (Nat.le_of_ble_eq_true rfl) ⟨⟨by decide, by decide⟩, Nat.le_refl _, Nat.le_refl _⟩ ?_
        refine jq_istore dL_broken_20 (by decide) rfl rfl ?_
        refine jq_aload_n dL_broken_22 rfl rfl ?_
        refine jq_iload_n dL_broken_23 rfl rfl ?_
        refine xq_iald dL_broken_24 hN.1 hi h3 ?_
        refine jq_if_lt (tgt := 54) dL_broken_25 (by decide) (fun c25 => ?_) (fun c25 => ?_)
        · have hn := next (by simp [lr_cb, c25])
          refine jq_iincN dL_broken_54 (by decide) rfl rfl rfl ?_
          refine jq_goto (tgt := 2) dL_broken_57 (by decide) ?_
          exact ih (c + 1) _ _ _ (by omega) hn
        · refine jq_iload dL_broken_28 rfl ?_
          refine jq_aload_n dL_broken_30 rfl rfl ?_
          refine jq_iload_n dL_broken_31 rfl rfl ?_
          refine xq_iald dL_broken_32 hN.1 hi h3 ?_
          refine jq_icmp_gt (tgt := 52) dL_broken_33 (by decide) (fun c33 => ?_) (fun c33 => ?_)
          · have hy := yes (by simp [lr_cb, c25, c33])
            refine jq_iconst (v := (nI 1)) dL_broken_52 (by decide) ?_
            exact xq_ireturn dL_broken_53 rfl rfl (⟨by rw [← hy], rfl⟩)
          · refine jq_iload dL_broken_36 rfl ?_
            refine jq_aload_n dL_broken_38 rfl rfl ?_
            refine jq_aload_n dL_broken_39 rfl rfl ?_
            refine jq_iload_n dL_broken_40 rfl rfl ?_
            refine jq_iconst (v := (nI 0)) dL_broken_41 (by decide) ?_
            refine xq_sI dL_broken_42 kL_45 (c_L_around hB hS hcc (by decide)) rfl rfl (Nat.le_of_ble_eq_true rfl) ⟨⟨by decide, by decide⟩, Nat.le_refl _, Nat.le_refl _⟩ ?_
            refine jq_iaddN dL_broken_45 ?_
            refine jq_aload_n dL_broken_46 rfl rfl ?_
            refine jq_iload_n dL_broken_47 rfl rfl ?_
            refine xq_iald dL_broken_48 hN.1 hi h3 ?_
            refine jq_icmp_ge (tgt := 54) dL_broken_49 (by decide) (fun c49 => ?_) (fun c49 => ?_)
            · have hn := next (by simp [lr_cb, c25, c33, c49])
              refine jq_iincN dL_broken_54 (by decide) rfl rfl rfl ?_
              refine jq_goto (tgt := 2) dL_broken_57 (by decide) ?_
              exact ih (c + 1) _ _ _ (by omega) hn
            · have hy := yes (by simp [lr_cb, c25, c49])
              refine jq_iconst (v := (nI 1)) dL_broken_52 (by decide) ?_
              exact xq_ireturn dL_broken_53 rfl rfl (⟨by rw [← hy], rfl⟩)
  refine xs_Ct_of (L := [some (.ref (ad 21)), some (.ref (ad q)), some (.ref (ad 22)), none, none, none, none]) rfl (Nat.le_of_ble_eq_true rfl) rfl ?_
  refine jq_iconst (v := (nI 0)) dL_broken_0 (by decide) ?_
  refine jq_istore_n dL_broken_1 rfl (by decide) rfl rfl ?_
  exact loop1 (tb_nc w h) 0 _ _ _ (by omega) (fun j hj => absurd hj (Nat.not_lt_zero j))
/-! what the rules want -/
def lr_w1 (w h : Nat) (num : Nat → Int32) (st : Nat → Nat) (rule c : Nat) : Nat := if c < tb_nc w h ∧ ¬ num c < 0 then (if rule = 1 then (if nI (tb_ar w h st c 1) = num c then 2 else 0) else (if nI (tb_ar w h st c 1 + tb_ar w h st c 0) = num c then 1 else 0)) else 0
def lr_w2 (w h : Nat) (st : Nat → Nat) (rule p : Nat) : Nat := if rule = 3 then (if tb_at w h st p 1 = 2 then 2 else 0) else if rule = 4 then (if tb_at w h st p 1 = 1 ∧ tb_at w h st p 0 = 1 then 1 else 0) else (if tb_at w h st p 1 = 0 ∧ tb_at w h st p 0 = 1 then 2 else 0)
def lr_w6 (w h : Nat) (num : Nat → Int32) (st : Nat → Nat) (e : Nat) : Nat := if (lr_rc w h (lr_T st (-1)) (tb_one w h e)).testBit (tb_oth w h e) = false then 0 else if (lr_lp w h (tb_set st e 1) && lr_rt w h num (tb_set st e 1) (-1)) = true then 0 else 2
def lr_w7 (w h : Nat) (st : Nat → Nat) (e : Nat) : Nat := if (lr_ch w h st (tb_are w h e)).testBit (2 * tb_bes w h e) = true then 2 else if (lr_ch w h st (tb_are w h e)).testBit (2 * tb_bes w h e + 1) = true then 1 else 0
def lr_wa (w h : Nat) (num : Nat → Int32) (st : Nat → Nat) (e rule : Nat) : Nat :=
  if rule < 3 then lr_w1 w h num st rule (tb_are w h e) ||| lr_w1 w h num st rule (tb_bes w h e) else if rule < 6 then lr_w2 w h st rule (tb_one w h e) ||| lr_w2 w h st rule (tb_oth w h e) else if rule = 6 then lr_w6 w h num st e else lr_w7 w h st e
theorem lr_tb2 {a k : Nat} : nI (a / 2 ^ k) &&& nI 2 = nI (if a.testBit (k + 1) = true then 2 else 0) := by
  rw [fa_and]
  congr 1
  apply Nat.eq_of_testBit_eq
  intro i
  rw [Nat.testBit_and, show (2 : Nat) = 2 ^ 1 from rfl, Nat.testBit_two_pow, Nat.testBit_div_two_pow]
  by_cases hi : 1 = i
  · subst hi
    rw [Nat.add_comm 1 k]
    cases a.testBit (k + 1) <;> decide
  · have e1 : decide (1 = i) = false := decide_eq_false hi
    rw [e1, Bool.and_false]
    cases a.testBit (k + 1)
    · simp
    · simp only [if_true]
      rw [Nat.testBit_two_pow, e1]
theorem lr_j0 {b : Bool} (h : (if b = true then 2 else 0) ≠ 2) : b = false := by cases b; rfl; simp at h
theorem lr_j1 {b : Bool} (h : (if b = true then 2 else 0) = 2) : b = true := by cases b; simp at h; rfl
theorem lr_jle {b : Bool} : (if b = true then 2 else 0) < 2 ^ 31 := by cases b <;> decide
theorem lr_B_ai {n w h q : Nat} {X : xs_T} {f : Nat → Int32} (hB : lr_B n w h X) (hq : 21 < q) : lr_B n w h (xs_ai X q f) :=
  ⟨hB.1, by rw [xs_ai_ne (by omega)]; exact hB.2.1, by rw [xs_ai_ne (by omega)]; exact hB.2.2.1, hB.2.2.2⟩
theorem lr_N_ai {n w h q : Nat} {num : Nat → Int32} {X : xs_T} {f : Nat → Int32} (hN : lr_N n w h num X) (hq : 22 < q) : lr_N n w h num (xs_ai X q f) :=
  ⟨hN.1, fun c hc => by rw [xs_ai_ne (by omega)]; exact hN.2 c hc⟩
theorem lr_S_set {n w h q e v : Nat} {st : Nat → Nat} {X : xs_T} (hS : lr_S n w h q st X) (hk : lr_k w h) (he : e < 1000) (hv : v ≤ 2) : lr_S n w h q (tb_set st e v) (xs_ai X q (upd (X.2.2.1 q) (nI e).toNatClampNeg (nI v))) := by
  refine ⟨hS.1, fun j hj => ?_⟩
  have hz := lr_sz hk
  rw [xs_ai_at]
  have h0 := hS.2 j hj
  unfold tb_set
  rw [nI_clamp (show j < 2 ^ 31 by omega)] at h0 ⊢
  rw [nI_clamp (show e < 2 ^ 31 by omega)]
  by_cases hje : j = e
  · rw [if_pos hje, hje]
    exact ⟨pk_us, hv⟩
  · rw [if_neg hje, pk_un hje]
    exact h0
theorem lr_back {X : xs_T} {q i : Nat} {a b : Int32} (h : X.2.2.1 q i = b) : xs_ai (xs_ai X q (upd (X.2.2.1 q) i a)) q (upd ((xs_ai X q (upd (X.2.2.1 q) i a)).2.2.1 q) i b) = X := by
  rw [xs_ai_at, fa_upd_twice, fa_upd_same h]
  unfold xs_ai
  congr 1
  congr 1
  apply Prod.ext
  · funext j
    by_cases hj : j = q
    · subst hj; simp [va_up]
    · simp [va_up, hj]
  · rfl
set_option maxHeartbeats 8000000 in
theorem c_L_wants {l : Launch} {G : jq_G} {n : Nat} {ad : Nat → Nat} {X : xs_T} {w h q : Nat} {st : Nat → Nat} {num : Nat → Int32} (hB : lr_B n w h X) (hS : lr_S n w h q st X) (hN : lr_N n w h num X) (hq23 : 23 ≤ q) {e rule : Nat} (he : e < tb_ne w h) (h0 : st e = 0) (hr : 1 ≤ rule ∧ rule ≤ 7) : xs_Ct l G mL_wants 7 [.ref (ad 21), .ref (ad q), .ref (ad 22), .int (nI (e)), .int (nI (rule))] n ad X (xs_pd (some (.int (nI (lr_wa w h num st e rule)))) X) := by
  have hz := lr_sz hB.2.2.2
  have hq := lr_ends hB.2.2.2 he
  have h3 := hS.2 _ he
  have hi : vp_in (nI e) 24 := vp_inN (by omega) (by decide)
  have hl2 := lr_rc_lt hB.2.2.2 (T := lr_T st (-1)) hq.1
  have hcl := lr_ch_lt hB.2.2.2 (st := st) hq.2.2.2.2.1
  have step1 : ∀ (k W c : Nat) (o7 o8 o9 : Option Value), k < 2 → rule < 3 → c = (if k = 0 then tb_are w h e else tb_bes w h e) → W ≤ 3 → (∀ o7 o8 o9, jq_J l G mL_wants (jq_R 7 0 0) jq_E0 (xs_Ye G n ad (xs_pd (some (.int (nI (lr_wa w h num st e rule)))) X)) 12 [some (.ref (ad 21)), some (.ref (ad q)), some (.ref (ad 22)), some (.int (nI (e))), some (.int (nI (rule))), some (.int (nI (W ||| lr_w1 w h num st rule c))), some (.int (nI (k + 1))), o7, o8, o9] [] n ad (xs_mem G ad X) 0 0) → jq_J l G mL_wants (jq_R 7 0 0) jq_E0 (xs_Ye G n ad (xs_pd (some (.int (nI (lr_wa w h num st e rule)))) X)) 12 [some (.ref (ad 21)), some (.ref (ad q)), some (.ref (ad 22)), some (.int (nI (e))), some (.int (nI (rule))), some (.int (nI (W))), some (.int (nI (k))), o7, o8, o9] [] n ad (xs_mem G ad X) 0 0 := by
    intro k W c o7 o8 o9 hk hr3 hc hW kk
    have nx : ∀ (V : Nat) (o7 o8 o9 : Option Value), V = W ||| lr_w1 w h num st rule c → jq_J l G mL_wants (jq_R 7 0 0) jq_E0 (xs_Ye G n ad (xs_pd (some (.int (nI (lr_wa w h num st e rule)))) X)) 118 [some (.ref (ad 21)), some (.ref (ad q)), some (.ref (ad 22)), some (.int (nI (e))), some (.int (nI (rule))), some (.int (nI (V))), some (.int (nI (k))), o7, o8, o9] [] n ad (xs_mem G ad X) 0 0 := by
      intro V o7 o8 o9 hV
      subst hV
      refine jq_iincN dL_wants_118 (by decide) rfl rfl rfl ?_
      refine jq_goto (tgt := 12) dL_wants_121 (by decide) ?_
      exact kk _ _ _
    have hcle : c ≤ tb_nc w h := by rw [hc]; split; exact hq.2.2.2.2.1; exact hq.2.2.2.2.2
    have rest : ∀ (o8 o9 : Option Value), jq_J l G mL_wants (jq_R 7 0 0) jq_E0 (xs_Ye G n ad (xs_pd (some (.int (nI (lr_wa w h num st e rule)))) X)) 38 [some (.ref (ad 21)), some (.ref (ad q)), some (.ref (ad 22)), some (.int (nI (e))), some (.int (nI (rule))), some (.int (nI (W))), some (.int (nI (k))), some (.int (nI (c))), o8, o9] [] n ad (xs_mem G ad X) 0 0 := by
      intro o8 o9
      by_cases hcc : c < tb_nc w h
      · have h3c := hN.2 _ hcc
        have hic : vp_in (nI c) 9 := vp_inN (by omega) (by decide)
        refine jq_iload dL_wants_38 rfl ?_
        refine jq_aload_n dL_wants_40 rfl rfl ?_
        refine jq_iconst (v := (nI 0)) dL_wants_41 (by decide) ?_
        refine xq_iald dL_wants_42 hB.1 lr_v0 hB.2.1 ?_
        refine jq_aload_n dL_wants_43 rfl rfl ?_
        refine jq_iconst (v := (nI 1)) dL_wants_44 (by decide) ?_
        refine xq_iald dL_wants_45 hB.1 lr_v1 hB.2.2.1 ?_
        refine jq_imulN dL_wants_46 ?_
        refine jq_geN (tgt := 118) dL_wants_47 (by decide) ⟨by omega, by omega⟩ (fun c47 => ?_) (fun c47 => ?_)
        · exact absurd c47 (by omega)
        · refine jq_aload_n dL_wants_50 rfl rfl ?_
          refine jq_iload dL_wants_51 rfl ?_
          refine xq_iald dL_wants_53 hN.1 hic h3c ?_
          refine jq_if_lt (tgt := 118) dL_wants_54 (by decide) (fun c54 => ?_) (fun c54 => ?_)
          · have hV : W = W ||| lr_w1 w h num st rule c := by rw [show lr_w1 w h num st rule c = 0 by simp [lr_w1, c54], Nat.or_zero]
            exact nx _ _ _ _ hV
          · refine jq_aload_n dL_wants_57 rfl rfl ?_
            refine jq_aload_n dL_wants_58 rfl rfl ?_
            refine jq_iload dL_wants_59 rfl ?_
            refine jq_iconst (v := (nI 1)) dL_wants_61 (by decide) ?_
            refine xq_sI dL_wants_62 kL_45 (c_L_around hB hS hcc (by decide)) rfl rfl (Nat.le_of_ble_eq_true rfl) ⟨⟨by decide, by decide⟩, Nat.le_refl _, Nat.le_refl _⟩ ?_
            refine jq_istore dL_wants_65 (by decide) rfl rfl ?_
            refine jq_iload dL_wants_67 rfl ?_
            refine jq_iload dL_wants_69 rfl ?_
            refine jq_iconst (v := (nI 1)) dL_wants_71 (by decide) ?_
            refine jq_neN (tgt := 92) dL_wants_72 (by decide) ⟨by omega, by omega⟩ (fun c72 => ?_) (fun c72 => ?_)
            · refine jq_iload dL_wants_92 rfl ?_
              refine jq_aload_n dL_wants_94 rfl rfl ?_
              refine jq_aload_n dL_wants_95 rfl rfl ?_
              refine jq_iload dL_wants_96 rfl ?_
              refine jq_iconst (v := (nI 0)) dL_wants_98 (by decide) ?_
              refine xq_sI dL_wants_99 kL_45 (c_L_around hB hS hcc (by decide)) rfl rfl (Nat.le_of_ble_eq_true rfl) ⟨⟨by decide, by decide⟩, Nat.le_refl _, Nat.le_refl _⟩ ?_
              refine jq_iaddN dL_wants_102 ?_
              refine jq_aload_n dL_wants_103 rfl rfl ?_
              refine jq_iload dL_wants_104 rfl ?_
              refine xq_iald dL_wants_106 hN.1 hic h3c ?_
              refine jq_icmp_ne (tgt := 114) dL_wants_107 (by decide) (fun c107 => ?_) (fun c107 => ?_)
              · have hV : W ||| 0 = W ||| lr_w1 w h num st rule c := by rw [show lr_w1 w h num st rule c = 0 by simp [lr_w1, hcc, c54, c72, c107]]
                refine jq_iconst (v := (nI 0)) dL_wants_114 (by decide) ?_
                refine jq_ior dL_wants_115 ?_
                rw [fa_or]
                refine jq_istore dL_wants_116 (by decide) rfl rfl ?_
                exact nx _ _ _ _ hV
              · have hV : W ||| 1 = W ||| lr_w1 w h num st rule c := by rw [show lr_w1 w h num st rule c = 1 by simp [lr_w1, hcc, c54, c72, c107]]
                refine jq_iconst (v := (nI 1)) dL_wants_110 (by decide) ?_
                refine jq_goto (tgt := 115) dL_wants_111 (by decide) ?_
                refine jq_ior dL_wants_115 ?_
                rw [fa_or]
                refine jq_istore dL_wants_116 (by decide) rfl rfl ?_
                exact nx _ _ _ _ hV
            · refine jq_iload dL_wants_75 rfl ?_
              refine jq_aload_n dL_wants_77 rfl rfl ?_
              refine jq_iload dL_wants_78 rfl ?_
              refine xq_iald dL_wants_80 hN.1 hic h3c ?_
              refine jq_icmp_ne (tgt := 88) dL_wants_81 (by decide) (fun c81 => ?_) (fun c81 => ?_)
              · have hV : W ||| 0 = W ||| lr_w1 w h num st rule c := by rw [show lr_w1 w h num st rule c = 0 by simp [lr_w1, hcc, c54, c72, c81]]
                refine jq_iconst (v := (nI 0)) dL_wants_88 (by decide) ?_
                refine jq_goto (tgt := 115) dL_wants_89 (by decide) ?_
                refine jq_ior dL_wants_115 ?_
                rw [fa_or]
                refine jq_istore dL_wants_116 (by decide) rfl rfl ?_
                exact nx _ _ _ _ hV
              · have hV : W ||| 2 = W ||| lr_w1 w h num st rule c := by rw [show lr_w1 w h num st rule c = 2 by simp [lr_w1, hcc, c54, c72, c81]]
                refine jq_iconst (v := (nI 2)) dL_wants_84 (by decide) ?_
                refine jq_goto (tgt := 115) dL_wants_85 (by decide) ?_
                refine jq_ior dL_wants_115 ?_
                rw [fa_or]
                refine jq_istore dL_wants_116 (by decide) rfl rfl ?_
                exact nx _ _ _ _ hV
      · have hV : W = W ||| lr_w1 w h num st rule c := by rw [show lr_w1 w h num st rule c = 0 by simp [lr_w1, hcc], Nat.or_zero]
        refine jq_iload dL_wants_38 rfl ?_
        refine jq_aload_n dL_wants_40 rfl rfl ?_
        refine jq_iconst (v := (nI 0)) dL_wants_41 (by decide) ?_
        refine xq_iald dL_wants_42 hB.1 lr_v0 hB.2.1 ?_
        refine jq_aload_n dL_wants_43 rfl rfl ?_
        refine jq_iconst (v := (nI 1)) dL_wants_44 (by decide) ?_
        refine xq_iald dL_wants_45 hB.1 lr_v1 hB.2.2.1 ?_
        refine jq_imulN dL_wants_46 ?_
        refine jq_geN (tgt := 118) dL_wants_47 (by decide) ⟨by omega, by omega⟩ (fun c47 => ?_) (fun c47 => ?_)
        · exact nx _ _ _ _ hV
        · exact absurd c47 (by omega)
    refine jq_iload dL_wants_12 rfl ?_
    refine jq_iconst (v := (nI 2)) dL_wants_14 (by decide) ?_
    refine jq_geN (tgt := 124) dL_wants_15 (by decide) ⟨by omega, by omega⟩ (fun c15 => ?_) (fun c15 => ?_)
    · exact absurd c15 (by omega)
    · refine jq_iload dL_wants_18 rfl ?_
      refine jq_neZ (tgt := 31) dL_wants_20 (by decide) (by omega) (fun c20 => ?_) (fun c20 => ?_)
      · have hc2 : tb_bes w h e = c := by rw [hc, if_neg c20]
        refine jq_aload_n dL_wants_31 rfl rfl ?_
        refine jq_iload_n dL_wants_32 rfl rfl ?_
        refine xq_sI dL_wants_33 kL_42 (c_L_behind hB he) rfl rfl (Nat.le_of_ble_eq_true rfl) ⟨⟨by decide, by decide⟩, Nat.le_refl _, Nat.le_refl _⟩ ?_
        rw [hc2]
        refine jq_istore dL_wants_36 (by decide) rfl rfl ?_
        exact rest _ _
      · have hc2 : tb_are w h e = c := by rw [hc, if_pos c20]
        refine jq_aload_n dL_wants_23 rfl rfl ?_
        refine jq_iload_n dL_wants_24 rfl rfl ?_
        refine xq_sI dL_wants_25 kL_39 (c_L_ahead hB he) rfl rfl (Nat.le_of_ble_eq_true rfl) ⟨⟨by decide, by decide⟩, Nat.le_refl _, Nat.le_refl _⟩ ?_
        rw [hc2]
        refine jq_goto (tgt := 36) dL_wants_28 (by decide) ?_
        refine jq_istore dL_wants_36 (by decide) rfl rfl ?_
        exact rest _ _
  have step2 : ∀ (k W p : Nat) (o7 o8 o9 : Option Value), k < 2 → ¬ rule < 3 → rule < 6 → p = (if k = 0 then tb_one w h e else tb_oth w h e) → W ≤ 3 → (∀ o7 o8 o9, jq_J l G mL_wants (jq_R 7 0 0) jq_E0 (xs_Ye G n ad (xs_pd (some (.int (nI (lr_wa w h num st e rule)))) X)) 140 [some (.ref (ad 21)), some (.ref (ad q)), some (.ref (ad 22)), some (.int (nI (e))), some (.int (nI (rule))), some (.int (nI (W ||| lr_w2 w h st rule p))), some (.int (nI (k + 1))), o7, o8, o9] [] n ad (xs_mem G ad X) 0 0) → jq_J l G mL_wants (jq_R 7 0 0) jq_E0 (xs_Ye G n ad (xs_pd (some (.int (nI (lr_wa w h num st e rule)))) X)) 140 [some (.ref (ad 21)), some (.ref (ad q)), some (.ref (ad 22)), some (.int (nI (e))), some (.int (nI (rule))), some (.int (nI (W))), some (.int (nI (k))), o7, o8, o9] [] n ad (xs_mem G ad X) 0 0 := by
    intro k W p o7 o8 o9 hk hr3 hr6 hc hW kk
    have nx : ∀ (V : Nat) (o7 o8 o9 : Option Value), V = W ||| lr_w2 w h st rule p → jq_J l G mL_wants (jq_R 7 0 0) jq_E0 (xs_Ye G n ad (xs_pd (some (.int (nI (lr_wa w h num st e rule)))) X)) 253 [some (.ref (ad 21)), some (.ref (ad q)), some (.ref (ad 22)), some (.int (nI (e))), some (.int (nI (rule))), some (.int (nI (V))), some (.int (nI (k))), o7, o8, o9] [] n ad (xs_mem G ad X) 0 0 := by
      intro V o7 o8 o9 hV
      subst hV
      refine jq_iincN dL_wants_253 (by decide) rfl rfl rfl ?_
      refine jq_goto (tgt := 140) dL_wants_256 (by decide) ?_
      exact kk _ _ _
    have hple : p < 16 := by rw [hc]; split; exact hq.1; exact hq.2.1
    have ha1 : tb_at w h st p 1 ≤ tb_ne w h := fb_ct_le _ _
    have ha0 : tb_at w h st p 0 ≤ tb_ne w h := fb_ct_le _ _
    have rest : ∀ (o8 o9 : Option Value), jq_J l G mL_wants (jq_R 7 0 0) jq_E0 (xs_Ye G n ad (xs_pd (some (.int (nI (lr_wa w h num st e rule)))) X)) 166 [some (.ref (ad 21)), some (.ref (ad q)), some (.ref (ad 22)), some (.int (nI (e))), some (.int (nI (rule))), some (.int (nI (W))), some (.int (nI (k))), some (.int (nI (p))), o8, o9] [] n ad (xs_mem G ad X) 0 0 := by
      intro o8 o9
      refine jq_aload_n dL_wants_166 rfl rfl ?_
      refine jq_aload_n dL_wants_167 rfl rfl ?_
      refine jq_iload dL_wants_168 rfl ?_
      refine jq_iconst (v := (nI 1)) dL_wants_170 (by decide) ?_
      refine xq_sI dL_wants_171 kL_52 (c_L_at hB hS (by omega) (by decide)) rfl rfl (Nat.le_of_ble_eq_true rfl) ⟨⟨by decide, by decide⟩, Nat.le_refl _, Nat.le_refl _⟩ ?_
      refine jq_istore dL_wants_174 (by decide) rfl rfl ?_
      refine jq_aload_n dL_wants_176 rfl rfl ?_
      refine jq_aload_n dL_wants_177 rfl rfl ?_
      refine jq_iload dL_wants_178 rfl ?_
      refine jq_iconst (v := (nI 0)) dL_wants_180 (by decide) ?_
      refine xq_sI dL_wants_181 kL_52 (c_L_at hB hS (by omega) (by decide)) rfl rfl (Nat.le_of_ble_eq_true rfl) ⟨⟨by decide, by decide⟩, Nat.le_refl _, Nat.le_refl _⟩ ?_
      refine jq_istore dL_wants_184 (by decide) rfl rfl ?_
      refine jq_iload dL_wants_186 rfl ?_
      refine jq_iload dL_wants_188 rfl ?_
      refine jq_iconst (v := (nI 3)) dL_wants_190 (by decide) ?_
      refine jq_neN (tgt := 208) dL_wants_191 (by decide) ⟨by omega, by omega⟩ (fun c191 => ?_) (fun c191 => ?_)
      · refine jq_iload dL_wants_208 rfl ?_
        refine jq_iconst (v := (nI 4)) dL_wants_210 (by decide) ?_
        refine jq_neN (tgt := 234) dL_wants_211 (by decide) ⟨by omega, by omega⟩ (fun c211 => ?_) (fun c211 => ?_)
        · refine jq_iload dL_wants_234 rfl ?_
          refine jq_neZ (tgt := 249) dL_wants_236 (by decide) (by omega) (fun c236 => ?_) (fun c236 => ?_)
          · have hV : W ||| 0 = W ||| lr_w2 w h st rule p := by rw [show lr_w2 w h st rule p = 0 by simp [lr_w2, c191, c211, c236]]
            refine jq_iconst (v := (nI 0)) dL_wants_249 (by decide) ?_
            refine jq_ior dL_wants_250 ?_
            rw [fa_or]
            refine jq_istore dL_wants_251 (by decide) rfl rfl ?_
            exact nx _ _ _ _ hV
          · refine jq_iload dL_wants_239 rfl ?_
            refine jq_iconst (v := (nI 1)) dL_wants_241 (by decide) ?_
            refine jq_neN (tgt := 249) dL_wants_242 (by decide) ⟨by omega, by omega⟩ (fun c242 => ?_) (fun c242 => ?_)
            · have hV : W ||| 0 = W ||| lr_w2 w h st rule p := by rw [show lr_w2 w h st rule p = 0 by simp [lr_w2, c191, c211, c236, c242]]
              refine jq_iconst (v := (nI 0)) dL_wants_249 (by decide) ?_
              refine jq_ior dL_wants_250 ?_
              rw [fa_or]
              refine jq_istore dL_wants_251 (by decide) rfl rfl ?_
              exact nx _ _ _ _ hV
            · have hV : W ||| 2 = W ||| lr_w2 w h st rule p := by rw [show lr_w2 w h st rule p = 2 by simp [lr_w2, c191, c211, c236, c242]]
              refine jq_iconst (v := (nI 2)) dL_wants_245 (by decide) ?_
              refine jq_goto (tgt := 250) dL_wants_246 (by decide) ?_
              refine jq_ior dL_wants_250 ?_
              rw [fa_or]
              refine jq_istore dL_wants_251 (by decide) rfl rfl ?_
              exact nx _ _ _ _ hV
        · refine jq_iload dL_wants_214 rfl ?_
          refine jq_iconst (v := (nI 1)) dL_wants_216 (by decide) ?_
          refine jq_neN (tgt := 230) dL_wants_217 (by decide) ⟨by omega, by omega⟩ (fun c217 => ?_) (fun c217 => ?_)
          · have hV : W ||| 0 = W ||| lr_w2 w h st rule p := by rw [show lr_w2 w h st rule p = 0 by simp [lr_w2, c211, c217]]
            refine jq_iconst (v := (nI 0)) dL_wants_230 (by decide) ?_
            refine jq_goto (tgt := 250) dL_wants_231 (by decide) ?_
            refine jq_ior dL_wants_250 ?_
            rw [fa_or]
            refine jq_istore dL_wants_251 (by decide) rfl rfl ?_
            exact nx _ _ _ _ hV
          · refine jq_iload dL_wants_220 rfl ?_
            refine jq_iconst (v := (nI 1)) dL_wants_222 (by decide) ?_
            refine jq_neN (tgt := 230) dL_wants_223 (by decide) ⟨by omega, by omega⟩ (fun c223 => ?_) (fun c223 => ?_)
            · have hV : W ||| 0 = W ||| lr_w2 w h st rule p := by rw [show lr_w2 w h st rule p = 0 by simp [lr_w2, c211, c217, c223]]
              refine jq_iconst (v := (nI 0)) dL_wants_230 (by decide) ?_
              refine jq_goto (tgt := 250) dL_wants_231 (by decide) ?_
              refine jq_ior dL_wants_250 ?_
              rw [fa_or]
              refine jq_istore dL_wants_251 (by decide) rfl rfl ?_
              exact nx _ _ _ _ hV
            · have hV : W ||| 1 = W ||| lr_w2 w h st rule p := by rw [show lr_w2 w h st rule p = 1 by simp [lr_w2, c211, c217, c223]]
              refine jq_iconst (v := (nI 1)) dL_wants_226 (by decide) ?_
              refine jq_goto (tgt := 250) dL_wants_227 (by decide) ?_
              refine jq_ior dL_wants_250 ?_
              rw [fa_or]
              refine jq_istore dL_wants_251 (by decide) rfl rfl ?_
              exact nx _ _ _ _ hV
      · refine jq_iload dL_wants_194 rfl ?_
        refine jq_iconst (v := (nI 2)) dL_wants_196 (by decide) ?_
        refine jq_neN (tgt := 204) dL_wants_197 (by decide) ⟨by omega, by omega⟩ (fun c197 => ?_) (fun c197 => ?_)
        · have hV : W ||| 0 = W ||| lr_w2 w h st rule p := by rw [show lr_w2 w h st rule p = 0 by simp [lr_w2, c191, c197]]
          refine jq_iconst (v := (nI 0)) dL_wants_204 (by decide) ?_
          refine jq_goto (tgt := 250) dL_wants_205 (by decide) ?_
          refine jq_ior dL_wants_250 ?_
          rw [fa_or]
          refine jq_istore dL_wants_251 (by decide) rfl rfl ?_
          exact nx _ _ _ _ hV
        · have hV : W ||| 2 = W ||| lr_w2 w h st rule p := by rw [show lr_w2 w h st rule p = 2 by simp [lr_w2, c191, c197]]
          refine jq_iconst (v := (nI 2)) dL_wants_200 (by decide) ?_
          refine jq_goto (tgt := 250) dL_wants_201 (by decide) ?_
          refine jq_ior dL_wants_250 ?_
          rw [fa_or]
          refine jq_istore dL_wants_251 (by decide) rfl rfl ?_
          exact nx _ _ _ _ hV
    refine jq_iload dL_wants_140 rfl ?_
    refine jq_iconst (v := (nI 2)) dL_wants_142 (by decide) ?_
    refine jq_geN (tgt := 259) dL_wants_143 (by decide) ⟨by omega, by omega⟩ (fun c143 => ?_) (fun c143 => ?_)
    · exact absurd c143 (by omega)
    · refine jq_iload dL_wants_146 rfl ?_
      refine jq_neZ (tgt := 159) dL_wants_148 (by decide) (by omega) (fun c148 => ?_) (fun c148 => ?_)
      · have hc2 : tb_oth w h e = p := by rw [hc, if_neg c148]
        refine jq_aload_n dL_wants_159 rfl rfl ?_
        refine jq_iload_n dL_wants_160 rfl rfl ?_
        refine xq_sI dL_wants_161 kL_36 (c_L_to hB he) rfl rfl (Nat.le_of_ble_eq_true rfl) ⟨⟨by decide, by decide⟩, Nat.le_refl _, Nat.le_refl _⟩ ?_
        rw [hc2]
        refine jq_istore dL_wants_164 (by decide) rfl rfl ?_
        exact rest _ _
      · have hc2 : tb_one w h e = p := by rw [hc, if_pos c148]
        refine jq_aload_n dL_wants_151 rfl rfl ?_
        refine jq_iload_n dL_wants_152 rfl rfl ?_
        refine xq_sI dL_wants_153 kL_22 (c_L_from hB he) rfl rfl (Nat.le_of_ble_eq_true rfl) ⟨⟨by decide, by decide⟩, Nat.le_refl _, Nat.le_refl _⟩ ?_
        rw [hc2]
        refine jq_goto (tgt := 164) dL_wants_156 (by decide) ?_
        refine jq_istore dL_wants_164 (by decide) rfl rfl ?_
        exact rest _ _
  have w1le : ∀ c, lr_w1 w h num st rule c ≤ 2 := by intro c; unfold lr_w1; (repeat' split) <;> omega
  have w2le : ∀ c, lr_w2 w h st rule c ≤ 2 := by intro c; unfold lr_w2; (repeat' split) <;> omega
  have fin1 : ∀ (V : Nat) (o7 o8 o9 : Option Value), V = lr_wa w h num st e rule → jq_J l G mL_wants (jq_R 7 0 0) jq_E0 (xs_Ye G n ad (xs_pd (some (.int (nI (lr_wa w h num st e rule)))) X)) 12 [some (.ref (ad 21)), some (.ref (ad q)), some (.ref (ad 22)), some (.int (nI (e))), some (.int (nI (rule))), some (.int (nI (V))), some (.int (nI (2))), o7, o8, o9] [] n ad (xs_mem G ad X) 0 0 := by
    intro V o7 o8 o9 hV
    refine jq_iload dL_wants_12 rfl ?_
    refine jq_iconst (v := (nI 2)) dL_wants_14 (by decide) ?_
    refine jq_geN (tgt := 124) dL_wants_15 (by decide) ⟨by omega, by omega⟩ (fun c15 => ?_) (fun c15 => ?_)
    · refine jq_iload dL_wants_124 rfl ?_
      exact xq_ireturn dL_wants_126 rfl rfl (⟨by rw [hV], rfl⟩)
    · exact absurd c15 (by omega)
  have fin2 : ∀ (V : Nat) (o7 o8 o9 : Option Value), V = lr_wa w h num st e rule → jq_J l G mL_wants (jq_R 7 0 0) jq_E0 (xs_Ye G n ad (xs_pd (some (.int (nI (lr_wa w h num st e rule)))) X)) 140 [some (.ref (ad 21)), some (.ref (ad q)), some (.ref (ad 22)), some (.int (nI (e))), some (.int (nI (rule))), some (.int (nI (V))), some (.int (nI (2))), o7, o8, o9] [] n ad (xs_mem G ad X) 0 0 := by
    intro V o7 o8 o9 hV
    refine jq_iload dL_wants_140 rfl ?_
    refine jq_iconst (v := (nI 2)) dL_wants_142 (by decide) ?_
    refine jq_geN (tgt := 259) dL_wants_143 (by decide) ⟨by omega, by omega⟩ (fun c143 => ?_) (fun c143 => ?_)
    · refine jq_iload dL_wants_259 rfl ?_
      exact xq_ireturn dL_wants_261 rfl rfl (⟨by rw [hV], rfl⟩)
    · exact absurd c143 (by omega)
  have hB1 := lr_B_ai (f := upd (X.2.2.1 q) (nI e).toNatClampNeg (nI 1)) hB (show 21 < q by omega)
  have hN1 := lr_N_ai (f := upd (X.2.2.1 q) (nI e).toNatClampNeg (nI 1)) hN (show 22 < q by omega)
  have hS1 := lr_S_set (v := 1) hS hB.2.2.2 (show e < 1000 by omega) (by decide)
  have hb0 : X.2.2.1 q (nI e).toNatClampNeg = nI 0 := by rw [h3.1, h0]
  refine xs_Ct_of (L := [some (.ref (ad 21)), some (.ref (ad q)), some (.ref (ad 22)), some (.int (nI (e))), some (.int (nI (rule))), none, none, none, none, none]) rfl (Nat.le_of_ble_eq_true rfl) rfl ?_
  refine jq_iload dL_wants_0 rfl ?_
  refine jq_iconst (v := (nI 3)) dL_wants_2 (by decide) ?_
  refine jq_geN (tgt := 127) dL_wants_3 (by decide) ⟨by omega, by omega⟩ (fun c3 => ?_) (fun c3 => ?_)
  · have hr3 : ¬ rule < 3 := by omega
    refine jq_iload dL_wants_127 rfl ?_
    refine jq_bipush (v := (nI 6)) dL_wants_129 (by decide) ?_
    refine jq_geN (tgt := 262) dL_wants_131 (by decide) ⟨by omega, by omega⟩ (fun c131 => ?_) (fun c131 => ?_)
    · have hr6 : ¬ rule < 6 := by omega
      refine jq_iload dL_wants_262 rfl ?_
      refine jq_bipush (v := (nI 6)) dL_wants_264 (by decide) ?_
      refine jq_neN (tgt := 337) dL_wants_266 (by decide) ⟨by omega, by omega⟩ (fun c266 => ?_) (fun c266 => ?_)
      · have hwa : lr_wa w h num st e rule = lr_w7 w h st e := by rw [lr_wa, if_neg hr3, if_neg hr6, if_neg c266]
        refine jq_aload_n dL_wants_337 rfl rfl ?_
        refine jq_aload_n dL_wants_338 rfl rfl ?_
        refine jq_aload_n dL_wants_339 rfl rfl ?_
        refine jq_iload_n dL_wants_340 rfl rfl ?_
        refine xq_sI dL_wants_341 kL_39 (c_L_ahead hB he) rfl rfl (Nat.le_of_ble_eq_true rfl) ⟨⟨by decide, by decide⟩, Nat.le_refl _, Nat.le_refl _⟩ ?_
        refine xq_sI dL_wants_344 kL_59 (c_L_chained hB hS hq.2.2.2.2.1) rfl rfl (Nat.le_of_ble_eq_true rfl) ⟨⟨by decide, by decide⟩, Nat.le_refl _, Nat.le_refl _⟩ ?_
        refine jq_iconst (v := (nI 2)) dL_wants_347 (by decide) ?_
        refine jq_aload_n dL_wants_348 rfl rfl ?_
        refine jq_iload_n dL_wants_349 rfl rfl ?_
        refine xq_sI dL_wants_350 kL_42 (c_L_behind hB he) rfl rfl (Nat.le_of_ble_eq_true rfl) ⟨⟨by decide, by decide⟩, Nat.le_refl _, Nat.le_refl _⟩ ?_
        refine jq_imulN dL_wants_353 ?_
        refine jq_ishr dL_wants_354 (lr_shr (by omega) (by omega)) ?_
        refine jq_istore dL_wants_355 (by decide) rfl rfl ?_
        refine jq_iload dL_wants_357 rfl ?_
        refine jq_iconst (v := (nI 1)) dL_wants_359 (by decide) ?_
        refine jq_iand dL_wants_360 ?_
        rw [lr_tb1]
        refine jq_iconst (v := (nI 1)) dL_wants_361 (by decide) ?_
        refine jq_neN (tgt := 369) dL_wants_362 (by decide) ⟨lr_ile, by omega⟩ (fun c362 => ?_) (fun c362 => ?_)
        · have d362 := lr_i0 c362
          refine jq_iload dL_wants_369 rfl ?_
          refine jq_iconst (v := (nI 2)) dL_wants_371 (by decide) ?_
          refine jq_iand dL_wants_372 ?_
          rw [lr_tb2]
          refine jq_iconst (v := (nI 2)) dL_wants_373 (by decide) ?_
          refine jq_neN (tgt := 381) dL_wants_374 (by decide) ⟨lr_jle, by omega⟩ (fun c374 => ?_) (fun c374 => ?_)
          · have hw : lr_w7 w h st e = 0 := by rw [lr_w7, if_neg (by rw [d362]; simp), if_neg (by rw [lr_j0 c374]; simp)]
            refine jq_iconst (v := (nI 0)) dL_wants_381 (by decide) ?_
            exact xq_ireturn dL_wants_382 rfl rfl (⟨by rw [hwa, hw], rfl⟩)
          · have hw : lr_w7 w h st e = 1 := by rw [lr_w7, if_neg (by rw [d362]; simp), if_pos (lr_j1 c374)]
            refine jq_iconst (v := (nI 1)) dL_wants_377 (by decide) ?_
            refine jq_goto (tgt := 382) dL_wants_378 (by decide) ?_
            exact xq_ireturn dL_wants_382 rfl rfl (⟨by rw [hwa, hw], rfl⟩)
        · have d362 := lr_i1 c362
          have hw : lr_w7 w h st e = 2 := by rw [lr_w7, if_pos d362]
          refine jq_iconst (v := (nI 2)) dL_wants_365 (by decide) ?_
          refine jq_goto (tgt := 382) dL_wants_366 (by decide) ?_
          exact xq_ireturn dL_wants_382 rfl rfl (⟨by rw [hwa, hw], rfl⟩)
      · have hwa : lr_wa w h num st e rule = lr_w6 w h num st e := by rw [lr_wa, if_neg hr3, if_neg hr6, if_pos c266]
        refine jq_aload_n dL_wants_269 rfl rfl ?_
        refine jq_aload_n dL_wants_270 rfl rfl ?_
        refine jq_aload_n dL_wants_271 rfl rfl ?_
        refine jq_iload_n dL_wants_272 rfl rfl ?_
        refine xq_sI dL_wants_273 kL_22 (c_L_from hB he) rfl rfl (Nat.le_of_ble_eq_true rfl) ⟨⟨by decide, by decide⟩, Nat.le_refl _, Nat.le_refl _⟩ ?_
        refine jq_iconst (v := (-1)) dL_wants_276 (by decide) ?_
        refine xq_sI dL_wants_277 kL_49 (c_L_reached hB hS hq.1 (-1)) rfl rfl (Nat.le_of_ble_eq_true rfl) ⟨⟨by decide, by decide⟩, Nat.le_refl _, Nat.le_refl _⟩ ?_
        refine jq_aload_n dL_wants_280 rfl rfl ?_
        refine jq_iload_n dL_wants_281 rfl rfl ?_
        refine xq_sI dL_wants_282 kL_36 (c_L_to hB he) rfl rfl (Nat.le_of_ble_eq_true rfl) ⟨⟨by decide, by decide⟩, Nat.le_refl _, Nat.le_refl _⟩ ?_
        refine jq_ishr dL_wants_285 (lr_shr (by omega) (by omega)) ?_
        refine jq_iconst (v := (nI 1)) dL_wants_286 (by decide) ?_
        refine jq_iand dL_wants_287 ?_
        rw [lr_tb1]
        refine jq_if_ne (tgt := 293) dL_wants_288 (by decide) (fun c288 => ?_) (fun c288 => ?_)
        · have d288 := lr_tbN c288
          refine jq_aload_n dL_wants_293 rfl rfl ?_
          refine jq_iload_n dL_wants_294 rfl rfl ?_
          refine jq_iconst (v := (nI 1)) dL_wants_295 (by decide) ?_
          refine xq_iast dL_wants_296 hS.1 hi ?_
          refine jq_aload_n dL_wants_297 rfl rfl ?_
          refine jq_aload_n dL_wants_298 rfl rfl ?_
          refine xq_sI dL_wants_299 kL_63 (c_L_isLoop hB1 hS1) rfl rfl (Nat.le_of_ble_eq_true rfl) ⟨⟨by decide, by decide⟩, Nat.le_refl _, Nat.le_refl _⟩ ?_
          refine jq_if_eq (tgt := 319) dL_wants_302 (by decide) (fun c302 => ?_) (fun c302 => ?_)
          · have d302 := tb_b0.mp c302
            have hw : lr_w6 w h num st e = 2 := by simp [lr_w6, d288, d302]
            refine jq_iconst (v := (nI 0)) dL_wants_319 (by decide) ?_
            refine jq_istore dL_wants_320 (by decide) rfl rfl ?_
            refine jq_aload_n dL_wants_322 rfl rfl ?_
            refine jq_iload_n dL_wants_323 rfl rfl ?_
            refine jq_iconst (v := (nI 0)) dL_wants_324 (by decide) ?_
            refine xq_iast dL_wants_325 hS1.1 hi ?_
            rw [lr_back hb0]
            refine jq_iload dL_wants_326 rfl ?_
            refine jq_eqZ (tgt := 335) dL_wants_328 (by decide) (by decide) (fun c328 => ?_) (fun c328 => ?_)
            · refine jq_iconst (v := (nI 2)) dL_wants_335 (by decide) ?_
              exact xq_ireturn dL_wants_336 rfl rfl (⟨by first | (exfalso; revert c328; decide) | rw [hwa, hw], rfl⟩)
            · refine jq_iconst (v := (nI 0)) dL_wants_331 (by decide) ?_
              refine jq_goto (tgt := 336) dL_wants_332 (by decide) ?_
              exact xq_ireturn dL_wants_336 rfl rfl (⟨by first | (exfalso; revert c328; decide) | rw [hwa, hw], rfl⟩)
          · have d302 := tb_b1.mp c302
            refine jq_aload_n dL_wants_305 rfl rfl ?_
            refine jq_aload_n dL_wants_306 rfl rfl ?_
            refine jq_aload_n dL_wants_307 rfl rfl ?_
            refine jq_iconst (v := (-1)) dL_wants_308 (by decide) ?_
            refine xq_sI dL_wants_309 kL_55 (c_L_areRight hB1 hS1 hN1 (-1)) rfl rfl (Nat.le_of_ble_eq_true rfl) ⟨⟨by decide, by decide⟩, Nat.le_refl _, Nat.le_refl _⟩ ?_
            refine jq_if_eq (tgt := 319) dL_wants_312 (by decide) (fun c312 => ?_) (fun c312 => ?_)
            · have d312 := tb_b0.mp c312
              have hw : lr_w6 w h num st e = 2 := by simp [lr_w6, d288, d302, d312]
              refine jq_iconst (v := (nI 0)) dL_wants_319 (by decide) ?_
              refine jq_istore dL_wants_320 (by decide) rfl rfl ?_
              refine jq_aload_n dL_wants_322 rfl rfl ?_
              refine jq_iload_n dL_wants_323 rfl rfl ?_
              refine jq_iconst (v := (nI 0)) dL_wants_324 (by decide) ?_
              refine xq_iast dL_wants_325 hS1.1 hi ?_
              rw [lr_back hb0]
              refine jq_iload dL_wants_326 rfl ?_
              refine jq_eqZ (tgt := 335) dL_wants_328 (by decide) (by decide) (fun c328 => ?_) (fun c328 => ?_)
              · refine jq_iconst (v := (nI 2)) dL_wants_335 (by decide) ?_
                exact xq_ireturn dL_wants_336 rfl rfl (⟨by first | (exfalso; revert c328; decide) | rw [hwa, hw], rfl⟩)
              · refine jq_iconst (v := (nI 0)) dL_wants_331 (by decide) ?_
                refine jq_goto (tgt := 336) dL_wants_332 (by decide) ?_
                exact xq_ireturn dL_wants_336 rfl rfl (⟨by first | (exfalso; revert c328; decide) | rw [hwa, hw], rfl⟩)
            · have d312 := tb_b1.mp c312
              have hw : lr_w6 w h num st e = 0 := by simp [lr_w6, d288, d302, d312]
              refine jq_iconst (v := (nI 1)) dL_wants_315 (by decide) ?_
              refine jq_goto (tgt := 320) dL_wants_316 (by decide) ?_
              refine jq_istore dL_wants_320 (by decide) rfl rfl ?_
              refine jq_aload_n dL_wants_322 rfl rfl ?_
              refine jq_iload_n dL_wants_323 rfl rfl ?_
              refine jq_iconst (v := (nI 0)) dL_wants_324 (by decide) ?_
              refine xq_iast dL_wants_325 hS1.1 hi ?_
              rw [lr_back hb0]
              refine jq_iload dL_wants_326 rfl ?_
              refine jq_eqZ (tgt := 335) dL_wants_328 (by decide) (by decide) (fun c328 => ?_) (fun c328 => ?_)
              · refine jq_iconst (v := (nI 2)) dL_wants_335 (by decide) ?_
                exact xq_ireturn dL_wants_336 rfl rfl (⟨by first | (exfalso; revert c328; decide) | rw [hwa, hw], rfl⟩)
              · refine jq_iconst (v := (nI 0)) dL_wants_331 (by decide) ?_
                refine jq_goto (tgt := 336) dL_wants_332 (by decide) ?_
                exact xq_ireturn dL_wants_336 rfl rfl (⟨by first | (exfalso; revert c328; decide) | rw [hwa, hw], rfl⟩)
        · have d288 := lr_tb0 c288
          refine jq_iconst (v := (nI 0)) dL_wants_291 (by decide) ?_
          exact xq_ireturn dL_wants_292 rfl rfl (⟨by rw [hwa, lr_w6, if_pos d288], rfl⟩)
    · have hr6 : rule < 6 := c131
      refine jq_iconst (v := (nI 0)) dL_wants_134 (by decide) ?_
      refine jq_istore dL_wants_135 (by decide) rfl rfl ?_
      refine jq_iconst (v := (nI 0)) dL_wants_137 (by decide) ?_
      refine jq_istore dL_wants_138 (by decide) rfl rfl ?_
      refine step2 0 0 (tb_one w h e) _ _ _ (by decide) hr3 hr6 rfl (by decide) (fun o7 o8 o9 => ?_)
      refine step2 1 _ (tb_oth w h e) _ _ _ (by decide) hr3 hr6 rfl (by rw [Nat.zero_or]; have := w2le (tb_one w h e); omega) (fun o7 o8 o9 => ?_)
      exact fin2 _ _ _ _ (by rw [Nat.zero_or, lr_wa, if_neg hr3, if_pos hr6])
  · have hr3 : rule < 3 := c3
    refine jq_iconst (v := (nI 0)) dL_wants_6 (by decide) ?_
    refine jq_istore dL_wants_7 (by decide) rfl rfl ?_
    refine jq_iconst (v := (nI 0)) dL_wants_9 (by decide) ?_
    refine jq_istore dL_wants_10 (by decide) rfl rfl ?_
    refine step1 0 0 (tb_are w h e) _ _ _ (by decide) hr3 rfl (by decide) (fun o7 o8 o9 => ?_)
    refine step1 1 _ (tb_bes w h e) _ _ _ (by decide) hr3 rfl (by rw [Nat.zero_or]; have := w1le (tb_are w h e); omega) (fun o7 o8 o9 => ?_)
    exact fin1 _ _ _ _ (by rw [Nat.zero_or, lr_wa, if_pos hr3])
