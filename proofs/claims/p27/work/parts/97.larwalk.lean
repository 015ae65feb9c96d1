/-! the law's areas and the lines around them, walked -/
theorem lr_neg {S : Nat} (hS : S < 2 ^ 31) : nI S &&& -nI S = nI (lr_lb S) := by
  have h : -nI S = nI (4294967296 - S) := by
    apply Int32.toBitVec_inj.mp
    rw [Int32.toBitVec_neg]
    show -(BitVec.ofNat 32 S) = BitVec.ofNat 32 (4294967296 - S)
    apply BitVec.eq_of_toNat_eq
    rw [BitVec.toNat_neg, BitVec.toNat_ofNat, BitVec.toNat_ofNat, Nat.mod_eq_of_lt (show S < 2 ^ 32 by omega)]
  rw [h, fa_and]
  rfl
theorem lr_lb_le (S : Nat) : lr_lb S ≤ S := Nat.and_le_left
theorem lr_m2_lt {w h : Nat} (k : lr_k w h) {e : Nat} (he : e < tb_ne w h) : lr_m2 w h e < 2 ^ 10 := by
  have hq := lr_ends k he
  have hz := lr_sz k
  exact lr_or_lt (lr_pw (by omega)) (lr_pw (by omega))
theorem lr_ain_lt {w h : Nat} (k : lr_k w h) {S I : Nat} (hI : I < 2 ^ 10) : ∀ e, e ≤ tb_ne w h → lr_ain w h S e I < 2 ^ 10
  | 0, _ => hI
  | e + 1, he => by
    have ih := lr_ain_lt k (S := S) hI e (by omega)
    rw [lr_ain]
    split
    · exact lr_or_lt ih (lr_m2_lt k (by omega))
    · exact ih
theorem lr_aou_lt {w h : Nat} (k : lr_k w h) {S I : Nat} (hI : I < 2 ^ 10) : ∀ e, e ≤ tb_ne w h → lr_aou w h S e I < 2 ^ 10
  | 0, _ => hI
  | e + 1, he => by
    have ih := lr_aou_lt k (S := S) hI e (by omega)
    rw [lr_aou]
    split
    · exact lr_or_lt ih (lr_m2_lt k (by omega))
    · exact ih
theorem lr_iin_lt {w h : Nat} (k : lr_k w h) {S I : Nat} (hI : I < 2 ^ 10) : ∀ m, lr_iin w h S m I < 2 ^ 10
  | 0 => hI
  | m + 1 => lr_ain_lt k (lr_iin_lt k hI m) _ (Nat.le_refl _)
theorem lr_iou_lt {w h : Nat} (k : lr_k w h) {S I : Nat} (hI : I < 2 ^ 10) : ∀ m, lr_iou w h S m I < 2 ^ 10
  | 0 => hI
  | m + 1 => lr_aou_lt k (lr_iou_lt k hI m) _ (Nat.le_refl _)
theorem lr_and_lt {a b n : Nat} (ha : a < 2 ^ n) : a &&& b < 2 ^ n := Nat.lt_of_le_of_lt Nat.and_le_left ha
theorem lr_and3 (a : Nat) : a &&& 3 ≤ 3 := Nat.and_le_right
set_option maxHeartbeats 16000000 in
theorem c_L_isArea {l : Launch} {G : jq_G} {n : Nat} {ad : Nat → Nat} {X : xs_T} {w h : Nat} (hB : lr_B n w h X) {S : Nat} (hS : S < 2 ^ tb_nc w h) : xs_Ct l G mL_isArea 4 [.ref (ad 21), .int (nI (S))] n ad X (xs_pd (some (.int (tb_b (lr_ar w h S)))) X) := by
  have hk := hB.2.2.2
  have hz := lr_sz hk
  have hk2 := hk
  unfold lr_k at hk2
  have hSl : S < 2 ^ 9 := Nat.lt_of_lt_of_le hS (Nat.pow_le_pow_right (by decide) (by omega))
  have hO0 : 2 ^ tb_nc w h < 2 ^ 10 := lr_pw (by omega)
  have hI0 : lr_lb S < 2 ^ 10 := by have := lr_lb_le S; omega
  -- the corners
  have colloop : ∀ (r : Nat), 1 ≤ r → r < h → (∀ o6 o7 o8 : Option Value, ∀ I O : Nat, ∀ o9 : Option Value, lr_pinR w S r = true → jq_J l G mL_isArea (jq_R 4 0 0) jq_E0 (xs_Ye G n ad (xs_pd (some (.int (tb_b (lr_ar w h S)))) X)) 252 [some (.ref (ad 21)), some (.int (nI (S))), some (.int (nI (w * h))), some (.int (nI (I))), some (.int (nI (O))), some (.int (nI (r))), o6, o7, o8, o9] [] n ad (xs_mem G ad X) 0 0) → (lr_pinR w S r = false → lr_ar w h S = false) → ∀ (k c I O : Nat) (o7 o8 o9 : Option Value), c + k = w → 1 ≤ c → (∀ j, j < c → (j == 0 || !lr_pin w S r j) = true) → jq_J l G mL_isArea (jq_R 4 0 0) jq_E0 (xs_Ye G n ad (xs_pd (some (.int (tb_b (lr_ar w h S)))) X)) 179 [some (.ref (ad 21)), some (.int (nI (S))), some (.int (nI (w * h))), some (.int (nI (I))), some (.int (nI (O))), some (.int (nI (r))), some (.int (nI (c))), o7, o8, o9] [] n ad (xs_mem G ad X) 0 0 := by
    intro r hr1 hr2 kk hno k
    have hm1 : (r - 1) * w ≤ 2 * 3 := Nat.mul_le_mul (by omega) (by omega)
    have hm2 : r * w ≤ 2 * 3 := Nat.mul_le_mul (by omega) (by omega)
    induction k with
    | zero =>
      intro c I O o7 o8 o9 hk hc1 hc
      refine jq_iload dL_isArea_179 rfl ?_
      refine jq_aload_n dL_isArea_181 rfl rfl ?_
      refine jq_iconst (v := (nI 0)) dL_isArea_182 (by decide) ?_
      refine xq_iald dL_isArea_183 hB.1 lr_v0 hB.2.1 ?_
      refine jq_geN (tgt := 252) dL_isArea_184 (by decide) ⟨by omega, by omega⟩ (fun c184 => ?_) (fun c184 => ?_)
      · exact kk _ _ _ _ _ _ (tb_allT (fun j hj => hc j (by omega)))
      · exact absurd c184 (by omega)
    | succ k ih =>
      intro c I O o7 o8 o9 hk hc1 hc
      have next : lr_pin w S r c = false → ∀ j, j < c + 1 → (j == 0 || !lr_pin w S r j) = true := by
        intro z j hj
        rcases Nat.lt_or_ge j c with q | q
        · exact hc j q
        · rw [show j = c by omega, z]; simp
      have no : lr_pin w S r c = true → lr_ar w h S = false := fun z => hno (tb_allF (c := c) (by omega) (by rw [z, show (c == 0) = false from beq_eq_false_iff_ne.mpr (by omega)]; rfl))
      have ha := lr_and3 (S / 2 ^ ((r - 1) * w + c - 1))
      have hb := lr_and3 (S / 2 ^ (r * w + c - 1))
      refine jq_iload dL_isArea_179 rfl ?_
      refine jq_aload_n dL_isArea_181 rfl rfl ?_
      refine jq_iconst (v := (nI 0)) dL_isArea_182 (by decide) ?_
      refine xq_iald dL_isArea_183 hB.1 lr_v0 hB.2.1 ?_
      refine jq_geN (tgt := 252) dL_isArea_184 (by decide) ⟨by omega, by omega⟩ (fun c184 => ?_) (fun c184 => ?_)
      · exact absurd c184 (by omega)
      · refine jq_iload_n dL_isArea_187 rfl rfl ?_
        refine jq_iload dL_isArea_188 rfl ?_
        refine jq_iconst (v := (nI 1)) dL_isArea_190 (by decide) ?_
        refine jq_isubN dL_isArea_191 (hr1) ?_
        refine jq_aload_n dL_isArea_192 rfl rfl ?_
        refine jq_iconst (v := (nI 0)) dL_isArea_193 (by decide) ?_
        refine xq_iald dL_isArea_194 hB.1 lr_v0 hB.2.1 ?_
        refine jq_imulN dL_isArea_195 ?_
        refine jq_iload dL_isArea_196 rfl ?_
        refine jq_iaddN dL_isArea_198 ?_
        refine jq_iconst (v := (nI 1)) dL_isArea_199 (by decide) ?_
        refine jq_isubN dL_isArea_200 ((by omega)) ?_
        refine jq_ishr dL_isArea_201 (lr_shr (by omega) (by omega)) ?_
        refine jq_iconst (v := (nI 3)) dL_isArea_202 (by decide) ?_
        refine jq_iand dL_isArea_203 ?_
        rw [fa_and]
        refine jq_istore dL_isArea_204 (by decide) rfl rfl ?_
        refine jq_iload_n dL_isArea_206 rfl rfl ?_
        refine jq_iload dL_isArea_207 rfl ?_
        refine jq_aload_n dL_isArea_209 rfl rfl ?_
        refine jq_iconst (v := (nI 0)) dL_isArea_210 (by decide) ?_
        refine xq_iald dL_isArea_211 hB.1 lr_v0 hB.2.1 ?_
        refine jq_imulN dL_isArea_212 ?_
        refine jq_iload dL_isArea_213 rfl ?_
        refine jq_iaddN dL_isArea_215 ?_
        refine jq_iconst (v := (nI 1)) dL_isArea_216 (by decide) ?_
        refine jq_isubN dL_isArea_217 ((by omega)) ?_
        refine jq_ishr dL_isArea_218 (lr_shr (by omega) (by omega)) ?_
        refine jq_iconst (v := (nI 3)) dL_isArea_219 (by decide) ?_
        refine jq_iand dL_isArea_220 ?_
        rw [fa_and]
        refine jq_istore dL_isArea_221 (by decide) rfl rfl ?_
        refine jq_iload dL_isArea_223 rfl ?_
        refine jq_iload dL_isArea_225 rfl ?_
        refine jq_iaddN dL_isArea_227 ?_
        refine jq_iconst (v := (nI 3)) dL_isArea_228 (by decide) ?_
        refine jq_neN (tgt := 246) dL_isArea_229 (by decide) ⟨by omega, by omega⟩ (fun c229 => ?_) (fun c229 => ?_)
        · have hp : lr_pin w S r c = false := by unfold lr_pin; rw [show ((S / 2 ^ ((r - 1) * w + c - 1) &&& 3) + (S / 2 ^ (r * w + c - 1) &&& 3) == 3) = false from beq_eq_false_iff_ne.mpr c229]; rfl
          refine jq_iincN dL_isArea_246 (by decide) rfl rfl rfl ?_
          refine jq_goto (tgt := 179) dL_isArea_249 (by decide) ?_
          exact ih (c + 1) _ _ _ _ _ (by omega) (by omega) (next hp)
        · refine jq_iload dL_isArea_232 rfl ?_
          refine jq_iconst (v := (nI 1)) dL_isArea_234 (by decide) ?_
          refine jq_eqN (tgt := 244) dL_isArea_235 (by decide) ⟨by omega, by omega⟩ (fun c235 => ?_) (fun c235 => ?_)
          · have hp : lr_pin w S r c = true := by unfold lr_pin; rw [c229, c235]; rfl
            refine jq_iconst (v := 0) dL_isArea_244 (by decide) ?_
            exact xq_ireturn dL_isArea_245 rfl rfl (⟨tb_vf (no hp), rfl⟩)
          · refine jq_iload dL_isArea_238 rfl ?_
            refine jq_iconst (v := (nI 2)) dL_isArea_240 (by decide) ?_
            refine jq_neN (tgt := 246) dL_isArea_241 (by decide) ⟨by omega, by omega⟩ (fun c241 => ?_) (fun c241 => ?_)
            · have hp : lr_pin w S r c = false := by unfold lr_pin; rw [show ((S / 2 ^ ((r - 1) * w + c - 1) &&& 3) == 1) = false from beq_eq_false_iff_ne.mpr c235, show ((S / 2 ^ ((r - 1) * w + c - 1) &&& 3) == 2) = false from beq_eq_false_iff_ne.mpr c241]; simp
              refine jq_iincN dL_isArea_246 (by decide) rfl rfl rfl ?_
              refine jq_goto (tgt := 179) dL_isArea_249 (by decide) ?_
              exact ih (c + 1) _ _ _ _ _ (by omega) (by omega) (next hp)
            · have hp : lr_pin w S r c = true := by unfold lr_pin; rw [c229, c241]; rfl
              refine jq_iconst (v := 0) dL_isArea_244 (by decide) ?_
              exact xq_ireturn dL_isArea_245 rfl rfl (⟨tb_vf (no hp), rfl⟩)
  have rowloop : (lr_iin w h S 10 (lr_lb S) == S && (lr_iin w h S 10 (lr_lb S) ||| lr_iou w h S 10 (2 ^ tb_nc w h)) == 2 * 2 ^ tb_nc w h - 1) = true → ∀ (k r I O : Nat) (o6 o7 o8 o9 : Option Value), r + k = h → 1 ≤ r → (∀ j, j < r → (j == 0 || lr_pinR w S j) = true) → jq_J l G mL_isArea (jq_R 4 0 0) jq_E0 (xs_Ye G n ad (xs_pd (some (.int (tb_b (lr_ar w h S)))) X)) 168 [some (.ref (ad 21)), some (.int (nI (S))), some (.int (nI (w * h))), some (.int (nI (I))), some (.int (nI (O))), some (.int (nI (r))), o6, o7, o8, o9] [] n ad (xs_mem G ad X) 0 0 := by
    intro hset k
    induction k with
    | zero =>
      intro r I O o6 o7 o8 o9 hk hr1 hc
      refine jq_iload dL_isArea_168 rfl ?_
      refine jq_aload_n dL_isArea_170 rfl rfl ?_
      refine jq_iconst (v := (nI 1)) dL_isArea_171 (by decide) ?_
      refine xq_iald dL_isArea_172 hB.1 lr_v1 hB.2.2.1 ?_
      refine jq_geN (tgt := 258) dL_isArea_173 (by decide) ⟨by omega, by omega⟩ (fun c173 => ?_) (fun c173 => ?_)
      · refine jq_iconst (v := 1) dL_isArea_258 (by decide) ?_
        exact xq_ireturn dL_isArea_259 rfl rfl (⟨tb_vt (by unfold lr_ar; rw [hset, Bool.true_and]; exact tb_allT (fun j hj => hc j (by omega))), rfl⟩)
      · exact absurd c173 (by omega)
    | succ k ih =>
      intro r I O o6 o7 o8 o9 hk hr1 hc
      have nx : ∀ (I O : Nat) (o6 o7 o8 o9 : Option Value), lr_pinR w S r = true → jq_J l G mL_isArea (jq_R 4 0 0) jq_E0 (xs_Ye G n ad (xs_pd (some (.int (tb_b (lr_ar w h S)))) X)) 252 [some (.ref (ad 21)), some (.int (nI (S))), some (.int (nI (w * h))), some (.int (nI (I))), some (.int (nI (O))), some (.int (nI (r))), o6, o7, o8, o9] [] n ad (xs_mem G ad X) 0 0 := by
        intro I O o6 o7 o8 o9 hp
        have hn : ∀ j, j < r + 1 → (j == 0 || lr_pinR w S j) = true := by
          intro j hj
          rcases Nat.lt_or_ge j r with q | q
          · exact hc j q
          · rw [show j = r by omega, hp]; simp
        refine jq_iincN dL_isArea_252 (by decide) rfl rfl rfl ?_
        refine jq_goto (tgt := 168) dL_isArea_255 (by decide) ?_
        exact ih (r + 1) _ _ _ _ _ _ (by omega) (by omega) hn
      refine jq_iload dL_isArea_168 rfl ?_
      refine jq_aload_n dL_isArea_170 rfl rfl ?_
      refine jq_iconst (v := (nI 1)) dL_isArea_171 (by decide) ?_
      refine xq_iald dL_isArea_172 hB.1 lr_v1 hB.2.2.1 ?_
      refine jq_geN (tgt := 258) dL_isArea_173 (by decide) ⟨by omega, by omega⟩ (fun c173 => ?_) (fun c173 => ?_)
      · exact absurd c173 (by omega)
      · refine jq_iconst (v := (nI 1)) dL_isArea_176 (by decide) ?_
        refine jq_istore dL_isArea_177 (by decide) rfl rfl ?_
        exact colloop r hr1 (by omega) (fun o6 o7 o8 I O o9 hp => nx I O o6 o7 o8 o9 hp) (fun z => by unfold lr_ar; rw [tb_allF (c := r) (by omega) (by rw [z, show (r == 0) = false from beq_eq_false_iff_ne.mpr (by omega)]; rfl), Bool.and_false]) (w - 1) 1 _ _ _ _ _ (by omega) (by decide) (fun j hj => by rw [show j = 0 by omega]; rfl)
  -- the two sets
  have loop2 : ∀ (k e I O I0 O0 m : Nat) (o7 o8 o9 : Option Value), m < 10 → e + k = tb_ne w h → I0 < 2 ^ 10 → O0 < 2 ^ 10 → I = lr_ain w h S e I0 → O = lr_aou w h S e O0 → (∀ o6 o7 o8 o9 : Option Value, jq_J l G mL_isArea (jq_R 4 0 0) jq_E0 (xs_Ye G n ad (xs_pd (some (.int (tb_b (lr_ar w h S)))) X)) 21 [some (.ref (ad 21)), some (.int (nI (S))), some (.int (nI (w * h))), some (.int (nI (lr_ain w h S (tb_ne w h) I0))), some (.int (nI (lr_aou w h S (tb_ne w h) O0))), some (.int (nI (m + 1))), o6, o7, o8, o9] [] n ad (xs_mem G ad X) 0 0) → jq_J l G mL_isArea (jq_R 4 0 0) jq_E0 (xs_Ye G n ad (xs_pd (some (.int (tb_b (lr_ar w h S)))) X)) 31 [some (.ref (ad 21)), some (.int (nI (S))), some (.int (nI (w * h))), some (.int (nI (I))), some (.int (nI (O))), some (.int (nI (m))), some (.int (nI (e))), o7, o8, o9] [] n ad (xs_mem G ad X) 0 0 := by
    intro k
    induction k with
    | zero =>
      intro e I O I0 O0 m o7 o8 o9 hm hk hI0 hO0 hI hO kk
      have e1 : e = tb_ne w h := by omega
      subst e1
      subst hI
      subst hO
      refine jq_iload dL_isArea_31 rfl ?_
      refine jq_aload_n dL_isArea_33 rfl rfl ?_
      refine xq_sI dL_isArea_34 kL_32 (c_L_edges hB) rfl rfl (Nat.le_of_ble_eq_true rfl) ⟨⟨by decide, by decide⟩, Nat.le_refl _, Nat.le_refl _⟩ ?_
      refine jq_geN (tgt := 140) dL_isArea_37 (by decide) ⟨by omega, by omega⟩ (fun c37 => ?_) (fun c37 => ?_)
      · refine jq_iincN dL_isArea_140 (by decide) rfl rfl rfl ?_
        refine jq_goto (tgt := 21) dL_isArea_143 (by decide) ?_
        exact kk _ _ _ _
      · exact absurd c37 (by omega)
    | succ k ih =>
      intro e I O I0 O0 m o7 o8 o9 hm hk hI0 hO0 hI hO kk
      have he : e < tb_ne w h := by omega
      have hq := lr_ends hk2 he
      have hIl : I < 2 ^ 10 := by rw [hI]; exact lr_ain_lt hk2 hI0 e (by omega)
      have hOl : O < 2 ^ 10 := by rw [hO]; exact lr_aou_lt hk2 hO0 e (by omega)
      have hml := lr_m2_lt hk2 he
      have hS2 := lr_and_lt (b := lr_m2 w h e) hSl
      have hI2 := lr_and_lt (b := lr_m2 w h e) hIl
      have hO2 := lr_and_lt (b := lr_m2 w h e) hOl
      have s110 : ∀ (bo : Bool) (V : Nat) (o8 : Option Value), V = lr_ain w h S (e + 1) I0 → bo = decide (S &&& lr_m2 w h e = 0) → jq_J l G mL_isArea (jq_R 4 0 0) jq_E0 (xs_Ye G n ad (xs_pd (some (.int (tb_b (lr_ar w h S)))) X)) 110 [some (.ref (ad 21)), some (.int (nI (S))), some (.int (nI (w * h))), some (.int (nI (V))), some (.int (nI (O))), some (.int (nI (m))), some (.int (nI (e))), some (.int (nI (lr_m2 w h e))), o8, some (.int (tb_b bo))] [] n ad (xs_mem G ad X) 0 0 := by
        intro bo V o8 hV hbo
        refine jq_iload dL_isArea_110 rfl ?_
        refine jq_iload dL_isArea_112 rfl ?_
        refine jq_if_eq (tgt := 130) dL_isArea_114 (by decide) (fun c114 => ?_) (fun c114 => ?_)
        · have d := tb_b0.mp c114
          have hOo : O ||| 0 = lr_aou w h S (e + 1) O0 := by rw [lr_aou, ← hO, Nat.or_zero, if_neg (fun z => by rw [hbo, decide_eq_true z.1] at d; cases d)]
          refine jq_iconst (v := (nI 0)) dL_isArea_130 (by decide) ?_
          refine jq_ior dL_isArea_131 ?_
          rw [fa_or]
          refine jq_istore dL_isArea_132 (by decide) rfl rfl ?_
          refine jq_iincN dL_isArea_134 (by decide) rfl rfl rfl ?_
          refine jq_goto (tgt := 31) dL_isArea_137 (by decide) ?_
          exact ih (e + 1) _ _ I0 O0 m _ _ _ hm (by omega) hI0 hO0 hV hOo kk
        · have d := tb_b1.mp c114
          have d1 : S &&& lr_m2 w h e = 0 := of_decide_eq_true (hbo.symm.trans d)
          refine jq_iload dL_isArea_117 rfl ?_
          refine jq_iload dL_isArea_119 rfl ?_
          refine jq_iand dL_isArea_121 ?_
          rw [fa_and]
          refine jq_eqZ (tgt := 130) dL_isArea_122 (by decide) (by omega) (fun c122 => ?_) (fun c122 => ?_)
          · have hOo : O ||| 0 = lr_aou w h S (e + 1) O0 := by rw [lr_aou, ← hO, Nat.or_zero, if_neg (fun z => z.2 c122)]
            refine jq_iconst (v := (nI 0)) dL_isArea_130 (by decide) ?_
            refine jq_ior dL_isArea_131 ?_
            rw [fa_or]
            refine jq_istore dL_isArea_132 (by decide) rfl rfl ?_
            refine jq_iincN dL_isArea_134 (by decide) rfl rfl rfl ?_
            refine jq_goto (tgt := 31) dL_isArea_137 (by decide) ?_
            exact ih (e + 1) _ _ I0 O0 m _ _ _ hm (by omega) hI0 hO0 hV hOo kk
          · have hOo : O ||| lr_m2 w h e = lr_aou w h S (e + 1) O0 := by rw [lr_aou, ← hO, if_pos ⟨d1, c122⟩]
            refine jq_iload dL_isArea_125 rfl ?_
            refine jq_goto (tgt := 131) dL_isArea_127 (by decide) ?_
            refine jq_ior dL_isArea_131 ?_
            rw [fa_or]
            refine jq_istore dL_isArea_132 (by decide) rfl rfl ?_
            refine jq_iincN dL_isArea_134 (by decide) rfl rfl rfl ?_
            refine jq_goto (tgt := 31) dL_isArea_137 (by decide) ?_
            exact ih (e + 1) _ _ I0 O0 m _ _ _ hm (by omega) hI0 hO0 hV hOo kk
      have s89 : ∀ (bi bo : Bool), bi = decide (S &&& lr_m2 w h e = lr_m2 w h e) → bo = decide (S &&& lr_m2 w h e = 0) → jq_J l G mL_isArea (jq_R 4 0 0) jq_E0 (xs_Ye G n ad (xs_pd (some (.int (tb_b (lr_ar w h S)))) X)) 89 [some (.ref (ad 21)), some (.int (nI (S))), some (.int (nI (w * h))), some (.int (nI (I))), some (.int (nI (O))), some (.int (nI (m))), some (.int (nI (e))), some (.int (nI (lr_m2 w h e))), some (.int (tb_b bi)), some (.int (tb_b bo))] [] n ad (xs_mem G ad X) 0 0 := by
        intro bi bo hbi hbo
        refine jq_iload_n dL_isArea_89 rfl rfl ?_
        refine jq_iload dL_isArea_90 rfl ?_
        refine jq_if_eq (tgt := 107) dL_isArea_92 (by decide) (fun c92 => ?_) (fun c92 => ?_)
        · have d := tb_b0.mp c92
          have hIi : I ||| 0 = lr_ain w h S (e + 1) I0 := by rw [lr_ain, ← hI, Nat.or_zero, if_neg (fun z => by rw [hbi, decide_eq_true z.1] at d; cases d)]
          refine jq_iconst (v := (nI 0)) dL_isArea_107 (by decide) ?_
          refine jq_ior dL_isArea_108 ?_
          rw [fa_or]
          refine jq_istore_n dL_isArea_109 rfl (by decide) rfl rfl ?_
          exact s110 bo _ _ hIi hbo
        · have d := tb_b1.mp c92
          have d1 : S &&& lr_m2 w h e = lr_m2 w h e := of_decide_eq_true (hbi.symm.trans d)
          refine jq_iload_n dL_isArea_95 rfl rfl ?_
          refine jq_iload dL_isArea_96 rfl ?_
          refine jq_iand dL_isArea_98 ?_
          rw [fa_and]
          refine jq_eqZ (tgt := 107) dL_isArea_99 (by decide) (by omega) (fun c99 => ?_) (fun c99 => ?_)
          · have hIi : I ||| 0 = lr_ain w h S (e + 1) I0 := by rw [lr_ain, ← hI, Nat.or_zero, if_neg (fun z => z.2 c99)]
            refine jq_iconst (v := (nI 0)) dL_isArea_107 (by decide) ?_
            refine jq_ior dL_isArea_108 ?_
            rw [fa_or]
            refine jq_istore_n dL_isArea_109 rfl (by decide) rfl rfl ?_
            exact s110 bo _ _ hIi hbo
          · have hIi : I ||| lr_m2 w h e = lr_ain w h S (e + 1) I0 := by rw [lr_ain, ← hI, if_pos ⟨d1, c99⟩]
            refine jq_iload dL_isArea_102 rfl ?_
            refine jq_goto (tgt := 108) dL_isArea_104 (by decide) ?_
            refine jq_ior dL_isArea_108 ?_
            rw [fa_or]
            refine jq_istore_n dL_isArea_109 rfl (by decide) rfl rfl ?_
            exact s110 bo _ _ hIi hbo
      have s75 : ∀ (bi : Bool) (o9 : Option Value), bi = decide (S &&& lr_m2 w h e = lr_m2 w h e) → jq_J l G mL_isArea (jq_R 4 0 0) jq_E0 (xs_Ye G n ad (xs_pd (some (.int (tb_b (lr_ar w h S)))) X)) 75 [some (.ref (ad 21)), some (.int (nI (S))), some (.int (nI (w * h))), some (.int (nI (I))), some (.int (nI (O))), some (.int (nI (m))), some (.int (nI (e))), some (.int (nI (lr_m2 w h e))), some (.int (tb_b bi)), o9] [] n ad (xs_mem G ad X) 0 0 := by
        intro bi o9 hbi
        refine jq_iload_n dL_isArea_75 rfl rfl ?_
        refine jq_iload dL_isArea_76 rfl ?_
        refine jq_iand dL_isArea_78 ?_
        rw [fa_and]
        refine jq_neZ (tgt := 86) dL_isArea_79 (by decide) (by omega) (fun c79 => ?_) (fun c79 => ?_)
        · have hbo := s89 bi false hbi (decide_eq_false c79).symm
          refine jq_iconst (v := (nI 0)) dL_isArea_86 (by decide) ?_
          refine jq_istore dL_isArea_87 (by decide) rfl rfl ?_
          exact hbo
        · have hbo := s89 bi true hbi (decide_eq_true c79).symm
          refine jq_iconst (v := (nI 1)) dL_isArea_82 (by decide) ?_
          refine jq_goto (tgt := 87) dL_isArea_83 (by decide) ?_
          refine jq_istore dL_isArea_87 (by decide) rfl rfl ?_
          exact hbo
      refine jq_iload dL_isArea_31 rfl ?_
      refine jq_aload_n dL_isArea_33 rfl rfl ?_
      refine xq_sI dL_isArea_34 kL_32 (c_L_edges hB) rfl rfl (Nat.le_of_ble_eq_true rfl) ⟨⟨by decide, by decide⟩, Nat.le_refl _, Nat.le_refl _⟩ ?_
      refine jq_geN (tgt := 140) dL_isArea_37 (by decide) ⟨by omega, by omega⟩ (fun c37 => ?_) (fun c37 => ?_)
      · exact absurd c37 (by omega)
      · refine jq_iconst (v := (nI 1)) dL_isArea_40 (by decide) ?_
        refine jq_aload_n dL_isArea_41 rfl rfl ?_
        refine jq_iload dL_isArea_42 rfl ?_
        refine xq_sI dL_isArea_44 kL_39 (c_L_ahead hB he) rfl rfl (Nat.le_of_ble_eq_true rfl) ⟨⟨by decide, by decide⟩, Nat.le_refl _, Nat.le_refl _⟩ ?_
        refine jq_ishl dL_isArea_47 (lr_shl1 (by omega)) ?_
        refine jq_iconst (v := (nI 1)) dL_isArea_48 (by decide) ?_
        refine jq_aload_n dL_isArea_49 rfl rfl ?_
        refine jq_iload dL_isArea_50 rfl ?_
        refine xq_sI dL_isArea_52 kL_42 (c_L_behind hB he) rfl rfl (Nat.le_of_ble_eq_true rfl) ⟨⟨by decide, by decide⟩, Nat.le_refl _, Nat.le_refl _⟩ ?_
        refine jq_ishl dL_isArea_55 (lr_shl1 (by omega)) ?_
        refine jq_ior dL_isArea_56 ?_
        rw [fa_or, show 2 ^ tb_are w h e ||| 2 ^ tb_bes w h e = lr_m2 w h e from rfl]
        refine jq_istore dL_isArea_57 (by decide) rfl rfl ?_
        refine jq_iload_n dL_isArea_59 rfl rfl ?_
        refine jq_iload dL_isArea_60 rfl ?_
        refine jq_iand dL_isArea_62 ?_
        rw [fa_and]
        refine jq_iload dL_isArea_63 rfl ?_
        refine jq_neN (tgt := 72) dL_isArea_65 (by decide) ⟨by omega, by omega⟩ (fun c65 => ?_) (fun c65 => ?_)
        · have hgo := s75 false o9 (decide_eq_false c65).symm
          refine jq_iconst (v := (nI 0)) dL_isArea_72 (by decide) ?_
          refine jq_istore dL_isArea_73 (by decide) rfl rfl ?_
          exact hgo
        · have hgo := s75 true o9 (decide_eq_true c65).symm
          refine jq_iconst (v := (nI 1)) dL_isArea_68 (by decide) ?_
          refine jq_goto (tgt := 73) dL_isArea_69 (by decide) ?_
          refine jq_istore dL_isArea_73 (by decide) rfl rfl ?_
          exact hgo
  have loop : ∀ (k m : Nat) (o6 o7 o8 o9 : Option Value), m + k = 10 → jq_J l G mL_isArea (jq_R 4 0 0) jq_E0 (xs_Ye G n ad (xs_pd (some (.int (tb_b (lr_ar w h S)))) X)) 21 [some (.ref (ad 21)), some (.int (nI (S))), some (.int (nI (w * h))), some (.int (nI (lr_iin w h S m (lr_lb S)))), some (.int (nI (lr_iou w h S m (2 ^ tb_nc w h)))), some (.int (nI (m))), o6, o7, o8, o9] [] n ad (xs_mem G ad X) 0 0 := by
    intro k
    induction k with
    | zero =>
      intro m o6 o7 o8 o9 hk
      have e1 : m = 10 := by omega
      subst e1
      have hIl := lr_iin_lt hk2 (S := S) hI0 10
      have hOl := lr_iou_lt hk2 (S := S) hO0 10
      have hor := lr_or_lt hIl hOl
      have hpw : 1 ≤ 2 * 2 ^ (w * h) := by have := Nat.two_pow_pos (w * h); omega
      have hpw2 : 2 * 2 ^ (w * h) < 2 ^ 31 := by rw [show w * h = tb_nc w h from rfl]; omega
      refine jq_iload dL_isArea_21 rfl ?_
      refine jq_bipush (v := (nI 10)) dL_isArea_23 (by decide) ?_
      refine jq_geN (tgt := 146) dL_isArea_25 (by decide) ⟨by omega, by omega⟩ (fun c25 => ?_) (fun c25 => ?_)
      · refine jq_iload_n dL_isArea_146 rfl rfl ?_
        refine jq_iload_n dL_isArea_147 rfl rfl ?_
        refine jq_neN (tgt := 163) dL_isArea_148 (by decide) ⟨by omega, by omega⟩ (fun c148 => ?_) (fun c148 => ?_)
        · have hno : lr_ar w h S = false := by unfold lr_ar; rw [show (lr_iin w h S 10 (lr_lb S) == S) = false from beq_eq_false_iff_ne.mpr c148]; rfl
          refine jq_iconst (v := 0) dL_isArea_163 (by decide) ?_
          exact xq_ireturn dL_isArea_164 rfl rfl (⟨tb_vf hno, rfl⟩)
        · refine jq_iload_n dL_isArea_151 rfl rfl ?_
          refine jq_iload dL_isArea_152 rfl ?_
          refine jq_ior dL_isArea_154 ?_
          rw [fa_or]
          refine jq_iconst (v := (nI 2)) dL_isArea_155 (by decide) ?_
          refine jq_iload_n dL_isArea_156 rfl rfl ?_
          refine jq_ishl dL_isArea_157 (lr_shl (by omega)) ?_
          refine jq_iconst (v := (nI 1)) dL_isArea_158 (by decide) ?_
          refine jq_isubN dL_isArea_159 (hpw) ?_
          refine jq_eqN (tgt := 165) dL_isArea_160 (by decide) ⟨by omega, by omega⟩ (fun c160 => ?_) (fun c160 => ?_)
          · refine jq_iconst (v := (nI 1)) dL_isArea_165 (by decide) ?_
            refine jq_istore dL_isArea_166 (by decide) rfl rfl ?_
            exact rowloop (by rw [Bool.and_eq_true, beq_iff_eq, beq_iff_eq]; exact ⟨c148, c160⟩) (h - 1) 1 _ _ _ _ _ _ (by omega) (by decide) (fun j hj => by rw [show j = 0 by omega]; rfl)
          · have hno : lr_ar w h S = false := by unfold lr_ar; rw [show ((lr_iin w h S 10 (lr_lb S) ||| lr_iou w h S 10 (2 ^ tb_nc w h)) == 2 * 2 ^ tb_nc w h - 1) = false from beq_eq_false_iff_ne.mpr c160]; simp
            refine jq_iconst (v := 0) dL_isArea_163 (by decide) ?_
            exact xq_ireturn dL_isArea_164 rfl rfl (⟨tb_vf hno, rfl⟩)
      · exact absurd c25 (by omega)
    | succ k ih =>
      intro m o6 o7 o8 o9 hk
      refine jq_iload dL_isArea_21 rfl ?_
      refine jq_bipush (v := (nI 10)) dL_isArea_23 (by decide) ?_
      refine jq_geN (tgt := 146) dL_isArea_25 (by decide) ⟨by omega, by omega⟩ (fun c25 => ?_) (fun c25 => ?_)
      · exact absurd c25 (by omega)
      · refine jq_iconst (v := (nI 0)) dL_isArea_28 (by decide) ?_
        refine jq_istore dL_isArea_29 (by decide) rfl rfl ?_
        exact loop2 (tb_ne w h) 0 _ _ _ _ m _ _ _ (by omega) (by omega) (lr_iin_lt hk2 hI0 m) (lr_iou_lt hk2 hO0 m) rfl rfl (fun o6 o7 o8 o9 => ih (m + 1) o6 o7 o8 o9 (by omega))
  refine xs_Ct_of (L := [some (.ref (ad 21)), some (.int (nI (S))), none, none, none, none, none, none, none, none]) rfl (Nat.le_of_ble_eq_true rfl) rfl ?_
  refine jq_aload_n dL_isArea_0 rfl rfl ?_
  refine jq_iconst (v := (nI 0)) dL_isArea_1 (by decide) ?_
  refine xq_iald dL_isArea_2 hB.1 lr_v0 hB.2.1 ?_
  refine jq_aload_n dL_isArea_3 rfl rfl ?_
  refine jq_iconst (v := (nI 1)) dL_isArea_4 (by decide) ?_
  refine xq_iald dL_isArea_5 hB.1 lr_v1 hB.2.2.1 ?_
  refine jq_imulN dL_isArea_6 ?_
  refine jq_istore_n dL_isArea_7 rfl (by decide) rfl rfl ?_
  refine jq_iload_n dL_isArea_8 rfl rfl ?_
  refine jq_iload_n dL_isArea_9 rfl rfl ?_
  refine jq_ineg dL_isArea_10 ?_
  skip
  refine jq_iand dL_isArea_11 ?_
  rw [lr_neg (by omega)]
  refine jq_istore_n dL_isArea_12 rfl (by decide) rfl rfl ?_
  refine jq_iconst (v := (nI 1)) dL_isArea_13 (by decide) ?_
  refine jq_iload_n dL_isArea_14 rfl rfl ?_
  refine jq_ishl dL_isArea_15 (lr_shl1 (by omega)) ?_
  refine jq_istore dL_isArea_16 (by decide) rfl rfl ?_
  refine jq_iconst (v := (nI 0)) dL_isArea_18 (by decide) ?_
  refine jq_istore dL_isArea_19 (by decide) rfl rfl ?_
  exact loop 10 0 _ _ _ _ (by omega)
