/-! the reference's border of a set of cells -/
section JQS
variable {l : Launch} {G : jq_G} {M : jq_M} {R : Room} {Ex : jq_E} {Y : jq_Y} {pc : Nat} {L : jq_L} {st : List Value} {n : Nat} {ad : Nat → Nat} {mem : Nat → va_E} {cells slots : Nat}
theorem jq_ishl {x y v : Int32} (hd : decode M.2.1 pc = .ok (.ishl, 1)) (hv : x <<< (y &&& 31) = v) (k : jq_J l G M R Ex Y (pc + 1) L (.int v :: st) n ad mem cells slots) : jq_J l G M R Ex Y pc L (.int y :: .int x :: st) n ad mem cells slots := by
  subst hv
  exact fun p e s m args below meth c A hC hE H locs ls hl hP hD hS => lv_ishl hC.1.1 hC.1.2.1 hd (k p e s m args below meth c A hC hE H locs ls hl hP hD hS)
theorem jq_ishr {x y v : Int32} (hd : decode M.2.1 pc = .ok (.ishr, 1)) (hv : x >>> (y &&& 31) = v) (k : jq_J l G M R Ex Y (pc + 1) L (.int v :: st) n ad mem cells slots) : jq_J l G M R Ex Y pc L (.int y :: .int x :: st) n ad mem cells slots := by
  subst hv
  exact fun p e s m args below meth c A hC hE H locs ls hl hP hD hS => lv_ishr hC.1.1 hC.1.2.1 hd (k p e s m args below meth c A hC hE H locs ls hl hP hD hS)
end JQS
theorem ix_bt {m i : Nat} (hi : i < 32) : bt (nI m) i = m.testBit i := by
  show (BitVec.ofNat 32 m).getLsbD i = m.testBit i
  rw [BitVec.getLsbD_ofNat, decide_eq_true hi, Bool.true_and]
theorem ix_shr {C a : Nat} (hC : C < 2 ^ 31) (ha : a < 32) : nI C >>> (nI a &&& 31) = nI (C / 2 ^ a) := by
  apply b_ext
  intro i hi
  rw [b_sshr a ha _ hi, ix_bt hi, Nat.testBit_div_two_pow]
  by_cases q : a + i < 32
  · rw [if_pos q, ix_bt q, Nat.add_comm]
  · rw [if_neg q, ix_bt (by decide), bm_hi hC (Nat.le_refl _), bm_hi hC (by omega)]
theorem ix_shl1 : ∀ c, c < 31 → nI 1 <<< (nI c &&& 31) = nI (2 ^ c) := by decide +kernel
theorem ix_s64 : ∀ e, e < 64 → (((nI e).toInt64 &&& 63).toBitVec.smod 64).toNat = e := by decide +kernel
theorem ix_bit (S e : Nat) : S / 2 ^ e &&& 1 = if S.testBit e = true then 1 else 0 := by
  rw [Nat.and_one_is_mod, Nat.testBit_eq_decide_div_mod_eq]
  have := Nat.mod_lt (S / 2 ^ e) (show 0 < 2 by decide)
  by_cases q : S / 2 ^ e % 2 = 1
  · rw [q]; rfl
  · rw [if_neg (by simpa using q)]; omega
theorem ix_b1 {b : Bool} : (if b = true then 1 else 0) < 2 ^ 31 := by cases b <;> decide
theorem ix_beq {a b : Bool} : (if a = true then 1 else 0) = (if b = true then (1 : Nat) else 0) ↔ a = b := by cases a <;> cases b <;> decide
set_option maxHeartbeats 4000000 in
theorem c_X6_has {l : Launch} {G : jq_G} {n : Nat} {ad : Nat → Nat} {X : xs_T} {S e : Nat} (hS : S < 2 ^ 62) (he : e < 64) : xs_Ct l G mX6_has 1 [.long (lN S), .int (nI (e))] n ad X (xs_pd (some (.int (tb_b (S.testBit e)))) X) := by
  have hb : (if S.testBit e = true then 1 else 0) < 2 ^ 63 := by cases S.testBit e <;> decide
  refine xs_Ct_of (L := [some (.long (lN S)), none, some (.int (nI (e)))]) rfl (Nat.le_of_ble_eq_true rfl) rfl ?_
  refine jq_lload_n dX6_has_0 rfl rfl ?_
  refine jq_iload_n dX6_has_1 rfl rfl ?_
  refine jq_lshr dX6_has_2 (pf_shr (ix_s64 e he) hS) ?_
  refine jq_lconst (v := (lN 1)) dX6_has_3 (by decide) ?_
  refine jq_land dX6_has_4 ?_
  rw [fb_andL, ix_bit]
  refine jq_lconst (v := (lN 1)) dX6_has_5 (by decide) ?_
  refine jq_lcmp dX6_has_6 ?_
  refine jq_if_ne (tgt := 14) dX6_has_7 (by decide) (fun c7 => ?_) (fun c7 => ?_)
  · have d7 : S.testBit e = false := by have q : ¬ (if S.testBit e = true then 1 else 0) = 1 := (fun z => c7 ((dv_cmp hb (by decide)).mpr z)); revert q; cases S.testBit e <;> decide
    refine jq_iconst (v := 0) dX6_has_14 (by decide) ?_
    exact xq_ireturn dX6_has_15 rfl rfl (⟨by rw [d7]; rfl, rfl⟩)
  · have d7 : S.testBit e = true := by have q := (dv_cmp hb (by decide)).mp c7; revert q; cases S.testBit e <;> decide
    refine jq_iconst (v := 1) dX6_has_10 (by decide) ?_
    refine jq_goto (tgt := 15) dX6_has_11 (by decide) ?_
    exact xq_ireturn dX6_has_15 rfl rfl (⟨by rw [d7]; rfl, rfl⟩)
/-- the first place where p holds, as the reference keeps it -/
def rf_F1 (p : Nat → Bool) (e : Nat) (v : Int32) : Prop := (v = -1 ∧ ∀ j, j < e → p j = false) ∨ ∃ f, f < e ∧ p f = true ∧ (∀ j, j < f → p j = false) ∧ v = nI f
theorem rf_F1_n {p : Nat → Bool} {e : Nat} {v : Int32} (h : rf_F1 p e v) (hp : p e = false) : rf_F1 p (e + 1) v := by
  rcases h with ⟨h1, h2⟩ | ⟨f, h1, h2, h3, h4⟩
  · refine Or.inl ⟨h1, fun j hj => ?_⟩
    rcases Nat.lt_or_ge j e with q | q
    · exact h2 j q
    · rw [show j = e by omega]; exact hp
  · exact Or.inr ⟨f, by omega, h2, h3, h4⟩
theorem rf_F1_y {p : Nat → Bool} {e : Nat} {v : Int32} (he : e < 100) (h : rf_F1 p e v) (hp : p e = true) : (v = -1 → rf_F1 p (e + 1) (nI e)) ∧ (v ≠ -1 → rf_F1 p (e + 1) v) := by
  rcases h with ⟨h1, h2⟩ | ⟨f, h1, h2, h3, h4⟩
  · exact ⟨fun _ => Or.inr ⟨e, by omega, hp, h2, rfl⟩, fun q => absurd h1 q⟩
  · refine ⟨fun q => ?_, fun _ => Or.inr ⟨f, by omega, h2, h3, h4⟩⟩
    rw [h4] at q
    exact absurd q (nI_m1 (by omega))
theorem fa_ct1 {p : Nat → Bool} {e : Nat} (h : p e = true) : fb_ct p (e + 1) = fb_ct p e + 1 := by rw [fb_ct_succ, if_pos h]
theorem fa_ct0 {p : Nat → Bool} {e : Nat} (h : p e = false) : fb_ct p (e + 1) = fb_ct p e := by rw [fb_ct_succ, if_neg (by rw [h]; decide), Nat.add_zero]
abbrev dv_P (w h C e : Nat) : Bool := C.testBit (tb_are w h e) != C.testBit (tb_bes w h e)
set_option maxHeartbeats 8000000 in
theorem c_X6_border {l : Launch} {G : jq_G} {n : Nat} {ad : Nat → Nat} {X : xs_T} (hn : 39 ≤ n) {w h : Nat} (hT : rf_T w h X) {C : Nat} (hC : C < 2 ^ tb_nc w h) (hC0 : C ≠ 0) : xs_Ct l G mX6_border 2 [.ref (ad 21), .int (nI (C))] n ad X (xs_pl (fun v X' => v = lN (if dv_isLoop w h (dv_bd w h C) = true then dv_bd w h C else 0) ∧ xs_fr [37] [] X X')) := by
  have hW := hT.1
  have hz := tb_sizes hW
  have hC16 : C < 2 ^ 16 := Nat.lt_of_lt_of_le hC (Nat.pow_le_pow_right (by decide) hz.2.1)
  have hSlt : dv_bd w h C < 2 ^ tb_ne w h := dv_bd_lt
  have hS40 := dv_set_lt hW hSlt
  have hall40 := fb_ct_le (fun e => (dv_bd w h C).testBit e) (tb_ne w h)
  have hpar := fun p (hp : p < tb_np w h) => dv_bd_par hW hp (tb_nc w h) C (Nat.le_refl _) hC
  -- the walk
  have walk : ∀ (m k f V line point : Nat) (o9 o10 : Option Value) (Y : xs_T), k + m = 41 → dv_02 w h (dv_bd w h C) → f < tb_ne w h → dv_Wk w h (dv_bd w h C) f V line point k → xs_fr [37] [] X Y → jq_J l G mX6_border (jq_R 2 0 0) jq_E0 (xs_Ye G n ad (xs_pl (fun v X' => v = lN (if dv_isLoop w h (dv_bd w h C) = true then dv_bd w h C else 0) ∧ xs_fr [37] [] X X'))) 181 [some (.ref (ad 21)), some (.int (nI (C))), some (.long (lN (dv_bd w h C))), none, some (.int (nI (fb_ct (fun e => (dv_bd w h C).testBit e) (tb_ne w h)))), some (.int (nI (f))), some (.int (nI (k))), some (.int (nI (line))), some (.int (nI (point))), o9, o10] [] n ad (xs_mem G ad Y) 0 0 := by
    intro m
    induction m with
    | zero =>
      intro k f V line point o9 o10 Y hk h02 hf hw hfr
      have := hw.2.2.1
      have := fb_ct_le (fun e => V.testBit e) (tb_ne w h)
      omega
    | succ m ih =>
      intro k f V line point o9 o10 Y hk h02 hf hw hfr
      have hTY := rf_fr hT hfr
      have hb := tb_ends hW f hf
      have hif : vp_in (nI f) 40 := vp_inN (by omega) (by decide)
      have h1f := hTY.2.2.2.2.2.2.1 f hf
      have hpt := hw.2.1.2.2.2
      have hl := (hw.1 line hw.2.1.2.1).1
      have found : ∀ (e : Nat) (o10 : Option Value), point ≠ tb_one w h f → e < tb_ne w h → (e ≠ line ∧ (dv_bd w h C).testBit e = true ∧ dv_inc w h point e = true) → jq_J l G mX6_border (jq_R 2 0 0) jq_E0 (xs_Ye G n ad (xs_pl (fun v X' => v = lN (if dv_isLoop w h (dv_bd w h C) = true then dv_bd w h C else 0) ∧ xs_fr [37] [] X X'))) 268 [some (.ref (ad 21)), some (.int (nI (C))), some (.long (lN (dv_bd w h C))), none, some (.int (nI (fb_ct (fun e => (dv_bd w h C).testBit e) (tb_ne w h)))), some (.int (nI (f))), some (.int (nI (k))), some (.int (nI (line))), some (.int (nI (point))), some (.int (nI (e))), o10] [] n ad (xs_mem G ad Y) 0 0 := by
        intro e o10 hpf he hc
        have hie : vp_in (nI e) 40 := vp_inN (by omega) (by decide)
        have h1e := hTY.2.2.2.2.2.2.1 e he
        have h2e := hTY.2.2.2.2.2.2.2.1 e he
        have hbe := tb_ends hW e he
        have hst := dv_Wk_step hW h02 hw hpf he hc.1 hc.2.1 hc.2.2
        refine jq_aload_n dX6_border_268 rfl rfl ?_
        refine xq_getR 22 fX6_7 dX6_border_269 (xs_lt (by decide) hn) (by decide) ?_
        refine jq_iload dX6_border_272 rfl ?_
        refine xq_iaload dX6_border_274 (xs_lt (by decide) hn) rfl hie (xs_rd h1e (by omega)) ?_
        refine jq_iload dX6_border_275 rfl ?_
        refine jq_neN (tgt := 290) dX6_border_277 (by decide) ⟨by omega, by omega⟩ (fun c277 => ?_) (fun c277 => ?_)
        · refine jq_aload_n dX6_border_290 rfl rfl ?_
          refine xq_getR 22 fX6_7 dX6_border_291 (xs_lt (by decide) hn) (by decide) ?_
          refine jq_iload dX6_border_294 rfl ?_
          refine xq_iaload dX6_border_296 (xs_lt (by decide) hn) rfl hie (xs_rd h1e (by omega)) ?_
          refine jq_istore dX6_border_297 (by decide) rfl rfl ?_
          refine jq_iload dX6_border_299 rfl ?_
          refine jq_istore dX6_border_301 (by decide) rfl rfl ?_
          refine jq_iincN dX6_border_303 (by decide) rfl rfl rfl ?_
          refine jq_goto (tgt := 181) dX6_border_306 (by decide) ?_
          first
            | exact ih (k + 1) f _ e _ _ _ Y (by omega) h02 hf (by rw [if_neg c277] at hst; exact hst) hfr
            | exact ih (k + 1) f _ e _ _ _ Y (by omega) h02 hf (by rw [if_pos c277] at hst; exact hst) hfr
        · refine jq_aload_n dX6_border_280 rfl rfl ?_
          refine xq_getR 23 fX6_13 dX6_border_281 (xs_lt (by decide) hn) (by decide) ?_
          refine jq_iload dX6_border_284 rfl ?_
          refine xq_iaload dX6_border_286 (xs_lt (by decide) hn) rfl hie (xs_rd h2e (by omega)) ?_
          refine jq_goto (tgt := 297) dX6_border_287 (by decide) ?_
          refine jq_istore dX6_border_297 (by decide) rfl rfl ?_
          refine jq_iload dX6_border_299 rfl ?_
          refine jq_istore dX6_border_301 (by decide) rfl rfl ?_
          refine jq_iincN dX6_border_303 (by decide) rfl rfl rfl ?_
          refine jq_goto (tgt := 181) dX6_border_306 (by decide) ?_
          first
            | exact ih (k + 1) f _ e _ _ _ Y (by omega) h02 hf (by rw [if_neg c277] at hst; exact hst) hfr
            | exact ih (k + 1) f _ e _ _ _ Y (by omega) h02 hf (by rw [if_pos c277] at hst; exact hst) hfr
      have foundB : ∀ (e e2 : Nat), point ≠ tb_one w h f → e < tb_ne w h → e2 ≤ tb_ne w h → (e ≠ line ∧ (dv_bd w h C).testBit e = true ∧ dv_inc w h point e = true) → jq_J l G mX6_border (jq_R 2 0 0) jq_E0 (xs_Ye G n ad (xs_pl (fun v X' => v = lN (if dv_isLoop w h (dv_bd w h C) = true then dv_bd w h C else 0) ∧ xs_fr [37] [] X X'))) 199 [some (.ref (ad 21)), some (.int (nI (C))), some (.long (lN (dv_bd w h C))), none, some (.int (nI (fb_ct (fun e => (dv_bd w h C).testBit e) (tb_ne w h)))), some (.int (nI (f))), some (.int (nI (k))), some (.int (nI (line))), some (.int (nI (point))), some (.int (nI (e))), some (.int (nI (e2)))] [] n ad (xs_mem G ad Y) 0 0 := by
        intro e e2 hpf he he2 hc
        refine jq_iload dX6_border_199 rfl ?_
        refine jq_aload_n dX6_border_201 rfl rfl ?_
        refine xq_getI fX6_74 dX6_border_202 (xs_lt (by decide) hn) (by decide) hTY.2.2.2.2.1 ?_
        refine jq_geN (tgt := 268) dX6_border_205 (by decide) ⟨by omega, by omega⟩ (fun c205 => ?_) (fun c205 => ?_)
        · exact found e _ hpf he hc
        · refine jq_iload dX6_border_208 rfl ?_
          refine jq_iconst (v := (-1)) dX6_border_210 (by decide) ?_
          refine jq_icmp_ne (tgt := 268) dX6_border_211 (by decide) (fun c211 => ?_) (fun c211 => ?_)
          · exact found e _ hpf he hc
          · exact absurd c211 (nI_m1 (by omega))
      have search : ∀ (j e : Nat), point ≠ tb_one w h f → e + j = tb_ne w h → (∀ i, i < e → ¬ (i ≠ line ∧ (dv_bd w h C).testBit i = true ∧ dv_inc w h point i = true)) → jq_J l G mX6_border (jq_R 2 0 0) jq_E0 (xs_Ye G n ad (xs_pl (fun v X' => v = lN (if dv_isLoop w h (dv_bd w h C) = true then dv_bd w h C else 0) ∧ xs_fr [37] [] X X'))) 199 [some (.ref (ad 21)), some (.int (nI (C))), some (.long (lN (dv_bd w h C))), none, some (.int (nI (fb_ct (fun e => (dv_bd w h C).testBit e) (tb_ne w h)))), some (.int (nI (f))), some (.int (nI (k))), some (.int (nI (line))), some (.int (nI (point))), some (.int (-1)), some (.int (nI (e)))] [] n ad (xs_mem G ad Y) 0 0 := by
        intro j
        induction j with
        | zero =>
          intro e hpf hj hno
          obtain ⟨e0, he0, hc0⟩ := dv_Wk_next h02 hw hpf
          exact absurd hc0 (hno e0 (by omega))
        | succ j ihj =>
          intro e hpf hj hno
          have he : e < tb_ne w h := by omega
          have hie : vp_in (nI e) 40 := vp_inN (by omega) (by decide)
          have h1e := hTY.2.2.2.2.2.2.1 e he
          have h2e := hTY.2.2.2.2.2.2.2.1 e he
          have hbe := tb_ends hW e he
          have h259 : ¬ (e ≠ line ∧ (dv_bd w h C).testBit e = true ∧ dv_inc w h point e = true) → jq_J l G mX6_border (jq_R 2 0 0) jq_E0 (xs_Ye G n ad (xs_pl (fun v X' => v = lN (if dv_isLoop w h (dv_bd w h C) = true then dv_bd w h C else 0) ∧ xs_fr [37] [] X X'))) 259 [some (.ref (ad 21)), some (.int (nI (C))), some (.long (lN (dv_bd w h C))), none, some (.int (nI (fb_ct (fun e => (dv_bd w h C).testBit e) (tb_ne w h)))), some (.int (nI (f))), some (.int (nI (k))), some (.int (nI (line))), some (.int (nI (point))), some (.int (-1)), some (.int (nI (e)))] [] n ad (xs_mem G ad Y) 0 0 := by
            intro hnc
            refine jq_iconst (v := (-1)) dX6_border_259 (by decide) ?_
            refine jq_istore dX6_border_260 (by decide) rfl rfl ?_
            refine jq_iincN dX6_border_262 (by decide) rfl rfl rfl ?_
            refine jq_goto (tgt := 199) dX6_border_265 (by decide) ?_
            refine ihj (e + 1) hpf (by omega) (fun i hi => ?_)
            rcases Nat.lt_or_ge i e with q | q
            · exact hno i q
            · rw [show i = e by omega]; exact hnc
          have h254 : (e ≠ line ∧ (dv_bd w h C).testBit e = true ∧ dv_inc w h point e = true) → jq_J l G mX6_border (jq_R 2 0 0) jq_E0 (xs_Ye G n ad (xs_pl (fun v X' => v = lN (if dv_isLoop w h (dv_bd w h C) = true then dv_bd w h C else 0) ∧ xs_fr [37] [] X X'))) 254 [some (.ref (ad 21)), some (.int (nI (C))), some (.long (lN (dv_bd w h C))), none, some (.int (nI (fb_ct (fun e => (dv_bd w h C).testBit e) (tb_ne w h)))), some (.int (nI (f))), some (.int (nI (k))), some (.int (nI (line))), some (.int (nI (point))), some (.int (-1)), some (.int (nI (e)))] [] n ad (xs_mem G ad Y) 0 0 := by
            intro hc
            refine jq_iload dX6_border_254 rfl ?_
            refine jq_goto (tgt := 260) dX6_border_256 (by decide) ?_
            refine jq_istore dX6_border_260 (by decide) rfl rfl ?_
            refine jq_iincN dX6_border_262 (by decide) rfl rfl rfl ?_
            refine jq_goto (tgt := 199) dX6_border_265 (by decide) ?_
            exact foundB e (e + 1) hpf he (by omega) hc
          refine jq_iload dX6_border_199 rfl ?_
          refine jq_aload_n dX6_border_201 rfl rfl ?_
          refine xq_getI fX6_74 dX6_border_202 (xs_lt (by decide) hn) (by decide) hTY.2.2.2.2.1 ?_
          refine jq_geN (tgt := 268) dX6_border_205 (by decide) ⟨by omega, by omega⟩ (fun c205 => ?_) (fun c205 => ?_)
          · exact absurd c205 (by omega)
          · refine jq_iload dX6_border_208 rfl ?_
            refine jq_iconst (v := (-1)) dX6_border_210 (by decide) ?_
            refine jq_icmp_ne (tgt := 268) dX6_border_211 (by decide) (fun c211 => ?_) (fun c211 => ?_)
            · exact absurd rfl c211
            · refine jq_iload dX6_border_214 rfl ?_
              refine jq_iload dX6_border_216 rfl ?_
              refine jq_eqN (tgt := 259) dX6_border_218 (by decide) ⟨by omega, by omega⟩ (fun c218 => ?_) (fun c218 => ?_)
              · refine h259 (fun ⟨a1, a2, a3⟩ => ?_)
                first
                  | exact a1 c218
                  | exact absurd a2 (by rw [d227]; decide)
                  | (rcases dv_inc_y.mp a3 with q | q
                     · exact c239 q
                     · exact c251 q)
              · refine jq_lload_n dX6_border_221 rfl rfl ?_
                refine jq_iload dX6_border_222 rfl ?_
                refine xq_sI dX6_border_224 kX6_166 (c_X6_has (by omega) (by omega)) rfl rfl (Nat.le_of_ble_eq_true rfl) ⟨⟨by decide, by decide⟩, Nat.le_refl _, Nat.le_refl _⟩ ?_
                refine jq_if_eq (tgt := 259) dX6_border_227 (by decide) (fun c227 => ?_) (fun c227 => ?_)
                · have d227 := tb_b0.mp c227
                  refine h259 (fun ⟨a1, a2, a3⟩ => ?_)
                  first
                    | exact a1 c218
                    | exact absurd a2 (by rw [d227]; decide)
                    | (rcases dv_inc_y.mp a3 with q | q
                       · exact c239 q
                       · exact c251 q)
                · have d227 := tb_b1.mp c227
                  refine jq_aload_n dX6_border_230 rfl rfl ?_
                  refine xq_getR 22 fX6_7 dX6_border_231 (xs_lt (by decide) hn) (by decide) ?_
                  refine jq_iload dX6_border_234 rfl ?_
                  refine xq_iaload dX6_border_236 (xs_lt (by decide) hn) rfl hie (xs_rd h1e (by omega)) ?_
                  refine jq_iload dX6_border_237 rfl ?_
                  refine jq_eqN (tgt := 254) dX6_border_239 (by decide) ⟨by omega, by omega⟩ (fun c239 => ?_) (fun c239 => ?_)
                  · refine h254 ⟨c218, d227, ?_⟩
                    first
                      | exact dv_inc_y.mpr (Or.inl c239)
                      | exact dv_inc_y.mpr (Or.inr c251)
                  · refine jq_aload_n dX6_border_242 rfl rfl ?_
                    refine xq_getR 23 fX6_13 dX6_border_243 (xs_lt (by decide) hn) (by decide) ?_
                    refine jq_iload dX6_border_246 rfl ?_
                    refine xq_iaload dX6_border_248 (xs_lt (by decide) hn) rfl hie (xs_rd h2e (by omega)) ?_
                    refine jq_iload dX6_border_249 rfl ?_
                    refine jq_neN (tgt := 259) dX6_border_251 (by decide) ⟨by omega, by omega⟩ (fun c251 => ?_) (fun c251 => ?_)
                    · refine h259 (fun ⟨a1, a2, a3⟩ => ?_)
                      first
                        | exact a1 c218
                        | exact absurd a2 (by rw [d227]; decide)
                        | (rcases dv_inc_y.mp a3 with q | q
                           · exact c239 q
                           · exact c251 q)
                    · refine h254 ⟨c218, d227, ?_⟩
                      first
                        | exact dv_inc_y.mpr (Or.inl c239)
                        | exact dv_inc_y.mpr (Or.inr c251)
      refine jq_iload dX6_border_181 rfl ?_
      refine jq_aload_n dX6_border_183 rfl rfl ?_
      refine xq_getR 22 fX6_7 dX6_border_184 (xs_lt (by decide) hn) (by decide) ?_
      refine jq_iload dX6_border_187 rfl ?_
      refine xq_iaload dX6_border_189 (xs_lt (by decide) hn) rfl hif (xs_rd h1f (by omega)) ?_
      refine jq_eqN (tgt := 309) dX6_border_190 (by decide) ⟨by omega, by omega⟩ (fun c190 => ?_) (fun c190 => ?_)
      · have hend := dv_Wk_end hW h02 hSlt (c190 ▸ hw)
        refine jq_iload dX6_border_309 rfl ?_
        refine jq_iload dX6_border_311 rfl ?_
        refine jq_neN (tgt := 320) dX6_border_313 (by decide) ⟨by omega, by omega⟩ (fun c313 => ?_) (fun c313 => ?_)
        · refine jq_lconst (v := (lN 0)) dX6_border_320 (by decide) ?_
          first
            | exact xq_lreturn dX6_border_321 rfl ⟨_, rfl, by rw [hend, decide_eq_true c313, if_pos rfl], hfr⟩
            | exact xq_lreturn dX6_border_321 rfl ⟨_, rfl, by rw [hend, decide_eq_false c313, if_neg (by decide)], hfr⟩
        · refine jq_lload_n dX6_border_316 rfl rfl ?_
          refine jq_goto (tgt := 321) dX6_border_317 (by decide) ?_
          first
            | exact xq_lreturn dX6_border_321 rfl ⟨_, rfl, by rw [hend, decide_eq_true c313, if_pos rfl], hfr⟩
            | exact xq_lreturn dX6_border_321 rfl ⟨_, rfl, by rw [hend, decide_eq_false c313, if_neg (by decide)], hfr⟩
      · refine jq_iconst (v := (-1)) dX6_border_193 (by decide) ?_
        refine jq_istore dX6_border_194 (by decide) rfl rfl ?_
        refine jq_iconst (v := (nI 0)) dX6_border_196 (by decide) ?_
        refine jq_istore dX6_border_197 (by decide) rfl rfl ?_
        exact search (tb_ne w h) 0 c190 (by omega) (fun i hi => absurd hi (Nat.not_lt_zero i))
  -- the points
  have loopC : ∀ (k p f : Nat) (Y : xs_T), p + k = tb_np w h → f < tb_ne w h → (dv_bd w h C).testBit f = true → (∀ j, j < p → dv_deg w h (dv_bd w h C) j ≤ 2) → (∀ j, j < tb_np w h → Y.2.2.1 37 j = nI (dv_deg w h (dv_bd w h C) j)) → xs_fr [37] [] X Y → jq_J l G mX6_border (jq_R 2 0 0) jq_E0 (xs_Ye G n ad (xs_pl (fun v X' => v = lN (if dv_isLoop w h (dv_bd w h C) = true then dv_bd w h C else 0) ∧ xs_fr [37] [] X X'))) 137 [some (.ref (ad 21)), some (.int (nI (C))), some (.long (lN (dv_bd w h C))), none, some (.int (nI (fb_ct (fun e => (dv_bd w h C).testBit e) (tb_ne w h)))), some (.int (nI (f))), some (.int (nI (p))), none, none, none, none] [] n ad (xs_mem G ad Y) 0 0 := by
    intro k
    induction k with
    | zero =>
      intro p f Y hk hf hsf hle hdg hfr
      have hTY := rf_fr hT hfr
      have hb := tb_ends hW f hf
      have hif : vp_in (nI f) 40 := vp_inN (by omega) (by decide)
      have h2f := hTY.2.2.2.2.2.2.2.1 f hf
      have h02 : dv_02 w h (dv_bd w h C) := by
        intro j hj
        have a := hle j (by omega)
        have b := hpar j hj
        omega
      refine jq_iload dX6_border_137 rfl ?_
      refine jq_aload_n dX6_border_139 rfl rfl ?_
      refine xq_getI fX6_83 dX6_border_140 (xs_lt (by decide) hn) (by decide) hTY.2.2.2.2.2.1 ?_
      refine jq_geN (tgt := 165) dX6_border_143 (by decide) ⟨by omega, by omega⟩ (fun c143 => ?_) (fun c143 => ?_)
      · refine jq_iconst (v := (nI 1)) dX6_border_165 (by decide) ?_
        refine jq_istore dX6_border_166 (by decide) rfl rfl ?_
        refine jq_iload dX6_border_168 rfl ?_
        refine jq_istore dX6_border_170 (by decide) rfl rfl ?_
        refine jq_aload_n dX6_border_172 rfl rfl ?_
        refine xq_getR 23 fX6_13 dX6_border_173 (xs_lt (by decide) hn) (by decide) ?_
        refine jq_iload dX6_border_176 rfl ?_
        refine xq_iaload dX6_border_178 (xs_lt (by decide) hn) rfl hif (xs_rd h2f (by omega)) ?_
        refine jq_istore dX6_border_179 (by decide) rfl rfl ?_
        exact walk 40 1 f _ f _ _ _ Y (by omega) h02 hf (dv_Wk_0 hW hf hsf) hfr
      · exact absurd c143 (by omega)
    | succ k ih =>
      intro p f Y hk hf hsf hle hdg hfr
      have hTY := rf_fr hT hfr
      have hp : p < tb_np w h := by omega
      have hip : vp_in (nI p) 25 := vp_inN (by omega) (by decide)
      have hdp := hdg p hp
      have hdl := dv_deg_le hW (h := h) (dv_bd w h C) p
      refine jq_iload dX6_border_137 rfl ?_
      refine jq_aload_n dX6_border_139 rfl rfl ?_
      refine xq_getI fX6_83 dX6_border_140 (xs_lt (by decide) hn) (by decide) hTY.2.2.2.2.2.1 ?_
      refine jq_geN (tgt := 165) dX6_border_143 (by decide) ⟨by omega, by omega⟩ (fun c143 => ?_) (fun c143 => ?_)
      · exact absurd c143 (by omega)
      · refine jq_aload_n dX6_border_146 rfl rfl ?_
        refine xq_getR 37 fX6_56 dX6_border_147 (xs_lt (by decide) hn) (by decide) ?_
        refine jq_iload dX6_border_150 rfl ?_
        refine xq_iaload dX6_border_152 (xs_lt (by decide) hn) rfl hip (xs_rd hdp (by omega)) ?_
        refine jq_iconst (v := (nI 2)) dX6_border_153 (by decide) ?_
        refine jq_leN (tgt := 159) dX6_border_154 (by decide) ⟨by omega, by omega⟩ (fun c154 => ?_) (fun c154 => ?_)
        · refine jq_iincN dX6_border_159 (by decide) rfl rfl rfl ?_
          refine jq_goto (tgt := 137) dX6_border_162 (by decide) ?_
          refine ih (p + 1) f Y (by omega) hf hsf (fun j hj => ?_) hdg hfr
          rcases Nat.lt_or_ge j p with q | q
          · exact hle j q
          · rw [show j = p by omega]; omega
        · refine jq_lconst (v := (lN 0)) dX6_border_157 (by decide) ?_
          have hno := dv_isLoop_deg (w := w) (h := h) (S := dv_bd w h C) hp ⟨by omega, by omega⟩
          exact xq_lreturn dX6_border_158 rfl ⟨_, rfl, by rw [hno, if_neg (by decide)], hfr⟩
  -- the edges
  have loopB : ∀ (k e : Nat) (v : Int32) (Y : xs_T), e + k = tb_ne w h → rf_F1 (dv_P w h C) e v → (∀ p, p < tb_np w h → Y.2.2.1 37 p = nI (fb_ct (fun j => dv_P w h C j && dv_inc w h p j) e)) → xs_fr [37] [] X Y → jq_J l G mX6_border (jq_R 2 0 0) jq_E0 (xs_Ye G n ad (xs_pl (fun v X' => v = lN (if dv_isLoop w h (dv_bd w h C) = true then dv_bd w h C else 0) ∧ xs_fr [37] [] X X'))) 37 [some (.ref (ad 21)), some (.int (nI (C))), some (.long (lN (bm (dv_P w h C) e))), none, some (.int (nI (fb_ct (dv_P w h C) e))), some (.int (v)), some (.int (nI (e))), none, none, none, none] [] n ad (xs_mem G ad Y) 0 0 := by
    intro k
    induction k with
    | zero =>
      intro e v Y hk hv hdg hfr
      have hTY := rf_fr hT hfr
      have he : e = tb_ne w h := by omega
      subst he
      have e1 : fb_ct (dv_P w h C) (tb_ne w h) = fb_ct (fun e => (dv_bd w h C).testBit e) (tb_ne w h) := fb_ct_cong (fun k hk => (dv_bd_bit hk).symm)
      have e2 : ∀ p, fb_ct (fun j => dv_P w h C j && dv_inc w h p j) (tb_ne w h) = dv_deg w h (dv_bd w h C) p := fun p => fb_ct_cong (fun k hk => by
        show (dv_P w h C k && dv_inc w h p k) = ((dv_bd w h C).testBit k && dv_inc w h p k)
        rw [dv_bd_bit hk])
      have e3 : bm (dv_P w h C) (tb_ne w h) = dv_bd w h C := rfl
      have hv2 : ∃ f, f < tb_ne w h ∧ (dv_bd w h C).testBit f = true ∧ v = nI f := by
        rcases hv with ⟨-, h2⟩ | ⟨f, h1, h2, -, h4⟩
        · exact absurd (bm_zero.mpr h2) (dv_bd_pos hW hC hC0)
        · exact ⟨f, h1, by rw [dv_bd_bit h1]; exact h2, h4⟩
      obtain ⟨f, f1, f2, rfl⟩ := hv2
      rw [e1, e3]
      refine jq_iload dX6_border_37 rfl ?_
      refine jq_aload_n dX6_border_39 rfl rfl ?_
      refine xq_getI fX6_74 dX6_border_40 (xs_lt (by decide) hn) (by decide) hTY.2.2.2.2.1 ?_
      refine jq_geN (tgt := 134) dX6_border_43 (by decide) ⟨by omega, by omega⟩ (fun c43 => ?_) (fun c43 => ?_)
      · refine jq_iconst (v := (nI 0)) dX6_border_134 (by decide) ?_
        refine jq_istore dX6_border_135 (by decide) rfl rfl ?_
        exact loopC (tb_np w h) 0 f Y (by omega) f1 f2 (fun j hj => absurd hj (Nat.not_lt_zero j)) (fun j hj => by rw [hdg j hj, e2]) hfr
      · exact absurd c43 (by omega)
    | succ k ih =>
      intro e v Y hk hv hdg hfr
      have hTY := rf_fr hT hfr
      have he : e < tb_ne w h := by omega
      have hb := tb_ends hW e he
      have hie : vp_in (nI e) 40 := vp_inN (by omega) (by decide)
      have hi1 : vp_in (nI (tb_one w h e)) 25 := vp_inN (by omega) (by decide)
      have hi2 : vp_in (nI (tb_oth w h e)) 25 := vp_inN (by omega) (by decide)
      have h1e := hTY.2.2.2.2.2.2.1 e he
      have h2e := hTY.2.2.2.2.2.2.2.1 e he
      have h3e := hTY.2.2.2.2.2.2.2.2.1 e he
      have h4e := hTY.2.2.2.2.2.2.2.2.2.1 e he
      have hd1 := hdg _ hb.1
      have hd2 := hdg _ hb.2.1
      have hctl := fb_ct_le (dv_P w h C) e
      have hc1 := fb_ct_le (fun j => dv_P w h C j && dv_inc w h (tb_one w h e) j) e
      have hc2 := fb_ct_le (fun j => dv_P w h C j && dv_inc w h (tb_oth w h e) j) e
      have hbmP : dv_P w h C e = true → bm (dv_P w h C) (e + 1) = bm (dv_P w h C) e ||| 2 ^ e := fun q => by rw [bm_step, if_pos q]
      have h94 : ∀ v', dv_P w h C e = true → rf_F1 (dv_P w h C) (e + 1) v' → jq_J l G mX6_border (jq_R 2 0 0) jq_E0 (xs_Ye G n ad (xs_pl (fun v X' => v = lN (if dv_isLoop w h (dv_bd w h C) = true then dv_bd w h C else 0) ∧ xs_fr [37] [] X X'))) 94 [some (.ref (ad 21)), some (.int (nI (C))), some (.long (lN (bm (dv_P w h C) e ||| 2 ^ e))), none, some (.int (nI (fb_ct (dv_P w h C) e + 1))), some (.int (v)), some (.int (nI (e))), none, none, none, none] [.int (v')] n ad (xs_mem G ad Y) 0 0 := by
        intro v' hP hv'
        refine jq_istore dX6_border_94 (by decide) rfl rfl ?_
        refine jq_aload_n dX6_border_96 rfl rfl ?_
        refine xq_getR 37 fX6_56 dX6_border_97 (xs_lt (by decide) hn) (by decide) ?_
        refine jq_aload_n dX6_border_100 rfl rfl ?_
        refine xq_getR 22 fX6_7 dX6_border_101 (xs_lt (by decide) hn) (by decide) ?_
        refine jq_iload dX6_border_104 rfl ?_
        refine xq_iaload dX6_border_106 (xs_lt (by decide) hn) rfl hie (xs_rd h1e (by omega)) ?_
        refine jq_dup2 dX6_border_107 rfl rfl ?_
        refine xq_iaload dX6_border_108 (xs_lt (by decide) hn) rfl hi1 (xs_rd hd1 (by omega)) ?_
        refine jq_iconst (v := (nI 1)) dX6_border_109 (by decide) ?_
        refine jq_iaddN dX6_border_110 ?_
        refine xq_iastore dX6_border_111 (xs_lt (by decide) hn) rfl hi1 ?_
        refine jq_aload_n dX6_border_112 rfl rfl ?_
        refine xq_getR 37 fX6_56 dX6_border_113 (xs_lt (by decide) hn) (by decide) ?_
        refine jq_aload_n dX6_border_116 rfl rfl ?_
        refine xq_getR 23 fX6_13 dX6_border_117 (xs_lt (by decide) hn) (by decide) ?_
        refine jq_iload dX6_border_120 rfl ?_
        refine xq_iaload (v := nI (tb_oth w h e)) dX6_border_122 (xs_lt (by decide) hn) rfl hie (xs_rd h2e (by omega)) ?_
        refine jq_dup2 dX6_border_123 rfl rfl ?_
        refine xq_iaload (v := nI (fb_ct (fun j => dv_P w h C j && dv_inc w h (tb_oth w h e) j) e)) dX6_border_124 (xs_lt (by decide) hn) rfl hi2 (xs_rd (by rw [xs_ai_at, xs_upd_ne (by omega) (Ne.symm hb.2.2.1)]; exact hd2) (by omega)) ?_
        refine jq_iconst (v := (nI 1)) dX6_border_125 (by decide) ?_
        refine jq_iaddN dX6_border_126 ?_
        refine xq_iastore dX6_border_127 (xs_lt (by decide) hn) rfl hi2 ?_
        refine jq_iincN dX6_border_128 (by decide) rfl rfl rfl ?_
        refine jq_goto (tgt := 37) dX6_border_131 (by decide) ?_
        have hE := ih (e + 1) v' (xs_ai (xs_ai Y 37 (upd (Y.2.2.1 37) (nI (tb_one w h e)).toNatClampNeg (nI (fb_ct (fun j => dv_P w h C j && dv_inc w h (tb_one w h e) j) e + 1)))) 37 (upd ((xs_ai Y 37 (upd (Y.2.2.1 37) (nI (tb_one w h e)).toNatClampNeg (nI (fb_ct (fun j => dv_P w h C j && dv_inc w h (tb_one w h e) j) e + 1)))).2.2.1 37) (nI (tb_oth w h e)).toNatClampNeg (nI (fb_ct (fun j => dv_P w h C j && dv_inc w h (tb_oth w h e) j) e + 1)))) (by omega) hv' (fun p hp => ?_) (xs_fr_ai (xs_fr_ai hfr (by decide)) (by decide))
        · rw [hbmP hP, fa_ct1 hP] at hE
          exact hE
        · rw [xs_ai_at, fb_ct_succ]
          by_cases q2 : p = tb_oth w h e
          · rw [q2, xs_upd_at (by omega), hP, show dv_inc w h (tb_oth w h e) e = true from dv_inc_y.mpr (Or.inr rfl)]; rfl
          · rw [xs_upd_ne (by omega) q2, xs_ai_at]
            by_cases q1 : p = tb_one w h e
            · rw [q1, xs_upd_at (by omega), hP, show dv_inc w h (tb_one w h e) e = true from dv_inc_y.mpr (Or.inl rfl)]; rfl
            · rw [xs_upd_ne (by omega) q1, hdg p hp, hP, if_neg (by intro z; rw [Bool.true_and] at z; exact (dv_inc_y.mp z).elim (fun y => q1 y.symm) (fun y => q2 y.symm)), Nat.add_zero]
      refine jq_iload dX6_border_37 rfl ?_
      refine jq_aload_n dX6_border_39 rfl rfl ?_
      refine xq_getI fX6_74 dX6_border_40 (xs_lt (by decide) hn) (by decide) hTY.2.2.2.2.1 ?_
      refine jq_geN (tgt := 134) dX6_border_43 (by decide) ⟨by omega, by omega⟩ (fun c43 => ?_) (fun c43 => ?_)
      · exact absurd c43 (by omega)
      · refine jq_iload_n dX6_border_46 rfl rfl ?_
        refine jq_aload_n dX6_border_47 rfl rfl ?_
        refine xq_getR 24 fX6_16 dX6_border_48 (xs_lt (by decide) hn) (by decide) ?_
        refine jq_iload dX6_border_51 rfl ?_
        refine xq_iaload dX6_border_53 (xs_lt (by decide) hn) rfl hie (xs_rd h3e (by omega)) ?_
        refine jq_ishr dX6_border_54 (ix_shr (by omega) (by omega)) ?_
        refine jq_iconst (v := (nI 1)) dX6_border_55 (by decide) ?_
        refine jq_iand dX6_border_56 ?_
        rw [fa_and, ix_bit]
        refine jq_iload_n dX6_border_57 rfl rfl ?_
        refine jq_aload_n dX6_border_58 rfl rfl ?_
        refine xq_getR 25 fX6_19 dX6_border_59 (xs_lt (by decide) hn) (by decide) ?_
        refine jq_iload dX6_border_62 rfl ?_
        refine xq_iaload dX6_border_64 (xs_lt (by decide) hn) rfl hie (xs_rd h4e (by omega)) ?_
        refine jq_ishr dX6_border_65 (ix_shr (by omega) (by omega)) ?_
        refine jq_iconst (v := (nI 1)) dX6_border_66 (by decide) ?_
        refine jq_iand dX6_border_67 ?_
        rw [fa_and, ix_bit]
        refine jq_eqN (tgt := 128) dX6_border_68 (by decide) ⟨ix_b1, ix_b1⟩ (fun c68 => ?_) (fun c68 => ?_)
        · have d68 : dv_P w h C e = false := by have q := ix_beq.mp c68; show (C.testBit (tb_are w h e) != C.testBit (tb_bes w h e)) = false; rw [q]; simp
          refine jq_iincN dX6_border_128 (by decide) rfl rfl rfl ?_
          refine jq_goto (tgt := 37) dX6_border_131 (by decide) ?_
          have hE := ih (e + 1) v Y (by omega) (rf_F1_n hv d68) (fun p hp => by rw [hdg p hp, fb_ct_succ, d68]; rfl) hfr
          rw [show bm (dv_P w h C) (e + 1) = bm (dv_P w h C) e by rw [bm_step, if_neg (by rw [d68]; decide)], fa_ct0 d68] at hE
          exact hE
        · have d68 : dv_P w h C e = true := by have q : ¬ C.testBit (tb_are w h e) = C.testBit (tb_bes w h e) := (fun z => c68 (ix_beq.mpr z)); show (C.testBit (tb_are w h e) != C.testBit (tb_bes w h e)) = true; simpa using q
          refine jq_lload_n dX6_border_71 rfl rfl ?_
          refine jq_lconst (v := (lN 1)) dX6_border_72 (by decide) ?_
          refine jq_iload dX6_border_73 rfl ?_
          refine jq_lshl dX6_border_75 (wb_shl 1 (show e < 64 by omega)) ?_
          rw [Nat.one_mul]
          refine jq_lor dX6_border_76 ?_
          rw [fb_orL]
          refine jq_lstore_n dX6_border_77 rfl (by decide) rfl rfl ?_
          refine jq_iincN dX6_border_78 (by decide) rfl rfl rfl ?_
          refine jq_iload dX6_border_81 rfl ?_
          refine jq_iconst (v := (-1)) dX6_border_83 (by decide) ?_
          refine jq_icmp_ne (tgt := 92) dX6_border_84 (by decide) (fun c84 => ?_) (fun c84 => ?_)
          · refine jq_iload dX6_border_92 rfl ?_
            first
              | exact h94 _ d68 ((rf_F1_y (by omega) hv d68).2 c84)
              | exact h94 _ d68 ((rf_F1_y (by omega) hv d68).1 c84)
          · refine jq_iload dX6_border_87 rfl ?_
            refine jq_goto (tgt := 94) dX6_border_89 (by decide) ?_
            first
              | exact h94 _ d68 ((rf_F1_y (by omega) hv d68).2 c84)
              | exact h94 _ d68 ((rf_F1_y (by omega) hv d68).1 c84)
  have loopA : ∀ (k p : Nat) (Y : xs_T), p + k = tb_np w h → (∀ j, j < p → Y.2.2.1 37 j = nI 0) → xs_fr [37] [] X Y → jq_J l G mX6_border (jq_R 2 0 0) jq_E0 (xs_Ye G n ad (xs_pl (fun v X' => v = lN (if dv_isLoop w h (dv_bd w h C) = true then dv_bd w h C else 0) ∧ xs_fr [37] [] X X'))) 11 [some (.ref (ad 21)), some (.int (nI (C))), some (.long (lN 0)), none, some (.int (nI (0))), some (.int (-1)), some (.int (nI (p))), none, none, none, none] [] n ad (xs_mem G ad Y) 0 0 := by
    intro k
    induction k with
    | zero =>
      intro p Y hk hdg hfr
      have hTY := rf_fr hT hfr
      refine jq_iload dX6_border_11 rfl ?_
      refine jq_aload_n dX6_border_13 rfl rfl ?_
      refine xq_getI fX6_83 dX6_border_14 (xs_lt (by decide) hn) (by decide) hTY.2.2.2.2.2.1 ?_
      refine jq_geN (tgt := 34) dX6_border_17 (by decide) ⟨by omega, by omega⟩ (fun c17 => ?_) (fun c17 => ?_)
      · refine jq_iconst (v := (nI 0)) dX6_border_34 (by decide) ?_
        refine jq_istore dX6_border_35 (by decide) rfl rfl ?_
        exact loopB (tb_ne w h) 0 (-1) Y (by omega) (Or.inl ⟨rfl, fun j hj => absurd hj (Nat.not_lt_zero j)⟩) (fun j hj => hdg j (by omega)) hfr
      · exact absurd c17 (by omega)
    | succ k ih =>
      intro p Y hk hdg hfr
      have hTY := rf_fr hT hfr
      have hip : vp_in (nI p) 25 := vp_inN (by omega) (by decide)
      refine jq_iload dX6_border_11 rfl ?_
      refine jq_aload_n dX6_border_13 rfl rfl ?_
      refine xq_getI fX6_83 dX6_border_14 (xs_lt (by decide) hn) (by decide) hTY.2.2.2.2.2.1 ?_
      refine jq_geN (tgt := 34) dX6_border_17 (by decide) ⟨by omega, by omega⟩ (fun c17 => ?_) (fun c17 => ?_)
      · exact absurd c17 (by omega)
      · refine jq_aload_n dX6_border_20 rfl rfl ?_
        refine xq_getR 37 fX6_56 dX6_border_21 (xs_lt (by decide) hn) (by decide) ?_
        refine jq_iload dX6_border_24 rfl ?_
        refine jq_iconst (v := (nI 0)) dX6_border_26 (by decide) ?_
        refine xq_iastore dX6_border_27 (xs_lt (by decide) hn) rfl hip ?_
        refine jq_iincN dX6_border_28 (by decide) rfl rfl rfl ?_
        refine jq_goto (tgt := 11) dX6_border_31 (by decide) ?_
        refine ih (p + 1) _ (by omega) (fun j hj => ?_) (xs_fr_ai hfr (by decide))
        rw [xs_ai_at]
        by_cases q : j = p
        · rw [q, xs_upd_at (by omega)]
        · rw [xs_upd_ne (by omega) q]; exact hdg j (by omega)
  refine xs_Ct_of (L := [some (.ref (ad 21)), some (.int (nI (C))), none, none, none, none, none, none, none, none, none]) rfl (Nat.le_of_ble_eq_true rfl) rfl ?_
  refine jq_lconst (v := (lN 0)) dX6_border_0 (by decide) ?_
  refine jq_lstore_n dX6_border_1 rfl (by decide) rfl rfl ?_
  refine jq_iconst (v := (nI 0)) dX6_border_2 (by decide) ?_
  refine jq_istore dX6_border_3 (by decide) rfl rfl ?_
  refine jq_iconst (v := (-1)) dX6_border_5 (by decide) ?_
  refine jq_istore dX6_border_6 (by decide) rfl rfl ?_
  refine jq_iconst (v := (nI 0)) dX6_border_8 (by decide) ?_
  refine jq_istore dX6_border_9 (by decide) rfl rfl ?_
  exact loopA (tb_np w h) 0 X (by omega) (fun j hj => absurd hj (Nat.not_lt_zero j)) xs_fr_rf
