/-! the law's solves: helpers and the end -/
theorem ls_cmp (x : Int64) : lg_cmp x x = 0 := by
  unfold lg_cmp
  have h : ¬ x > x := by simp [Int64.lt_iff_toInt_lt]
  rw [if_neg h, if_pos rfl]
def ls_I (w h : Nat) (num : Nat → Int32) (mk : Nat → Nat) (Y : xs_T) : Prop := lk_Lw 29 w h num mk Y ∧ dv_A w h num mk Y ∧ dv_LC w h Y ∧ (24 < 29 ∧ 21 ≤ 24 ∧ (Y.1 24 0).toNatClampNeg = 24) ∧ (25 < 29 ∧ 21 ≤ 25 ∧ (Y.1 25 0).toNatClampNeg = 24) ∧ (Y.1 26 0).toNatClampNeg = 24 ∧ (Y.1 27 0).toNatClampNeg = 24 ∧ (28 < 29 ∧ 21 ≤ 28 ∧ (Y.1 28 0).toNatClampNeg = 4)
theorem ls_fr {w h : Nat} {num : Nat → Int32} {mk : Nat → Nat} {S : List Nat} {F : List (Nat × Nat)} {Y Y' : xs_T} (hI : ls_I w h num mk Y) (hf : xs_fr S F Y Y') (hA : dv_A w h num mk Y') (hC : dv_LC w h Y') (hq : (([21, 22, 23] : List Nat).all (fun q => !decide (q ∈ S)) && ([(21, 0), (22, 0), (23, 0)] : List (Nat × Nat)).all (fun q => !decide (q ∈ F))) = true := by decide) (h5 : ([(24, 0), (25, 0), (26, 0), (27, 0), (28, 0)] : List (Nat × Nat)).all (fun q => !decide (q ∈ F)) = true := by decide) : ls_I w h num mk Y' := by
  simp only [List.all_cons, List.all_nil, Bool.and_true, Bool.and_eq_true, Bool.not_eq_true', decide_eq_false_iff_not] at h5
  obtain ⟨a4, a5, a6, a7, a8⟩ := h5
  obtain ⟨hL, _, _, z4, z5, z6, z7, z8⟩ := hI
  exact ⟨lk_fr hL hf hq, hA, hC, ⟨z4.1, z4.2.1, by rw [(hf.1 _ _ a4).1]; exact z4.2.2⟩, ⟨z5.1, z5.2.1, by rw [(hf.1 _ _ a5).1]; exact z5.2.2⟩, by rw [(hf.1 _ _ a6).1]; exact z6, by rw [(hf.1 _ _ a7).1]; exact z7, ⟨z8.1, z8.2.1, by rw [(hf.1 _ _ a8).1]; exact z8.2.2⟩⟩
theorem ls_frL {w h : Nat} {num : Nat → Int32} {mk : Nat → Nat} {Y Y' : xs_T} (hI : ls_I w h num mk Y) (hf : xs_fr dv_SL dv_FL Y Y') (hC : dv_LC w h Y') : ls_I w h num mk Y' := ls_fr hI hf (dv_afr hI.2.1 hf) hC
theorem ls_Z {w h : Nat} {num : Nat → Int32} {mk : Nat → Nat} {Y : xs_T} (hI : ls_I w h num mk Y) (hn0 : ∀ c, c < tb_nc w h → tb_numOk (num c) = true) : lk_Z Y := ⟨w, h, num, mk, lk_24 hI.1, hI.2.1, hI.2.2.1, hn0⟩
theorem ls_prv {w h : Nat} {num : Nat → Int32} {mk : Nat → Nat} {e : Nat} : tb_beyB w h num mk e = (decide (0 < tb_prv w h num mk e) && (tb_follow w h num mk).1 e == 0) := by
  unfold tb_beyB tb_prv
  by_cases a : tb_wi w h num mk e = tb_cnt2 w h num mk (-1)
  · rw [if_pos a, beq_iff_eq.mpr a]; cases ((tb_follow w h num mk).1 e == 0) <;> rfl
  · rw [if_neg a, beq_eq_false_iff_ne.mpr a]
    by_cases b : tb_wi w h num mk e = 0
    · rw [if_pos b, beq_iff_eq.mpr b]; cases ((tb_follow w h num mk).1 e == 0) <;> rfl
    · rw [if_neg b, beq_eq_false_iff_ne.mpr b]; cases ((tb_follow w h num mk).1 e == 0) <;> rfl
theorem ls_b (b : Bool) : tb_b b = nI (if b = true then 1 else 0) := by cases b <;> decide
theorem ls_sid {w h : Nat} (k : lr_k w h) : ∀ c, c < tb_nc w h → tb_bes w h (tb_sid w h c 2) = c ∧ tb_are w h (tb_sid w h c 2) = if c % w = 0 then tb_nc w h else c - 1 :=
  tb_all (P := fun w h => ∀ c, c < tb_nc w h → tb_bes w h (tb_sid w h c 2) = c ∧ tb_are w h (tb_sid w h c 2) = if c % w = 0 then tb_nc w h else c - 1) (by decide +kernel) (lr_W k)
theorem ls_side {w h : Nat} (k : lr_k w h) {C c : Nat} (hC : C < 2 ^ tb_nc w h) (hc : c < tb_nc w h) : (dv_bd w h C).testBit (tb_sid w h c 2) = ((if c % w = 0 then false else C.testBit (c - 1)) != C.testBit c) := by
  rw [dv_bd_bit (tb_sides (lr_W k) c hc 2 (by decide)), (ls_sid k c hc).1, (ls_sid k c hc).2]
  by_cases z : c % w = 0
  · rw [if_pos z, if_pos z, bm_hi hC (Nat.le_refl _)]
  · rw [if_neg z, if_neg z]
theorem ls_xor (a b : Bool) : tb_b b = nI (if a = true then 1 else 0) ^^^ nI (if (a != b) = true then 1 else 0) := by cases a <;> cases b <;> decide
set_option maxHeartbeats 16000000 in
theorem sv_end {l : Launch} {G : jq_G} {ad ad5 : Nat → Nat} {Y : xs_T} {w h : Nat} {num : Nat → Int32} {mk : Nat → Nat} (hl : l.stackTraces = false) (ha5 : ∀ k, k < 24 → ad5 k = ad k) (hI : ls_I w h num mk Y) (hn0 : ∀ c, c < tb_nc w h → tb_numOk (num c) = true) (hw : ∀ e, e < tb_ne w h → Y.2.2.1 24 (nI e).toNatClampNeg = nI (tb_wi w h num mk e)) (hs : ∀ e, e < tb_ne w h → Y.2.2.1 25 (nI e).toNatClampNeg = nI ((tb_follow w h num mk).1 e)) (hst : ∀ e, e < tb_ne w h → (tb_follow w h num mk).1 e ≤ 2) (hpos : 0 < tb_cnt2 w h num mk (-1)) (y : Int32) (ii iv ce sl : Nat) (hce : ce ≤ 1650) (hsl : sl ≤ 44000) (o13 o14 o15 o16 o17 : Option Value) (v18 v19 : Int32) (o20 o21 : Option Value) : jq_J l G mL_solves (jq_R 26 1700 45000) (jx_E []) (xj_Ye G 24 ad (xs_pi (fun r X' => r = nI 1 ∧ lk_Z X')) 1700 45000) 446 [some (.ref (ad5 0)), some (.int (y)), some (.ref (ad5 21)), some (.ref (ad5 22)), some (.ref (ad5 23)), some (.ref (ad5 24)), some (.ref (ad5 25)), some (.ref (ad5 26)), some (.ref (ad5 27)), some (.ref (ad5 28)), some (.int (nI (ii))), some (.int (nI (iv))), some (.int (nI (tb_cnt2 w h num mk (-1)))), o13, o14, o15, o16, o17, some (.int (v18)), some (.int (v19)), o20, o21] [] (29) ad5 (xs_mem G ad5 Y) (ce) (sl) := by
  have hk := hI.1.1.2.2.2
  have hz := lr_sz hk
  have hn : 21 ≤ 29 := by decide
  have hcn := tb_cnt2_le (lr_W hk) num mk (-1)
  have loop : ∀ (k e : Nat) (Z : xs_T) (o21 : Option Value), e + k = tb_ne w h → ls_I w h num mk Z → Z.2.2.1 24 = Y.2.2.1 24 → Z.2.2.1 25 = Y.2.2.1 25 → jq_J l G mL_solves (jq_R 26 1700 45000) (jx_E []) (xj_Ye G 24 ad (xs_pi (fun r X' => r = nI 1 ∧ lk_Z X')) 1700 45000) 452 [some (.ref (ad5 0)), some (.int (y)), some (.ref (ad5 21)), some (.ref (ad5 22)), some (.ref (ad5 23)), some (.ref (ad5 24)), some (.ref (ad5 25)), some (.ref (ad5 26)), some (.ref (ad5 27)), some (.ref (ad5 28)), some (.int (nI (ii))), some (.int (nI (iv))), some (.int (nI (tb_cnt2 w h num mk (-1)))), o13, o14, o15, o16, o17, some (.int (v18)), some (.int (nI (fb_ct (tb_beyB w h num mk) e))), some (.int (nI (e))), o21] [] (29) ad5 (xs_mem G ad5 Z) (ce + e) (sl + 6 * e) := by
    intro k
    induction k with
    | zero =>
      intro e Z o21 he hI e24 e25
      have hB := hI.1.1
      have e1 : e = tb_ne w h := by omega
      subst e1
      have hno : (tb_inB (nI (tb_ne w h)) (tb_ne w h) && decide (0 < tb_cnt2 w h num mk (-1))) = false := by rw [lk_notin (by omega)]; rfl
      refine jq_iload dL_solves_452 rfl ?_
      refine jq_aload_n dL_solves_454 rfl rfl ?_
      refine xq_sI dL_solves_455 kL_32 (c_L_edges hB) rfl rfl (Nat.le_of_ble_eq_true rfl) (⟨⟨by decide, by decide⟩, by show _ ≤ 1700; omega, by show _ ≤ 45000; omega⟩) ?_
      refine jq_geN (tgt := 532) dL_solves_458 (by decide) ⟨by omega, by omega⟩ (fun c458 => ?_) (fun c458 => ?_)
      · refine jq_aload_n dL_solves_532 rfl rfl ?_
        refine xx_sI (M' := mL_beyond) (hh := hL_beyond) (na := 1) jx_E_ok dL_solves_533 gL_197 ⟨by decide, by decide, by decide +kernel⟩ (c_L_beyond_ok hn hI.2.1 hI.2.2.1 hpos) rfl rfl (Nat.le_of_ble_eq_true rfl) (⟨⟨by decide, by decide⟩, by show _ ≤ 1700; omega, by show _ ≤ 45000; omega⟩) (fun v533 X533 h533 => ?_)
        obtain ⟨r533, f533, l533⟩ := h533
        have hI2 := ls_fr hI f533 (dv_afr hI.2.1 f533) l533
        refine jq_iload dL_solves_536 rfl ?_
        refine jq_icmp_ne (tgt := 558) dL_solves_538 (by decide) (fun c538 => ?_) (fun c538 => ?_)
        · exact absurd r533 c538
        · refine jq_aload_n dL_solves_541 rfl rfl ?_
          refine jq_aload_n dL_solves_542 rfl rfl ?_
          refine xq_sI dL_solves_543 kL_32 (c_L_edges hI2.1.1) rfl rfl (Nat.le_of_ble_eq_true rfl) (⟨⟨by decide, by decide⟩, by show _ ≤ 1700; omega, by show _ ≤ 45000; omega⟩) ?_
          refine xx_sI (M' := mL_proved) (hh := hL_proved) (na := 2) jx_E_ok dL_solves_546 gL_194 ⟨by decide, by decide, by decide +kernel⟩ (c_L_proved_no hl hn hI2.2.1 hI2.2.2.1 _ hno) rfl rfl (Nat.le_of_ble_eq_true rfl) (⟨⟨by decide, by decide⟩, by show _ ≤ 1700; omega, by show _ ≤ 45000; omega⟩) (fun v546 X546 h546 => ?_)
          obtain ⟨r546, f546, l546⟩ := h546
          rw [lk_notin (by omega)] at r546
          have hI3 := ls_frL hI2 f546 l546
          refine jq_bipush (v := (-101)) dL_solves_549 (by decide) ?_
          refine jq_icmp_ne (tgt := 558) dL_solves_551 (by decide) (fun c551 => ?_) (fun c551 => ?_)
          · exact absurd r546 c551
          · refine jq_iconst (v := (nI 1)) dL_solves_554 (by decide) ?_
            refine jq_goto (tgt := 559) dL_solves_555 (by decide) ?_
            exact xj_ireturn dL_solves_559 rfl rfl (⟨by show _ ≤ 1700; omega, by show _ ≤ 45000; omega⟩) (by omega) (by omega) ha5 (⟨_, rfl, rfl, ls_Z hI3 hn0⟩)
      · exact absurd c458 (by omega)
    | succ k ih =>
      intro e Z o21 he hI e24 e25
      have hB := hI.1.1
      have hee : e < tb_ne w h := by omega
      have hi : vp_in (nI e) 24 := vp_inN (by omega) (by decide)
      have w24 : Z.2.2.1 24 (nI e).toNatClampNeg = nI (tb_wi w h num mk e) := by rw [e24]; exact hw e hee
      have w25 : Z.2.2.1 25 (nI e).toNatClampNeg = nI ((tb_follow w h num mk).1 e) := by rw [e25]; exact hs e hee
      have hwl := tb_wi_le (lr_W hk) num mk e
      have hfl : (tb_follow w h num mk).1 e ≤ 2 := hst e hee
      have hctl := fb_ct_le (tb_beyB w h num mk) e
      have s510 : ∀ (due b : Nat), due = tb_prv w h num mk e → b = (if tb_beyB w h num mk e = true then 1 else 0) → jq_J l G mL_solves (jq_R 26 1700 45000) (jx_E []) (xj_Ye G 24 ad (xs_pi (fun r X' => r = nI 1 ∧ lk_Z X')) 1700 45000) 510 [some (.ref (ad5 0)), some (.int (y)), some (.ref (ad5 21)), some (.ref (ad5 22)), some (.ref (ad5 23)), some (.ref (ad5 24)), some (.ref (ad5 25)), some (.ref (ad5 26)), some (.ref (ad5 27)), some (.ref (ad5 28)), some (.int (nI (ii))), some (.int (nI (iv))), some (.int (nI (tb_cnt2 w h num mk (-1)))), o13, o14, o15, o16, o17, some (.int (v18)), some (.int (nI (fb_ct (tb_beyB w h num mk) e))), some (.int (nI (e))), some (.int (nI (due)))] [.int (nI (b)), .int (nI (fb_ct (tb_beyB w h num mk) e))] (29) ad5 (xs_mem G ad5 Z) (ce + e) (sl + 6 * e) := by
        intro due b hd hb
        have hgo := fun X I p q => ih (e + 1) X (some (.int (nI due))) (by omega) I p q
        rw [fb_ct_succ, ← hb] at hgo
        refine jq_iaddN dL_solves_510 ?_
        refine jq_istore dL_solves_511 (by decide) rfl rfl ?_
        refine jq_aload_n dL_solves_513 rfl rfl ?_
        refine jq_iload dL_solves_514 rfl ?_
        refine xx_sI (M' := mL_proved) (hh := hL_proved) (na := 2) jx_E_ok dL_solves_516 gL_194 ⟨by decide, by decide, by decide +kernel⟩ (c_L_proved_ok hn hI.2.1 hI.2.2.1 hee hpos) rfl rfl (Nat.le_of_ble_eq_true rfl) (⟨⟨by decide, by decide⟩, by show _ ≤ 1700; omega, by show _ ≤ 45000; omega⟩) (fun v516 X516 h516 => ?_)
        obtain ⟨r516, f516, l516⟩ := h516
        refine jq_iload dL_solves_519 rfl ?_
        refine jq_icmp_eq (tgt := 526) dL_solves_521 (by decide) (fun c521 => ?_) (fun c521 => ?_)
        · refine jq_iincN dL_solves_526 (by decide) rfl rfl rfl ?_
          refine jq_goto (tgt := 452) dL_solves_529 (by decide) ?_
          exact hgo _ (ls_frL hI f516 l516) ((xs_fa f516 24).trans e24) ((xs_fa f516 25).trans e25)
        · exact absurd (r516.trans (by rw [hd])) c521
      have s488 : ∀ (due : Nat), due = tb_prv w h num mk e → jq_J l G mL_solves (jq_R 26 1700 45000) (jx_E []) (xj_Ye G 24 ad (xs_pi (fun r X' => r = nI 1 ∧ lk_Z X')) 1700 45000) 488 [some (.ref (ad5 0)), some (.int (y)), some (.ref (ad5 21)), some (.ref (ad5 22)), some (.ref (ad5 23)), some (.ref (ad5 24)), some (.ref (ad5 25)), some (.ref (ad5 26)), some (.ref (ad5 27)), some (.ref (ad5 28)), some (.int (nI (ii))), some (.int (nI (iv))), some (.int (nI (tb_cnt2 w h num mk (-1)))), o13, o14, o15, o16, o17, some (.int (v18)), some (.int (nI (fb_ct (tb_beyB w h num mk) e))), some (.int (nI (e))), o21] [.int (nI (due))] (29) ad5 (xs_mem G ad5 Z) (ce + e) (sl + 6 * e) := by
        intro due hd
        have hd2 : due ≤ 2 := by rw [hd]; unfold tb_prv; split <;> (try split) <;> omega
        have hby : ∀ (p : Bool), ((decide (0 < due) && (tb_follow w h num mk).1 e == 0) = p) → (if tb_beyB w h num mk e = true then 1 else 0) = (if p = true then 1 else 0) := fun p z => by rw [ls_prv, ← hd, z]
        refine jq_istore dL_solves_488 (by decide) rfl rfl ?_
        refine jq_iload dL_solves_490 rfl ?_
        refine jq_iload dL_solves_492 rfl ?_
        refine jq_leZ (tgt := 509) dL_solves_494 (by decide) (by omega) (fun c494 => ?_) (fun c494 => ?_)
        · have hp := (hby false (by rw [c494]; rfl)).symm
          refine jq_iconst (v := (nI 0)) dL_solves_509 (by decide) ?_
          exact s510 due _ hd hp
        · refine jq_aload dL_solves_497 rfl ?_
          refine jq_iload dL_solves_499 rfl ?_
          refine xq_iald dL_solves_501 (hI.2.2.2.2.1) (hi) (w25) ?_
          refine jq_neZ (tgt := 509) dL_solves_502 (by decide) (by omega) (fun c502 => ?_) (fun c502 => ?_)
          · have hp := (hby false (by rw [beq_eq_false_iff_ne.mpr c502, Bool.and_false])).symm
            refine jq_iconst (v := (nI 0)) dL_solves_509 (by decide) ?_
            exact s510 due _ hd hp
          · have hp := (hby true (by rw [c502, decide_eq_true c494]; rfl)).symm
            refine jq_iconst (v := (nI 1)) dL_solves_505 (by decide) ?_
            refine jq_goto (tgt := 510) dL_solves_506 (by decide) ?_
            exact s510 due _ hd hp
      refine jq_iload dL_solves_452 rfl ?_
      refine jq_aload_n dL_solves_454 rfl rfl ?_
      refine xq_sI dL_solves_455 kL_32 (c_L_edges hB) rfl rfl (Nat.le_of_ble_eq_true rfl) (⟨⟨by decide, by decide⟩, by show _ ≤ 1700; omega, by show _ ≤ 45000; omega⟩) ?_
      refine jq_geN (tgt := 532) dL_solves_458 (by decide) ⟨by omega, by omega⟩ (fun c458 => ?_) (fun c458 => ?_)
      · exact absurd c458 (by omega)
      · refine jq_aload dL_solves_461 rfl ?_
        refine jq_iload dL_solves_463 rfl ?_
        refine xq_iald dL_solves_465 (hI.2.2.2.1) (hi) (w24) ?_
        refine jq_iload dL_solves_466 rfl ?_
        refine jq_neN (tgt := 475) dL_solves_468 (by decide) ⟨by omega, by omega⟩ (fun c468 => ?_) (fun c468 => ?_)
        · refine jq_aload dL_solves_475 rfl ?_
          refine jq_iload dL_solves_477 rfl ?_
          refine xq_iald dL_solves_479 (hI.2.2.2.1) (hi) (w24) ?_
          refine jq_neZ (tgt := 487) dL_solves_480 (by decide) (by omega) (fun c480 => ?_) (fun c480 => ?_)
          · have hp : 0 = tb_prv w h num mk e := by unfold tb_prv; rw [if_neg c468, if_neg c480]
            refine jq_iconst (v := (nI 0)) dL_solves_487 (by decide) ?_
            exact s488 _ hp
          · have hp : 2 = tb_prv w h num mk e := by unfold tb_prv; rw [if_neg c468, if_pos c480]
            refine jq_iconst (v := (nI 2)) dL_solves_483 (by decide) ?_
            refine jq_goto (tgt := 488) dL_solves_484 (by decide) ?_
            exact s488 _ hp
        · have hp : 1 = tb_prv w h num mk e := by unfold tb_prv; rw [if_pos c468]
          refine jq_iconst (v := (nI 1)) dL_solves_471 (by decide) ?_
          refine jq_goto (tgt := 488) dL_solves_472 (by decide) ?_
          exact s488 _ hp
  refine jq_iconst (v := (nI 0)) dL_solves_446 (by decide) ?_
  refine jq_istore dL_solves_447 (by decide) rfl rfl ?_
  refine jq_iconst (v := (nI 0)) dL_solves_449 (by decide) ?_
  refine jq_istore dL_solves_450 (by decide) rfl rfl ?_
  exact loop (tb_ne w h) 0 Y _ (by omega) hI rfl rfl
