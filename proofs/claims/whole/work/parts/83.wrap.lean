/-! the law's wrappers: what is caught where; their contracts. printed by wip/whole/gen/mk83.py -/
theorem uL_13 : Cond.classLink RL 13 jx_nA ∈ jq_big := jq_in1 517 (by decide +kernel) rfl
theorem jx_cA : Cond.castable jx_nA jx_nA ∈ jx_bad := by decide +kernel
theorem uL_19 : Cond.classLink RL 19 jx_nB ∈ jq_big := jq_in1 597 (by decide +kernel) rfl
theorem jx_cB : Cond.castable jx_nB jx_nB ∈ jx_bad := by decide +kernel
theorem uL_48 : Cond.classLink RL 48 jx_nS ∈ jq_big := jq_in1 698 (by decide +kernel) rfl
theorem jx_cS : Cond.castable jx_nS jx_nS ∈ jx_bad := by decide +kernel
theorem at_lay_A : jx_at (tableOf hL_lay) RL 3 jx_nA 9 := ⟨[], { startPc := 0, endPc := 6, handlerPc := 9, catchType := 13 }, [], _, rfl, (fun z hz => by cases hz), ⟨by decide, by decide, rfl⟩, uL_13, jx_cA⟩
theorem at_number_B : jx_at (tableOf hL_number) RL 5 jx_nB 13 := ⟨[], { startPc := 0, endPc := 10, handlerPc := 13, catchType := 19 }, [{ startPc := 0, endPc := 10, handlerPc := 17, catchType := 13 }], _, rfl, (fun z hz => by cases hz), ⟨by decide, by decide, rfl⟩, uL_19, jx_cB⟩
theorem at_number_A : jx_at (tableOf hL_number) RL 5 jx_nA 17 := ⟨[({ startPc := 0, endPc := 10, handlerPc := 13, catchType := 19 } : ExceptionTableEntry)], { startPc := 0, endPc := 10, handlerPc := 17, catchType := 13 }, [], _, rfl, (fun z hz => by rw [List.mem_singleton.mp hz]; exact Or.inr ⟨by decide, _, uL_19, by decide +kernel⟩), ⟨by decide, by decide, rfl⟩, uL_13, jx_cA⟩
theorem at_mark_B : jx_at (tableOf hL_mark) RL 5 jx_nB 13 := ⟨[], { startPc := 0, endPc := 10, handlerPc := 13, catchType := 19 }, [{ startPc := 0, endPc := 10, handlerPc := 17, catchType := 13 }], _, rfl, (fun z hz => by cases hz), ⟨by decide, by decide, rfl⟩, uL_19, jx_cB⟩
theorem at_mark_A : jx_at (tableOf hL_mark) RL 5 jx_nA 17 := ⟨[({ startPc := 0, endPc := 10, handlerPc := 13, catchType := 19 } : ExceptionTableEntry)], { startPc := 0, endPc := 10, handlerPc := 17, catchType := 13 }, [], _, rfl, (fun z hz => by rw [List.mem_singleton.mp hz]; exact Or.inr ⟨by decide, _, uL_19, by decide +kernel⟩), ⟨by decide, by decide, rfl⟩, uL_13, jx_cA⟩
theorem at_edgeOf_B : jx_at (tableOf hL_edgeOf) RL 5 jx_nB 13 := ⟨[], { startPc := 0, endPc := 10, handlerPc := 13, catchType := 19 }, [], _, rfl, (fun z hz => by cases hz), ⟨by decide, by decide, rfl⟩, uL_19, jx_cB⟩
theorem at_follows_B : jx_at (tableOf hL_follows) RL 4 jx_nB 12 := ⟨[], { startPc := 0, endPc := 9, handlerPc := 12, catchType := 19 }, [], _, rfl, (fun z hz => by cases hz), ⟨by decide, by decide, rfl⟩, uL_19, jx_cB⟩
theorem at_roundOf_B : jx_at (tableOf hL_roundOf) RL 4 jx_nB 12 := ⟨[], { startPc := 0, endPc := 9, handlerPc := 12, catchType := 19 }, [], _, rfl, (fun z hz => by cases hz), ⟨by decide, by decide, rfl⟩, uL_19, jx_cB⟩
theorem at_ruleOf_B : jx_at (tableOf hL_ruleOf) RL 4 jx_nB 12 := ⟨[], { startPc := 0, endPc := 9, handlerPc := 12, catchType := 19 }, [], _, rfl, (fun z hz => by cases hz), ⟨by decide, by decide, rfl⟩, uL_19, jx_cB⟩
theorem at_answer_B : jx_at (tableOf hL_answer) RL 4 jx_nB 11 := ⟨[], { startPc := 0, endPc := 8, handlerPc := 11, catchType := 19 }, [], _, rfl, (fun z hz => by cases hz), ⟨by decide, by decide, rfl⟩, uL_19, jx_cB⟩
theorem at_isInside_B : jx_at (tableOf hL_isInside) RL 5 jx_nB 20 := ⟨[], { startPc := 0, endPc := 17, handlerPc := 20, catchType := 19 }, [], _, rfl, (fun z hz => by cases hz), ⟨by decide, by decide, rfl⟩, uL_19, jx_cB⟩
theorem at_proved_B : jx_at (tableOf hL_proved) RL 4 jx_nB 12 := ⟨[], { startPc := 0, endPc := 9, handlerPc := 12, catchType := 19 }, [{ startPc := 0, endPc := 9, handlerPc := 15, catchType := 48 }], _, rfl, (fun z hz => by cases hz), ⟨by decide, by decide, rfl⟩, uL_19, jx_cB⟩
theorem at_proved_S : jx_at (tableOf hL_proved) RL 4 jx_nS 15 := ⟨[({ startPc := 0, endPc := 9, handlerPc := 12, catchType := 19 } : ExceptionTableEntry)], { startPc := 0, endPc := 9, handlerPc := 15, catchType := 48 }, [], _, rfl, (fun z hz => by rw [List.mem_singleton.mp hz]; exact Or.inr ⟨by decide, _, uL_19, by decide +kernel⟩), ⟨by decide, by decide, rfl⟩, uL_48, jx_cS⟩
theorem at_beyondRules_S : jx_at (tableOf hL_beyondRules) RL 3 jx_nS 11 := ⟨[], { startPc := 0, endPc := 8, handlerPc := 11, catchType := 48 }, [], _, rfl, (fun z hz => by cases hz), ⟨by decide, by decide, rfl⟩, uL_48, jx_cS⟩
theorem at_isNeeded_B : jx_at (tableOf hL_isNeeded) RL 4 jx_nB 19 := ⟨[], { startPc := 0, endPc := 16, handlerPc := 19, catchType := 19 }, [], _, rfl, (fun z hz => by cases hz), ⟨by decide, by decide, rfl⟩, uL_19, jx_cB⟩
def tb_l (b : Bool) : Int64 := if b then 1 else 0
theorem dv_lcfr {w h : Nat} {S : List Nat} {F : List (Nat × Nat)} {X Y : xs_T} (hL : dv_LC w h X) (hf : xs_fr S F X Y) (hq : (!decide (20 ∈ S) && !decide ((19, 2) ∈ F)) = true := by decide) (hq2 : decide ((19, 3) ∈ F) = false := by decide) : dv_LC w h Y := hL.imp (fun q => xs_fi hf 19 3 q hq2) (fun q => ⟨xs_fi hf 19 3 q.1 hq2, dv_lsfr q.2 hf hq⟩)
theorem out_at {Y : xs_T} {f : Nat → Int64} {v : Int64} : (xs_al Y 39 (vp_updL f (nI 0).toNatClampNeg v)).2.2.2 39 0 = v := by rw [xs_al_at, xs_updL_at (by decide)]
theorem out_fr {Y : xs_T} {f : Nat → Int64} : xs_fr [39] [] Y (xs_al Y 39 f) := xs_fr_al xs_fr_rf (by decide)
set_option maxHeartbeats 4000000 in
theorem c_L_lay_ok {l : Launch} {G : jq_G} {n : Nat} {ad : Nat → Nat} {X : xs_T} (hn : 40 ≤ n) {w h : Nat} (hW : tb_W w h) : xx_Cw l G mL_lay hL_lay 24 [.ref (ad 0), .int (nI (w)), .int (nI (h))] n ad X (xs_pi (fun r X' => r = nI 0 ∧ xs_fr dv_SY dv_FY X X' ∧ dv_A w h (fun _ => -1) (fun _ => 0) X' ∧ dv_LC w h X')) := by
  have hn2 : 21 ≤ n := by omega
  refine xx_Cw_of (L := [some (.ref (ad 0)), some (.int (nI (w))), some (.int (nI (h))), none]) rfl (Nat.le_of_ble_eq_true rfl) rfl ?_
  refine jq_aload_n dL_lay_0 rfl rfl ?_
  refine jq_iload_n dL_lay_1 rfl rfl ?_
  refine jq_iload_n dL_lay_2 rfl rfl ?_
  refine xq_rV dL_lay_3 kL_7 (c_X5_lay_ok hn2 hW) (xs_lt (by decide) hn) ⟨rfl, rfl⟩ rfl rfl (Nat.le_of_ble_eq_true rfl) ⟨⟨by decide, by decide⟩, by decide, by decide⟩ (fun X3 h3 => ?_)
  refine jq_goto (tgt := 12) dL_lay_6 (by decide) ?_
  refine jq_iconst (v := (nI 0)) dL_lay_12 (by decide) ?_
  exact xz_ireturn dL_lay_13 rfl rfl (by decide) (⟨_, rfl, rfl, h3⟩)
set_option maxHeartbeats 4000000 in
theorem c_L_lay_no {l : Launch} {G : jq_G} {n : Nat} {ad : Nat → Nat} {X : xs_T} (hl : l.stackTraces = false) (hn : 40 ≤ n) (x y : Int32) (hno : (tb_w4 x && tb_w4 y) = false) : xx_Cw l G mL_lay hL_lay 24 [.ref (ad 0), .int (x), .int (y)] n ad X (xs_pi (fun r X' => r = 1 ∧ X' = X)) := by
  have hn2 : 21 ≤ n := by omega
  have hhA : (1 : Int32) = 1 → ∀ (q9 : Addr) (X1 : xs_T), (X1 = X) → jq_J l G mL_lay (jq_R 24 1 6) (jx_E (tableOf hL_lay)) (xx_Yw G n ad (xs_pi (fun r X' => r = 1 ∧ X' = X))) 9 [some (.ref (ad 0)), some (.int (x)), some (.int (y)), none] [.ref q9] n ad (xs_mem G ad X1) 1 6 := by
    intro hr q9 X1 hpost
    refine jq_astore_n dL_lay_9 rfl (by decide) rfl rfl ?_
    refine jq_iconst (v := 1) dL_lay_10 (by decide) ?_
    exact xz_ireturn dL_lay_11 rfl rfl (by decide) (⟨_, rfl, hr, hpost⟩)
  refine xx_Cw_of (L := [some (.ref (ad 0)), some (.int (x)), some (.int (y)), none]) rfl (Nat.le_of_ble_eq_true rfl) rfl ?_
  refine jq_aload_n dL_lay_0 rfl rfl ?_
  refine jq_iload_n dL_lay_1 rfl rfl ?_
  refine jq_iload_n dL_lay_2 rfl rfl ?_
  exact xx_invc 9 dL_lay_3 kL_7 hL_7 (c_X5_lay_no hl x y hno) (xs_lt (by decide) hn) ⟨rfl, rfl⟩ rfl rfl (Nat.le_of_ble_eq_true rfl) ⟨⟨by decide, by decide⟩, by decide, by decide⟩ (fun E X1 q9 hE => ⟨by rw [hE.1]; exact at_lay_A, hhA rfl q9 X1 hE.2⟩)
set_option maxHeartbeats 4000000 in
theorem c_L_number_ok {l : Launch} {G : jq_G} {n : Nat} {ad : Nat → Nat} {X : xs_T} (hn : 40 ≤ n) {w h : Nat} {num : Nat → Int32} {mk : Nat → Nat} (hA : dv_A w h num mk X) {c : Nat} (hc : c < tb_nc w h) {v : Int32} (hv : tb_numOk v = true) : xx_Cw l G mL_number hL_number 24 [.ref (ad 0), .int (nI (c)), .int (v), .ref (ad 39)] n ad X (xs_pi (fun r X' => r = nI 0 ∧ xs_fr [2, 39] [] X X' ∧ dv_A w h (tb_up num c v) mk X' ∧ X'.2.2.2 39 0 = (num c).toInt64)) := by
  have hn2 : 21 ≤ n := by omega
  have hi0 : vp_in (nI 0) 1 := vp_inN (by decide) (by decide)
  refine xx_Cw_of (L := [some (.ref (ad 0)), some (.int (nI (c))), some (.int (v)), some (.ref (ad 39)), none]) rfl (Nat.le_of_ble_eq_true rfl) rfl ?_
  refine jq_aload_n dL_number_0 rfl rfl ?_
  refine jq_iconst (v := (nI 0)) dL_number_1 (by decide) ?_
  refine jq_aload_n dL_number_2 rfl rfl ?_
  refine jq_iload_n dL_number_3 rfl rfl ?_
  refine jq_iload_n dL_number_4 rfl rfl ?_
  refine xq_rI dL_number_5 kL_15 (c_X5_number_ok hn2 hA hc hv) (xs_lt (by decide) hn) ⟨rfl, rfl⟩ rfl rfl (Nat.le_of_ble_eq_true rfl) ⟨⟨by decide, by decide⟩, by decide, by decide⟩ (fun v5 X5 h5 => ?_)
  obtain ⟨a1, a2, a3⟩ := h5
  subst a1
  refine jq_i2l dL_number_8 rfl ?_
  refine xq_lastore dL_number_9 (xs_lt (by decide) hn) rfl hi0 ?_
  refine jq_goto (tgt := 21) dL_number_10 (by decide) ?_
  refine jq_iconst (v := (nI 0)) dL_number_21 (by decide) ?_
  exact xz_ireturn dL_number_22 rfl rfl (by decide) (⟨_, rfl, rfl, xs_fr_tr (xs_fr_mo a2 (by decide)) (xs_fr_mo out_fr (by decide)), dv_afr a3 out_fr, out_at⟩)
set_option maxHeartbeats 4000000 in
theorem c_L_number_no {l : Launch} {G : jq_G} {n : Nat} {ad : Nat → Nat} {X : xs_T} (hl : l.stackTraces = false) (hn : 40 ≤ n) {w h : Nat} (hT : dv_T w h X) (x v : Int32) (hno : (tb_inB x (tb_nc w h) && tb_numOk v) = false) : xx_Cw l G mL_number hL_number 24 [.ref (ad 0), .int (x), .int (v), .ref (ad 39)] n ad X (xs_pi (fun r X' => r = tb_thr (tb_inB x (tb_nc w h)) (tb_numOk v) ∧ X' = X)) := by
  have hn2 : 21 ≤ n := by omega
  have hhB : (1 : Int32) = tb_thr (tb_inB x (tb_nc w h)) (tb_numOk v) → ∀ (q9 : Addr) (X1 : xs_T), (X1 = X) → jq_J l G mL_number (jq_R 24 1 6) (jx_E (tableOf hL_number)) (xx_Yw G n ad (xs_pi (fun r X' => r = tb_thr (tb_inB x (tb_nc w h)) (tb_numOk v) ∧ X' = X))) 13 [some (.ref (ad 0)), some (.int (x)), some (.int (v)), some (.ref (ad 39)), none] [.ref q9] n ad (xs_mem G ad X1) 1 6 := by
    intro hr q9 X1 hpost
    refine jq_astore dL_number_13 (by decide) rfl rfl ?_
    refine jq_iconst (v := 1) dL_number_15 (by decide) ?_
    exact xz_ireturn dL_number_16 rfl rfl (by decide) (⟨_, rfl, hr, hpost⟩)
  have hhA : (2 : Int32) = tb_thr (tb_inB x (tb_nc w h)) (tb_numOk v) → ∀ (q9 : Addr) (X1 : xs_T), (X1 = X) → jq_J l G mL_number (jq_R 24 1 6) (jx_E (tableOf hL_number)) (xx_Yw G n ad (xs_pi (fun r X' => r = tb_thr (tb_inB x (tb_nc w h)) (tb_numOk v) ∧ X' = X))) 17 [some (.ref (ad 0)), some (.int (x)), some (.int (v)), some (.ref (ad 39)), none] [.ref q9] n ad (xs_mem G ad X1) 1 6 := by
    intro hr q9 X1 hpost
    refine jq_astore dL_number_17 (by decide) rfl rfl ?_
    refine jq_iconst (v := 2) dL_number_19 (by decide) ?_
    exact xz_ireturn dL_number_20 rfl rfl (by decide) (⟨_, rfl, hr, hpost⟩)
  refine xx_Cw_of (L := [some (.ref (ad 0)), some (.int (x)), some (.int (v)), some (.ref (ad 39)), none]) rfl (Nat.le_of_ble_eq_true rfl) rfl ?_
  rcases (Bool.eq_false_or_eq_true (tb_inB x (tb_nc w h))).symm with hc | hc
  · skip
    refine jq_aload_n dL_number_0 rfl rfl ?_
    refine jq_iconst (v := (nI 0)) dL_number_1 (by decide) ?_
    refine jq_aload_n dL_number_2 rfl rfl ?_
    refine jq_iload_n dL_number_3 rfl rfl ?_
    refine jq_iload_n dL_number_4 rfl rfl ?_
    exact xx_invc 13 dL_number_5 kL_15 hL_15 (c_X5_number_no hl hn2 hT x v hno) (xs_lt (by decide) hn) ⟨rfl, rfl⟩ rfl rfl (Nat.le_of_ble_eq_true rfl) ⟨⟨by decide, by decide⟩, by decide, by decide⟩ (fun E X1 q9 hE => ⟨by rw [hE.1, if_neg (by rw [hc]; decide)]; exact at_number_B, hhB (by rw [hc]; rfl) q9 X1 hE.2⟩)
  · have hno2 := hno
    rw [hc, Bool.true_and] at hno2
    refine jq_aload_n dL_number_0 rfl rfl ?_
    refine jq_iconst (v := (nI 0)) dL_number_1 (by decide) ?_
    refine jq_aload_n dL_number_2 rfl rfl ?_
    refine jq_iload_n dL_number_3 rfl rfl ?_
    refine jq_iload_n dL_number_4 rfl rfl ?_
    exact xx_invc 17 dL_number_5 kL_15 hL_15 (c_X5_number_no hl hn2 hT x v hno) (xs_lt (by decide) hn) ⟨rfl, rfl⟩ rfl rfl (Nat.le_of_ble_eq_true rfl) ⟨⟨by decide, by decide⟩, by decide, by decide⟩ (fun E X1 q9 hE => ⟨by rw [hE.1, if_pos hc]; exact at_number_A, hhA (by rw [hc, hno2]; rfl) q9 X1 hE.2⟩)
set_option maxHeartbeats 4000000 in
theorem c_L_mark_ok {l : Launch} {G : jq_G} {n : Nat} {ad : Nat → Nat} {X : xs_T} (hn : 40 ≤ n) {w h : Nat} {num : Nat → Int32} {mk : Nat → Nat} (hA : dv_A w h num mk X) {c s : Nat} (hc : c < tb_ne w h) (hs : s ≤ 2) : xx_Cw l G mL_mark hL_mark 24 [.ref (ad 0), .int (nI (c)), .int (nI (s)), .ref (ad 39)] n ad X (xs_pi (fun r X' => r = nI 0 ∧ xs_fr [39] [(0, 4), (0, 5)] X X' ∧ dv_A w h num (tb_up mk c s) X' ∧ X'.2.2.2 39 0 = (nI (mk c)).toInt64)) := by
  have hn2 : 21 ≤ n := by omega
  have hi0 : vp_in (nI 0) 1 := vp_inN (by decide) (by decide)
  refine xx_Cw_of (L := [some (.ref (ad 0)), some (.int (nI (c))), some (.int (nI (s))), some (.ref (ad 39)), none]) rfl (Nat.le_of_ble_eq_true rfl) rfl ?_
  refine jq_aload_n dL_mark_0 rfl rfl ?_
  refine jq_iconst (v := (nI 0)) dL_mark_1 (by decide) ?_
  refine jq_aload_n dL_mark_2 rfl rfl ?_
  refine jq_iload_n dL_mark_3 rfl rfl ?_
  refine jq_iload_n dL_mark_4 rfl rfl ?_
  refine xq_rI dL_mark_5 kL_21 (c_X5_mark_ok hn2 hA hc hs) (xs_lt (by decide) hn) ⟨rfl, rfl⟩ rfl rfl (Nat.le_of_ble_eq_true rfl) ⟨⟨by decide, by decide⟩, by decide, by decide⟩ (fun v5 X5 h5 => ?_)
  obtain ⟨a1, a2, a3⟩ := h5
  subst a1
  refine jq_i2l dL_mark_8 rfl ?_
  refine xq_lastore dL_mark_9 (xs_lt (by decide) hn) rfl hi0 ?_
  refine jq_goto (tgt := 21) dL_mark_10 (by decide) ?_
  refine jq_iconst (v := (nI 0)) dL_mark_21 (by decide) ?_
  exact xz_ireturn dL_mark_22 rfl rfl (by decide) (⟨_, rfl, rfl, xs_fr_tr (xs_fr_mo a2 (by decide)) (xs_fr_mo out_fr (by decide)), dv_afr a3 out_fr, out_at⟩)
set_option maxHeartbeats 4000000 in
theorem c_L_mark_no {l : Launch} {G : jq_G} {n : Nat} {ad : Nat → Nat} {X : xs_T} (hl : l.stackTraces = false) (hn : 40 ≤ n) {w h : Nat} (hT : dv_T w h X) (x v : Int32) (hno : (tb_inB x (tb_ne w h) && tb_stOk v) = false) : xx_Cw l G mL_mark hL_mark 24 [.ref (ad 0), .int (x), .int (v), .ref (ad 39)] n ad X (xs_pi (fun r X' => r = tb_thr (tb_inB x (tb_ne w h)) (tb_stOk v) ∧ X' = X)) := by
  have hn2 : 21 ≤ n := by omega
  have hhB : (1 : Int32) = tb_thr (tb_inB x (tb_ne w h)) (tb_stOk v) → ∀ (q9 : Addr) (X1 : xs_T), (X1 = X) → jq_J l G mL_mark (jq_R 24 1 6) (jx_E (tableOf hL_mark)) (xx_Yw G n ad (xs_pi (fun r X' => r = tb_thr (tb_inB x (tb_ne w h)) (tb_stOk v) ∧ X' = X))) 13 [some (.ref (ad 0)), some (.int (x)), some (.int (v)), some (.ref (ad 39)), none] [.ref q9] n ad (xs_mem G ad X1) 1 6 := by
    intro hr q9 X1 hpost
    refine jq_astore dL_mark_13 (by decide) rfl rfl ?_
    refine jq_iconst (v := 1) dL_mark_15 (by decide) ?_
    exact xz_ireturn dL_mark_16 rfl rfl (by decide) (⟨_, rfl, hr, hpost⟩)
  have hhA : (2 : Int32) = tb_thr (tb_inB x (tb_ne w h)) (tb_stOk v) → ∀ (q9 : Addr) (X1 : xs_T), (X1 = X) → jq_J l G mL_mark (jq_R 24 1 6) (jx_E (tableOf hL_mark)) (xx_Yw G n ad (xs_pi (fun r X' => r = tb_thr (tb_inB x (tb_ne w h)) (tb_stOk v) ∧ X' = X))) 17 [some (.ref (ad 0)), some (.int (x)), some (.int (v)), some (.ref (ad 39)), none] [.ref q9] n ad (xs_mem G ad X1) 1 6 := by
    intro hr q9 X1 hpost
    refine jq_astore dL_mark_17 (by decide) rfl rfl ?_
    refine jq_iconst (v := 2) dL_mark_19 (by decide) ?_
    exact xz_ireturn dL_mark_20 rfl rfl (by decide) (⟨_, rfl, hr, hpost⟩)
  refine xx_Cw_of (L := [some (.ref (ad 0)), some (.int (x)), some (.int (v)), some (.ref (ad 39)), none]) rfl (Nat.le_of_ble_eq_true rfl) rfl ?_
  rcases (Bool.eq_false_or_eq_true (tb_inB x (tb_ne w h))).symm with hc | hc
  · skip
    refine jq_aload_n dL_mark_0 rfl rfl ?_
    refine jq_iconst (v := (nI 0)) dL_mark_1 (by decide) ?_
    refine jq_aload_n dL_mark_2 rfl rfl ?_
    refine jq_iload_n dL_mark_3 rfl rfl ?_
    refine jq_iload_n dL_mark_4 rfl rfl ?_
    exact xx_invc 13 dL_mark_5 kL_21 hL_21 (c_X5_mark_no hl hn2 hT x v hno) (xs_lt (by decide) hn) ⟨rfl, rfl⟩ rfl rfl (Nat.le_of_ble_eq_true rfl) ⟨⟨by decide, by decide⟩, by decide, by decide⟩ (fun E X1 q9 hE => ⟨by rw [hE.1, if_neg (by rw [hc]; decide)]; exact at_mark_B, hhB (by rw [hc]; rfl) q9 X1 hE.2⟩)
  · have hno2 := hno
    rw [hc, Bool.true_and] at hno2
    refine jq_aload_n dL_mark_0 rfl rfl ?_
    refine jq_iconst (v := (nI 0)) dL_mark_1 (by decide) ?_
    refine jq_aload_n dL_mark_2 rfl rfl ?_
    refine jq_iload_n dL_mark_3 rfl rfl ?_
    refine jq_iload_n dL_mark_4 rfl rfl ?_
    exact xx_invc 17 dL_mark_5 kL_21 hL_21 (c_X5_mark_no hl hn2 hT x v hno) (xs_lt (by decide) hn) ⟨rfl, rfl⟩ rfl rfl (Nat.le_of_ble_eq_true rfl) ⟨⟨by decide, by decide⟩, by decide, by decide⟩ (fun E X1 q9 hE => ⟨by rw [hE.1, if_pos hc]; exact at_mark_A, hhA (by rw [hc, hno2]; rfl) q9 X1 hE.2⟩)
set_option maxHeartbeats 4000000 in
theorem c_L_edgeOf_ok {l : Launch} {G : jq_G} {n : Nat} {ad : Nat → Nat} {X : xs_T} (hn : 40 ≤ n) {w h : Nat} (hT : dv_T w h X) {c s : Nat} (hc : c < tb_nc w h) (hs : s < 4) : xx_Cw l G mL_edgeOf hL_edgeOf 24 [.ref (ad 0), .int (nI (c)), .int (nI (s)), .ref (ad 39)] n ad X (xs_pi (fun r X' => r = nI 0 ∧ xs_fr [39] [] X X' ∧ X'.2.2.2 39 0 = (nI (tb_sid w h c s)).toInt64)) := by
  have hn2 : 21 ≤ n := by omega
  have hi0 : vp_in (nI 0) 1 := vp_inN (by decide) (by decide)
  refine xx_Cw_of (L := [some (.ref (ad 0)), some (.int (nI (c))), some (.int (nI (s))), some (.ref (ad 39)), none]) rfl (Nat.le_of_ble_eq_true rfl) rfl ?_
  refine jq_aload_n dL_edgeOf_0 rfl rfl ?_
  refine jq_iconst (v := (nI 0)) dL_edgeOf_1 (by decide) ?_
  refine jq_aload_n dL_edgeOf_2 rfl rfl ?_
  refine jq_iload_n dL_edgeOf_3 rfl rfl ?_
  refine jq_iload_n dL_edgeOf_4 rfl rfl ?_
  refine xq_vI dL_edgeOf_5 kL_24 (c_X5_edgeOf_ok hn2 hT hc hs) (xs_lt (by decide) hn) ⟨rfl, rfl⟩ rfl rfl (Nat.le_of_ble_eq_true rfl) ⟨⟨by decide, by decide⟩, by decide, by decide⟩ ?_
  refine jq_i2l dL_edgeOf_8 rfl ?_
  refine xq_lastore dL_edgeOf_9 (xs_lt (by decide) hn) rfl hi0 ?_
  refine jq_goto (tgt := 17) dL_edgeOf_10 (by decide) ?_
  refine jq_iconst (v := (nI 0)) dL_edgeOf_17 (by decide) ?_
  exact xz_ireturn dL_edgeOf_18 rfl rfl (by decide) (⟨_, rfl, rfl, out_fr, out_at⟩)
set_option maxHeartbeats 4000000 in
theorem c_L_edgeOf_no {l : Launch} {G : jq_G} {n : Nat} {ad : Nat → Nat} {X : xs_T} (hl : l.stackTraces = false) (hn : 40 ≤ n) {w h : Nat} (hT : dv_T w h X) (x y : Int32) (hno : (tb_inB x (tb_nc w h) && tb_inB y 4) = false) : xx_Cw l G mL_edgeOf hL_edgeOf 24 [.ref (ad 0), .int (x), .int (y), .ref (ad 39)] n ad X (xs_pi (fun r X' => r = 1 ∧ X' = X)) := by
  have hn2 : 21 ≤ n := by omega
  have hhB : (1 : Int32) = 1 → ∀ (q9 : Addr) (X1 : xs_T), (X1 = X) → jq_J l G mL_edgeOf (jq_R 24 1 6) (jx_E (tableOf hL_edgeOf)) (xx_Yw G n ad (xs_pi (fun r X' => r = 1 ∧ X' = X))) 13 [some (.ref (ad 0)), some (.int (x)), some (.int (y)), some (.ref (ad 39)), none] [.ref q9] n ad (xs_mem G ad X1) 1 6 := by
    intro hr q9 X1 hpost
    refine jq_astore dL_edgeOf_13 (by decide) rfl rfl ?_
    refine jq_iconst (v := 1) dL_edgeOf_15 (by decide) ?_
    exact xz_ireturn dL_edgeOf_16 rfl rfl (by decide) (⟨_, rfl, hr, hpost⟩)
  refine xx_Cw_of (L := [some (.ref (ad 0)), some (.int (x)), some (.int (y)), some (.ref (ad 39)), none]) rfl (Nat.le_of_ble_eq_true rfl) rfl ?_
  refine jq_aload_n dL_edgeOf_0 rfl rfl ?_
  refine jq_iconst (v := (nI 0)) dL_edgeOf_1 (by decide) ?_
  refine jq_aload_n dL_edgeOf_2 rfl rfl ?_
  refine jq_iload_n dL_edgeOf_3 rfl rfl ?_
  refine jq_iload_n dL_edgeOf_4 rfl rfl ?_
  exact xx_invc 13 dL_edgeOf_5 kL_24 hL_24 (c_X5_edgeOf_no hl hn2 hT x y hno) (xs_lt (by decide) hn) ⟨rfl, rfl⟩ rfl rfl (Nat.le_of_ble_eq_true rfl) ⟨⟨by decide, by decide⟩, by decide, by decide⟩ (fun E X1 q9 hE => ⟨by rw [hE.1]; exact at_edgeOf_B, hhB rfl q9 X1 hE.2⟩)
set_option maxHeartbeats 4000000 in
theorem c_L_follows_ok {l : Launch} {G : jq_G} {n : Nat} {ad : Nat → Nat} {X : xs_T} (hn : 40 ≤ n) {w h : Nat} {num : Nat → Int32} {mk : Nat → Nat} (hA : dv_A w h num mk X) {j : Nat} (hj : j < tb_ne w h) : xx_Cw l G mL_follows hL_follows 24 [.ref (ad 0), .int (nI (j)), .ref (ad 39)] n ad X (xs_pi (fun r X' => r = nI 0 ∧ xs_fr (39 :: dv_SC) dv_FC X X' ∧ X'.2.2.2 39 0 = (nI ((tb_follow w h num mk).1 j)).toInt64)) := by
  have hn2 : 21 ≤ n := by omega
  have hi0 : vp_in (nI 0) 1 := vp_inN (by decide) (by decide)
  refine xx_Cw_of (L := [some (.ref (ad 0)), some (.int (nI (j))), some (.ref (ad 39)), none]) rfl (Nat.le_of_ble_eq_true rfl) rfl ?_
  refine jq_aload_n dL_follows_0 rfl rfl ?_
  refine jq_iconst (v := (nI 0)) dL_follows_1 (by decide) ?_
  refine jq_aload_n dL_follows_2 rfl rfl ?_
  refine jq_iload_n dL_follows_3 rfl rfl ?_
  refine xq_rI dL_follows_4 kL_27 (c_X5_follows_ok hn2 hA hj) (xs_lt (by decide) hn) ⟨rfl, rfl⟩ rfl rfl (Nat.le_of_ble_eq_true rfl) ⟨⟨by decide, by decide⟩, by decide, by decide⟩ (fun v4 X4 h4 => ?_)
  obtain ⟨a1, a2⟩ := h4
  subst a1
  refine jq_i2l dL_follows_7 rfl ?_
  refine xq_lastore dL_follows_8 (xs_lt (by decide) hn) rfl hi0 ?_
  refine jq_goto (tgt := 15) dL_follows_9 (by decide) ?_
  refine jq_iconst (v := (nI 0)) dL_follows_15 (by decide) ?_
  exact xz_ireturn dL_follows_16 rfl rfl (by decide) (⟨_, rfl, rfl, xs_fr_tr (xs_fr_mo a2 (by decide)) (xs_fr_mo out_fr (by decide)), out_at⟩)
set_option maxHeartbeats 4000000 in
theorem c_L_follows_no {l : Launch} {G : jq_G} {n : Nat} {ad : Nat → Nat} {X : xs_T} (hl : l.stackTraces = false) (hn : 40 ≤ n) {w h : Nat} (hT : dv_T w h X) (x : Int32) (hx : tb_inB x (tb_ne w h) = false) : xx_Cw l G mL_follows hL_follows 24 [.ref (ad 0), .int (x), .ref (ad 39)] n ad X (xs_pi (fun r X' => r = 1 ∧ X' = X)) := by
  have hn2 : 21 ≤ n := by omega
  have hhB : (1 : Int32) = 1 → ∀ (q9 : Addr) (X1 : xs_T), (X1 = X) → jq_J l G mL_follows (jq_R 24 1 6) (jx_E (tableOf hL_follows)) (xx_Yw G n ad (xs_pi (fun r X' => r = 1 ∧ X' = X))) 12 [some (.ref (ad 0)), some (.int (x)), some (.ref (ad 39)), none] [.ref q9] n ad (xs_mem G ad X1) 1 6 := by
    intro hr q9 X1 hpost
    refine jq_astore_n dL_follows_12 rfl (by decide) rfl rfl ?_
    refine jq_iconst (v := 1) dL_follows_13 (by decide) ?_
    exact xz_ireturn dL_follows_14 rfl rfl (by decide) (⟨_, rfl, hr, hpost⟩)
  refine xx_Cw_of (L := [some (.ref (ad 0)), some (.int (x)), some (.ref (ad 39)), none]) rfl (Nat.le_of_ble_eq_true rfl) rfl ?_
  refine jq_aload_n dL_follows_0 rfl rfl ?_
  refine jq_iconst (v := (nI 0)) dL_follows_1 (by decide) ?_
  refine jq_aload_n dL_follows_2 rfl rfl ?_
  refine jq_iload_n dL_follows_3 rfl rfl ?_
  exact xx_invc 12 dL_follows_4 kL_27 hL_27 (c_X5_follows_no hl hn2 hT x hx) (xs_lt (by decide) hn) ⟨rfl, rfl⟩ rfl rfl (Nat.le_of_ble_eq_true rfl) ⟨⟨by decide, by decide⟩, by decide, by decide⟩ (fun E X1 q9 hE => ⟨by rw [hE.1]; exact at_follows_B, hhB rfl q9 X1 hE.2⟩)
set_option maxHeartbeats 4000000 in
theorem c_L_roundOf_ok {l : Launch} {G : jq_G} {n : Nat} {ad : Nat → Nat} {X : xs_T} (hn : 40 ≤ n) {w h : Nat} {num : Nat → Int32} {mk : Nat → Nat} (hA : dv_A w h num mk X) {j : Nat} (hj : j < tb_ne w h) : xx_Cw l G mL_roundOf hL_roundOf 24 [.ref (ad 0), .int (nI (j)), .ref (ad 39)] n ad X (xs_pi (fun r X' => r = nI 0 ∧ xs_fr (39 :: dv_SC) dv_FC X X' ∧ X'.2.2.2 39 0 = ((tb_follow w h num mk).2.1 j).toInt64)) := by
  have hn2 : 21 ≤ n := by omega
  have hi0 : vp_in (nI 0) 1 := vp_inN (by decide) (by decide)
  refine xx_Cw_of (L := [some (.ref (ad 0)), some (.int (nI (j))), some (.ref (ad 39)), none]) rfl (Nat.le_of_ble_eq_true rfl) rfl ?_
  refine jq_aload_n dL_roundOf_0 rfl rfl ?_
  refine jq_iconst (v := (nI 0)) dL_roundOf_1 (by decide) ?_
  refine jq_aload_n dL_roundOf_2 rfl rfl ?_
  refine jq_iload_n dL_roundOf_3 rfl rfl ?_
  refine xq_rI dL_roundOf_4 kL_31 (c_X5_roundOf_ok hn2 hA hj) (xs_lt (by decide) hn) ⟨rfl, rfl⟩ rfl rfl (Nat.le_of_ble_eq_true rfl) ⟨⟨by decide, by decide⟩, by decide, by decide⟩ (fun v4 X4 h4 => ?_)
  obtain ⟨a1, a2⟩ := h4
  subst a1
  refine jq_i2l dL_roundOf_7 rfl ?_
  refine xq_lastore dL_roundOf_8 (xs_lt (by decide) hn) rfl hi0 ?_
  refine jq_goto (tgt := 15) dL_roundOf_9 (by decide) ?_
  refine jq_iconst (v := (nI 0)) dL_roundOf_15 (by decide) ?_
  exact xz_ireturn dL_roundOf_16 rfl rfl (by decide) (⟨_, rfl, rfl, xs_fr_tr (xs_fr_mo a2 (by decide)) (xs_fr_mo out_fr (by decide)), out_at⟩)
set_option maxHeartbeats 4000000 in
theorem c_L_roundOf_no {l : Launch} {G : jq_G} {n : Nat} {ad : Nat → Nat} {X : xs_T} (hl : l.stackTraces = false) (hn : 40 ≤ n) {w h : Nat} (hT : dv_T w h X) (x : Int32) (hx : tb_inB x (tb_ne w h) = false) : xx_Cw l G mL_roundOf hL_roundOf 24 [.ref (ad 0), .int (x), .ref (ad 39)] n ad X (xs_pi (fun r X' => r = 1 ∧ X' = X)) := by
  have hn2 : 21 ≤ n := by omega
  have hhB : (1 : Int32) = 1 → ∀ (q9 : Addr) (X1 : xs_T), (X1 = X) → jq_J l G mL_roundOf (jq_R 24 1 6) (jx_E (tableOf hL_roundOf)) (xx_Yw G n ad (xs_pi (fun r X' => r = 1 ∧ X' = X))) 12 [some (.ref (ad 0)), some (.int (x)), some (.ref (ad 39)), none] [.ref q9] n ad (xs_mem G ad X1) 1 6 := by
    intro hr q9 X1 hpost
    refine jq_astore_n dL_roundOf_12 rfl (by decide) rfl rfl ?_
    refine jq_iconst (v := 1) dL_roundOf_13 (by decide) ?_
    exact xz_ireturn dL_roundOf_14 rfl rfl (by decide) (⟨_, rfl, hr, hpost⟩)
  refine xx_Cw_of (L := [some (.ref (ad 0)), some (.int (x)), some (.ref (ad 39)), none]) rfl (Nat.le_of_ble_eq_true rfl) rfl ?_
  refine jq_aload_n dL_roundOf_0 rfl rfl ?_
  refine jq_iconst (v := (nI 0)) dL_roundOf_1 (by decide) ?_
  refine jq_aload_n dL_roundOf_2 rfl rfl ?_
  refine jq_iload_n dL_roundOf_3 rfl rfl ?_
  exact xx_invc 12 dL_roundOf_4 kL_31 hL_31 (c_X5_roundOf_no hl hn2 hT x hx) (xs_lt (by decide) hn) ⟨rfl, rfl⟩ rfl rfl (Nat.le_of_ble_eq_true rfl) ⟨⟨by decide, by decide⟩, by decide, by decide⟩ (fun E X1 q9 hE => ⟨by rw [hE.1]; exact at_roundOf_B, hhB rfl q9 X1 hE.2⟩)
set_option maxHeartbeats 4000000 in
theorem c_L_ruleOf_ok {l : Launch} {G : jq_G} {n : Nat} {ad : Nat → Nat} {X : xs_T} (hn : 40 ≤ n) {w h : Nat} {num : Nat → Int32} {mk : Nat → Nat} (hA : dv_A w h num mk X) {j : Nat} (hj : j < tb_ne w h) : xx_Cw l G mL_ruleOf hL_ruleOf 24 [.ref (ad 0), .int (nI (j)), .ref (ad 39)] n ad X (xs_pi (fun r X' => r = nI 0 ∧ xs_fr (39 :: dv_SC) dv_FC X X' ∧ X'.2.2.2 39 0 = ((tb_follow w h num mk).2.2.1 j).toInt64)) := by
  have hn2 : 21 ≤ n := by omega
  have hi0 : vp_in (nI 0) 1 := vp_inN (by decide) (by decide)
  refine xx_Cw_of (L := [some (.ref (ad 0)), some (.int (nI (j))), some (.ref (ad 39)), none]) rfl (Nat.le_of_ble_eq_true rfl) rfl ?_
  refine jq_aload_n dL_ruleOf_0 rfl rfl ?_
  refine jq_iconst (v := (nI 0)) dL_ruleOf_1 (by decide) ?_
  refine jq_aload_n dL_ruleOf_2 rfl rfl ?_
  refine jq_iload_n dL_ruleOf_3 rfl rfl ?_
  refine xq_rI dL_ruleOf_4 kL_34 (c_X5_ruleOf_ok hn2 hA hj) (xs_lt (by decide) hn) ⟨rfl, rfl⟩ rfl rfl (Nat.le_of_ble_eq_true rfl) ⟨⟨by decide, by decide⟩, by decide, by decide⟩ (fun v4 X4 h4 => ?_)
  obtain ⟨a1, a2⟩ := h4
  subst a1
  refine jq_i2l dL_ruleOf_7 rfl ?_
  refine xq_lastore dL_ruleOf_8 (xs_lt (by decide) hn) rfl hi0 ?_
  refine jq_goto (tgt := 15) dL_ruleOf_9 (by decide) ?_
  refine jq_iconst (v := (nI 0)) dL_ruleOf_15 (by decide) ?_
  exact xz_ireturn dL_ruleOf_16 rfl rfl (by decide) (⟨_, rfl, rfl, xs_fr_tr (xs_fr_mo a2 (by decide)) (xs_fr_mo out_fr (by decide)), out_at⟩)
set_option maxHeartbeats 4000000 in
theorem c_L_ruleOf_no {l : Launch} {G : jq_G} {n : Nat} {ad : Nat → Nat} {X : xs_T} (hl : l.stackTraces = false) (hn : 40 ≤ n) {w h : Nat} (hT : dv_T w h X) (x : Int32) (hx : tb_inB x (tb_ne w h) = false) : xx_Cw l G mL_ruleOf hL_ruleOf 24 [.ref (ad 0), .int (x), .ref (ad 39)] n ad X (xs_pi (fun r X' => r = 1 ∧ X' = X)) := by
  have hn2 : 21 ≤ n := by omega
  have hhB : (1 : Int32) = 1 → ∀ (q9 : Addr) (X1 : xs_T), (X1 = X) → jq_J l G mL_ruleOf (jq_R 24 1 6) (jx_E (tableOf hL_ruleOf)) (xx_Yw G n ad (xs_pi (fun r X' => r = 1 ∧ X' = X))) 12 [some (.ref (ad 0)), some (.int (x)), some (.ref (ad 39)), none] [.ref q9] n ad (xs_mem G ad X1) 1 6 := by
    intro hr q9 X1 hpost
    refine jq_astore_n dL_ruleOf_12 rfl (by decide) rfl rfl ?_
    refine jq_iconst (v := 1) dL_ruleOf_13 (by decide) ?_
    exact xz_ireturn dL_ruleOf_14 rfl rfl (by decide) (⟨_, rfl, hr, hpost⟩)
  refine xx_Cw_of (L := [some (.ref (ad 0)), some (.int (x)), some (.ref (ad 39)), none]) rfl (Nat.le_of_ble_eq_true rfl) rfl ?_
  refine jq_aload_n dL_ruleOf_0 rfl rfl ?_
  refine jq_iconst (v := (nI 0)) dL_ruleOf_1 (by decide) ?_
  refine jq_aload_n dL_ruleOf_2 rfl rfl ?_
  refine jq_iload_n dL_ruleOf_3 rfl rfl ?_
  exact xx_invc 12 dL_ruleOf_4 kL_34 hL_34 (c_X5_ruleOf_no hl hn2 hT x hx) (xs_lt (by decide) hn) ⟨rfl, rfl⟩ rfl rfl (Nat.le_of_ble_eq_true rfl) ⟨⟨by decide, by decide⟩, by decide, by decide⟩ (fun E X1 q9 hE => ⟨by rw [hE.1]; exact at_ruleOf_B, hhB rfl q9 X1 hE.2⟩)
set_option maxHeartbeats 4000000 in
theorem c_L_answer_ok {l : Launch} {G : jq_G} {n : Nat} {ad : Nat → Nat} {X : xs_T} (hn : 40 ≤ n) {w h : Nat} {num : Nat → Int32} {mk : Nat → Nat} (hA : dv_A w h num mk X) (hLC : dv_LC w h X) (a : Int32) (h0 : tb_pk w h num mk a ≠ 0) : xx_Cw l G mL_answer hL_answer 24 [.ref (ad 0), .int (a), .ref (ad 39)] n ad X (xs_pi (fun r X' => r = nI 0 ∧ xs_fr [20, 39] dv_FL X X' ∧ dv_LC w h X' ∧ X'.2.2.2 39 0 = lN (tb_pk w h num mk a))) := by
  have hn2 : 21 ≤ n := by omega
  have hi0 : vp_in (nI 0) 1 := vp_inN (by decide) (by decide)
  refine xx_Cw_of (L := [some (.ref (ad 0)), some (.int (a)), some (.ref (ad 39)), none]) rfl (Nat.le_of_ble_eq_true rfl) rfl ?_
  refine jq_aload_n dL_answer_0 rfl rfl ?_
  refine jq_iconst (v := (nI 0)) dL_answer_1 (by decide) ?_
  refine jq_aload_n dL_answer_2 rfl rfl ?_
  refine jq_iload_n dL_answer_3 rfl rfl ?_
  refine xq_rL dL_answer_4 kL_37 (c_X5_answer_ok hn2 hA hLC a h0) (xs_lt (by decide) hn) ⟨rfl, rfl⟩ rfl rfl (Nat.le_of_ble_eq_true rfl) ⟨⟨by decide, by decide⟩, by decide, by decide⟩ (fun v4 X4 h4 => ?_)
  obtain ⟨a1, a2, a3⟩ := h4
  subst a1
  refine xq_lastore dL_answer_7 (xs_lt (by decide) hn) rfl hi0 ?_
  refine jq_goto (tgt := 14) dL_answer_8 (by decide) ?_
  refine jq_iconst (v := (nI 0)) dL_answer_14 (by decide) ?_
  exact xz_ireturn dL_answer_15 rfl rfl (by decide) (⟨_, rfl, rfl, xs_fr_tr (xs_fr_mo a2 (by decide)) (xs_fr_mo out_fr (by decide)), dv_lcfr a3 out_fr, out_at⟩)
set_option maxHeartbeats 4000000 in
theorem c_L_answer_no {l : Launch} {G : jq_G} {n : Nat} {ad : Nat → Nat} {X : xs_T} (hl : l.stackTraces = false) (hn : 40 ≤ n) {w h : Nat} {num : Nat → Int32} {mk : Nat → Nat} (hA : dv_A w h num mk X) (hLC : dv_LC w h X) (a : Int32) (h0 : tb_pk w h num mk a = 0) : xx_Cw l G mL_answer hL_answer 24 [.ref (ad 0), .int (a), .ref (ad 39)] n ad X (xs_pi (fun r X' => r = 1 ∧ xs_fr dv_SL dv_FL X X' ∧ dv_LC w h X')) := by
  have hn2 : 21 ≤ n := by omega
  have hhB : (1 : Int32) = 1 → ∀ (q9 : Addr) (X1 : xs_T), (xs_fr dv_SL dv_FL X X1 ∧ dv_LC w h X1) → jq_J l G mL_answer (jq_R 24 1 6) (jx_E (tableOf hL_answer)) (xx_Yw G n ad (xs_pi (fun r X' => r = 1 ∧ xs_fr dv_SL dv_FL X X' ∧ dv_LC w h X'))) 11 [some (.ref (ad 0)), some (.int (a)), some (.ref (ad 39)), none] [.ref q9] n ad (xs_mem G ad X1) 1 6 := by
    intro hr q9 X1 hpost
    refine jq_astore_n dL_answer_11 rfl (by decide) rfl rfl ?_
    refine jq_iconst (v := 1) dL_answer_12 (by decide) ?_
    exact xz_ireturn dL_answer_13 rfl rfl (by decide) (⟨_, rfl, hr, hpost⟩)
  refine xx_Cw_of (L := [some (.ref (ad 0)), some (.int (a)), some (.ref (ad 39)), none]) rfl (Nat.le_of_ble_eq_true rfl) rfl ?_
  refine jq_aload_n dL_answer_0 rfl rfl ?_
  refine jq_iconst (v := (nI 0)) dL_answer_1 (by decide) ?_
  refine jq_aload_n dL_answer_2 rfl rfl ?_
  refine jq_iload_n dL_answer_3 rfl rfl ?_
  exact xx_invc 11 dL_answer_4 kL_37 hL_37 (c_X5_answer_no hl hn2 hA hLC a h0) (xs_lt (by decide) hn) ⟨rfl, rfl⟩ rfl rfl (Nat.le_of_ble_eq_true rfl) ⟨⟨by decide, by decide⟩, by decide, by decide⟩ (fun E X1 q9 hE => ⟨by rw [hE.1]; exact at_answer_B, hhB rfl q9 X1 hE.2⟩)
set_option maxHeartbeats 4000000 in
theorem c_L_isInside_ok {l : Launch} {G : jq_G} {n : Nat} {ad : Nat → Nat} {X : xs_T} (hn : 40 ≤ n) {w h : Nat} {num : Nat → Int32} {mk : Nat → Nat} (hA : dv_A w h num mk X) (hLC : dv_LC w h X) (a : Int32) {c C : Nat} (hc : c < tb_nc w h) (hC : C < 2 ^ tb_nc w h) (h0 : tb_pk w h num mk a ≠ 0) (hPC : tb_pk w h num mk a = dv_bd w h C) : xx_Cw l G mL_isInside hL_isInside 24 [.ref (ad 0), .int (a), .int (nI (c)), .ref (ad 39)] n ad X (xs_pi (fun r X' => r = nI 0 ∧ xs_fr [20, 39] dv_FL X X' ∧ dv_LC w h X' ∧ X'.2.2.2 39 0 = tb_l (C.testBit c))) := by
  have hn2 : 21 ≤ n := by omega
  have hi0 : vp_in (nI 0) 1 := vp_inN (by decide) (by decide)
  refine xx_Cw_of (L := [some (.ref (ad 0)), some (.int (a)), some (.int (nI (c))), some (.ref (ad 39)), none]) rfl (Nat.le_of_ble_eq_true rfl) rfl ?_
  refine jq_aload_n dL_isInside_0 rfl rfl ?_
  refine jq_iconst (v := (nI 0)) dL_isInside_1 (by decide) ?_
  refine jq_aload_n dL_isInside_2 rfl rfl ?_
  refine jq_iload_n dL_isInside_3 rfl rfl ?_
  refine jq_iload_n dL_isInside_4 rfl rfl ?_
  refine xq_rI dL_isInside_5 kL_41 (c_X5_isInside_ok hn2 hA hLC a hc hC h0 hPC) (xs_lt (by decide) hn) ⟨rfl, rfl⟩ rfl rfl (Nat.le_of_ble_eq_true rfl) ⟨⟨by decide, by decide⟩, by decide, by decide⟩ (fun v5 X5 h5 => ?_)
  obtain ⟨a1, a2, a3⟩ := h5
  subst a1
  refine jq_if_eq (tgt := 15) dL_isInside_8 (by decide) (fun c8 => ?_) (fun c8 => ?_)
  · have dBR := tb_b0.mp c8
    refine jq_lconst (v := 0) dL_isInside_15 (by decide) ?_
    refine xq_lastore dL_isInside_16 (xs_lt (by decide) hn) rfl hi0 ?_
    refine jq_goto (tgt := 24) dL_isInside_17 (by decide) ?_
    refine jq_iconst (v := (nI 0)) dL_isInside_24 (by decide) ?_
    exact xz_ireturn dL_isInside_25 rfl rfl (by decide) (⟨_, rfl, rfl, xs_fr_tr (xs_fr_mo a2 (by decide)) (xs_fr_mo out_fr (by decide)), dv_lcfr a3 out_fr, out_at.trans (by rw [dBR]; rfl)⟩)
  · have dBR := tb_b1.mp c8
    refine jq_lconst (v := 1) dL_isInside_11 (by decide) ?_
    refine jq_goto (tgt := 16) dL_isInside_12 (by decide) ?_
    refine xq_lastore dL_isInside_16 (xs_lt (by decide) hn) rfl hi0 ?_
    refine jq_goto (tgt := 24) dL_isInside_17 (by decide) ?_
    refine jq_iconst (v := (nI 0)) dL_isInside_24 (by decide) ?_
    exact xz_ireturn dL_isInside_25 rfl rfl (by decide) (⟨_, rfl, rfl, xs_fr_tr (xs_fr_mo a2 (by decide)) (xs_fr_mo out_fr (by decide)), dv_lcfr a3 out_fr, out_at.trans (by rw [dBR]; rfl)⟩)
set_option maxHeartbeats 4000000 in
theorem c_L_isInside_no {l : Launch} {G : jq_G} {n : Nat} {ad : Nat → Nat} {X : xs_T} (hl : l.stackTraces = false) (hn : 40 ≤ n) {w h : Nat} {num : Nat → Int32} {mk : Nat → Nat} (hA : dv_A w h num mk X) (hLC : dv_LC w h X) (a x : Int32) (hno : tb_pk w h num mk a = 0 ∨ tb_inB x (tb_nc w h) = false) : xx_Cw l G mL_isInside hL_isInside 24 [.ref (ad 0), .int (a), .int (x), .ref (ad 39)] n ad X (xs_pi (fun r X' => r = 1 ∧ xs_fr dv_SL dv_FL X X' ∧ dv_LC w h X')) := by
  have hn2 : 21 ≤ n := by omega
  have hhB : (1 : Int32) = 1 → ∀ (q9 : Addr) (X1 : xs_T), (xs_fr dv_SL dv_FL X X1 ∧ dv_LC w h X1) → jq_J l G mL_isInside (jq_R 24 1 6) (jx_E (tableOf hL_isInside)) (xx_Yw G n ad (xs_pi (fun r X' => r = 1 ∧ xs_fr dv_SL dv_FL X X' ∧ dv_LC w h X'))) 20 [some (.ref (ad 0)), some (.int (a)), some (.int (x)), some (.ref (ad 39)), none] [.ref q9] n ad (xs_mem G ad X1) 1 6 := by
    intro hr q9 X1 hpost
    refine jq_astore dL_isInside_20 (by decide) rfl rfl ?_
    refine jq_iconst (v := 1) dL_isInside_22 (by decide) ?_
    exact xz_ireturn dL_isInside_23 rfl rfl (by decide) (⟨_, rfl, hr, hpost⟩)
  refine xx_Cw_of (L := [some (.ref (ad 0)), some (.int (a)), some (.int (x)), some (.ref (ad 39)), none]) rfl (Nat.le_of_ble_eq_true rfl) rfl ?_
  refine jq_aload_n dL_isInside_0 rfl rfl ?_
  refine jq_iconst (v := (nI 0)) dL_isInside_1 (by decide) ?_
  refine jq_aload_n dL_isInside_2 rfl rfl ?_
  refine jq_iload_n dL_isInside_3 rfl rfl ?_
  refine jq_iload_n dL_isInside_4 rfl rfl ?_
  exact xx_invc 20 dL_isInside_5 kL_41 hL_41 (c_X5_isInside_no hl hn2 hA hLC a x hno) (xs_lt (by decide) hn) ⟨rfl, rfl⟩ rfl rfl (Nat.le_of_ble_eq_true rfl) ⟨⟨by decide, by decide⟩, by decide, by decide⟩ (fun E X1 q9 hE => ⟨by rw [hE.1]; exact at_isInside_B, hhB rfl q9 X1 hE.2⟩)
set_option maxHeartbeats 4000000 in
theorem c_L_proved_ok {l : Launch} {G : jq_G} {n : Nat} {ad : Nat → Nat} {X : xs_T} (hn : 40 ≤ n) {w h : Nat} {num : Nat → Int32} {mk : Nat → Nat} (hA : dv_A w h num mk X) (hLC : dv_LC w h X) {e : Nat} (he : e < tb_ne w h) (h0 : 0 < tb_cnt2 w h num mk (-1)) : xx_Cw l G mL_proved hL_proved 24 [.ref (ad 0), .int (nI (e)), .ref (ad 39)] n ad X (xs_pi (fun r X' => r = nI 0 ∧ xs_fr [20, 39] dv_FL X X' ∧ dv_LC w h X' ∧ X'.2.2.2 39 0 = (nI (tb_prv w h num mk e)).toInt64)) := by
  have hn2 : 21 ≤ n := by omega
  have hi0 : vp_in (nI 0) 1 := vp_inN (by decide) (by decide)
  refine xx_Cw_of (L := [some (.ref (ad 0)), some (.int (nI (e))), some (.ref (ad 39)), none]) rfl (Nat.le_of_ble_eq_true rfl) rfl ?_
  refine jq_aload_n dL_proved_0 rfl rfl ?_
  refine jq_iconst (v := (nI 0)) dL_proved_1 (by decide) ?_
  refine jq_aload_n dL_proved_2 rfl rfl ?_
  refine jq_iload_n dL_proved_3 rfl rfl ?_
  refine xq_rI dL_proved_4 kL_45 (c_X5_proved_ok hn2 hA hLC he h0) (xs_lt (by decide) hn) ⟨rfl, rfl⟩ rfl rfl (Nat.le_of_ble_eq_true rfl) ⟨⟨by decide, by decide⟩, by decide, by decide⟩ (fun v4 X4 h4 => ?_)
  obtain ⟨a1, a2, a3⟩ := h4
  subst a1
  refine jq_i2l dL_proved_7 rfl ?_
  refine xq_lastore dL_proved_8 (xs_lt (by decide) hn) rfl hi0 ?_
  refine jq_goto (tgt := 18) dL_proved_9 (by decide) ?_
  refine jq_iconst (v := (nI 0)) dL_proved_18 (by decide) ?_
  exact xz_ireturn dL_proved_19 rfl rfl (by decide) (⟨_, rfl, rfl, xs_fr_tr (xs_fr_mo a2 (by decide)) (xs_fr_mo out_fr (by decide)), dv_lcfr a3 out_fr, out_at⟩)
set_option maxHeartbeats 4000000 in
theorem c_L_proved_no {l : Launch} {G : jq_G} {n : Nat} {ad : Nat → Nat} {X : xs_T} (hl : l.stackTraces = false) (hn : 40 ≤ n) {w h : Nat} {num : Nat → Int32} {mk : Nat → Nat} (hA : dv_A w h num mk X) (hLC : dv_LC w h X) (x : Int32) (hno : (tb_inB x (tb_ne w h) && decide (0 < tb_cnt2 w h num mk (-1))) = false) : xx_Cw l G mL_proved hL_proved 24 [.ref (ad 0), .int (x), .ref (ad 39)] n ad X (xs_pi (fun r X' => r = tb_thr (tb_inB x (tb_ne w h)) (decide (0 < tb_cnt2 w h num mk (-1))) ∧ xs_fr dv_SL dv_FL X X' ∧ dv_LC w h X')) := by
  have hn2 : 21 ≤ n := by omega
  have hhB : (1 : Int32) = tb_thr (tb_inB x (tb_ne w h)) (decide (0 < tb_cnt2 w h num mk (-1))) → ∀ (q9 : Addr) (X1 : xs_T), (xs_fr dv_SL dv_FL X X1 ∧ dv_LC w h X1) → jq_J l G mL_proved (jq_R 24 1 6) (jx_E (tableOf hL_proved)) (xx_Yw G n ad (xs_pi (fun r X' => r = tb_thr (tb_inB x (tb_ne w h)) (decide (0 < tb_cnt2 w h num mk (-1))) ∧ xs_fr dv_SL dv_FL X X' ∧ dv_LC w h X'))) 12 [some (.ref (ad 0)), some (.int (x)), some (.ref (ad 39)), none] [.ref q9] n ad (xs_mem G ad X1) 1 6 := by
    intro hr q9 X1 hpost
    refine jq_astore_n dL_proved_12 rfl (by decide) rfl rfl ?_
    refine jq_iconst (v := 1) dL_proved_13 (by decide) ?_
    exact xz_ireturn dL_proved_14 rfl rfl (by decide) (⟨_, rfl, hr, hpost⟩)
  have hhS : (2 : Int32) = tb_thr (tb_inB x (tb_ne w h)) (decide (0 < tb_cnt2 w h num mk (-1))) → ∀ (q9 : Addr) (X1 : xs_T), (xs_fr dv_SL dv_FL X X1 ∧ dv_LC w h X1) → jq_J l G mL_proved (jq_R 24 1 6) (jx_E (tableOf hL_proved)) (xx_Yw G n ad (xs_pi (fun r X' => r = tb_thr (tb_inB x (tb_ne w h)) (decide (0 < tb_cnt2 w h num mk (-1))) ∧ xs_fr dv_SL dv_FL X X' ∧ dv_LC w h X'))) 15 [some (.ref (ad 0)), some (.int (x)), some (.ref (ad 39)), none] [.ref q9] n ad (xs_mem G ad X1) 1 6 := by
    intro hr q9 X1 hpost
    refine jq_astore_n dL_proved_15 rfl (by decide) rfl rfl ?_
    refine jq_iconst (v := 2) dL_proved_16 (by decide) ?_
    exact xz_ireturn dL_proved_17 rfl rfl (by decide) (⟨_, rfl, hr, hpost⟩)
  refine xx_Cw_of (L := [some (.ref (ad 0)), some (.int (x)), some (.ref (ad 39)), none]) rfl (Nat.le_of_ble_eq_true rfl) rfl ?_
  rcases (Bool.eq_false_or_eq_true (tb_inB x (tb_ne w h))).symm with hc | hc
  · skip
    refine jq_aload_n dL_proved_0 rfl rfl ?_
    refine jq_iconst (v := (nI 0)) dL_proved_1 (by decide) ?_
    refine jq_aload_n dL_proved_2 rfl rfl ?_
    refine jq_iload_n dL_proved_3 rfl rfl ?_
    exact xx_invc 12 dL_proved_4 kL_45 hL_45 (c_X5_proved_no hl hn2 hA hLC x hno) (xs_lt (by decide) hn) ⟨rfl, rfl⟩ rfl rfl (Nat.le_of_ble_eq_true rfl) ⟨⟨by decide, by decide⟩, by decide, by decide⟩ (fun E X1 q9 hE => ⟨by rw [hE.1, if_neg (by rw [hc]; decide)]; exact at_proved_B, hhB (by rw [hc]; rfl) q9 X1 hE.2⟩)
  · have hno2 := hno
    rw [hc, Bool.true_and] at hno2
    refine jq_aload_n dL_proved_0 rfl rfl ?_
    refine jq_iconst (v := (nI 0)) dL_proved_1 (by decide) ?_
    refine jq_aload_n dL_proved_2 rfl rfl ?_
    refine jq_iload_n dL_proved_3 rfl rfl ?_
    exact xx_invc 15 dL_proved_4 kL_45 hL_45 (c_X5_proved_no hl hn2 hA hLC x hno) (xs_lt (by decide) hn) ⟨rfl, rfl⟩ rfl rfl (Nat.le_of_ble_eq_true rfl) ⟨⟨by decide, by decide⟩, by decide, by decide⟩ (fun E X1 q9 hE => ⟨by rw [hE.1, if_pos hc]; exact at_proved_S, hhS (by rw [hc, hno2]; rfl) q9 X1 hE.2⟩)
set_option maxHeartbeats 4000000 in
theorem c_L_beyondRules_ok {l : Launch} {G : jq_G} {n : Nat} {ad : Nat → Nat} {X : xs_T} (hn : 40 ≤ n) {w h : Nat} {num : Nat → Int32} {mk : Nat → Nat} (hA : dv_A w h num mk X) (hLC : dv_LC w h X) (h0 : 0 < tb_cnt2 w h num mk (-1)) : xx_Cw l G mL_beyondRules hL_beyondRules 24 [.ref (ad 0), .ref (ad 39)] n ad X (xs_pi (fun r X' => r = nI 0 ∧ xs_fr (39 :: 20 :: dv_SC) ((19, 2) :: (19, 3) :: dv_FC) X X' ∧ dv_LC w h X' ∧ X'.2.2.2 39 0 = (nI (tb_bey w h num mk)).toInt64)) := by
  have hn2 : 21 ≤ n := by omega
  have hi0 : vp_in (nI 0) 1 := vp_inN (by decide) (by decide)
  refine xx_Cw_of (L := [some (.ref (ad 0)), some (.ref (ad 39)), none]) rfl (Nat.le_of_ble_eq_true rfl) rfl ?_
  refine jq_aload_n dL_beyondRules_0 rfl rfl ?_
  refine jq_iconst (v := (nI 0)) dL_beyondRules_1 (by decide) ?_
  refine jq_aload_n dL_beyondRules_2 rfl rfl ?_
  refine xq_rI dL_beyondRules_3 kL_50 (c_X5_beyondRules_ok hn2 hA hLC h0) (xs_lt (by decide) hn) ⟨rfl, rfl⟩ rfl rfl (Nat.le_of_ble_eq_true rfl) ⟨⟨by decide, by decide⟩, by decide, by decide⟩ (fun v3 X3 h3 => ?_)
  obtain ⟨a1, a2, a3⟩ := h3
  subst a1
  refine jq_i2l dL_beyondRules_6 rfl ?_
  refine xq_lastore dL_beyondRules_7 (xs_lt (by decide) hn) rfl hi0 ?_
  refine jq_goto (tgt := 14) dL_beyondRules_8 (by decide) ?_
  refine jq_iconst (v := (nI 0)) dL_beyondRules_14 (by decide) ?_
  exact xz_ireturn dL_beyondRules_15 rfl rfl (by decide) (⟨_, rfl, rfl, xs_fr_tr (xs_fr_mo a2 (by decide)) (xs_fr_mo out_fr (by decide)), dv_lcfr a3 out_fr, out_at⟩)
set_option maxHeartbeats 4000000 in
theorem c_L_beyondRules_no {l : Launch} {G : jq_G} {n : Nat} {ad : Nat → Nat} {X : xs_T} (hl : l.stackTraces = false) (hn : 40 ≤ n) {w h : Nat} {num : Nat → Int32} {mk : Nat → Nat} (hA : dv_A w h num mk X) (hLC : dv_LC w h X) (h0 : tb_cnt2 w h num mk (-1) = 0) : xx_Cw l G mL_beyondRules hL_beyondRules 24 [.ref (ad 0), .ref (ad 39)] n ad X (xs_pi (fun r X' => r = 1 ∧ xs_fr dv_SL dv_FL X X' ∧ dv_LC w h X')) := by
  have hn2 : 21 ≤ n := by omega
  have hhS : (1 : Int32) = 1 → ∀ (q9 : Addr) (X1 : xs_T), (xs_fr dv_SL dv_FL X X1 ∧ dv_LC w h X1) → jq_J l G mL_beyondRules (jq_R 24 1 6) (jx_E (tableOf hL_beyondRules)) (xx_Yw G n ad (xs_pi (fun r X' => r = 1 ∧ xs_fr dv_SL dv_FL X X' ∧ dv_LC w h X'))) 11 [some (.ref (ad 0)), some (.ref (ad 39)), none] [.ref q9] n ad (xs_mem G ad X1) 1 6 := by
    intro hr q9 X1 hpost
    refine jq_astore_n dL_beyondRules_11 rfl (by decide) rfl rfl ?_
    refine jq_iconst (v := 1) dL_beyondRules_12 (by decide) ?_
    exact xz_ireturn dL_beyondRules_13 rfl rfl (by decide) (⟨_, rfl, hr, hpost⟩)
  refine xx_Cw_of (L := [some (.ref (ad 0)), some (.ref (ad 39)), none]) rfl (Nat.le_of_ble_eq_true rfl) rfl ?_
  refine jq_aload_n dL_beyondRules_0 rfl rfl ?_
  refine jq_iconst (v := (nI 0)) dL_beyondRules_1 (by decide) ?_
  refine jq_aload_n dL_beyondRules_2 rfl rfl ?_
  exact xx_invc 11 dL_beyondRules_3 kL_50 hL_50 (c_X5_beyondRules_no hl hn2 hA hLC h0) (xs_lt (by decide) hn) ⟨rfl, rfl⟩ rfl rfl (Nat.le_of_ble_eq_true rfl) ⟨⟨by decide, by decide⟩, by decide, by decide⟩ (fun E X1 q9 hE => ⟨by rw [hE.1]; exact at_beyondRules_S, hhS rfl q9 X1 hE.2⟩)
set_option maxHeartbeats 4000000 in
theorem c_L_isNeeded_ok {l : Launch} {G : jq_G} {n : Nat} {ad : Nat → Nat} {X : xs_T} (hn : 40 ≤ n) {w h : Nat} {num : Nat → Int32} {mk : Nat → Nat} (hA : dv_A w h num mk X) (hLC : dv_LC w h X) {c : Nat} (hc : c < tb_nc w h) : xx_Cw l G mL_isNeeded hL_isNeeded 24 [.ref (ad 0), .int (nI (c)), .ref (ad 39)] n ad X (xs_pi (fun r X' => r = nI 0 ∧ xs_fr [20, 39] dv_FL X X' ∧ dv_LC w h X' ∧ X'.2.2.2 39 0 = tb_l (!(num c == -1) && decide (tb_cnt2 w h num mk (-1) < tb_cnt2 w h num mk (nI c))))) := by
  have hn2 : 21 ≤ n := by omega
  have hi0 : vp_in (nI 0) 1 := vp_inN (by decide) (by decide)
  refine xx_Cw_of (L := [some (.ref (ad 0)), some (.int (nI (c))), some (.ref (ad 39)), none]) rfl (Nat.le_of_ble_eq_true rfl) rfl ?_
  refine jq_aload_n dL_isNeeded_0 rfl rfl ?_
  refine jq_iconst (v := (nI 0)) dL_isNeeded_1 (by decide) ?_
  refine jq_aload_n dL_isNeeded_2 rfl rfl ?_
  refine jq_iload_n dL_isNeeded_3 rfl rfl ?_
  refine xq_rI dL_isNeeded_4 kL_54 (c_X5_isNeeded_ok hn2 hA hLC hc) (xs_lt (by decide) hn) ⟨rfl, rfl⟩ rfl rfl (Nat.le_of_ble_eq_true rfl) ⟨⟨by decide, by decide⟩, by decide, by decide⟩ (fun v4 X4 h4 => ?_)
  obtain ⟨a1, a2, a3⟩ := h4
  subst a1
  refine jq_if_eq (tgt := 14) dL_isNeeded_7 (by decide) (fun c7 => ?_) (fun c7 => ?_)
  · have dBR := tb_b0.mp c7
    refine jq_lconst (v := 0) dL_isNeeded_14 (by decide) ?_
    refine xq_lastore dL_isNeeded_15 (xs_lt (by decide) hn) rfl hi0 ?_
    refine jq_goto (tgt := 22) dL_isNeeded_16 (by decide) ?_
    refine jq_iconst (v := (nI 0)) dL_isNeeded_22 (by decide) ?_
    exact xz_ireturn dL_isNeeded_23 rfl rfl (by decide) (⟨_, rfl, rfl, xs_fr_tr (xs_fr_mo a2 (by decide)) (xs_fr_mo out_fr (by decide)), dv_lcfr a3 out_fr, out_at.trans (by rw [dBR]; rfl)⟩)
  · have dBR := tb_b1.mp c7
    refine jq_lconst (v := 1) dL_isNeeded_10 (by decide) ?_
    refine jq_goto (tgt := 15) dL_isNeeded_11 (by decide) ?_
    refine xq_lastore dL_isNeeded_15 (xs_lt (by decide) hn) rfl hi0 ?_
    refine jq_goto (tgt := 22) dL_isNeeded_16 (by decide) ?_
    refine jq_iconst (v := (nI 0)) dL_isNeeded_22 (by decide) ?_
    exact xz_ireturn dL_isNeeded_23 rfl rfl (by decide) (⟨_, rfl, rfl, xs_fr_tr (xs_fr_mo a2 (by decide)) (xs_fr_mo out_fr (by decide)), dv_lcfr a3 out_fr, out_at.trans (by rw [dBR]; rfl)⟩)
set_option maxHeartbeats 4000000 in
theorem c_L_isNeeded_no {l : Launch} {G : jq_G} {n : Nat} {ad : Nat → Nat} {X : xs_T} (hl : l.stackTraces = false) (hn : 40 ≤ n) {w h : Nat} (hT : dv_T w h X) (x : Int32) (hx : tb_inB x (tb_nc w h) = false) : xx_Cw l G mL_isNeeded hL_isNeeded 24 [.ref (ad 0), .int (x), .ref (ad 39)] n ad X (xs_pi (fun r X' => r = 1 ∧ X' = X)) := by
  have hn2 : 21 ≤ n := by omega
  have hhB : (1 : Int32) = 1 → ∀ (q9 : Addr) (X1 : xs_T), (X1 = X) → jq_J l G mL_isNeeded (jq_R 24 1 6) (jx_E (tableOf hL_isNeeded)) (xx_Yw G n ad (xs_pi (fun r X' => r = 1 ∧ X' = X))) 19 [some (.ref (ad 0)), some (.int (x)), some (.ref (ad 39)), none] [.ref q9] n ad (xs_mem G ad X1) 1 6 := by
    intro hr q9 X1 hpost
    refine jq_astore_n dL_isNeeded_19 rfl (by decide) rfl rfl ?_
    refine jq_iconst (v := 1) dL_isNeeded_20 (by decide) ?_
    exact xz_ireturn dL_isNeeded_21 rfl rfl (by decide) (⟨_, rfl, hr, hpost⟩)
  refine xx_Cw_of (L := [some (.ref (ad 0)), some (.int (x)), some (.ref (ad 39)), none]) rfl (Nat.le_of_ble_eq_true rfl) rfl ?_
  refine jq_aload_n dL_isNeeded_0 rfl rfl ?_
  refine jq_iconst (v := (nI 0)) dL_isNeeded_1 (by decide) ?_
  refine jq_aload_n dL_isNeeded_2 rfl rfl ?_
  refine jq_iload_n dL_isNeeded_3 rfl rfl ?_
  exact xx_invc 19 dL_isNeeded_4 kL_54 hL_54 (c_X5_isNeeded_no hl hn2 hT x hx) (xs_lt (by decide) hn) ⟨rfl, rfl⟩ rfl rfl (Nat.le_of_ble_eq_true rfl) ⟨⟨by decide, by decide⟩, by decide, by decide⟩ (fun E X1 q9 hE => ⟨by rw [hE.1]; exact at_isNeeded_B, hhB rfl q9 X1 hE.2⟩)
