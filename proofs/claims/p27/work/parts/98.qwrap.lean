/-! the law's wrappers: what is caught where; their contracts. printed by wip/p27/gen/mk83.py -/
theorem uL_93 : Cond.classLink RL 93 jx_nA ∈ jq_big := jq_in1 293 (by decide +kernel) rfl
theorem jx_cA : Cond.castable jx_nA jx_nA ∈ jx_bad := by decide +kernel
theorem uL_91 : Cond.classLink RL 91 jx_nB ∈ jq_big := jq_in1 377 (by decide +kernel) rfl
theorem jx_cB : Cond.castable jx_nB jx_nB ∈ jx_bad := by decide +kernel
theorem uL_129 : Cond.classLink RL 129 jx_nS ∈ jq_big := jq_in1 740 (by decide +kernel) rfl
theorem jx_cS : Cond.castable jx_nS jx_nS ∈ jx_bad := by decide +kernel
theorem at_laid_3_A : jx_at (tableOf hL_laid) RL 3 jx_nA 8 := ⟨[], { startPc := 0, endPc := 7, handlerPc := 8, catchType := 93 }, [], _, rfl, (fun z hz => by cases hz), ⟨by decide, by decide, rfl⟩, uL_93, jx_cA⟩
theorem at_tells_7_B : jx_at (tableOf hL_tells) RL 7 jx_nB 20 := ⟨[], { startPc := 0, endPc := 19, handlerPc := 20, catchType := 91 }, [{ startPc := 0, endPc := 19, handlerPc := 25, catchType := 93 }], _, rfl, (fun z hz => by cases hz), ⟨by decide, by decide, rfl⟩, uL_91, jx_cB⟩
theorem at_tells_7_A : jx_at (tableOf hL_tells) RL 7 jx_nA 25 := ⟨[({ startPc := 0, endPc := 19, handlerPc := 20, catchType := 91 } : ExceptionTableEntry)], { startPc := 0, endPc := 19, handlerPc := 25, catchType := 93 }, [], _, rfl, (fun z hz => by rw [List.mem_singleton.mp hz]; exact Or.inr ⟨by decide, _, uL_91, by decide +kernel⟩), ⟨by decide, by decide, rfl⟩, uL_93, jx_cA⟩
theorem at_tells_16_B : jx_at (tableOf hL_tells) RL 16 jx_nB 20 := ⟨[], { startPc := 0, endPc := 19, handlerPc := 20, catchType := 91 }, [{ startPc := 0, endPc := 19, handlerPc := 25, catchType := 93 }], _, rfl, (fun z hz => by cases hz), ⟨by decide, by decide, rfl⟩, uL_91, jx_cB⟩
theorem at_tells_16_A : jx_at (tableOf hL_tells) RL 16 jx_nA 25 := ⟨[({ startPc := 0, endPc := 19, handlerPc := 20, catchType := 91 } : ExceptionTableEntry)], { startPc := 0, endPc := 19, handlerPc := 25, catchType := 93 }, [], _, rfl, (fun z hz => by rw [List.mem_singleton.mp hz]; exact Or.inr ⟨by decide, _, uL_91, by decide +kernel⟩), ⟨by decide, by decide, rfl⟩, uL_93, jx_cA⟩
theorem at_of_6_B : jx_at (tableOf hL_of) RL 6 jx_nB 83 := ⟨[], { startPc := 0, endPc := 82, handlerPc := 83, catchType := 91 }, [], _, rfl, (fun z hz => by cases hz), ⟨by decide, by decide, rfl⟩, uL_91, jx_cB⟩
theorem at_of_19_B : jx_at (tableOf hL_of) RL 19 jx_nB 83 := ⟨[], { startPc := 0, endPc := 82, handlerPc := 83, catchType := 91 }, [], _, rfl, (fun z hz => by cases hz), ⟨by decide, by decide, rfl⟩, uL_91, jx_cB⟩
theorem at_of_32_B : jx_at (tableOf hL_of) RL 32 jx_nB 83 := ⟨[], { startPc := 0, endPc := 82, handlerPc := 83, catchType := 91 }, [], _, rfl, (fun z hz => by cases hz), ⟨by decide, by decide, rfl⟩, uL_91, jx_cB⟩
theorem at_of_46_B : jx_at (tableOf hL_of) RL 46 jx_nB 83 := ⟨[], { startPc := 0, endPc := 82, handlerPc := 83, catchType := 91 }, [], _, rfl, (fun z hz => by cases hz), ⟨by decide, by decide, rfl⟩, uL_91, jx_cB⟩
theorem at_of_59_B : jx_at (tableOf hL_of) RL 59 jx_nB 83 := ⟨[], { startPc := 0, endPc := 82, handlerPc := 83, catchType := 91 }, [], _, rfl, (fun z hz => by cases hz), ⟨by decide, by decide, rfl⟩, uL_91, jx_cB⟩
theorem at_of_71_B : jx_at (tableOf hL_of) RL 71 jx_nB 83 := ⟨[], { startPc := 0, endPc := 82, handlerPc := 83, catchType := 91 }, [], _, rfl, (fun z hz => by cases hz), ⟨by decide, by decide, rfl⟩, uL_91, jx_cB⟩
theorem at_answer_2_B : jx_at (tableOf hL_answer) RL 2 jx_nB 6 := ⟨[], { startPc := 0, endPc := 5, handlerPc := 6, catchType := 91 }, [], _, rfl, (fun z hz => by cases hz), ⟨by decide, by decide, rfl⟩, uL_91, jx_cB⟩
theorem at_proved_2_B : jx_at (tableOf hL_proved) RL 2 jx_nB 6 := ⟨[], { startPc := 0, endPc := 5, handlerPc := 6, catchType := 91 }, [{ startPc := 0, endPc := 5, handlerPc := 10, catchType := 129 }], _, rfl, (fun z hz => by cases hz), ⟨by decide, by decide, rfl⟩, uL_91, jx_cB⟩
theorem at_proved_2_S : jx_at (tableOf hL_proved) RL 2 jx_nS 10 := ⟨[({ startPc := 0, endPc := 5, handlerPc := 6, catchType := 91 } : ExceptionTableEntry)], { startPc := 0, endPc := 5, handlerPc := 10, catchType := 129 }, [], _, rfl, (fun z hz => by rw [List.mem_singleton.mp hz]; exact Or.inr ⟨by decide, _, uL_91, by decide +kernel⟩), ⟨by decide, by decide, rfl⟩, uL_129, jx_cS⟩
theorem at_beyond_1_S : jx_at (tableOf hL_beyond) RL 1 jx_nS 5 := ⟨[], { startPc := 0, endPc := 4, handlerPc := 5, catchType := 129 }, [], _, rfl, (fun z hz => by cases hz), ⟨by decide, by decide, rfl⟩, uL_129, jx_cS⟩
theorem xz_lreturn {l : Launch} {G : jq_G} {M : jq_M} {R : Room} {Ex : jq_E} {pc mc ms : Nat} {L : jq_L} {n : Nat} {ad : Nat → Nat} {X : xs_T} {cells slots : Nat} {Pr : Option Value → xs_T → Prop} {PZ : String → Nat → (Nat → Nat) → (Nat → va_E) → Prop} {v : Int64} (hd : decode M.2.1 pc = .ok (.lreturn, 1)) (hr : M.2.2.2 = some .long) (hc : cells ≤ mc ∧ slots ≤ ms) (k : Pr (some (.long v)) X) : jq_J l G M R Ex (jx_Ye G (xx_P G n ad Pr) PZ mc ms) pc L [.long v] n ad (xs_mem G ad X) cells slots :=
  jx_ret (jq_lreturn hd hr hc.1 hc.2 ⟨rfl, rfl, X, rfl, k⟩)
theorem dv_lcfr {w h : Nat} {S : List Nat} {F : List (Nat × Nat)} {X Y : xs_T} (hL : dv_LC w h X) (hf : xs_fr S F X Y) (hq : (!decide (20 ∈ S) && !decide ((19, 2) ∈ F)) = true := by decide) (hq2 : decide ((19, 3) ∈ F) = false := by decide) : dv_LC w h Y := hL.imp (fun q => xs_fi hf 19 3 q hq2) (fun q => ⟨xs_fi hf 19 3 q.1 hq2, dv_lsfr q.2 hf hq⟩)
set_option maxHeartbeats 4000000 in
theorem c_L_laid_ok {l : Launch} {G : jq_G} {n : Nat} {ad : Nat → Nat} {X : xs_T} (hn : 21 ≤ n) {w h : Nat} (hW : tb_W w h) : xx_Cw l G mL_laid hL_laid 24 [.ref (ad 0), .int (nI (w)), .int (nI (h))] n ad X (xs_pi (fun r X' => r = nI 0 ∧ xs_fr dv_SY dv_FY X X' ∧ dv_A w h (fun _ => -1) (fun _ => 0) X' ∧ dv_LC w h X')) := by
  have hn2 := hn
  refine xx_Cw_of (L := [some (.ref (ad 0)), some (.int (nI (w))), some (.int (nI (h))), none]) rfl (Nat.le_of_ble_eq_true rfl) rfl ?_
  refine jq_aload_n dL_laid_0 rfl rfl ?_
  refine jq_iload_n dL_laid_1 rfl rfl ?_
  refine jq_iload_n dL_laid_2 rfl rfl ?_
  refine xq_rV dL_laid_3 kL_95 (c_X5_lay_ok hn2 hW) (xs_lt (by decide) hn) ⟨rfl, rfl⟩ rfl rfl (Nat.le_of_ble_eq_true rfl) ⟨⟨by decide, by decide⟩, by decide, by decide⟩ (fun X3 h3 => ?_)
  refine jq_iconst (v := (nI 0)) dL_laid_6 (by decide) ?_
  exact xz_ireturn dL_laid_7 rfl rfl (by decide) (⟨_, rfl, rfl, h3⟩)
set_option maxHeartbeats 4000000 in
theorem c_L_tellsN_ok {l : Launch} {G : jq_G} {n : Nat} {ad : Nat → Nat} {X : xs_T} (hn : 21 ≤ n) {w h : Nat} {num : Nat → Int32} {mk : Nat → Nat} (hA : dv_A w h num mk X) {c : Nat} (hc : c < tb_nc w h) {v : Int32} (hv : tb_numOk v = true) : xx_Cw l G mL_tells hL_tells 24 [.ref (ad 0), .int (nI (1)), .int (nI (c)), .int (v)] n ad X (xs_pi (fun r X' => r = num c ∧ xs_fr [2] [] X X' ∧ dv_A w h (tb_up num c v) mk X')) := by
  have hn2 := hn
  refine xx_Cw_of (L := [some (.ref (ad 0)), some (.int (nI (1))), some (.int (nI (c))), some (.int (v)), none]) rfl (Nat.le_of_ble_eq_true rfl) rfl ?_
  refine jq_iload_n dL_tells_0 rfl rfl ?_
  refine jq_eqZ (tgt := 13) dL_tells_1 (by decide) (by decide) (fun c1 => ?_) (fun c1 => ?_)
  · exact absurd c1 (by decide)
  · refine jq_aload_n dL_tells_4 rfl rfl ?_
    refine jq_iload_n dL_tells_5 rfl rfl ?_
    refine jq_iload_n dL_tells_6 rfl rfl ?_
    refine xq_rI dL_tells_7 kL_82 (c_X5_number_ok hn2 hA hc hv) (xs_lt (by decide) hn) ⟨rfl, rfl⟩ rfl rfl (Nat.le_of_ble_eq_true rfl) ⟨⟨by decide, by decide⟩, by decide, by decide⟩ (fun v7 X7 h7 => ?_)
    refine jq_goto (tgt := 19) dL_tells_10 (by decide) ?_
    exact xz_ireturn dL_tells_19 rfl rfl (by decide) (⟨_, rfl, h7⟩)
set_option maxHeartbeats 4000000 in
theorem c_L_tellsM_ok {l : Launch} {G : jq_G} {n : Nat} {ad : Nat → Nat} {X : xs_T} (hn : 21 ≤ n) {w h : Nat} {num : Nat → Int32} {mk : Nat → Nat} (hA : dv_A w h num mk X) {c s : Nat} (hc : c < tb_ne w h) (hs : s ≤ 2) : xx_Cw l G mL_tells hL_tells 24 [.ref (ad 0), .int (nI (0)), .int (nI (c)), .int (nI (s))] n ad X (xs_pi (fun r X' => r = nI (mk c) ∧ xs_fr [] [(0, 4), (0, 5)] X X' ∧ dv_A w h num (tb_up mk c s) X')) := by
  have hn2 := hn
  refine xx_Cw_of (L := [some (.ref (ad 0)), some (.int (nI (0))), some (.int (nI (c))), some (.int (nI (s))), none]) rfl (Nat.le_of_ble_eq_true rfl) rfl ?_
  refine jq_iload_n dL_tells_0 rfl rfl ?_
  refine jq_eqZ (tgt := 13) dL_tells_1 (by decide) (by decide) (fun c1 => ?_) (fun c1 => ?_)
  · refine jq_aload_n dL_tells_13 rfl rfl ?_
    refine jq_iload_n dL_tells_14 rfl rfl ?_
    refine jq_iload_n dL_tells_15 rfl rfl ?_
    refine xq_rI dL_tells_16 kL_88 (c_X5_mark_ok hn2 hA hc hs) (xs_lt (by decide) hn) ⟨rfl, rfl⟩ rfl rfl (Nat.le_of_ble_eq_true rfl) ⟨⟨by decide, by decide⟩, by decide, by decide⟩ (fun v16 X16 h16 => ?_)
    exact xz_ireturn dL_tells_19 rfl rfl (by decide) (⟨_, rfl, h16⟩)
  · exact absurd rfl c1
set_option maxHeartbeats 4000000 in
theorem c_L_of0_ok {l : Launch} {G : jq_G} {n : Nat} {ad : Nat → Nat} {X : xs_T} (hn : 21 ≤ n) {w h : Nat} {num : Nat → Int32} {mk : Nat → Nat} (hA : dv_A w h num mk X) {j : Nat} (hj : j < tb_ne w h) (z : Int32) : xx_Cw l G mL_of hL_of 24 [.ref (ad 0), .int (nI (0)), .int (nI (j)), .int (z)] n ad X (xs_pi (fun r X' => r = nI ((tb_follow w h num mk).1 j) ∧ xs_fr dv_SC dv_FC X X')) := by
  have hn2 := hn
  refine xx_Cw_of (L := [some (.ref (ad 0)), some (.int (nI (0))), some (.int (nI (j))), some (.int (z)), none]) rfl (Nat.le_of_ble_eq_true rfl) rfl ?_
  refine jq_iload_n dL_of_0 rfl rfl ?_
  refine jq_neZ (tgt := 12) dL_of_1 (by decide) (by decide) (fun c1 => ?_) (fun c1 => ?_)
  · exact absurd rfl c1
  · refine jq_aload_n dL_of_4 rfl rfl ?_
    refine jq_iload_n dL_of_5 rfl rfl ?_
    refine xq_rI dL_of_6 kL_99 (c_X5_follows_ok hn2 hA hj) (xs_lt (by decide) hn) ⟨rfl, rfl⟩ rfl rfl (Nat.le_of_ble_eq_true rfl) ⟨⟨by decide, by decide⟩, by decide, by decide⟩ (fun v6 X6 h6 => ?_)
    refine jq_goto (tgt := 82) dL_of_9 (by decide) ?_
    exact xz_ireturn dL_of_82 rfl rfl (by decide) (⟨_, rfl, h6⟩)
set_option maxHeartbeats 4000000 in
theorem c_L_of1_ok {l : Launch} {G : jq_G} {n : Nat} {ad : Nat → Nat} {X : xs_T} (hn : 21 ≤ n) {w h : Nat} {num : Nat → Int32} {mk : Nat → Nat} (hA : dv_A w h num mk X) {j : Nat} (hj : j < tb_ne w h) (z : Int32) : xx_Cw l G mL_of hL_of 24 [.ref (ad 0), .int (nI (1)), .int (nI (j)), .int (z)] n ad X (xs_pi (fun r X' => r = (tb_follow w h num mk).2.1 j ∧ xs_fr dv_SC dv_FC X X')) := by
  have hn2 := hn
  refine xx_Cw_of (L := [some (.ref (ad 0)), some (.int (nI (1))), some (.int (nI (j))), some (.int (z)), none]) rfl (Nat.le_of_ble_eq_true rfl) rfl ?_
  refine jq_iload_n dL_of_0 rfl rfl ?_
  refine jq_neZ (tgt := 12) dL_of_1 (by decide) (by decide) (fun c1 => ?_) (fun c1 => ?_)
  · refine jq_iload_n dL_of_12 rfl rfl ?_
    refine jq_iconst (v := (nI 1)) dL_of_13 (by decide) ?_
    refine jq_neN (tgt := 25) dL_of_14 (by decide) ⟨by omega, by omega⟩ (fun c14 => ?_) (fun c14 => ?_)
    · exact absurd rfl c14
    · refine jq_aload_n dL_of_17 rfl rfl ?_
      refine jq_iload_n dL_of_18 rfl rfl ?_
      refine xq_rI dL_of_19 kL_103 (c_X5_roundOf_ok hn2 hA hj) (xs_lt (by decide) hn) ⟨rfl, rfl⟩ rfl rfl (Nat.le_of_ble_eq_true rfl) ⟨⟨by decide, by decide⟩, by decide, by decide⟩ (fun v19 X19 h19 => ?_)
      refine jq_goto (tgt := 82) dL_of_22 (by decide) ?_
      exact xz_ireturn dL_of_82 rfl rfl (by decide) (⟨_, rfl, h19⟩)
  · exact absurd c1 (by decide)
set_option maxHeartbeats 4000000 in
theorem c_L_of2_ok {l : Launch} {G : jq_G} {n : Nat} {ad : Nat → Nat} {X : xs_T} (hn : 21 ≤ n) {w h : Nat} {num : Nat → Int32} {mk : Nat → Nat} (hA : dv_A w h num mk X) {j : Nat} (hj : j < tb_ne w h) (z : Int32) : xx_Cw l G mL_of hL_of 24 [.ref (ad 0), .int (nI (2)), .int (nI (j)), .int (z)] n ad X (xs_pi (fun r X' => r = (tb_follow w h num mk).2.2.1 j ∧ xs_fr dv_SC dv_FC X X')) := by
  have hn2 := hn
  refine xx_Cw_of (L := [some (.ref (ad 0)), some (.int (nI (2))), some (.int (nI (j))), some (.int (z)), none]) rfl (Nat.le_of_ble_eq_true rfl) rfl ?_
  refine jq_iload_n dL_of_0 rfl rfl ?_
  refine jq_neZ (tgt := 12) dL_of_1 (by decide) (by decide) (fun c1 => ?_) (fun c1 => ?_)
  · refine jq_iload_n dL_of_12 rfl rfl ?_
    refine jq_iconst (v := (nI 1)) dL_of_13 (by decide) ?_
    refine jq_neN (tgt := 25) dL_of_14 (by decide) ⟨by omega, by omega⟩ (fun c14 => ?_) (fun c14 => ?_)
    · refine jq_iload_n dL_of_25 rfl rfl ?_
      refine jq_iconst (v := (nI 2)) dL_of_26 (by decide) ?_
      refine jq_neN (tgt := 38) dL_of_27 (by decide) ⟨by omega, by omega⟩ (fun c27 => ?_) (fun c27 => ?_)
      · exact absurd rfl c27
      · refine jq_aload_n dL_of_30 rfl rfl ?_
        refine jq_iload_n dL_of_31 rfl rfl ?_
        refine xq_rI dL_of_32 kL_106 (c_X5_ruleOf_ok hn2 hA hj) (xs_lt (by decide) hn) ⟨rfl, rfl⟩ rfl rfl (Nat.le_of_ble_eq_true rfl) ⟨⟨by decide, by decide⟩, by decide, by decide⟩ (fun v32 X32 h32 => ?_)
        refine jq_goto (tgt := 82) dL_of_35 (by decide) ?_
        exact xz_ireturn dL_of_82 rfl rfl (by decide) (⟨_, rfl, h32⟩)
    · exact absurd c14 (by decide)
  · exact absurd c1 (by decide)
set_option maxHeartbeats 4000000 in
theorem c_L_of3_ok {l : Launch} {G : jq_G} {n : Nat} {ad : Nat → Nat} {X : xs_T} (hn : 21 ≤ n) {w h : Nat} (hT : dv_T w h X) {c s : Nat} (hc : c < tb_nc w h) (hs : s < 4) : xx_Cw l G mL_of hL_of 24 [.ref (ad 0), .int (nI (3)), .int (nI (c)), .int (nI (s))] n ad X (xs_pi (fun r X' => r = nI (tb_sid w h c s) ∧ X' = X)) := by
  have hn2 := hn
  refine xx_Cw_of (L := [some (.ref (ad 0)), some (.int (nI (3))), some (.int (nI (c))), some (.int (nI (s))), none]) rfl (Nat.le_of_ble_eq_true rfl) rfl ?_
  refine jq_iload_n dL_of_0 rfl rfl ?_
  refine jq_neZ (tgt := 12) dL_of_1 (by decide) (by decide) (fun c1 => ?_) (fun c1 => ?_)
  · refine jq_iload_n dL_of_12 rfl rfl ?_
    refine jq_iconst (v := (nI 1)) dL_of_13 (by decide) ?_
    refine jq_neN (tgt := 25) dL_of_14 (by decide) ⟨by omega, by omega⟩ (fun c14 => ?_) (fun c14 => ?_)
    · refine jq_iload_n dL_of_25 rfl rfl ?_
      refine jq_iconst (v := (nI 2)) dL_of_26 (by decide) ?_
      refine jq_neN (tgt := 38) dL_of_27 (by decide) ⟨by omega, by omega⟩ (fun c27 => ?_) (fun c27 => ?_)
      · refine jq_iload_n dL_of_38 rfl rfl ?_
        refine jq_iconst (v := (nI 3)) dL_of_39 (by decide) ?_
        refine jq_neN (tgt := 52) dL_of_40 (by decide) ⟨by omega, by omega⟩ (fun c40 => ?_) (fun c40 => ?_)
        · exact absurd rfl c40
        · refine jq_aload_n dL_of_43 rfl rfl ?_
          refine jq_iload_n dL_of_44 rfl rfl ?_
          refine jq_iload_n dL_of_45 rfl rfl ?_
          refine xq_vI dL_of_46 kL_109 (c_X5_edgeOf_ok hn2 hT hc hs) (xs_lt (by decide) hn) ⟨rfl, rfl⟩ rfl rfl (Nat.le_of_ble_eq_true rfl) ⟨⟨by decide, by decide⟩, by decide, by decide⟩ ?_
          refine jq_goto (tgt := 82) dL_of_49 (by decide) ?_
          exact xz_ireturn dL_of_82 rfl rfl (by decide) (⟨_, rfl, rfl, rfl⟩)
      · exact absurd c27 (by decide)
    · exact absurd c14 (by decide)
  · exact absurd c1 (by decide)
set_option maxHeartbeats 4000000 in
theorem c_L_of4_ok {l : Launch} {G : jq_G} {n : Nat} {ad : Nat → Nat} {X : xs_T} (hn : 21 ≤ n) {w h : Nat} {num : Nat → Int32} {mk : Nat → Nat} (hA : dv_A w h num mk X) (hLC : dv_LC w h X) {c : Nat} (hc : c < tb_nc w h) (z : Int32) : xx_Cw l G mL_of hL_of 24 [.ref (ad 0), .int (nI (4)), .int (nI (c)), .int (z)] n ad X (xs_pi (fun r X' => r = tb_b (!(num c == -1) && decide (tb_cnt2 w h num mk (-1) < tb_cnt2 w h num mk (nI c))) ∧ xs_fr dv_SL dv_FL X X' ∧ dv_LC w h X')) := by
  have hn2 := hn
  refine xx_Cw_of (L := [some (.ref (ad 0)), some (.int (nI (4))), some (.int (nI (c))), some (.int (z)), none]) rfl (Nat.le_of_ble_eq_true rfl) rfl ?_
  refine jq_iload_n dL_of_0 rfl rfl ?_
  refine jq_neZ (tgt := 12) dL_of_1 (by decide) (by decide) (fun c1 => ?_) (fun c1 => ?_)
  · refine jq_iload_n dL_of_12 rfl rfl ?_
    refine jq_iconst (v := (nI 1)) dL_of_13 (by decide) ?_
    refine jq_neN (tgt := 25) dL_of_14 (by decide) ⟨by omega, by omega⟩ (fun c14 => ?_) (fun c14 => ?_)
    · refine jq_iload_n dL_of_25 rfl rfl ?_
      refine jq_iconst (v := (nI 2)) dL_of_26 (by decide) ?_
      refine jq_neN (tgt := 38) dL_of_27 (by decide) ⟨by omega, by omega⟩ (fun c27 => ?_) (fun c27 => ?_)
      · refine jq_iload_n dL_of_38 rfl rfl ?_
        refine jq_iconst (v := (nI 3)) dL_of_39 (by decide) ?_
        refine jq_neN (tgt := 52) dL_of_40 (by decide) ⟨by omega, by omega⟩ (fun c40 => ?_) (fun c40 => ?_)
        · refine jq_iload_n dL_of_52 rfl rfl ?_
          refine jq_iconst (v := (nI 4)) dL_of_53 (by decide) ?_
          refine jq_neN (tgt := 68) dL_of_54 (by decide) ⟨by omega, by omega⟩ (fun c54 => ?_) (fun c54 => ?_)
          · exact absurd rfl c54
          · refine jq_aload_n dL_of_57 rfl rfl ?_
            refine jq_iload_n dL_of_58 rfl rfl ?_
            refine xq_rI dL_of_59 kL_112 (c_X5_isNeeded_ok hn2 hA hLC hc) (xs_lt (by decide) hn) ⟨rfl, rfl⟩ rfl rfl (Nat.le_of_ble_eq_true rfl) ⟨⟨by decide, by decide⟩, by decide, by decide⟩ (fun v59 X59 h59 => ?_)
            obtain ⟨a1, a2⟩ := h59
            subst a1
            refine jq_if_eq (tgt := 81) dL_of_62 (by decide) (fun c62 => ?_) (fun c62 => ?_)
            · have dBR := tb_b0.mp c62
              refine jq_iconst (v := 0) dL_of_81 (by decide) ?_
              exact xz_ireturn dL_of_82 rfl rfl (by decide) (⟨_, rfl, by rw [dBR]; rfl, a2⟩)
            · have dBR := tb_b1.mp c62
              refine jq_goto (tgt := 77) dL_of_65 (by decide) ?_
              refine jq_iconst (v := 1) dL_of_77 (by decide) ?_
              refine jq_goto (tgt := 82) dL_of_78 (by decide) ?_
              exact xz_ireturn dL_of_82 rfl rfl (by decide) (⟨_, rfl, by rw [dBR]; rfl, a2⟩)
        · exact absurd c40 (by decide)
      · exact absurd c27 (by decide)
    · exact absurd c14 (by decide)
  · exact absurd c1 (by decide)
set_option maxHeartbeats 4000000 in
theorem c_L_of5_ok {l : Launch} {G : jq_G} {n : Nat} {ad : Nat → Nat} {X : xs_T} (hn : 21 ≤ n) {w h : Nat} {num : Nat → Int32} {mk : Nat → Nat} (hA : dv_A w h num mk X) (hLC : dv_LC w h X) (a : Int32) {c C : Nat} (hc : c < tb_nc w h) (hC : C < 2 ^ tb_nc w h) (h0 : tb_pk w h num mk a ≠ 0) (hPC : tb_pk w h num mk a = dv_bd w h C) : xx_Cw l G mL_of hL_of 24 [.ref (ad 0), .int (nI (5)), .int (a), .int (nI (c))] n ad X (xs_pi (fun r X' => r = tb_b (C.testBit c) ∧ xs_fr dv_SL dv_FL X X' ∧ dv_LC w h X')) := by
  have hn2 := hn
  refine xx_Cw_of (L := [some (.ref (ad 0)), some (.int (nI (5))), some (.int (a)), some (.int (nI (c))), none]) rfl (Nat.le_of_ble_eq_true rfl) rfl ?_
  refine jq_iload_n dL_of_0 rfl rfl ?_
  refine jq_neZ (tgt := 12) dL_of_1 (by decide) (by decide) (fun c1 => ?_) (fun c1 => ?_)
  · refine jq_iload_n dL_of_12 rfl rfl ?_
    refine jq_iconst (v := (nI 1)) dL_of_13 (by decide) ?_
    refine jq_neN (tgt := 25) dL_of_14 (by decide) ⟨by omega, by omega⟩ (fun c14 => ?_) (fun c14 => ?_)
    · refine jq_iload_n dL_of_25 rfl rfl ?_
      refine jq_iconst (v := (nI 2)) dL_of_26 (by decide) ?_
      refine jq_neN (tgt := 38) dL_of_27 (by decide) ⟨by omega, by omega⟩ (fun c27 => ?_) (fun c27 => ?_)
      · refine jq_iload_n dL_of_38 rfl rfl ?_
        refine jq_iconst (v := (nI 3)) dL_of_39 (by decide) ?_
        refine jq_neN (tgt := 52) dL_of_40 (by decide) ⟨by omega, by omega⟩ (fun c40 => ?_) (fun c40 => ?_)
        · refine jq_iload_n dL_of_52 rfl rfl ?_
          refine jq_iconst (v := (nI 4)) dL_of_53 (by decide) ?_
          refine jq_neN (tgt := 68) dL_of_54 (by decide) ⟨by omega, by omega⟩ (fun c54 => ?_) (fun c54 => ?_)
          · refine jq_aload_n dL_of_68 rfl rfl ?_
            refine jq_iload_n dL_of_69 rfl rfl ?_
            refine jq_iload_n dL_of_70 rfl rfl ?_
            refine xq_rI dL_of_71 kL_116 (c_X5_isInside_ok hn2 hA hLC a hc hC h0 hPC) (xs_lt (by decide) hn) ⟨rfl, rfl⟩ rfl rfl (Nat.le_of_ble_eq_true rfl) ⟨⟨by decide, by decide⟩, by decide, by decide⟩ (fun v71 X71 h71 => ?_)
            obtain ⟨a1, a2⟩ := h71
            subst a1
            refine jq_if_eq (tgt := 81) dL_of_74 (by decide) (fun c74 => ?_) (fun c74 => ?_)
            · have dBR := tb_b0.mp c74
              refine jq_iconst (v := 0) dL_of_81 (by decide) ?_
              exact xz_ireturn dL_of_82 rfl rfl (by decide) (⟨_, rfl, by rw [dBR]; rfl, a2⟩)
            · have dBR := tb_b1.mp c74
              refine jq_iconst (v := 1) dL_of_77 (by decide) ?_
              refine jq_goto (tgt := 82) dL_of_78 (by decide) ?_
              exact xz_ireturn dL_of_82 rfl rfl (by decide) (⟨_, rfl, by rw [dBR]; rfl, a2⟩)
          · exact absurd c54 (by decide)
        · exact absurd c40 (by decide)
      · exact absurd c27 (by decide)
    · exact absurd c14 (by decide)
  · exact absurd c1 (by decide)
set_option maxHeartbeats 4000000 in
theorem c_L_answer_ok {l : Launch} {G : jq_G} {n : Nat} {ad : Nat → Nat} {X : xs_T} (hn : 21 ≤ n) {w h : Nat} {num : Nat → Int32} {mk : Nat → Nat} (hA : dv_A w h num mk X) (hLC : dv_LC w h X) (a : Int32) (h0 : tb_pk w h num mk a ≠ 0) : xx_Cw l G mL_answer hL_answer 24 [.ref (ad 0), .int (a)] n ad X (xs_pl (fun r X' => r = lN (tb_pk w h num mk a) ∧ xs_fr dv_SL dv_FL X X' ∧ dv_LC w h X')) := by
  have hn2 := hn
  refine xx_Cw_of (L := [some (.ref (ad 0)), some (.int (a)), none]) rfl (Nat.le_of_ble_eq_true rfl) rfl ?_
  refine jq_aload_n dL_answer_0 rfl rfl ?_
  refine jq_iload_n dL_answer_1 rfl rfl ?_
  refine xq_rL dL_answer_2 kL_120 (c_X5_answer_ok hn2 hA hLC a h0) (xs_lt (by decide) hn) ⟨rfl, rfl⟩ rfl rfl (Nat.le_of_ble_eq_true rfl) ⟨⟨by decide, by decide⟩, by decide, by decide⟩ (fun v2 X2 h2 => ?_)
  exact xz_lreturn dL_answer_5 rfl (by decide) (⟨_, rfl, h2⟩)
set_option maxHeartbeats 4000000 in
theorem c_L_proved_ok {l : Launch} {G : jq_G} {n : Nat} {ad : Nat → Nat} {X : xs_T} (hn : 21 ≤ n) {w h : Nat} {num : Nat → Int32} {mk : Nat → Nat} (hA : dv_A w h num mk X) (hLC : dv_LC w h X) {e : Nat} (he : e < tb_ne w h) (h0 : 0 < tb_cnt2 w h num mk (-1)) : xx_Cw l G mL_proved hL_proved 24 [.ref (ad 0), .int (nI (e))] n ad X (xs_pi (fun r X' => r = nI (tb_prv w h num mk e) ∧ xs_fr dv_SL dv_FL X X' ∧ dv_LC w h X')) := by
  have hn2 := hn
  refine xx_Cw_of (L := [some (.ref (ad 0)), some (.int (nI (e))), none]) rfl (Nat.le_of_ble_eq_true rfl) rfl ?_
  refine jq_aload_n dL_proved_0 rfl rfl ?_
  refine jq_iload_n dL_proved_1 rfl rfl ?_
  refine xq_rI dL_proved_2 kL_126 (c_X5_proved_ok hn2 hA hLC he h0) (xs_lt (by decide) hn) ⟨rfl, rfl⟩ rfl rfl (Nat.le_of_ble_eq_true rfl) ⟨⟨by decide, by decide⟩, by decide, by decide⟩ (fun v2 X2 h2 => ?_)
  exact xz_ireturn dL_proved_5 rfl rfl (by decide) (⟨_, rfl, h2⟩)
set_option maxHeartbeats 4000000 in
theorem c_L_beyond_ok {l : Launch} {G : jq_G} {n : Nat} {ad : Nat → Nat} {X : xs_T} (hn : 21 ≤ n) {w h : Nat} {num : Nat → Int32} {mk : Nat → Nat} (hA : dv_A w h num mk X) (hLC : dv_LC w h X) (h0 : 0 < tb_cnt2 w h num mk (-1)) : xx_Cw l G mL_beyond hL_beyond 24 [.ref (ad 0)] n ad X (xs_pi (fun r X' => r = nI (tb_bey w h num mk) ∧ xs_fr (20 :: dv_SC) ((19, 2) :: (19, 3) :: dv_FC) X X' ∧ dv_LC w h X')) := by
  have hn2 := hn
  refine xx_Cw_of (L := [some (.ref (ad 0)), none]) rfl (Nat.le_of_ble_eq_true rfl) rfl ?_
  refine jq_aload_n dL_beyond_0 rfl rfl ?_
  refine xq_rI dL_beyond_1 kL_131 (c_X5_beyondRules_ok hn2 hA hLC h0) (xs_lt (by decide) hn) ⟨rfl, rfl⟩ rfl rfl (Nat.le_of_ble_eq_true rfl) ⟨⟨by decide, by decide⟩, by decide, by decide⟩ (fun v1 X1 h1 => ?_)
  exact xz_ireturn dL_beyond_4 rfl rfl (by decide) (⟨_, rfl, h1⟩)
set_option maxHeartbeats 4000000 in
theorem c_L_laid_no {l : Launch} {G : jq_G} {n : Nat} {ad : Nat → Nat} {X : xs_T} (hl : l.stackTraces = false) (hn : 21 ≤ n) (x y : Int32) (hno : (tb_w4 x && tb_w4 y) = false) : xx_Cw l G mL_laid hL_laid 24 [.ref (ad 0), .int (x), .int (y)] n ad X (xs_pi (fun r X' => r = (-101) ∧ X' = X)) := by
  have hn2 := hn
  have hhA : ((-101) : Int32) = (-101) → ∀ (q9 : Addr) (X1 : xs_T), (X1 = X) → jq_J l G mL_laid (jq_R 24 1 6) (jx_E (tableOf hL_laid)) (xx_Yw G n ad (xs_pi (fun r X' => r = (-101) ∧ X' = X))) 8 [some (.ref (ad 0)), some (.int (x)), some (.int (y)), none] [.ref q9] n ad (xs_mem G ad X1) 1 6 := by
    intro hr q9 X1 hpost
    refine jq_astore_n dL_laid_8 rfl (by decide) rfl rfl ?_
    refine jq_bipush (v := (-101)) dL_laid_9 (by decide) ?_
    exact xz_ireturn dL_laid_11 rfl rfl (by decide) (⟨_, rfl, hr, hpost⟩)
  refine xx_Cw_of (L := [some (.ref (ad 0)), some (.int (x)), some (.int (y)), none]) rfl (Nat.le_of_ble_eq_true rfl) rfl ?_
  refine jq_aload_n dL_laid_0 rfl rfl ?_
  refine jq_iload_n dL_laid_1 rfl rfl ?_
  refine jq_iload_n dL_laid_2 rfl rfl ?_
  exact xx_invc 8 dL_laid_3 kL_95 hL_95 (c_X5_lay_no hl x y hno) (xs_lt (by decide) hn) ⟨rfl, rfl⟩ rfl rfl (Nat.le_of_ble_eq_true rfl) ⟨⟨by decide, by decide⟩, by decide, by decide⟩ (fun E X1 q9 hE => ⟨by rw [hE.1]; exact at_laid_3_A, hhA rfl q9 X1 hE.2⟩)
set_option maxHeartbeats 4000000 in
theorem c_L_tellsN_no {l : Launch} {G : jq_G} {n : Nat} {ad : Nat → Nat} {X : xs_T} (hl : l.stackTraces = false) (hn : 21 ≤ n) {w h : Nat} (hT : dv_T w h X) (x v : Int32) (hno : (tb_inB x (tb_nc w h) && tb_numOk v) = false) : xx_Cw l G mL_tells hL_tells 24 [.ref (ad 0), .int (nI (1)), .int (x), .int (v)] n ad X (xs_pi (fun r X' => r = (if tb_inB x (tb_nc w h) = true then -102 else -101) ∧ X' = X)) := by
  have hn2 := hn
  have hhB : ((-101) : Int32) = (if tb_inB x (tb_nc w h) = true then -102 else -101) → ∀ (q9 : Addr) (X1 : xs_T), (X1 = X) → jq_J l G mL_tells (jq_R 24 1 6) (jx_E (tableOf hL_tells)) (xx_Yw G n ad (xs_pi (fun r X' => r = (if tb_inB x (tb_nc w h) = true then -102 else -101) ∧ X' = X))) 20 [some (.ref (ad 0)), some (.int (nI (1))), some (.int (x)), some (.int (v)), none] [.ref q9] n ad (xs_mem G ad X1) 1 6 := by
    intro hr q9 X1 hpost
    refine jq_astore dL_tells_20 (by decide) rfl rfl ?_
    refine jq_bipush (v := (-101)) dL_tells_22 (by decide) ?_
    exact xz_ireturn dL_tells_24 rfl rfl (by decide) (⟨_, rfl, hr, hpost⟩)
  have hhA : ((-102) : Int32) = (if tb_inB x (tb_nc w h) = true then -102 else -101) → ∀ (q9 : Addr) (X1 : xs_T), (X1 = X) → jq_J l G mL_tells (jq_R 24 1 6) (jx_E (tableOf hL_tells)) (xx_Yw G n ad (xs_pi (fun r X' => r = (if tb_inB x (tb_nc w h) = true then -102 else -101) ∧ X' = X))) 25 [some (.ref (ad 0)), some (.int (nI (1))), some (.int (x)), some (.int (v)), none] [.ref q9] n ad (xs_mem G ad X1) 1 6 := by
    intro hr q9 X1 hpost
    refine jq_astore dL_tells_25 (by decide) rfl rfl ?_
    refine jq_bipush (v := (-102)) dL_tells_27 (by decide) ?_
    exact xz_ireturn dL_tells_29 rfl rfl (by decide) (⟨_, rfl, hr, hpost⟩)
  refine xx_Cw_of (L := [some (.ref (ad 0)), some (.int (nI (1))), some (.int (x)), some (.int (v)), none]) rfl (Nat.le_of_ble_eq_true rfl) rfl ?_
  rcases (Bool.eq_false_or_eq_true (tb_inB x (tb_nc w h))).symm with hc | hc
  · skip
    refine jq_iload_n dL_tells_0 rfl rfl ?_
    refine jq_eqZ (tgt := 13) dL_tells_1 (by decide) (by decide) (fun c1 => ?_) (fun c1 => ?_)
    · exact absurd c1 (by decide)
    · refine jq_aload_n dL_tells_4 rfl rfl ?_
      refine jq_iload_n dL_tells_5 rfl rfl ?_
      refine jq_iload_n dL_tells_6 rfl rfl ?_
      exact xx_invc 20 dL_tells_7 kL_82 hL_82 (c_X5_number_no hl hn2 hT x v hno) (xs_lt (by decide) hn) ⟨rfl, rfl⟩ rfl rfl (Nat.le_of_ble_eq_true rfl) ⟨⟨by decide, by decide⟩, by decide, by decide⟩ (fun E X1 q9 hE => ⟨by rw [hE.1, if_neg (by rw [hc]; decide)]; exact at_tells_7_B, hhB (by rw [hc]; rfl) q9 X1 hE.2⟩)
  · skip
    refine jq_iload_n dL_tells_0 rfl rfl ?_
    refine jq_eqZ (tgt := 13) dL_tells_1 (by decide) (by decide) (fun c1 => ?_) (fun c1 => ?_)
    · exact absurd c1 (by decide)
    · refine jq_aload_n dL_tells_4 rfl rfl ?_
      refine jq_iload_n dL_tells_5 rfl rfl ?_
      refine jq_iload_n dL_tells_6 rfl rfl ?_
      exact xx_invc 25 dL_tells_7 kL_82 hL_82 (c_X5_number_no hl hn2 hT x v hno) (xs_lt (by decide) hn) ⟨rfl, rfl⟩ rfl rfl (Nat.le_of_ble_eq_true rfl) ⟨⟨by decide, by decide⟩, by decide, by decide⟩ (fun E X1 q9 hE => ⟨by rw [hE.1, if_pos hc]; exact at_tells_7_A, hhA (by rw [hc]; rfl) q9 X1 hE.2⟩)
set_option maxHeartbeats 4000000 in
theorem c_L_tellsM_no {l : Launch} {G : jq_G} {n : Nat} {ad : Nat → Nat} {X : xs_T} (hl : l.stackTraces = false) (hn : 21 ≤ n) {w h : Nat} (hT : dv_T w h X) (x v : Int32) (hno : (tb_inB x (tb_ne w h) && tb_stOk v) = false) : xx_Cw l G mL_tells hL_tells 24 [.ref (ad 0), .int (nI (0)), .int (x), .int (v)] n ad X (xs_pi (fun r X' => r = (if tb_inB x (tb_ne w h) = true then -102 else -101) ∧ X' = X)) := by
  have hn2 := hn
  have hhB : ((-101) : Int32) = (if tb_inB x (tb_ne w h) = true then -102 else -101) → ∀ (q9 : Addr) (X1 : xs_T), (X1 = X) → jq_J l G mL_tells (jq_R 24 1 6) (jx_E (tableOf hL_tells)) (xx_Yw G n ad (xs_pi (fun r X' => r = (if tb_inB x (tb_ne w h) = true then -102 else -101) ∧ X' = X))) 20 [some (.ref (ad 0)), some (.int (nI (0))), some (.int (x)), some (.int (v)), none] [.ref q9] n ad (xs_mem G ad X1) 1 6 := by
    intro hr q9 X1 hpost
    refine jq_astore dL_tells_20 (by decide) rfl rfl ?_
    refine jq_bipush (v := (-101)) dL_tells_22 (by decide) ?_
    exact xz_ireturn dL_tells_24 rfl rfl (by decide) (⟨_, rfl, hr, hpost⟩)
  have hhA : ((-102) : Int32) = (if tb_inB x (tb_ne w h) = true then -102 else -101) → ∀ (q9 : Addr) (X1 : xs_T), (X1 = X) → jq_J l G mL_tells (jq_R 24 1 6) (jx_E (tableOf hL_tells)) (xx_Yw G n ad (xs_pi (fun r X' => r = (if tb_inB x (tb_ne w h) = true then -102 else -101) ∧ X' = X))) 25 [some (.ref (ad 0)), some (.int (nI (0))), some (.int (x)), some (.int (v)), none] [.ref q9] n ad (xs_mem G ad X1) 1 6 := by
    intro hr q9 X1 hpost
    refine jq_astore dL_tells_25 (by decide) rfl rfl ?_
    refine jq_bipush (v := (-102)) dL_tells_27 (by decide) ?_
    exact xz_ireturn dL_tells_29 rfl rfl (by decide) (⟨_, rfl, hr, hpost⟩)
  refine xx_Cw_of (L := [some (.ref (ad 0)), some (.int (nI (0))), some (.int (x)), some (.int (v)), none]) rfl (Nat.le_of_ble_eq_true rfl) rfl ?_
  rcases (Bool.eq_false_or_eq_true (tb_inB x (tb_ne w h))).symm with hc | hc
  · skip
    refine jq_iload_n dL_tells_0 rfl rfl ?_
    refine jq_eqZ (tgt := 13) dL_tells_1 (by decide) (by decide) (fun c1 => ?_) (fun c1 => ?_)
    · refine jq_aload_n dL_tells_13 rfl rfl ?_
      refine jq_iload_n dL_tells_14 rfl rfl ?_
      refine jq_iload_n dL_tells_15 rfl rfl ?_
      exact xx_invc 20 dL_tells_16 kL_88 hL_88 (c_X5_mark_no hl hn2 hT x v hno) (xs_lt (by decide) hn) ⟨rfl, rfl⟩ rfl rfl (Nat.le_of_ble_eq_true rfl) ⟨⟨by decide, by decide⟩, by decide, by decide⟩ (fun E X1 q9 hE => ⟨by rw [hE.1, if_neg (by rw [hc]; decide)]; exact at_tells_16_B, hhB (by rw [hc]; rfl) q9 X1 hE.2⟩)
    · exact absurd rfl c1
  · skip
    refine jq_iload_n dL_tells_0 rfl rfl ?_
    refine jq_eqZ (tgt := 13) dL_tells_1 (by decide) (by decide) (fun c1 => ?_) (fun c1 => ?_)
    · refine jq_aload_n dL_tells_13 rfl rfl ?_
      refine jq_iload_n dL_tells_14 rfl rfl ?_
      refine jq_iload_n dL_tells_15 rfl rfl ?_
      exact xx_invc 25 dL_tells_16 kL_88 hL_88 (c_X5_mark_no hl hn2 hT x v hno) (xs_lt (by decide) hn) ⟨rfl, rfl⟩ rfl rfl (Nat.le_of_ble_eq_true rfl) ⟨⟨by decide, by decide⟩, by decide, by decide⟩ (fun E X1 q9 hE => ⟨by rw [hE.1, if_pos hc]; exact at_tells_16_A, hhA (by rw [hc]; rfl) q9 X1 hE.2⟩)
    · exact absurd rfl c1
set_option maxHeartbeats 4000000 in
theorem c_L_of0_no {l : Launch} {G : jq_G} {n : Nat} {ad : Nat → Nat} {X : xs_T} (hl : l.stackTraces = false) (hn : 21 ≤ n) {w h : Nat} (hT : dv_T w h X) (x : Int32) (hx : tb_inB x (tb_ne w h) = false) (z : Int32) : xx_Cw l G mL_of hL_of 24 [.ref (ad 0), .int (nI (0)), .int (x), .int (z)] n ad X (xs_pi (fun r X' => r = (-101) ∧ X' = X)) := by
  have hn2 := hn
  have hhB : ((-101) : Int32) = (-101) → ∀ (q9 : Addr) (X1 : xs_T), (X1 = X) → jq_J l G mL_of (jq_R 24 1 6) (jx_E (tableOf hL_of)) (xx_Yw G n ad (xs_pi (fun r X' => r = (-101) ∧ X' = X))) 83 [some (.ref (ad 0)), some (.int (nI (0))), some (.int (x)), some (.int (z)), none] [.ref q9] n ad (xs_mem G ad X1) 1 6 := by
    intro hr q9 X1 hpost
    refine jq_astore dL_of_83 (by decide) rfl rfl ?_
    refine jq_bipush (v := (-101)) dL_of_85 (by decide) ?_
    exact xz_ireturn dL_of_87 rfl rfl (by decide) (⟨_, rfl, hr, hpost⟩)
  refine xx_Cw_of (L := [some (.ref (ad 0)), some (.int (nI (0))), some (.int (x)), some (.int (z)), none]) rfl (Nat.le_of_ble_eq_true rfl) rfl ?_
  refine jq_iload_n dL_of_0 rfl rfl ?_
  refine jq_neZ (tgt := 12) dL_of_1 (by decide) (by decide) (fun c1 => ?_) (fun c1 => ?_)
  · exact absurd rfl c1
  · refine jq_aload_n dL_of_4 rfl rfl ?_
    refine jq_iload_n dL_of_5 rfl rfl ?_
    exact xx_invc 83 dL_of_6 kL_99 hL_99 (c_X5_follows_no hl hn2 hT x hx) (xs_lt (by decide) hn) ⟨rfl, rfl⟩ rfl rfl (Nat.le_of_ble_eq_true rfl) ⟨⟨by decide, by decide⟩, by decide, by decide⟩ (fun E X1 q9 hE => ⟨by rw [hE.1]; exact at_of_6_B, hhB rfl q9 X1 hE.2⟩)
set_option maxHeartbeats 4000000 in
theorem c_L_of1_no {l : Launch} {G : jq_G} {n : Nat} {ad : Nat → Nat} {X : xs_T} (hl : l.stackTraces = false) (hn : 21 ≤ n) {w h : Nat} (hT : dv_T w h X) (x : Int32) (hx : tb_inB x (tb_ne w h) = false) (z : Int32) : xx_Cw l G mL_of hL_of 24 [.ref (ad 0), .int (nI (1)), .int (x), .int (z)] n ad X (xs_pi (fun r X' => r = (-101) ∧ X' = X)) := by
  have hn2 := hn
  have hhB : ((-101) : Int32) = (-101) → ∀ (q9 : Addr) (X1 : xs_T), (X1 = X) → jq_J l G mL_of (jq_R 24 1 6) (jx_E (tableOf hL_of)) (xx_Yw G n ad (xs_pi (fun r X' => r = (-101) ∧ X' = X))) 83 [some (.ref (ad 0)), some (.int (nI (1))), some (.int (x)), some (.int (z)), none] [.ref q9] n ad (xs_mem G ad X1) 1 6 := by
    intro hr q9 X1 hpost
    refine jq_astore dL_of_83 (by decide) rfl rfl ?_
    refine jq_bipush (v := (-101)) dL_of_85 (by decide) ?_
    exact xz_ireturn dL_of_87 rfl rfl (by decide) (⟨_, rfl, hr, hpost⟩)
  refine xx_Cw_of (L := [some (.ref (ad 0)), some (.int (nI (1))), some (.int (x)), some (.int (z)), none]) rfl (Nat.le_of_ble_eq_true rfl) rfl ?_
  refine jq_iload_n dL_of_0 rfl rfl ?_
  refine jq_neZ (tgt := 12) dL_of_1 (by decide) (by decide) (fun c1 => ?_) (fun c1 => ?_)
  · refine jq_iload_n dL_of_12 rfl rfl ?_
    refine jq_iconst (v := (nI 1)) dL_of_13 (by decide) ?_
    refine jq_neN (tgt := 25) dL_of_14 (by decide) ⟨by omega, by omega⟩ (fun c14 => ?_) (fun c14 => ?_)
    · exact absurd rfl c14
    · refine jq_aload_n dL_of_17 rfl rfl ?_
      refine jq_iload_n dL_of_18 rfl rfl ?_
      exact xx_invc 83 dL_of_19 kL_103 hL_103 (c_X5_roundOf_no hl hn2 hT x hx) (xs_lt (by decide) hn) ⟨rfl, rfl⟩ rfl rfl (Nat.le_of_ble_eq_true rfl) ⟨⟨by decide, by decide⟩, by decide, by decide⟩ (fun E X1 q9 hE => ⟨by rw [hE.1]; exact at_of_19_B, hhB rfl q9 X1 hE.2⟩)
  · exact absurd c1 (by decide)
set_option maxHeartbeats 4000000 in
theorem c_L_of2_no {l : Launch} {G : jq_G} {n : Nat} {ad : Nat → Nat} {X : xs_T} (hl : l.stackTraces = false) (hn : 21 ≤ n) {w h : Nat} (hT : dv_T w h X) (x : Int32) (hx : tb_inB x (tb_ne w h) = false) (z : Int32) : xx_Cw l G mL_of hL_of 24 [.ref (ad 0), .int (nI (2)), .int (x), .int (z)] n ad X (xs_pi (fun r X' => r = (-101) ∧ X' = X)) := by
  have hn2 := hn
  have hhB : ((-101) : Int32) = (-101) → ∀ (q9 : Addr) (X1 : xs_T), (X1 = X) → jq_J l G mL_of (jq_R 24 1 6) (jx_E (tableOf hL_of)) (xx_Yw G n ad (xs_pi (fun r X' => r = (-101) ∧ X' = X))) 83 [some (.ref (ad 0)), some (.int (nI (2))), some (.int (x)), some (.int (z)), none] [.ref q9] n ad (xs_mem G ad X1) 1 6 := by
    intro hr q9 X1 hpost
    refine jq_astore dL_of_83 (by decide) rfl rfl ?_
    refine jq_bipush (v := (-101)) dL_of_85 (by decide) ?_
    exact xz_ireturn dL_of_87 rfl rfl (by decide) (⟨_, rfl, hr, hpost⟩)
  refine xx_Cw_of (L := [some (.ref (ad 0)), some (.int (nI (2))), some (.int (x)), some (.int (z)), none]) rfl (Nat.le_of_ble_eq_true rfl) rfl ?_
  refine jq_iload_n dL_of_0 rfl rfl ?_
  refine jq_neZ (tgt := 12) dL_of_1 (by decide) (by decide) (fun c1 => ?_) (fun c1 => ?_)
  · refine jq_iload_n dL_of_12 rfl rfl ?_
    refine jq_iconst (v := (nI 1)) dL_of_13 (by decide) ?_
    refine jq_neN (tgt := 25) dL_of_14 (by decide) ⟨by omega, by omega⟩ (fun c14 => ?_) (fun c14 => ?_)
    · refine jq_iload_n dL_of_25 rfl rfl ?_
      refine jq_iconst (v := (nI 2)) dL_of_26 (by decide) ?_
      refine jq_neN (tgt := 38) dL_of_27 (by decide) ⟨by omega, by omega⟩ (fun c27 => ?_) (fun c27 => ?_)
      · exact absurd rfl c27
      · refine jq_aload_n dL_of_30 rfl rfl ?_
        refine jq_iload_n dL_of_31 rfl rfl ?_
        exact xx_invc 83 dL_of_32 kL_106 hL_106 (c_X5_ruleOf_no hl hn2 hT x hx) (xs_lt (by decide) hn) ⟨rfl, rfl⟩ rfl rfl (Nat.le_of_ble_eq_true rfl) ⟨⟨by decide, by decide⟩, by decide, by decide⟩ (fun E X1 q9 hE => ⟨by rw [hE.1]; exact at_of_32_B, hhB rfl q9 X1 hE.2⟩)
    · exact absurd c14 (by decide)
  · exact absurd c1 (by decide)
set_option maxHeartbeats 4000000 in
theorem c_L_of3_no {l : Launch} {G : jq_G} {n : Nat} {ad : Nat → Nat} {X : xs_T} (hl : l.stackTraces = false) (hn : 21 ≤ n) {w h : Nat} (hT : dv_T w h X) (x y : Int32) (hno : (tb_inB x (tb_nc w h) && tb_inB y 4) = false) : xx_Cw l G mL_of hL_of 24 [.ref (ad 0), .int (nI (3)), .int (x), .int (y)] n ad X (xs_pi (fun r X' => r = (-101) ∧ X' = X)) := by
  have hn2 := hn
  have hhB : ((-101) : Int32) = (-101) → ∀ (q9 : Addr) (X1 : xs_T), (X1 = X) → jq_J l G mL_of (jq_R 24 1 6) (jx_E (tableOf hL_of)) (xx_Yw G n ad (xs_pi (fun r X' => r = (-101) ∧ X' = X))) 83 [some (.ref (ad 0)), some (.int (nI (3))), some (.int (x)), some (.int (y)), none] [.ref q9] n ad (xs_mem G ad X1) 1 6 := by
    intro hr q9 X1 hpost
    refine jq_astore dL_of_83 (by decide) rfl rfl ?_
    refine jq_bipush (v := (-101)) dL_of_85 (by decide) ?_
    exact xz_ireturn dL_of_87 rfl rfl (by decide) (⟨_, rfl, hr, hpost⟩)
  refine xx_Cw_of (L := [some (.ref (ad 0)), some (.int (nI (3))), some (.int (x)), some (.int (y)), none]) rfl (Nat.le_of_ble_eq_true rfl) rfl ?_
  refine jq_iload_n dL_of_0 rfl rfl ?_
  refine jq_neZ (tgt := 12) dL_of_1 (by decide) (by decide) (fun c1 => ?_) (fun c1 => ?_)
  · refine jq_iload_n dL_of_12 rfl rfl ?_
    refine jq_iconst (v := (nI 1)) dL_of_13 (by decide) ?_
    refine jq_neN (tgt := 25) dL_of_14 (by decide) ⟨by omega, by omega⟩ (fun c14 => ?_) (fun c14 => ?_)
    · refine jq_iload_n dL_of_25 rfl rfl ?_
      refine jq_iconst (v := (nI 2)) dL_of_26 (by decide) ?_
      refine jq_neN (tgt := 38) dL_of_27 (by decide) ⟨by omega, by omega⟩ (fun c27 => ?_) (fun c27 => ?_)
      · refine jq_iload_n dL_of_38 rfl rfl ?_
        refine jq_iconst (v := (nI 3)) dL_of_39 (by decide) ?_
        refine jq_neN (tgt := 52) dL_of_40 (by decide) ⟨by omega, by omega⟩ (fun c40 => ?_) (fun c40 => ?_)
        · exact absurd rfl c40
        · refine jq_aload_n dL_of_43 rfl rfl ?_
          refine jq_iload_n dL_of_44 rfl rfl ?_
          refine jq_iload_n dL_of_45 rfl rfl ?_
          exact xx_invc 83 dL_of_46 kL_109 hL_109 (c_X5_edgeOf_no hl hn2 hT x y hno) (xs_lt (by decide) hn) ⟨rfl, rfl⟩ rfl rfl (Nat.le_of_ble_eq_true rfl) ⟨⟨by decide, by decide⟩, by decide, by decide⟩ (fun E X1 q9 hE => ⟨by rw [hE.1]; exact at_of_46_B, hhB rfl q9 X1 hE.2⟩)
      · exact absurd c27 (by decide)
    · exact absurd c14 (by decide)
  · exact absurd c1 (by decide)
set_option maxHeartbeats 4000000 in
theorem c_L_of4_no {l : Launch} {G : jq_G} {n : Nat} {ad : Nat → Nat} {X : xs_T} (hl : l.stackTraces = false) (hn : 21 ≤ n) {w h : Nat} (hT : dv_T w h X) (x : Int32) (hx : tb_inB x (tb_nc w h) = false) (z : Int32) : xx_Cw l G mL_of hL_of 24 [.ref (ad 0), .int (nI (4)), .int (x), .int (z)] n ad X (xs_pi (fun r X' => r = (-101) ∧ X' = X)) := by
  have hn2 := hn
  have hhB : ((-101) : Int32) = (-101) → ∀ (q9 : Addr) (X1 : xs_T), (X1 = X) → jq_J l G mL_of (jq_R 24 1 6) (jx_E (tableOf hL_of)) (xx_Yw G n ad (xs_pi (fun r X' => r = (-101) ∧ X' = X))) 83 [some (.ref (ad 0)), some (.int (nI (4))), some (.int (x)), some (.int (z)), none] [.ref q9] n ad (xs_mem G ad X1) 1 6 := by
    intro hr q9 X1 hpost
    refine jq_astore dL_of_83 (by decide) rfl rfl ?_
    refine jq_bipush (v := (-101)) dL_of_85 (by decide) ?_
    exact xz_ireturn dL_of_87 rfl rfl (by decide) (⟨_, rfl, hr, hpost⟩)
  refine xx_Cw_of (L := [some (.ref (ad 0)), some (.int (nI (4))), some (.int (x)), some (.int (z)), none]) rfl (Nat.le_of_ble_eq_true rfl) rfl ?_
  refine jq_iload_n dL_of_0 rfl rfl ?_
  refine jq_neZ (tgt := 12) dL_of_1 (by decide) (by decide) (fun c1 => ?_) (fun c1 => ?_)
  · refine jq_iload_n dL_of_12 rfl rfl ?_
    refine jq_iconst (v := (nI 1)) dL_of_13 (by decide) ?_
    refine jq_neN (tgt := 25) dL_of_14 (by decide) ⟨by omega, by omega⟩ (fun c14 => ?_) (fun c14 => ?_)
    · refine jq_iload_n dL_of_25 rfl rfl ?_
      refine jq_iconst (v := (nI 2)) dL_of_26 (by decide) ?_
      refine jq_neN (tgt := 38) dL_of_27 (by decide) ⟨by omega, by omega⟩ (fun c27 => ?_) (fun c27 => ?_)
      · refine jq_iload_n dL_of_38 rfl rfl ?_
        refine jq_iconst (v := (nI 3)) dL_of_39 (by decide) ?_
        refine jq_neN (tgt := 52) dL_of_40 (by decide) ⟨by omega, by omega⟩ (fun c40 => ?_) (fun c40 => ?_)
        · refine jq_iload_n dL_of_52 rfl rfl ?_
          refine jq_iconst (v := (nI 4)) dL_of_53 (by decide) ?_
          refine jq_neN (tgt := 68) dL_of_54 (by decide) ⟨by omega, by omega⟩ (fun c54 => ?_) (fun c54 => ?_)
          · exact absurd rfl c54
          · refine jq_aload_n dL_of_57 rfl rfl ?_
            refine jq_iload_n dL_of_58 rfl rfl ?_
            exact xx_invc 83 dL_of_59 kL_112 hL_112 (c_X5_isNeeded_no hl hn2 hT x hx) (xs_lt (by decide) hn) ⟨rfl, rfl⟩ rfl rfl (Nat.le_of_ble_eq_true rfl) ⟨⟨by decide, by decide⟩, by decide, by decide⟩ (fun E X1 q9 hE => ⟨by rw [hE.1]; exact at_of_59_B, hhB rfl q9 X1 hE.2⟩)
        · exact absurd c40 (by decide)
      · exact absurd c27 (by decide)
    · exact absurd c14 (by decide)
  · exact absurd c1 (by decide)
set_option maxHeartbeats 4000000 in
theorem c_L_of5_no {l : Launch} {G : jq_G} {n : Nat} {ad : Nat → Nat} {X : xs_T} (hl : l.stackTraces = false) (hn : 21 ≤ n) {w h : Nat} {num : Nat → Int32} {mk : Nat → Nat} (hA : dv_A w h num mk X) (hLC : dv_LC w h X) (a x : Int32) (hno : tb_pk w h num mk a = 0 ∨ tb_inB x (tb_nc w h) = false) : xx_Cw l G mL_of hL_of 24 [.ref (ad 0), .int (nI (5)), .int (a), .int (x)] n ad X (xs_pi (fun r X' => r = (-101) ∧ xs_fr dv_SL dv_FL X X' ∧ dv_LC w h X')) := by
  have hn2 := hn
  have hhB : ((-101) : Int32) = (-101) → ∀ (q9 : Addr) (X1 : xs_T), (xs_fr dv_SL dv_FL X X1 ∧ dv_LC w h X1) → jq_J l G mL_of (jq_R 24 1 6) (jx_E (tableOf hL_of)) (xx_Yw G n ad (xs_pi (fun r X' => r = (-101) ∧ xs_fr dv_SL dv_FL X X' ∧ dv_LC w h X'))) 83 [some (.ref (ad 0)), some (.int (nI (5))), some (.int (a)), some (.int (x)), none] [.ref q9] n ad (xs_mem G ad X1) 1 6 := by
    intro hr q9 X1 hpost
    refine jq_astore dL_of_83 (by decide) rfl rfl ?_
    refine jq_bipush (v := (-101)) dL_of_85 (by decide) ?_
    exact xz_ireturn dL_of_87 rfl rfl (by decide) (⟨_, rfl, hr, hpost⟩)
  refine xx_Cw_of (L := [some (.ref (ad 0)), some (.int (nI (5))), some (.int (a)), some (.int (x)), none]) rfl (Nat.le_of_ble_eq_true rfl) rfl ?_
  refine jq_iload_n dL_of_0 rfl rfl ?_
  refine jq_neZ (tgt := 12) dL_of_1 (by decide) (by decide) (fun c1 => ?_) (fun c1 => ?_)
  · refine jq_iload_n dL_of_12 rfl rfl ?_
    refine jq_iconst (v := (nI 1)) dL_of_13 (by decide) ?_
    refine jq_neN (tgt := 25) dL_of_14 (by decide) ⟨by omega, by omega⟩ (fun c14 => ?_) (fun c14 => ?_)
    · refine jq_iload_n dL_of_25 rfl rfl ?_
      refine jq_iconst (v := (nI 2)) dL_of_26 (by decide) ?_
      refine jq_neN (tgt := 38) dL_of_27 (by decide) ⟨by omega, by omega⟩ (fun c27 => ?_) (fun c27 => ?_)
      · refine jq_iload_n dL_of_38 rfl rfl ?_
        refine jq_iconst (v := (nI 3)) dL_of_39 (by decide) ?_
        refine jq_neN (tgt := 52) dL_of_40 (by decide) ⟨by omega, by omega⟩ (fun c40 => ?_) (fun c40 => ?_)
        · refine jq_iload_n dL_of_52 rfl rfl ?_
          refine jq_iconst (v := (nI 4)) dL_of_53 (by decide) ?_
          refine jq_neN (tgt := 68) dL_of_54 (by decide) ⟨by omega, by omega⟩ (fun c54 => ?_) (fun c54 => ?_)
          · refine jq_aload_n dL_of_68 rfl rfl ?_
            refine jq_iload_n dL_of_69 rfl rfl ?_
            refine jq_iload_n dL_of_70 rfl rfl ?_
            exact xx_invc 83 dL_of_71 kL_116 hL_116 (c_X5_isInside_no hl hn2 hA hLC a x hno) (xs_lt (by decide) hn) ⟨rfl, rfl⟩ rfl rfl (Nat.le_of_ble_eq_true rfl) ⟨⟨by decide, by decide⟩, by decide, by decide⟩ (fun E X1 q9 hE => ⟨by rw [hE.1]; exact at_of_71_B, hhB rfl q9 X1 hE.2⟩)
          · exact absurd c54 (by decide)
        · exact absurd c40 (by decide)
      · exact absurd c27 (by decide)
    · exact absurd c14 (by decide)
  · exact absurd c1 (by decide)
set_option maxHeartbeats 4000000 in
theorem c_L_answer_no {l : Launch} {G : jq_G} {n : Nat} {ad : Nat → Nat} {X : xs_T} (hl : l.stackTraces = false) (hn : 21 ≤ n) {w h : Nat} {num : Nat → Int32} {mk : Nat → Nat} (hA : dv_A w h num mk X) (hLC : dv_LC w h X) (a : Int32) (h0 : tb_pk w h num mk a = 0) : xx_Cw l G mL_answer hL_answer 24 [.ref (ad 0), .int (a)] n ad X (xs_pl (fun r X' => r = (-101) ∧ xs_fr dv_SL dv_FL X X' ∧ dv_LC w h X')) := by
  have hn2 := hn
  have hhB : ((-101) : Int64) = (-101) → ∀ (q9 : Addr) (X1 : xs_T), (xs_fr dv_SL dv_FL X X1 ∧ dv_LC w h X1) → jq_J l G mL_answer (jq_R 24 1 6) (jx_E (tableOf hL_answer)) (xx_Yw G n ad (xs_pl (fun r X' => r = (-101) ∧ xs_fr dv_SL dv_FL X X' ∧ dv_LC w h X'))) 6 [some (.ref (ad 0)), some (.int (a)), none] [.ref q9] n ad (xs_mem G ad X1) 1 6 := by
    intro hr q9 X1 hpost
    refine jq_astore_n dL_answer_6 rfl (by decide) rfl rfl ?_
    refine jq_ldc2 dL_answer_7 vL_124 ?_
    exact xz_lreturn dL_answer_10 rfl (by decide) (⟨_, rfl, hr, hpost⟩)
  refine xx_Cw_of (L := [some (.ref (ad 0)), some (.int (a)), none]) rfl (Nat.le_of_ble_eq_true rfl) rfl ?_
  refine jq_aload_n dL_answer_0 rfl rfl ?_
  refine jq_iload_n dL_answer_1 rfl rfl ?_
  exact xx_invc 6 dL_answer_2 kL_120 hL_120 (c_X5_answer_no hl hn2 hA hLC a h0) (xs_lt (by decide) hn) ⟨rfl, rfl⟩ rfl rfl (Nat.le_of_ble_eq_true rfl) ⟨⟨by decide, by decide⟩, by decide, by decide⟩ (fun E X1 q9 hE => ⟨by rw [hE.1]; exact at_answer_2_B, hhB rfl q9 X1 hE.2⟩)
set_option maxHeartbeats 4000000 in
theorem c_L_proved_no {l : Launch} {G : jq_G} {n : Nat} {ad : Nat → Nat} {X : xs_T} (hl : l.stackTraces = false) (hn : 21 ≤ n) {w h : Nat} {num : Nat → Int32} {mk : Nat → Nat} (hA : dv_A w h num mk X) (hLC : dv_LC w h X) (x : Int32) (hno : (tb_inB x (tb_ne w h) && decide (0 < tb_cnt2 w h num mk (-1))) = false) : xx_Cw l G mL_proved hL_proved 24 [.ref (ad 0), .int (x)] n ad X (xs_pi (fun r X' => r = (if tb_inB x (tb_ne w h) = true then -102 else -101) ∧ xs_fr dv_SL dv_FL X X' ∧ dv_LC w h X')) := by
  have hn2 := hn
  have hhB : ((-101) : Int32) = (if tb_inB x (tb_ne w h) = true then -102 else -101) → ∀ (q9 : Addr) (X1 : xs_T), (xs_fr dv_SL dv_FL X X1 ∧ dv_LC w h X1) → jq_J l G mL_proved (jq_R 24 1 6) (jx_E (tableOf hL_proved)) (xx_Yw G n ad (xs_pi (fun r X' => r = (if tb_inB x (tb_ne w h) = true then -102 else -101) ∧ xs_fr dv_SL dv_FL X X' ∧ dv_LC w h X'))) 6 [some (.ref (ad 0)), some (.int (x)), none] [.ref q9] n ad (xs_mem G ad X1) 1 6 := by
    intro hr q9 X1 hpost
    refine jq_astore_n dL_proved_6 rfl (by decide) rfl rfl ?_
    refine jq_bipush (v := (-101)) dL_proved_7 (by decide) ?_
    exact xz_ireturn dL_proved_9 rfl rfl (by decide) (⟨_, rfl, hr, hpost⟩)
  have hhS : ((-102) : Int32) = (if tb_inB x (tb_ne w h) = true then -102 else -101) → ∀ (q9 : Addr) (X1 : xs_T), (xs_fr dv_SL dv_FL X X1 ∧ dv_LC w h X1) → jq_J l G mL_proved (jq_R 24 1 6) (jx_E (tableOf hL_proved)) (xx_Yw G n ad (xs_pi (fun r X' => r = (if tb_inB x (tb_ne w h) = true then -102 else -101) ∧ xs_fr dv_SL dv_FL X X' ∧ dv_LC w h X'))) 10 [some (.ref (ad 0)), some (.int (x)), none] [.ref q9] n ad (xs_mem G ad X1) 1 6 := by
    intro hr q9 X1 hpost
    refine jq_astore_n dL_proved_10 rfl (by decide) rfl rfl ?_
    refine jq_bipush (v := (-102)) dL_proved_11 (by decide) ?_
    exact xz_ireturn dL_proved_13 rfl rfl (by decide) (⟨_, rfl, hr, hpost⟩)
  refine xx_Cw_of (L := [some (.ref (ad 0)), some (.int (x)), none]) rfl (Nat.le_of_ble_eq_true rfl) rfl ?_
  rcases (Bool.eq_false_or_eq_true (tb_inB x (tb_ne w h))).symm with hc | hc
  · skip
    refine jq_aload_n dL_proved_0 rfl rfl ?_
    refine jq_iload_n dL_proved_1 rfl rfl ?_
    exact xx_invc 6 dL_proved_2 kL_126 hL_126 (c_X5_proved_no hl hn2 hA hLC x hno) (xs_lt (by decide) hn) ⟨rfl, rfl⟩ rfl rfl (Nat.le_of_ble_eq_true rfl) ⟨⟨by decide, by decide⟩, by decide, by decide⟩ (fun E X1 q9 hE => ⟨by rw [hE.1, if_neg (by rw [hc]; decide)]; exact at_proved_2_B, hhB (by rw [hc]; rfl) q9 X1 hE.2⟩)
  · skip
    refine jq_aload_n dL_proved_0 rfl rfl ?_
    refine jq_iload_n dL_proved_1 rfl rfl ?_
    exact xx_invc 10 dL_proved_2 kL_126 hL_126 (c_X5_proved_no hl hn2 hA hLC x hno) (xs_lt (by decide) hn) ⟨rfl, rfl⟩ rfl rfl (Nat.le_of_ble_eq_true rfl) ⟨⟨by decide, by decide⟩, by decide, by decide⟩ (fun E X1 q9 hE => ⟨by rw [hE.1, if_pos hc]; exact at_proved_2_S, hhS (by rw [hc]; rfl) q9 X1 hE.2⟩)
set_option maxHeartbeats 4000000 in
theorem c_L_beyond_no {l : Launch} {G : jq_G} {n : Nat} {ad : Nat → Nat} {X : xs_T} (hl : l.stackTraces = false) (hn : 21 ≤ n) {w h : Nat} {num : Nat → Int32} {mk : Nat → Nat} (hA : dv_A w h num mk X) (hLC : dv_LC w h X) (h0 : tb_cnt2 w h num mk (-1) = 0) : xx_Cw l G mL_beyond hL_beyond 24 [.ref (ad 0)] n ad X (xs_pi (fun r X' => r = (-101) ∧ xs_fr dv_SL dv_FL X X' ∧ dv_LC w h X')) := by
  have hn2 := hn
  have hhS : ((-101) : Int32) = (-101) → ∀ (q9 : Addr) (X1 : xs_T), (xs_fr dv_SL dv_FL X X1 ∧ dv_LC w h X1) → jq_J l G mL_beyond (jq_R 24 1 6) (jx_E (tableOf hL_beyond)) (xx_Yw G n ad (xs_pi (fun r X' => r = (-101) ∧ xs_fr dv_SL dv_FL X X' ∧ dv_LC w h X'))) 5 [some (.ref (ad 0)), none] [.ref q9] n ad (xs_mem G ad X1) 1 6 := by
    intro hr q9 X1 hpost
    refine jq_astore_n dL_beyond_5 rfl (by decide) rfl rfl ?_
    refine jq_bipush (v := (-101)) dL_beyond_6 (by decide) ?_
    exact xz_ireturn dL_beyond_8 rfl rfl (by decide) (⟨_, rfl, hr, hpost⟩)
  refine xx_Cw_of (L := [some (.ref (ad 0)), none]) rfl (Nat.le_of_ble_eq_true rfl) rfl ?_
  refine jq_aload_n dL_beyond_0 rfl rfl ?_
  exact xx_invc 5 dL_beyond_1 kL_131 hL_131 (c_X5_beyondRules_no hl hn2 hA hLC h0) (xs_lt (by decide) hn) ⟨rfl, rfl⟩ rfl rfl (Nat.le_of_ble_eq_true rfl) ⟨⟨by decide, by decide⟩, by decide, by decide⟩ (fun E X1 q9 hE => ⟨by rw [hE.1]; exact at_beyond_1_S, hhS rfl q9 X1 hE.2⟩)
