/-! the class's calls, refused and not -/
set_option maxHeartbeats 4000000 in
theorem c_X5_requireCell_no {l : Launch} {G : jq_G} {n : Nat} {ad : Nat → Nat} {X : xs_T} (hl : l.stackTraces = false) (hn : 21 ≤ n) {w h : Nat} (hT : dv_T w h X) (x : Int32) (hx : tb_inB x (tb_nc w h) = false) : xx_Ct l G mX5_requireCell 6 [.ref (ad 0), .int (x)] n ad X (fun _ _ => False) (fun E X' => E = jx_nB ∧ X' = X) := by
  have hthrow : jq_J l G mX5_requireCell (jq_R 6 1 6) (jx_E []) (xx_Ye G n ad (fun _ _ => False) (fun E X' => E = jx_nB ∧ X' = X)) 15 [some (.ref (ad 0)), some (.int (x))] [] n ad (xs_mem G ad X) 0 0 := xx_throw hl jx_TB rfl jx_s181 dX5_requireCell_15 dX5_requireCell_18 dX5_requireCell_19 dX5_requireCell_21 dX5_requireCell_24 (by decide) (by decide) ⟨rfl, rfl⟩
  refine xx_Ct_of (L := [some (.ref (ad 0)), some (.int (x))]) rfl (Nat.le_of_ble_eq_true rfl) rfl ?_
  refine jq_iload_n dX5_requireCell_0 rfl rfl ?_
  refine jq_if_lt (tgt := 15) dX5_requireCell_1 (by decide) (fun c1 => ?_) (fun c1 => ?_)
  · exact hthrow
  · refine jq_iload_n dX5_requireCell_4 rfl rfl ?_
    refine jq_aload_n dX5_requireCell_5 rfl rfl ?_
    refine xq_getR 1 fX5_10 dX5_requireCell_6 (xs_lt (by decide) hn) (by decide) ?_
    refine xq_getI fX5_58 dX5_requireCell_9 (xs_lt (by decide) hn) (by decide) hT.2.1.2.2.1 ?_
    refine jq_icmp_lt (tgt := 25) dX5_requireCell_12 (by decide) (fun c12 => ?_) (fun c12 => ?_)
    · exact absurd hx (by unfold tb_inB; rw [decide_eq_true (fa_of_nlt c1), decide_eq_true c12]; decide)
    · exact hthrow
set_option maxHeartbeats 4000000 in
theorem c_X5_requireCell_ok {l : Launch} {G : jq_G} {n : Nat} {ad : Nat → Nat} {X : xs_T} (hn : 21 ≤ n) {w h : Nat} (hT : dv_T w h X) {c : Nat} (hc : c < tb_nc w h) : xs_Ct l G mX5_requireCell 1 [.ref (ad 0), .int (nI (c))] n ad X (xs_pd none X) := by
  have hz := tb_sizes hT.1
  refine xs_Ct_of (L := [some (.ref (ad 0)), some (.int (nI (c)))]) rfl (Nat.le_of_ble_eq_true rfl) rfl ?_
  refine jq_iload_n dX5_requireCell_0 rfl rfl ?_
  refine jq_if_lt (tgt := 15) dX5_requireCell_1 (by decide) (fun c1 => ?_) (fun c1 => ?_)
  · exact absurd c1 (nI_pos (by omega))
  · refine jq_iload_n dX5_requireCell_4 rfl rfl ?_
    refine jq_aload_n dX5_requireCell_5 rfl rfl ?_
    refine xq_getR 1 fX5_10 dX5_requireCell_6 (xs_lt (by decide) hn) (by decide) ?_
    refine xq_getI fX5_58 dX5_requireCell_9 (xs_lt (by decide) hn) (by decide) hT.2.1.2.2.1 ?_
    refine jq_ltN (tgt := 25) dX5_requireCell_12 (by decide) ⟨by omega, by omega⟩ (fun c12 => ?_) (fun c12 => ?_)
    · exact xq_return rfl dX5_requireCell_25 rfl (⟨rfl, rfl⟩)
    · exact absurd c12 (by omega)
set_option maxHeartbeats 4000000 in
theorem c_X5_requireEdge_no {l : Launch} {G : jq_G} {n : Nat} {ad : Nat → Nat} {X : xs_T} (hl : l.stackTraces = false) (hn : 21 ≤ n) {w h : Nat} (hT : dv_T w h X) (x : Int32) (hx : tb_inB x (tb_ne w h) = false) : xx_Ct l G mX5_requireEdge 6 [.ref (ad 0), .int (x)] n ad X (fun _ _ => False) (fun E X' => E = jx_nB ∧ X' = X) := by
  have hthrow : jq_J l G mX5_requireEdge (jq_R 6 1 6) (jx_E []) (xx_Ye G n ad (fun _ _ => False) (fun E X' => E = jx_nB ∧ X' = X)) 15 [some (.ref (ad 0)), some (.int (x))] [] n ad (xs_mem G ad X) 0 0 := xx_throw hl jx_TB rfl jx_s183 dX5_requireEdge_15 dX5_requireEdge_18 dX5_requireEdge_19 dX5_requireEdge_21 dX5_requireEdge_24 (by decide) (by decide) ⟨rfl, rfl⟩
  refine xx_Ct_of (L := [some (.ref (ad 0)), some (.int (x))]) rfl (Nat.le_of_ble_eq_true rfl) rfl ?_
  refine jq_iload_n dX5_requireEdge_0 rfl rfl ?_
  refine jq_if_lt (tgt := 15) dX5_requireEdge_1 (by decide) (fun c1 => ?_) (fun c1 => ?_)
  · exact hthrow
  · refine jq_iload_n dX5_requireEdge_4 rfl rfl ?_
    refine jq_aload_n dX5_requireEdge_5 rfl rfl ?_
    refine xq_getR 1 fX5_10 dX5_requireEdge_6 (xs_lt (by decide) hn) (by decide) ?_
    refine xq_getI fX5_62 dX5_requireEdge_9 (xs_lt (by decide) hn) (by decide) hT.2.1.2.2.2.2.1 ?_
    refine jq_icmp_lt (tgt := 25) dX5_requireEdge_12 (by decide) (fun c12 => ?_) (fun c12 => ?_)
    · exact absurd hx (by unfold tb_inB; rw [decide_eq_true (fa_of_nlt c1), decide_eq_true c12]; decide)
    · exact hthrow
set_option maxHeartbeats 4000000 in
theorem c_X5_requireEdge_ok {l : Launch} {G : jq_G} {n : Nat} {ad : Nat → Nat} {X : xs_T} (hn : 21 ≤ n) {w h : Nat} (hT : dv_T w h X) {c : Nat} (hc : c < tb_ne w h) : xs_Ct l G mX5_requireEdge 1 [.ref (ad 0), .int (nI (c))] n ad X (xs_pd none X) := by
  have hz := tb_sizes hT.1
  refine xs_Ct_of (L := [some (.ref (ad 0)), some (.int (nI (c)))]) rfl (Nat.le_of_ble_eq_true rfl) rfl ?_
  refine jq_iload_n dX5_requireEdge_0 rfl rfl ?_
  refine jq_if_lt (tgt := 15) dX5_requireEdge_1 (by decide) (fun c1 => ?_) (fun c1 => ?_)
  · exact absurd c1 (nI_pos (by omega))
  · refine jq_iload_n dX5_requireEdge_4 rfl rfl ?_
    refine jq_aload_n dX5_requireEdge_5 rfl rfl ?_
    refine xq_getR 1 fX5_10 dX5_requireEdge_6 (xs_lt (by decide) hn) (by decide) ?_
    refine xq_getI fX5_62 dX5_requireEdge_9 (xs_lt (by decide) hn) (by decide) hT.2.1.2.2.2.2.1 ?_
    refine jq_ltN (tgt := 25) dX5_requireEdge_12 (by decide) ⟨by omega, by omega⟩ (fun c12 => ?_) (fun c12 => ?_)
    · exact xq_return rfl dX5_requireEdge_25 rfl (⟨rfl, rfl⟩)
    · exact absurd c12 (by omega)
set_option maxHeartbeats 4000000 in
theorem c_X5_requireAnswer_ok {l : Launch} {G : jq_G} {n : Nat} {ad : Nat → Nat} {X : xs_T} (hn : 21 ≤ n) {w h : Nat} {num : Nat → Int32} {mk : Nat → Nat} (hA : dv_A w h num mk X) (hLC : dv_LC w h X) (a : Int32) (h0 : tb_pk w h num mk a ≠ 0) : xs_Ct l G mX5_requireAnswer 22 [.ref (ad 0), .int (a)] n ad X (xs_pl (fun v X' => v = lN (tb_pk w h num mk a) ∧ xs_fr dv_SL dv_FL X X' ∧ dv_LC w h X')) := by
  have hlt : tb_pk w h num mk a < 2 ^ 63 := Nat.lt_trans (tb_pk_lt hA.1.1 num mk a) (by decide)
  refine xs_Ct_of (L := [some (.ref (ad 0)), some (.int (a)), none, none]) rfl (Nat.le_of_ble_eq_true rfl) rfl ?_
  refine jq_aload_n dX5_requireAnswer_0 rfl rfl ?_
  refine xq_getR 19 fX5_37 dX5_requireAnswer_1 (xs_lt (by decide) hn) (by decide) ?_
  refine jq_aload_n dX5_requireAnswer_4 rfl rfl ?_
  refine xq_getL fX5_80 dX5_requireAnswer_5 (xs_lt (by decide) hn) (by decide) hA.2.2.1.1 ?_
  refine jq_aload_n dX5_requireAnswer_8 rfl rfl ?_
  refine xq_getL fX5_84 dX5_requireAnswer_9 (xs_lt (by decide) hn) (by decide) hA.2.2.1.2 ?_
  refine jq_iload_n dX5_requireAnswer_12 rfl rfl ?_
  refine xq_rL dX5_requireAnswer_13 kX5_185 (c_X3_findAnswer hn hA.1 hA.2.1 hLC (dv_S_lt hA.1.1 mk 1) (dv_S_lt hA.1.1 mk 2) a) (xs_lt (by decide) hn) ⟨rfl, rfl⟩ rfl rfl (Nat.le_of_ble_eq_true rfl) ⟨⟨by decide, by decide⟩, Nat.le_refl _, Nat.le_refl _⟩ (fun v13 X13 h13 => ?_)
  obtain ⟨a1, a2, a3⟩ := h13
  change v13 = lN (tb_pk w h num mk a) at a1
  subst a1
  refine jq_lstore_n dX5_requireAnswer_16 rfl (by decide) rfl rfl ?_
  refine jq_lload_n dX5_requireAnswer_17 rfl rfl ?_
  refine jq_lconst (v := 0) dX5_requireAnswer_18 (by decide) ?_
  refine jq_lcmp dX5_requireAnswer_19 ?_
  refine jq_if_ne (tgt := 33) dX5_requireAnswer_20 (by decide) (fun c20 => ?_) (fun c20 => ?_)
  · refine jq_lload_n dX5_requireAnswer_33 rfl rfl ?_
    exact xq_lreturn dX5_requireAnswer_34 rfl (⟨_, rfl, rfl, a2, a3⟩)
  · exact absurd ((lN_eq0 hlt).mp c20) h0
set_option maxHeartbeats 4000000 in
theorem c_X5_requireAnswer_no {l : Launch} {G : jq_G} {n : Nat} {ad : Nat → Nat} {X : xs_T} (hl : l.stackTraces = false) (hn : 21 ≤ n) {w h : Nat} {num : Nat → Int32} {mk : Nat → Nat} (hA : dv_A w h num mk X) (hLC : dv_LC w h X) (a : Int32) (h0 : tb_pk w h num mk a = 0) : xx_Ct l G mX5_requireAnswer 22 [.ref (ad 0), .int (a)] n ad X (fun _ _ => False) (fun E X' => E = jx_nB ∧ xs_fr dv_SL dv_FL X X' ∧ dv_LC w h X') := by
  refine xx_Ct_of (L := [some (.ref (ad 0)), some (.int (a)), none, none]) rfl (Nat.le_of_ble_eq_true rfl) rfl ?_
  refine jq_aload_n dX5_requireAnswer_0 rfl rfl ?_
  refine xq_getR 19 fX5_37 dX5_requireAnswer_1 (xs_lt (by decide) hn) (by decide) ?_
  refine jq_aload_n dX5_requireAnswer_4 rfl rfl ?_
  refine xq_getL fX5_80 dX5_requireAnswer_5 (xs_lt (by decide) hn) (by decide) hA.2.2.1.1 ?_
  refine jq_aload_n dX5_requireAnswer_8 rfl rfl ?_
  refine xq_getL fX5_84 dX5_requireAnswer_9 (xs_lt (by decide) hn) (by decide) hA.2.2.1.2 ?_
  refine jq_iload_n dX5_requireAnswer_12 rfl rfl ?_
  refine xq_rL dX5_requireAnswer_13 kX5_185 (c_X3_findAnswer hn hA.1 hA.2.1 hLC (dv_S_lt hA.1.1 mk 1) (dv_S_lt hA.1.1 mk 2) a) (xs_lt (by decide) hn) ⟨rfl, rfl⟩ rfl rfl (Nat.le_of_ble_eq_true rfl) ⟨⟨by decide, by decide⟩, by decide, by decide⟩ (fun v13 X13 h13 => ?_)
  obtain ⟨a1, a2, a3⟩ := h13
  change v13 = lN (tb_pk w h num mk a) at a1
  rw [h0] at a1
  subst a1
  refine jq_lstore_n dX5_requireAnswer_16 rfl (by decide) rfl rfl ?_
  refine jq_lload_n dX5_requireAnswer_17 rfl rfl ?_
  refine jq_lconst (v := 0) dX5_requireAnswer_18 (by decide) ?_
  refine jq_lcmp dX5_requireAnswer_19 ?_
  refine jq_if_ne (tgt := 33) dX5_requireAnswer_20 (by decide) (fun c20 => ?_) (fun c20 => ?_)
  · exact absurd (by decide) c20
  · exact xx_throw hl jx_TB rfl jx_s189 dX5_requireAnswer_23 dX5_requireAnswer_26 dX5_requireAnswer_27 dX5_requireAnswer_29 dX5_requireAnswer_32 (by decide) (by decide) ⟨rfl, a2, a3⟩
set_option maxHeartbeats 4000000 in
theorem c_X5_requireSomeAnswer_ok {l : Launch} {G : jq_G} {n : Nat} {ad : Nat → Nat} {X : xs_T} (hn : 21 ≤ n) {w h : Nat} {num : Nat → Int32} {mk : Nat → Nat} (hA : dv_A w h num mk X) (hLC : dv_LC w h X) (h0 : tb_cnt2 w h num mk (-1) ≠ 0) : xs_Ct l G mX5_requireSomeAnswer 22 [.ref (ad 0)] n ad X (xs_pv (fun X' => xs_fr dv_SL dv_FL X X' ∧ dv_LC w h X')) := by
  have hlt : tb_pk w h num mk (nI 0) < 2 ^ 63 := Nat.lt_trans (tb_pk_lt hA.1.1 num mk _) (by decide)
  refine xs_Ct_of (L := [some (.ref (ad 0))]) rfl (Nat.le_of_ble_eq_true rfl) rfl ?_
  refine jq_aload_n dX5_requireSomeAnswer_0 rfl rfl ?_
  refine xq_getR 19 fX5_37 dX5_requireSomeAnswer_1 (xs_lt (by decide) hn) (by decide) ?_
  refine jq_aload_n dX5_requireSomeAnswer_4 rfl rfl ?_
  refine xq_getL fX5_80 dX5_requireSomeAnswer_5 (xs_lt (by decide) hn) (by decide) hA.2.2.1.1 ?_
  refine jq_aload_n dX5_requireSomeAnswer_8 rfl rfl ?_
  refine xq_getL fX5_84 dX5_requireSomeAnswer_9 (xs_lt (by decide) hn) (by decide) hA.2.2.1.2 ?_
  refine jq_iconst (v := (nI 0)) dX5_requireSomeAnswer_12 (by decide) ?_
  refine xq_rL dX5_requireSomeAnswer_13 kX5_185 (c_X3_findAnswer hn hA.1 hA.2.1 hLC (dv_S_lt hA.1.1 mk 1) (dv_S_lt hA.1.1 mk 2) (nI 0)) (xs_lt (by decide) hn) ⟨rfl, rfl⟩ rfl rfl (Nat.le_of_ble_eq_true rfl) ⟨⟨by decide, by decide⟩, Nat.le_refl _, Nat.le_refl _⟩ (fun v13 X13 h13 => ?_)
  obtain ⟨a1, a2, a3⟩ := h13
  change v13 = lN (tb_pk w h num mk (nI 0)) at a1
  subst a1
  refine jq_lconst (v := 0) dX5_requireSomeAnswer_16 (by decide) ?_
  refine jq_lcmp dX5_requireSomeAnswer_17 ?_
  refine jq_if_ne (tgt := 31) dX5_requireSomeAnswer_18 (by decide) (fun c18 => ?_) (fun c18 => ?_)
  · exact xq_return rfl dX5_requireSomeAnswer_31 rfl (⟨rfl, a2, a3⟩)
  · exact absurd ((tb_pk_0 hA.1.1 num mk).mp ((lN_eq0 hlt).mp c18)) h0
set_option maxHeartbeats 4000000 in
theorem c_X5_requireSomeAnswer_no {l : Launch} {G : jq_G} {n : Nat} {ad : Nat → Nat} {X : xs_T} (hl : l.stackTraces = false) (hn : 21 ≤ n) {w h : Nat} {num : Nat → Int32} {mk : Nat → Nat} (hA : dv_A w h num mk X) (hLC : dv_LC w h X) (h0 : tb_cnt2 w h num mk (-1) = 0) : xx_Ct l G mX5_requireSomeAnswer 22 [.ref (ad 0)] n ad X (fun _ _ => False) (fun E X' => E = jx_nS ∧ xs_fr dv_SL dv_FL X X' ∧ dv_LC w h X') := by
  refine xx_Ct_of (L := [some (.ref (ad 0))]) rfl (Nat.le_of_ble_eq_true rfl) rfl ?_
  refine jq_aload_n dX5_requireSomeAnswer_0 rfl rfl ?_
  refine xq_getR 19 fX5_37 dX5_requireSomeAnswer_1 (xs_lt (by decide) hn) (by decide) ?_
  refine jq_aload_n dX5_requireSomeAnswer_4 rfl rfl ?_
  refine xq_getL fX5_80 dX5_requireSomeAnswer_5 (xs_lt (by decide) hn) (by decide) hA.2.2.1.1 ?_
  refine jq_aload_n dX5_requireSomeAnswer_8 rfl rfl ?_
  refine xq_getL fX5_84 dX5_requireSomeAnswer_9 (xs_lt (by decide) hn) (by decide) hA.2.2.1.2 ?_
  refine jq_iconst (v := (nI 0)) dX5_requireSomeAnswer_12 (by decide) ?_
  refine xq_rL dX5_requireSomeAnswer_13 kX5_185 (c_X3_findAnswer hn hA.1 hA.2.1 hLC (dv_S_lt hA.1.1 mk 1) (dv_S_lt hA.1.1 mk 2) (nI 0)) (xs_lt (by decide) hn) ⟨rfl, rfl⟩ rfl rfl (Nat.le_of_ble_eq_true rfl) ⟨⟨by decide, by decide⟩, by decide, by decide⟩ (fun v13 X13 h13 => ?_)
  obtain ⟨a1, a2, a3⟩ := h13
  change v13 = lN (tb_pk w h num mk (nI 0)) at a1
  rw [(tb_pk_0 hA.1.1 num mk).mpr h0] at a1
  subst a1
  refine jq_lconst (v := 0) dX5_requireSomeAnswer_16 (by decide) ?_
  refine jq_lcmp dX5_requireSomeAnswer_17 ?_
  refine jq_if_ne (tgt := 31) dX5_requireSomeAnswer_18 (by decide) (fun c18 => ?_) (fun c18 => ?_)
  · exact absurd (by decide) c18
  · exact xx_throw hl jx_TS rfl jx_s193 dX5_requireSomeAnswer_21 dX5_requireSomeAnswer_24 dX5_requireSomeAnswer_25 dX5_requireSomeAnswer_27 dX5_requireSomeAnswer_30 (by decide) (by decide) ⟨rfl, a2, a3⟩
set_option maxHeartbeats 4000000 in
theorem c_X5_lay_no {l : Launch} {G : jq_G} {n : Nat} {ad : Nat → Nat} {X : xs_T} (hl : l.stackTraces = false) (x y : Int32) (hno : (tb_w4 x && tb_w4 y) = false) : xx_Ct l G mX5_lay 6 [.ref (ad 0), .int (x), .int (y)] n ad X (fun _ _ => False) (fun E X' => E = jx_nA ∧ X' = X) := by
  have hthrow : jq_J l G mX5_lay (jq_R 6 1 6) (jx_E []) (xx_Ye G n ad (fun _ _ => False) (fun E X' => E = jx_nA ∧ X' = X)) 20 [some (.ref (ad 0)), some (.int (x)), some (.int (y))] [] n ad (xs_mem G ad X) 0 0 := xx_throw hl jx_TA rfl jx_s47 dX5_lay_20 dX5_lay_23 dX5_lay_24 dX5_lay_26 dX5_lay_29 (by decide) (by decide) ⟨rfl, rfl⟩
  refine xx_Ct_of (L := [some (.ref (ad 0)), some (.int (x)), some (.int (y))]) rfl (Nat.le_of_ble_eq_true rfl) rfl ?_
  refine jq_iload_n dX5_lay_0 rfl rfl ?_
  refine jq_iconst (v := (nI 1)) dX5_lay_1 (by decide) ?_
  refine jq_icmp_lt (tgt := 20) dX5_lay_2 (by decide) (fun c2 => ?_) (fun c2 => ?_)
  · exact hthrow
  · refine jq_iload_n dX5_lay_5 rfl rfl ?_
    refine jq_iconst (v := (nI 4)) dX5_lay_6 (by decide) ?_
    refine jq_icmp_gt (tgt := 20) dX5_lay_7 (by decide) (fun c7 => ?_) (fun c7 => ?_)
    · exact hthrow
    · refine jq_iload_n dX5_lay_10 rfl rfl ?_
      refine jq_iconst (v := (nI 1)) dX5_lay_11 (by decide) ?_
      refine jq_icmp_lt (tgt := 20) dX5_lay_12 (by decide) (fun c12 => ?_) (fun c12 => ?_)
      · exact hthrow
      · refine jq_iload_n dX5_lay_15 rfl rfl ?_
        refine jq_iconst (v := (nI 4)) dX5_lay_16 (by decide) ?_
        refine jq_icmp_le (tgt := 30) dX5_lay_17 (by decide) (fun c17 => ?_) (fun c17 => ?_)
        · exact absurd hno (by unfold tb_w4; rw [decide_eq_true (fa_of_nlt c2), decide_eq_true (fa_of_nlt c7), decide_eq_true (fa_of_nlt c12), decide_eq_true c17]; decide)
        · exact hthrow
theorem dv_S_none (w h : Nat) {how : Nat} (hh : how ≠ 0) : dv_S w h (fun _ => 0) how = 0 := by
  unfold dv_S
  apply bm_zero.mpr
  intro k _
  show ((0 : Nat) == how) = false
  rw [beq_eq_false_iff_ne]
  exact Ne.symm hh
abbrev dv_SY : List Nat := [2, 3, 4, 5, 6, 7, 8, 9, 10]
abbrev dv_FY : List (Nat × Nat) := [(0, 4), (0, 5), (19, 3), (1, 9), (1, 10), (1, 11), (1, 12), (1, 13), (1, 14), (1, 15)]
set_option maxHeartbeats 4000000 in
theorem c_X5_lay_ok {l : Launch} {G : jq_G} {n : Nat} {ad : Nat → Nat} {X : xs_T} (hn : 21 ≤ n) {w h : Nat} (hW : tb_W w h) : xs_Ct l G mX5_lay 4 [.ref (ad 0), .int (nI (w)), .int (nI (h))] n ad X (xs_pv (fun X' => xs_fr dv_SY dv_FY X X' ∧ dv_A w h (fun _ => -1) (fun _ => 0) X' ∧ dv_LC w h X')) := by
  have hW2 := hW
  obtain ⟨hw1, hw2, hh1, hh2⟩ := hW2
  refine xs_Ct_of (L := [some (.ref (ad 0)), some (.int (nI (w))), some (.int (nI (h)))]) rfl (Nat.le_of_ble_eq_true rfl) rfl ?_
  refine jq_iload_n dX5_lay_0 rfl rfl ?_
  refine jq_iconst (v := (nI 1)) dX5_lay_1 (by decide) ?_
  refine jq_ltN (tgt := 20) dX5_lay_2 (by decide) ⟨by omega, by omega⟩ (fun c2 => ?_) (fun c2 => ?_)
  · exact absurd c2 (by omega)
  · refine jq_iload_n dX5_lay_5 rfl rfl ?_
    refine jq_iconst (v := (nI 4)) dX5_lay_6 (by decide) ?_
    refine jq_gtN (tgt := 20) dX5_lay_7 (by decide) ⟨by omega, by omega⟩ (fun c7 => ?_) (fun c7 => ?_)
    · exact absurd c7 (by omega)
    · refine jq_iload_n dX5_lay_10 rfl rfl ?_
      refine jq_iconst (v := (nI 1)) dX5_lay_11 (by decide) ?_
      refine jq_ltN (tgt := 20) dX5_lay_12 (by decide) ⟨by omega, by omega⟩ (fun c12 => ?_) (fun c12 => ?_)
      · exact absurd c12 (by omega)
      · refine jq_iload_n dX5_lay_15 rfl rfl ?_
        refine jq_iconst (v := (nI 4)) dX5_lay_16 (by decide) ?_
        refine jq_leN (tgt := 30) dX5_lay_17 (by decide) ⟨by omega, by omega⟩ (fun c17 => ?_) (fun c17 => ?_)
        · refine jq_aload_n dX5_lay_30 rfl rfl ?_
          refine xq_getR 1 fX5_10 dX5_lay_31 (xs_lt (by decide) hn) (by decide) ?_
          refine jq_iload_n dX5_lay_34 rfl rfl ?_
          refine jq_iload_n dX5_lay_35 rfl rfl ?_
          refine xq_rV dX5_lay_36 kX5_41 (c_X0_build hn hW) (xs_lt (by decide) hn) ⟨rfl, rfl⟩ rfl rfl (Nat.le_of_ble_eq_true rfl) ⟨⟨by decide, by decide⟩, Nat.le_refl _, Nat.le_refl _⟩ (fun X36 h36 => ?_)
          obtain ⟨a1, a2, a3⟩ := h36
          refine jq_aload_n dX5_lay_39 rfl rfl ?_
          refine xq_getR 19 fX5_37 dX5_lay_40 (xs_lt (by decide) hn) (by decide) ?_
          refine xq_rV dX5_lay_43 kX5_52 (c_X3_forget hn) (xs_lt (by decide) hn) ⟨rfl, rfl⟩ rfl rfl (Nat.le_of_ble_eq_true rfl) ⟨⟨by decide, by decide⟩, Nat.le_refl _, Nat.le_refl _⟩ (fun X43 h43 => ?_)
          obtain ⟨b1, b2⟩ := h43
          refine jq_aload_n dX5_lay_46 rfl rfl ?_
          refine xq_rV dX5_lay_47 kX5_55 (c_X5_unmark hn) (xs_lt (by decide) hn) ⟨rfl, rfl⟩ rfl rfl (Nat.le_of_ble_eq_true rfl) ⟨⟨by decide, by decide⟩, Nat.le_refl _, Nat.le_refl _⟩ (fun X47 h47 => ?_)
          obtain ⟨d1, d2, d3⟩ := h47
          have hf : xs_fr dv_SY dv_FY X X47 := xs_fr_tr (xs_fr_tr (xs_fr_mo a1 (by decide)) (xs_fr_mo b1 (by decide))) (xs_fr_mo d1 (by decide))
          have hbd := xs_fr_tr (xs_fr_mo b1 (show ((([] : List Nat).all (fun q => decide (q ∈ ([] : List Nat)))) && (([(19, 3)] : List (Nat × Nat)).all (fun q => decide (q ∈ ([(19, 3), (0, 4), (0, 5)] : List (Nat × Nat)))))) = true by decide)) (xs_fr_mo d1 (by decide))
          exact xq_return rfl dX5_lay_50 rfl ⟨rfl, hf, ⟨dv_fr a2 hbd, dv_nfr a3 hbd, ⟨by rw [d2, dv_S_none w h (by decide)], by rw [d3, dv_S_none w h (by decide)]⟩, fun _ _ => Nat.zero_le 2⟩, Or.inl (xs_fi d1 19 3 b2)⟩
        · exact absurd c17 (by omega)
theorem dv_nup {w h : Nat} {num : Nat → Int32} {c : Nat} {v : Int32} {X : xs_T} (hc : c < 2 ^ 31) (hN : dv_N w h num X) : dv_N w h (tb_up num c v) (xs_ai X 2 (upd (X.2.2.1 2) (nI c).toNatClampNeg v)) := by
  intro j hj
  rw [xs_ai_at]
  by_cases q : j = c
  · rw [q, xs_upd_at hc]; exact (if_pos rfl).symm
  · rw [xs_upd_ne hc q, hN j hj]; exact (if_neg q).symm
set_option maxHeartbeats 4000000 in
theorem c_X5_number_ok {l : Launch} {G : jq_G} {n : Nat} {ad : Nat → Nat} {X : xs_T} (hn : 21 ≤ n) {w h : Nat} {num : Nat → Int32} {mk : Nat → Nat} (hA : dv_A w h num mk X) {c : Nat} (hc : c < tb_nc w h) {v : Int32} (hv : tb_numOk v = true) : xs_Ct l G mX5_number 2 [.ref (ad 0), .int (nI (c)), .int (v)] n ad X (xs_pi (fun r X' => r = num c ∧ xs_fr [2] [] X X' ∧ dv_A w h (tb_up num c v) mk X')) := by
  have hz := tb_sizes hA.1.1
  have hic : vp_in (nI c) 16 := vp_inN (by omega) (by decide)
  have hnc := hA.2.1 c hc
  have hf : xs_fr [2] [] X (xs_ai X 2 (upd (X.2.2.1 2) (nI c).toNatClampNeg v)) := xs_fr_ai xs_fr_rf (by decide)
  have hfin : dv_A w h (tb_up num c v) mk (xs_ai X 2 (upd (X.2.2.1 2) (nI c).toNatClampNeg v)) := ⟨dv_fr hA.1 hf, dv_nup (by omega) hA.2.1, hA.2.2.1, hA.2.2.2⟩
  have hbad : ¬ (¬ v = -1 ∧ (v < 0 ∨ ¬ v ≤ 3)) := by
    rintro ⟨a, b⟩
    unfold tb_numOk at hv
    rw [Bool.and_eq_true, decide_eq_true_eq, decide_eq_true_eq] at hv
    rcases b with b | b
    · rw [fa_eq] at a
      rw [fa_lt] at b
      have h1 := hv.1
      rw [fa_le] at h1
      have e1 : (-1 : Int32).toInt = -1 := by decide
      have e0 : (0 : Int32).toInt = 0 := by decide
      omega
    · exact b hv.2
  refine xs_Ct_of (L := [some (.ref (ad 0)), some (.int (nI (c))), some (.int (v)), none]) rfl (Nat.le_of_ble_eq_true rfl) rfl ?_
  refine jq_aload_n dX5_number_0 rfl rfl ?_
  refine jq_iload_n dX5_number_1 rfl rfl ?_
  refine xq_vV dX5_number_2 kX5_65 (c_X5_requireCell_ok hn hA.1 hc) (xs_lt (by decide) hn) ⟨rfl, rfl⟩ rfl rfl (Nat.le_of_ble_eq_true rfl) ⟨⟨by decide, by decide⟩, Nat.le_refl _, Nat.le_refl _⟩ ?_
  refine jq_iload_n dX5_number_5 rfl rfl ?_
  refine jq_iconst (v := (-1)) dX5_number_6 (by decide) ?_
  refine jq_icmp_eq (tgt := 29) dX5_number_7 (by decide) (fun c7 => ?_) (fun c7 => ?_)
  · refine jq_aload_n dX5_number_29 rfl rfl ?_
    refine xq_getR 1 fX5_10 dX5_number_30 (xs_lt (by decide) hn) (by decide) ?_
    refine xq_getR 2 fX5_71 dX5_number_33 (xs_lt (by decide) hn) (by decide) ?_
    refine jq_iload_n dX5_number_36 rfl rfl ?_
    refine xq_iaload dX5_number_37 (xs_lt (by decide) hn) rfl hic (xs_rd hnc (by omega)) ?_
    refine jq_istore_n dX5_number_38 rfl (by decide) rfl rfl ?_
    refine jq_aload_n dX5_number_39 rfl rfl ?_
    refine xq_getR 1 fX5_10 dX5_number_40 (xs_lt (by decide) hn) (by decide) ?_
    refine xq_getR 2 fX5_71 dX5_number_43 (xs_lt (by decide) hn) (by decide) ?_
    refine jq_iload_n dX5_number_46 rfl rfl ?_
    refine jq_iload_n dX5_number_47 rfl rfl ?_
    refine xq_iastore dX5_number_48 (xs_lt (by decide) hn) rfl hic ?_
    refine jq_iload_n dX5_number_49 rfl rfl ?_
    exact xq_ireturn dX5_number_50 rfl rfl (⟨_, rfl, rfl, hf, hfin⟩)
  · refine jq_iload_n dX5_number_10 rfl rfl ?_
    refine jq_if_lt (tgt := 19) dX5_number_11 (by decide) (fun c11 => ?_) (fun c11 => ?_)
    · exfalso
      first
        | exact hbad ⟨c7, Or.inl c11⟩
        | exact hbad ⟨c7, Or.inr c16⟩
    · refine jq_iload_n dX5_number_14 rfl rfl ?_
      refine jq_iconst (v := 3) dX5_number_15 (by decide) ?_
      refine jq_icmp_le (tgt := 29) dX5_number_16 (by decide) (fun c16 => ?_) (fun c16 => ?_)
      · refine jq_aload_n dX5_number_29 rfl rfl ?_
        refine xq_getR 1 fX5_10 dX5_number_30 (xs_lt (by decide) hn) (by decide) ?_
        refine xq_getR 2 fX5_71 dX5_number_33 (xs_lt (by decide) hn) (by decide) ?_
        refine jq_iload_n dX5_number_36 rfl rfl ?_
        refine xq_iaload dX5_number_37 (xs_lt (by decide) hn) rfl hic (xs_rd hnc (by omega)) ?_
        refine jq_istore_n dX5_number_38 rfl (by decide) rfl rfl ?_
        refine jq_aload_n dX5_number_39 rfl rfl ?_
        refine xq_getR 1 fX5_10 dX5_number_40 (xs_lt (by decide) hn) (by decide) ?_
        refine xq_getR 2 fX5_71 dX5_number_43 (xs_lt (by decide) hn) (by decide) ?_
        refine jq_iload_n dX5_number_46 rfl rfl ?_
        refine jq_iload_n dX5_number_47 rfl rfl ?_
        refine xq_iastore dX5_number_48 (xs_lt (by decide) hn) rfl hic ?_
        refine jq_iload_n dX5_number_49 rfl rfl ?_
        exact xq_ireturn dX5_number_50 rfl rfl (⟨_, rfl, rfl, hf, hfin⟩)
      · exfalso
        first
          | exact hbad ⟨c7, Or.inl c11⟩
          | exact hbad ⟨c7, Or.inr c16⟩
set_option maxHeartbeats 4000000 in
theorem c_X5_number_no {l : Launch} {G : jq_G} {n : Nat} {ad : Nat → Nat} {X : xs_T} (hl : l.stackTraces = false) (hn : 21 ≤ n) {w h : Nat} (hT : dv_T w h X) (x v : Int32) (hno : (tb_inB x (tb_nc w h) && tb_numOk v) = false) : xx_Ct l G mX5_number 7 [.ref (ad 0), .int (x), .int (v)] n ad X (fun _ _ => False) (fun E X' => E = (if tb_inB x (tb_nc w h) = true then jx_nA else jx_nB) ∧ X' = X) := by
  have hz := tb_sizes hT.1
  refine xx_Ct_of (L := [some (.ref (ad 0)), some (.int (x)), some (.int (v)), none]) rfl (Nat.le_of_ble_eq_true rfl) rfl ?_
  rcases tb_inB_cases x (show tb_nc w h < 2 ^ 31 by omega) with hx | ⟨c, hc, rfl⟩
  · skip
    refine jq_aload_n dX5_number_0 rfl rfl ?_
    refine jq_iload_n dX5_number_1 rfl rfl ?_
    exact xx_inv dX5_number_2 kX5_65 hX5_65 (c_X5_requireCell_no hl hn hT x hx) (xs_lt (by decide) hn) ⟨rfl, rfl⟩ rfl rfl (by decide) ⟨⟨by decide, by decide⟩, by decide, by decide⟩ (by decide) (fun E X' hE => ⟨hE.1.trans (if_neg (by rw [hx]; decide)).symm, hE.2⟩)
  · have hin := tb_inB_nI hc (show tb_nc w h < 2 ^ 31 by omega)
    rw [hin, Bool.true_and] at hno
    have hok : v = -1 ∨ (¬ v < 0 ∧ v ≤ 3) → tb_numOk v = true := by
      rintro (a | ⟨a, b⟩)
      · rw [a]; decide
      · unfold tb_numOk
        have : (-1 : Int32) ≤ v := by
          rw [fa_lt] at a
          rw [fa_le]
          have e1 : (-1 : Int32).toInt = -1 := by decide
          have e0 : (0 : Int32).toInt = 0 := by decide
          omega
        rw [decide_eq_true this, decide_eq_true b]; rfl
    have hthrow : jq_J l G mX5_number (jq_R 7 1 6) (jx_E []) (xx_Ye G n ad (fun _ _ => False) (fun E X' => E = (if tb_inB (nI c) (tb_nc w h) = true then jx_nA else jx_nB) ∧ X' = X)) 19 [some (.ref (ad 0)), some (.int (nI (c))), some (.int (v)), none] [] n ad (xs_mem G ad X) 0 0 := xx_throw hl jx_TA rfl jx_s69 dX5_number_19 dX5_number_22 dX5_number_23 dX5_number_25 dX5_number_28 (by decide) (by decide) ⟨(if_pos hin).symm, rfl⟩
    refine jq_aload_n dX5_number_0 rfl rfl ?_
    refine jq_iload_n dX5_number_1 rfl rfl ?_
    refine xq_vV dX5_number_2 kX5_65 (c_X5_requireCell_ok hn hT hc) (xs_lt (by decide) hn) ⟨rfl, rfl⟩ rfl rfl (Nat.le_of_ble_eq_true rfl) ⟨⟨by decide, by decide⟩, by decide, by decide⟩ ?_
    refine jq_iload_n dX5_number_5 rfl rfl ?_
    refine jq_iconst (v := (-1)) dX5_number_6 (by decide) ?_
    refine jq_icmp_eq (tgt := 29) dX5_number_7 (by decide) (fun c7 => ?_) (fun c7 => ?_)
    · exact absurd (hok (Or.inl c7)) (by rw [hno]; decide)
    · refine jq_iload_n dX5_number_10 rfl rfl ?_
      refine jq_if_lt (tgt := 19) dX5_number_11 (by decide) (fun c11 => ?_) (fun c11 => ?_)
      · exact hthrow
      · refine jq_iload_n dX5_number_14 rfl rfl ?_
        refine jq_iconst (v := 3) dX5_number_15 (by decide) ?_
        refine jq_icmp_le (tgt := 29) dX5_number_16 (by decide) (fun c16 => ?_) (fun c16 => ?_)
        · exact absurd (hok (Or.inr ⟨c11, c16⟩)) (by rw [hno]; decide)
        · exact hthrow
theorem dv_S_up {w h : Nat} {mk : Nat → Nat} {c s how : Nat} (hne : tb_ne w h ≤ 40) (hc : c < tb_ne w h) : dv_S w h (tb_up mk c s) how = if s = how then dv_S w h mk how ||| 2 ^ c else bm (fun e => (dv_S w h mk how).testBit e && !(2 ^ c).testBit e) 40 := by
  have hb : ∀ e, (dv_S w h (tb_up mk c s) how).testBit e = (decide (e < tb_ne w h) && (tb_up mk c s e == how)) := fun e => bm_bit _ _ _
  have hb2 : ∀ e, (dv_S w h mk how).testBit e = (decide (e < tb_ne w h) && (mk e == how)) := fun e => bm_bit _ _ _
  split
  · rename_i hs
    apply bm_ext
    intro e
    rw [hb, fb_bit_set, hb2]
    by_cases q : e = c
    · rw [q, show tb_up mk c s c = s from if_pos rfl, hs, beq_self_eq_true, decide_eq_true hc, decide_eq_true rfl, Bool.or_true]; rfl
    · rw [show tb_up mk c s e = mk e from if_neg q, decide_eq_false q, Bool.or_false]
  · rename_i hs
    apply bm_ext
    intro e
    rw [hb, bm_bit, hb2, Nat.testBit_two_pow]
    by_cases q : e = c
    · rw [q, show tb_up mk c s c = s from if_pos rfl, beq_eq_false_iff_ne.mpr hs, decide_eq_true (rfl : c = c)]
      simp
    · rw [show tb_up mk c s e = mk e from if_neg q, decide_eq_false (Ne.symm q)]
      by_cases z : e < 40
      · rw [decide_eq_true z]; simp
      · rw [decide_eq_false z]
        by_cases y : e < tb_ne w h
        · rw [decide_eq_true y]
          exact absurd (Nat.lt_of_lt_of_le y hne) z
        · rw [decide_eq_false y]; rfl
