theorem dv_bit {S e : Nat} (hS : S < 2 ^ 63) (he : e < 63) : lN S &&& lN (1 * 2 ^ e) = lN (S &&& 2 ^ e) := by
  rw [Nat.one_mul, wb_and (by omega) (Nat.lt_trans (Nat.pow_lt_pow_right (by decide) he) (by decide))]
theorem dv_and_lt {a b n : Nat} (ha : a < 2 ^ n) : a &&& b < 2 ^ n := Nat.lt_of_le_of_lt Nat.and_le_left ha
set_option maxHeartbeats 4000000 in
theorem c_X5_has {l : Launch} {G : jq_G} {n : Nat} {ad : Nat → Nat} {X : xs_T} {S e : Nat} (hS : S < 2 ^ 63) (he : e < 63) : xs_Ct l G mX5_has 1 [.long (lN S), .int (nI (e))] n ad X (xs_pd (some (.int (tb_b (S.testBit e)))) X) := by
  have hlt : S &&& 2 ^ e < 2 ^ 63 := dv_and_lt hS
  refine xs_Ct_of (L := [some (.long (lN S)), none, some (.int (nI (e)))]) rfl (Nat.le_of_ble_eq_true rfl) rfl ?_
  refine jq_lload_n dX5_has_0 rfl rfl ?_
  refine jq_lconst (v := (lN 1)) dX5_has_1 (by decide) ?_
  refine jq_iload_n dX5_has_2 rfl rfl ?_
  refine jq_lshl dX5_has_3 (wb_shl 1 (show e < 64 by omega)) ?_
  refine jq_land dX5_has_4 ?_
  rw [dv_bit hS he]
  refine jq_lconst (v := 0) dX5_has_5 (by decide) ?_
  refine jq_lcmp dX5_has_6 ?_
  refine jq_if_eq (tgt := 14) dX5_has_7 (by decide) (fun c7 => ?_) (fun c7 => ?_)
  · have d7 := (fb_bit_nat S e).mp ((lN_eq0 hlt).mp c7)
    refine jq_iconst (v := 0) dX5_has_14 (by decide) ?_
    exact xq_ireturn dX5_has_15 rfl rfl (⟨by rw [d7]; rfl, rfl⟩)
  · have d7 : S.testBit e = true := by rw [← Bool.not_eq_false]; exact fun q => c7 ((lN_eq0 hlt).mpr ((fb_bit_nat S e).mpr q))
    refine jq_iconst (v := 1) dX5_has_10 (by decide) ?_
    refine jq_goto (tgt := 15) dX5_has_11 (by decide) ?_
    exact xq_ireturn dX5_has_15 rfl rfl (⟨by rw [d7]; rfl, rfl⟩)
def dv_st (L C e : Nat) : Nat := if L.testBit e = true then 1 else if C.testBit e = true then 2 else 0
set_option maxHeartbeats 4000000 in
theorem c_X5_stateIn {l : Launch} {G : jq_G} {n : Nat} {ad : Nat → Nat} {X : xs_T} {A B e : Nat} (hA : A < 2 ^ 63) (hB : B < 2 ^ 63) (he : e < 63) : xs_Ct l G mX5_stateIn 2 [.long (lN A), .long (lN B), .int (nI (e))] n ad X (xs_pd (some (.int (nI (dv_st A B e)))) X) := by
  refine xs_Ct_of (L := [some (.long (lN A)), none, some (.long (lN B)), none, some (.int (nI (e)))]) rfl (Nat.le_of_ble_eq_true rfl) rfl ?_
  refine jq_lload_n dX5_stateIn_0 rfl rfl ?_
  refine jq_iload dX5_stateIn_1 rfl ?_
  refine xq_sI dX5_stateIn_3 kX5_154 (c_X5_has hA he) rfl rfl (Nat.le_of_ble_eq_true rfl) ⟨⟨by decide, by decide⟩, Nat.le_refl _, Nat.le_refl _⟩ ?_
  refine jq_if_eq (tgt := 11) dX5_stateIn_6 (by decide) (fun c6 => ?_) (fun c6 => ?_)
  · have d6 := tb_b0.mp c6
    refine jq_lload_n dX5_stateIn_11 rfl rfl ?_
    refine jq_iload dX5_stateIn_12 rfl ?_
    refine xq_sI dX5_stateIn_14 kX5_154 (c_X5_has hB he) rfl rfl (Nat.le_of_ble_eq_true rfl) ⟨⟨by decide, by decide⟩, Nat.le_refl _, Nat.le_refl _⟩ ?_
    refine jq_if_eq (tgt := 24) dX5_stateIn_17 (by decide) (fun c17 => ?_) (fun c17 => ?_)
    · have d17 := tb_b0.mp c17
      refine jq_iconst (v := (nI 0)) dX5_stateIn_24 (by decide) ?_
      exact xq_ireturn dX5_stateIn_25 rfl rfl (⟨by unfold dv_st; rw [d6, d17]; rfl, rfl⟩)
    · have d17 := tb_b1.mp c17
      refine jq_iconst (v := (nI 2)) dX5_stateIn_20 (by decide) ?_
      refine jq_goto (tgt := 25) dX5_stateIn_21 (by decide) ?_
      exact xq_ireturn dX5_stateIn_25 rfl rfl (⟨by unfold dv_st; rw [d6, d17]; rfl, rfl⟩)
  · have d6 := tb_b1.mp c6
    refine jq_iconst (v := (nI 1)) dX5_stateIn_9 (by decide) ?_
    exact xq_ireturn dX5_stateIn_10 rfl rfl (⟨by unfold dv_st; rw [d6]; rfl, rfl⟩)
set_option maxHeartbeats 4000000 in
theorem c_X0_touches {l : Launch} {G : jq_G} {n : Nat} {ad : Nat → Nat} {X : xs_T} (hn : 21 ≤ n) {w h : Nat} (hT : dv_T w h X) {S p : Nat} (hS : S < 2 ^ 40) (hp : p < tb_np w h) : xs_Ct l G mX0_touches 1 [.ref (ad 1), .long (lN S), .int (nI (p))] n ad X (xs_pd (some (.int (tb_b (!(dv_deg w h S p == 0))))) X) := by
  have hz := tb_sizes hT.1
  have hi : vp_in (nI p) 25 := vp_inN (by omega) (by decide)
  have he := hT.2.2.2.2.1 p hp
  have hl := dv_ep_lt hT.1 (h := h) p
  have hlt : S &&& dv_ep w h p < 2 ^ 63 := Nat.lt_trans (dv_and_lt hS) (by decide)
  refine xs_Ct_of (L := [some (.ref (ad 1)), some (.long (lN S)), none, some (.int (nI (p)))]) rfl (Nat.le_of_ble_eq_true rfl) rfl ?_
  refine jq_lload_n dX0_touches_0 rfl rfl ?_
  refine jq_aload_n dX0_touches_1 rfl rfl ?_
  refine xq_getR 4 fX0_19 dX0_touches_2 (xs_lt (by decide) hn) (by decide) ?_
  refine jq_iload_n dX0_touches_5 rfl rfl ?_
  refine xq_laload dX0_touches_6 (xs_lt (by decide) hn) rfl hi (xs_rdL he (by omega)) ?_
  refine jq_land dX0_touches_7 ?_
  rw [wb_and (by omega) (by omega)]
  refine jq_lconst (v := 0) dX0_touches_8 (by decide) ?_
  refine jq_lcmp dX0_touches_9 ?_
  refine jq_if_eq (tgt := 17) dX0_touches_10 (by decide) (fun c10 => ?_) (fun c10 => ?_)
  · have d10 := (dv_touch S p).mp ((lN_eq0 hlt).mp c10)
    refine jq_iconst (v := 0) dX0_touches_17 (by decide) ?_
    exact xq_ireturn dX0_touches_18 rfl rfl (⟨by simp [d10, tb_b], rfl⟩)
  · have d10 : ¬ dv_deg w h S p = 0 := fun q => c10 ((lN_eq0 hlt).mpr ((dv_touch S p).mpr q))
    refine jq_iconst (v := 1) dX0_touches_13 (by decide) ?_
    refine jq_goto (tgt := 18) dX0_touches_14 (by decide) ?_
    exact xq_ireturn dX0_touches_18 rfl rfl (⟨by simp [d10, tb_b], rfl⟩)
set_option maxHeartbeats 4000000 in
theorem c_X0_hasFork {l : Launch} {G : jq_G} {n : Nat} {ad : Nat → Nat} {X : xs_T} (hn : 21 ≤ n) {w h : Nat} (hT : dv_T w h X) {S p : Nat} (hS : S < 2 ^ 40) (hp : p < tb_np w h) : xs_Ct l G mX0_hasFork 2 [.ref (ad 1), .long (lN S), .int (nI (p))] n ad X (xs_pd (some (.int (tb_b (decide (2 < dv_deg w h S p))))) X) := by
  have hz := tb_sizes hT.1
  have hi : vp_in (nI p) 25 := vp_inN (by omega) (by decide)
  have he := hT.2.2.2.2.1 p hp
  have hl := dv_ep_lt hT.1 (h := h) p
  have hd := dv_deg_le hT.1 S p
  refine xs_Ct_of (L := [some (.ref (ad 1)), some (.long (lN S)), none, some (.int (nI (p)))]) rfl (Nat.le_of_ble_eq_true rfl) rfl ?_
  refine jq_lload_n dX0_hasFork_0 rfl rfl ?_
  refine jq_aload_n dX0_hasFork_1 rfl rfl ?_
  refine xq_getR 4 fX0_19 dX0_hasFork_2 (xs_lt (by decide) hn) (by decide) ?_
  refine jq_iload_n dX0_hasFork_5 rfl rfl ?_
  refine xq_laload dX0_hasFork_6 (xs_lt (by decide) hn) rfl hi (xs_rdL he (by omega)) ?_
  refine jq_land dX0_hasFork_7 ?_
  rw [wb_and (by omega) (by omega)]
  refine xq_sI dX0_hasFork_8 kX0_89 (c_bitCount (Nat.lt_trans (dv_and_lt hS) (by decide))) rfl rfl (Nat.le_of_ble_eq_true rfl) ⟨⟨by decide, by decide⟩, Nat.le_refl _, Nat.le_refl _⟩ ?_
  rw [dv_pc hT.1]
  refine jq_iconst (v := (nI 2)) dX0_hasFork_11 (by decide) ?_
  refine jq_leN (tgt := 19) dX0_hasFork_12 (by decide) ⟨by omega, by omega⟩ (fun c12 => ?_) (fun c12 => ?_)
  · refine jq_iconst (v := 0) dX0_hasFork_19 (by decide) ?_
    exact xq_ireturn dX0_hasFork_20 rfl rfl (⟨by first | exact tb_vt (decide_eq_true c12) | exact tb_vf (decide_eq_false (Nat.not_lt.mpr c12)) | omega, rfl⟩)
  · refine jq_iconst (v := 1) dX0_hasFork_15 (by decide) ?_
    refine jq_goto (tgt := 20) dX0_hasFork_16 (by decide) ?_
    exact xq_ireturn dX0_hasFork_20 rfl rfl (⟨by first | exact tb_vt (decide_eq_true c12) | exact tb_vf (decide_eq_false (Nat.not_lt.mpr c12)) | omega, rfl⟩)
set_option maxHeartbeats 4000000 in
theorem c_X0_joinsPointsOf {l : Launch} {G : jq_G} {n : Nat} {ad : Nat → Nat} {X : xs_T} (hn : 21 ≤ n) {w h : Nat} (hT : dv_T w h X) {S e : Nat} (hS : S < 2 ^ 40) (he : e < tb_ne w h) : xs_Ct l G mX0_joinsPointsOf 2 [.ref (ad 1), .long (lN S), .int (nI (e))] n ad X (xs_pd (some (.int (tb_b (!(dv_deg w h S (tb_one w h e) == 0) && !(dv_deg w h S (tb_oth w h e) == 0))))) X) := by
  have hz := tb_sizes hT.1
  have hi : vp_in (nI e) 40 := vp_inN (by omega) (by decide)
  have hb := tb_ends hT.1 e he
  have h1 := hT.2.2.1 e he
  refine xs_Ct_of (L := [some (.ref (ad 1)), some (.long (lN S)), none, some (.int (nI (e)))]) rfl (Nat.le_of_ble_eq_true rfl) rfl ?_
  refine jq_aload_n dX0_joinsPointsOf_0 rfl rfl ?_
  refine jq_lload_n dX0_joinsPointsOf_1 rfl rfl ?_
  refine jq_aload_n dX0_joinsPointsOf_2 rfl rfl ?_
  refine xq_getR 5 fX0_22 dX0_joinsPointsOf_3 (xs_lt (by decide) hn) (by decide) ?_
  refine jq_iload_n dX0_joinsPointsOf_6 rfl rfl ?_
  refine xq_iaload dX0_joinsPointsOf_7 (xs_lt (by decide) hn) rfl hi (xs_rd h1.1 (by omega)) ?_
  refine xq_vI dX0_joinsPointsOf_8 kX0_95 (c_X0_touches hn hT hS hb.1) (xs_lt (by decide) hn) ⟨rfl, rfl⟩ rfl rfl (Nat.le_of_ble_eq_true rfl) ⟨⟨by decide, by decide⟩, Nat.le_refl _, Nat.le_refl _⟩ ?_
  refine jq_if_eq (tgt := 32) dX0_joinsPointsOf_11 (by decide) (fun c11 => ?_) (fun c11 => ?_)
  · have d11 := tb_b0.mp c11
    refine jq_iconst (v := 0) dX0_joinsPointsOf_32 (by decide) ?_
    exact xq_ireturn dX0_joinsPointsOf_33 rfl rfl (⟨by rw [d11]; first | rfl | (rw [d25]; rfl), rfl⟩)
  · have d11 := tb_b1.mp c11
    refine jq_aload_n dX0_joinsPointsOf_14 rfl rfl ?_
    refine jq_lload_n dX0_joinsPointsOf_15 rfl rfl ?_
    refine jq_aload_n dX0_joinsPointsOf_16 rfl rfl ?_
    refine xq_getR 6 fX0_25 dX0_joinsPointsOf_17 (xs_lt (by decide) hn) (by decide) ?_
    refine jq_iload_n dX0_joinsPointsOf_20 rfl rfl ?_
    refine xq_iaload dX0_joinsPointsOf_21 (xs_lt (by decide) hn) rfl hi (xs_rd h1.2.1 (by omega)) ?_
    refine xq_vI dX0_joinsPointsOf_22 kX0_95 (c_X0_touches hn hT hS hb.2.1) (xs_lt (by decide) hn) ⟨rfl, rfl⟩ rfl rfl (Nat.le_of_ble_eq_true rfl) ⟨⟨by decide, by decide⟩, Nat.le_refl _, Nat.le_refl _⟩ ?_
    refine jq_if_eq (tgt := 32) dX0_joinsPointsOf_25 (by decide) (fun c25 => ?_) (fun c25 => ?_)
    · have d25 := tb_b0.mp c25
      refine jq_iconst (v := 0) dX0_joinsPointsOf_32 (by decide) ?_
      exact xq_ireturn dX0_joinsPointsOf_33 rfl rfl (⟨by rw [d11]; first | rfl | (rw [d25]; rfl), rfl⟩)
    · have d25 := tb_b1.mp c25
      refine jq_iconst (v := 1) dX0_joinsPointsOf_28 (by decide) ?_
      refine jq_goto (tgt := 33) dX0_joinsPointsOf_29 (by decide) ?_
      exact xq_ireturn dX0_joinsPointsOf_33 rfl rfl (⟨by rw [d11]; first | rfl | (rw [d25]; rfl), rfl⟩)
set_option maxHeartbeats 4000000 in
theorem c_X0_numbersAreRight {l : Launch} {G : jq_G} {n : Nat} {ad : Nat → Nat} {X : xs_T} (hn : 21 ≤ n) {w h : Nat} {num : Nat → Int32} (hT : dv_T w h X) (hN : dv_N w h num X) {S : Nat} (hS : S < 2 ^ 40) (ig : Int32) : xs_Ct l G mX0_numbersAreRight 2 [.ref (ad 1), .long (lN S), .int (ig)] n ad X (xs_pd (some (.int (tb_b (dv_right w h num S ig)))) X) := by
  have hz := tb_sizes hT.1
  have loop : ∀ k c : Nat, c + k = tb_nc w h → (∀ j, j < c → dv_rightB w h num S ig j = true) → jq_J l G mX0_numbersAreRight (jq_R 2 0 0) jq_E0 (xs_Ye G n ad (xs_pd (some (.int (tb_b (dv_right w h num S ig)))) X)) 3 [some (.ref (ad 1)), some (.long (lN S)), none, some (.int (ig)), some (.int (nI (c)))] [] n ad (xs_mem G ad X) 0 0 := by
    intro k
    induction k with
    | zero =>
      intro c hk hc
      refine jq_iload dX0_numbersAreRight_3 rfl ?_
      refine jq_aload_n dX0_numbersAreRight_5 rfl rfl ?_
      refine xq_getI fX0_47 dX0_numbersAreRight_6 (xs_lt (by decide) hn) (by decide) hT.2.1.2.2.1 ?_
      refine jq_geN (tgt := 59) dX0_numbersAreRight_9 (by decide) ⟨by omega, by omega⟩ (fun c9 => ?_) (fun c9 => ?_)
      · refine jq_iconst (v := 1) dX0_numbersAreRight_59 (by decide) ?_
        exact xq_ireturn dX0_numbersAreRight_60 rfl rfl (⟨tb_vt (tb_allT (by rw [show tb_nc w h = c by omega]; exact hc)), rfl⟩)
      · exact absurd c9 (by omega)
    | succ k ih =>
      intro c hk hc
      have h3 := hN c (by omega)
      have ha := hT.2.2.2.1 c (by omega)
      have hl := dv_ea_lt hT.1 (h := h) c
      have hd := dv_arS_le hT.1 S c
      have hi : vp_in (nI c) 16 := vp_inN (by omega) (by decide)
      have hi2 : vp_in (nI c) 17 := vp_inN (by omega) (by decide)
      refine jq_iload dX0_numbersAreRight_3 rfl ?_
      refine jq_aload_n dX0_numbersAreRight_5 rfl rfl ?_
      refine xq_getI fX0_47 dX0_numbersAreRight_6 (xs_lt (by decide) hn) (by decide) hT.2.1.2.2.1 ?_
      refine jq_geN (tgt := 59) dX0_numbersAreRight_9 (by decide) ⟨by omega, by omega⟩ (fun c9 => ?_) (fun c9 => ?_)
      · exact absurd c9 (by omega)
      · refine jq_iload dX0_numbersAreRight_12 rfl ?_
        refine jq_iload_n dX0_numbersAreRight_14 rfl rfl ?_
        refine jq_icmp_eq (tgt := 53) dX0_numbersAreRight_15 (by decide) (fun c15 => ?_) (fun c15 => ?_)
        · refine jq_iincN dX0_numbersAreRight_53 (by decide) rfl rfl rfl ?_
          refine jq_goto (tgt := 3) dX0_numbersAreRight_56 (by decide) ?_
          refine ih (c + 1) (by omega) (fun j hj => ?_)
          rcases Nat.lt_or_ge j c with q | q
          · exact hc j q
          · rw [show j = c by omega]; simp [dv_rightB, *]
        · refine jq_aload_n dX0_numbersAreRight_18 rfl rfl ?_
          refine xq_getR 2 fX0_9 dX0_numbersAreRight_19 (xs_lt (by decide) hn) (by decide) ?_
          refine jq_iload dX0_numbersAreRight_22 rfl ?_
          refine xq_iaload dX0_numbersAreRight_24 (xs_lt (by decide) hn) rfl hi (xs_rd h3 (by omega)) ?_
          refine jq_iconst (v := (-1)) dX0_numbersAreRight_25 (by decide) ?_
          refine jq_icmp_eq (tgt := 53) dX0_numbersAreRight_26 (by decide) (fun c26 => ?_) (fun c26 => ?_)
          · refine jq_iincN dX0_numbersAreRight_53 (by decide) rfl rfl rfl ?_
            refine jq_goto (tgt := 3) dX0_numbersAreRight_56 (by decide) ?_
            refine ih (c + 1) (by omega) (fun j hj => ?_)
            rcases Nat.lt_or_ge j c with q | q
            · exact hc j q
            · rw [show j = c by omega]; simp [dv_rightB, *]
          · refine jq_lload_n dX0_numbersAreRight_29 rfl rfl ?_
            refine jq_aload_n dX0_numbersAreRight_30 rfl rfl ?_
            refine xq_getR 3 fX0_15 dX0_numbersAreRight_31 (xs_lt (by decide) hn) (by decide) ?_
            refine jq_iload dX0_numbersAreRight_34 rfl ?_
            refine xq_laload dX0_numbersAreRight_36 (xs_lt (by decide) hn) rfl hi2 (xs_rdL ha (by omega)) ?_
            refine jq_land dX0_numbersAreRight_37 ?_
            rw [wb_and (by omega) (by omega)]
            refine xq_sI dX0_numbersAreRight_38 kX0_89 (c_bitCount (Nat.lt_trans (dv_and_lt hS) (by decide))) rfl rfl (Nat.le_of_ble_eq_true rfl) ⟨⟨by decide, by decide⟩, Nat.le_refl _, Nat.le_refl _⟩ ?_
            rw [dv_pcA hT.1]
            refine jq_aload_n dX0_numbersAreRight_41 rfl rfl ?_
            refine xq_getR 2 fX0_9 dX0_numbersAreRight_42 (xs_lt (by decide) hn) (by decide) ?_
            refine jq_iload dX0_numbersAreRight_45 rfl ?_
            refine xq_iaload dX0_numbersAreRight_47 (xs_lt (by decide) hn) rfl hi (xs_rd h3 (by omega)) ?_
            refine jq_icmp_eq (tgt := 53) dX0_numbersAreRight_48 (by decide) (fun c48 => ?_) (fun c48 => ?_)
            · refine jq_iincN dX0_numbersAreRight_53 (by decide) rfl rfl rfl ?_
              refine jq_goto (tgt := 3) dX0_numbersAreRight_56 (by decide) ?_
              refine ih (c + 1) (by omega) (fun j hj => ?_)
              rcases Nat.lt_or_ge j c with q | q
              · exact hc j q
              · rw [show j = c by omega]; simp [dv_rightB, *]
            · refine jq_iconst (v := 0) dX0_numbersAreRight_51 (by decide) ?_
              exact xq_ireturn dX0_numbersAreRight_52 rfl rfl (⟨tb_vf (tb_allF (c := c) (by omega) (by simp [dv_rightB, *])), rfl⟩)
  refine xs_Ct_of (L := [some (.ref (ad 1)), some (.long (lN S)), none, some (.int (ig)), none]) rfl (Nat.le_of_ble_eq_true rfl) rfl ?_
  refine jq_iconst (v := (nI 0)) dX0_numbersAreRight_0 (by decide) ?_
  refine jq_istore dX0_numbersAreRight_1 (by decide) rfl rfl ?_
  exact loop (tb_nc w h) 0 (by omega) (fun j hj => absurd hj (Nat.not_lt_zero j))
set_option maxHeartbeats 4000000 in
theorem c_X0_firstWay {l : Launch} {G : jq_G} {n : Nat} {ad : Nat → Nat} {X : xs_T} (hn : 21 ≤ n) {w h : Nat} (hT : dv_T w h X) {S : Nat} (hS : S < 2 ^ 40) : xs_Ct l G mX0_firstWay 1 [.ref (ad 1), .long (lN S)] n ad X (xs_pd (some (.long (lN (dv_fw w h S)))) X) := by
  have hz := tb_sizes hT.1
  have loop : ∀ (k m V B : Nat) (o : Option Value), m + k = 40 → V < 2 ^ 40 → B < 2 ^ 40 → (V = B → dv_fw w h S = V) → (V ≠ B → dv_grow w h S k V = dv_fw w h S) → jq_J l G mX0_firstWay (jq_R 1 0 0) jq_E0 (xs_Ye G n ad (xs_pd (some (.long (lN (dv_fw w h S)))) X)) 11 [some (.ref (ad 1)), some (.long (lN S)), none, some (.long (lN V)), none, some (.long (lN B)), none, some (.int (nI (m))), o] [] n ad (xs_mem G ad X) 0 0 := by
    intro k
    induction k with
    | zero =>
      intro m V B o hk hV hB h1 h2
      have hres : dv_fw w h S = V := by
        by_cases q : V = B
        · exact h1 q
        · exact (h2 q).symm
      refine jq_iload dX0_firstWay_11 rfl ?_
      refine jq_bipush (v := (nI 40)) dX0_firstWay_13 (by decide) ?_
      refine jq_geN (tgt := 78) dX0_firstWay_15 (by decide) ⟨by omega, by omega⟩ (fun c15 => ?_) (fun c15 => ?_)
      · refine jq_lload_n dX0_firstWay_78 rfl rfl ?_
        exact xq_lreturn dX0_firstWay_79 rfl (⟨by rw [hres], rfl⟩)
      · exact absurd c15 (by omega)
    | succ k ih =>
      intro m V B o hk hV hB h1 h2
      have hcmp : lg_cmp (lN V) (lN B) = 0 ↔ V = B := by
        have e : lN V = lN B ↔ V = B := pk_lEQ (by omega) (by omega)
        unfold lg_cmp
        by_cases q : V = B
        · subst q; simp
        · have q2 : ¬ lN V = lN B := fun z => q (e.mp z)
          simp [q, q2]
          split <;> decide
      have loop2 : ∀ (k2 p U : Nat), V ≠ B → p + k2 = tb_np w h → U < 2 ^ 40 → U = dv_pass w h S p V → jq_J l G mX0_firstWay (jq_R 1 0 0) jq_E0 (xs_Ye G n ad (xs_pd (some (.long (lN (dv_fw w h S)))) X)) 31 [some (.ref (ad 1)), some (.long (lN S)), none, some (.long (lN U)), none, some (.long (lN V)), none, some (.int (nI (m))), some (.int (nI (p)))] [] n ad (xs_mem G ad X) 0 0 := by
        intro k2
        induction k2 with
        | zero =>
          intro p U hne hk2 hU hp
          have e1 : p = tb_np w h := by omega
          subst e1
          have h3 := h2 hne
          rw [dv_grow] at h3
          refine jq_iload dX0_firstWay_31 rfl ?_
          refine jq_aload_n dX0_firstWay_33 rfl rfl ?_
          refine xq_getI fX0_50 dX0_firstWay_34 (xs_lt (by decide) hn) (by decide) hT.2.1.2.2.2.1 ?_
          refine jq_geN (tgt := 72) dX0_firstWay_37 (by decide) ⟨by omega, by omega⟩ (fun c37 => ?_) (fun c37 => ?_)
          · refine jq_iincN dX0_firstWay_72 (by decide) rfl rfl rfl ?_
            refine jq_goto (tgt := 11) dX0_firstWay_75 (by decide) ?_
            refine ih (m + 1) U V _ (by omega) hU hV (fun q => ?_) (fun q => ?_)
            · rw [if_pos (by rw [← hp, q])] at h3; rw [← h3, q]
            · rw [if_neg (by rw [← hp]; exact q), ← hp] at h3; exact h3
          · exact absurd c37 (by omega)
        | succ k2 ih2 =>
          intro p U hne hk2 hU hp
          have hpp : p < tb_np w h := by omega
          have hi : vp_in (nI p) 25 := vp_inN (by omega) (by decide)
          have he := hT.2.2.2.2.1 p hpp
          have hl := dv_ep_lt hT.1 (h := h) p
          have hlt : U &&& dv_ep w h p < 2 ^ 63 := Nat.lt_trans (dv_and_lt hU) (by decide)
          have hSl : S &&& dv_ep w h p < 2 ^ 40 := dv_and_lt hS
          refine jq_iload dX0_firstWay_31 rfl ?_
          refine jq_aload_n dX0_firstWay_33 rfl rfl ?_
          refine xq_getI fX0_50 dX0_firstWay_34 (xs_lt (by decide) hn) (by decide) hT.2.1.2.2.2.1 ?_
          refine jq_geN (tgt := 72) dX0_firstWay_37 (by decide) ⟨by omega, by omega⟩ (fun c37 => ?_) (fun c37 => ?_)
          · exact absurd c37 (by omega)
          · refine jq_lload_n dX0_firstWay_40 rfl rfl ?_
            refine jq_aload_n dX0_firstWay_41 rfl rfl ?_
            refine xq_getR 4 fX0_19 dX0_firstWay_42 (xs_lt (by decide) hn) (by decide) ?_
            refine jq_iload dX0_firstWay_45 rfl ?_
            refine xq_laload dX0_firstWay_47 (xs_lt (by decide) hn) rfl hi (xs_rdL he (by omega)) ?_
            refine jq_land dX0_firstWay_48 ?_
            rw [wb_and (by omega) (by omega)]
            refine jq_lconst (v := 0) dX0_firstWay_49 (by decide) ?_
            refine jq_lcmp dX0_firstWay_50 ?_
            refine jq_if_eq (tgt := 66) dX0_firstWay_51 (by decide) (fun c51 => ?_) (fun c51 => ?_)
            · have d51 := (lN_eq0 hlt).mp c51
              refine jq_iincN dX0_firstWay_66 (by decide) rfl rfl rfl ?_
              refine jq_goto (tgt := 31) dX0_firstWay_69 (by decide) ?_
              first
                | exact ih2 (p + 1) U hne (by omega) hU (by rw [dv_pass, ← hp, if_pos d51])
                | exact ih2 (p + 1) _ hne (by omega) (Nat.or_lt_two_pow hU hSl) (by rw [dv_pass, ← hp, if_neg d51])
            · have d51 : ¬ U &&& dv_ep w h p = 0 := fun q => c51 ((lN_eq0 hlt).mpr q)
              refine jq_lload_n dX0_firstWay_54 rfl rfl ?_
              refine jq_lload_n dX0_firstWay_55 rfl rfl ?_
              refine jq_aload_n dX0_firstWay_56 rfl rfl ?_
              refine xq_getR 4 fX0_19 dX0_firstWay_57 (xs_lt (by decide) hn) (by decide) ?_
              refine jq_iload dX0_firstWay_60 rfl ?_
              refine xq_laload dX0_firstWay_62 (xs_lt (by decide) hn) rfl hi (xs_rdL he (by omega)) ?_
              refine jq_land dX0_firstWay_63 ?_
              rw [wb_and (by omega) (by omega)]
              refine jq_lor dX0_firstWay_64 ?_
              rw [wb_or (by omega) (by omega)]
              refine jq_lstore_n dX0_firstWay_65 rfl (by decide) rfl rfl ?_
              refine jq_iincN dX0_firstWay_66 (by decide) rfl rfl rfl ?_
              refine jq_goto (tgt := 31) dX0_firstWay_69 (by decide) ?_
              first
                | exact ih2 (p + 1) U hne (by omega) hU (by rw [dv_pass, ← hp, if_pos d51])
                | exact ih2 (p + 1) _ hne (by omega) (Nat.or_lt_two_pow hU hSl) (by rw [dv_pass, ← hp, if_neg d51])
      have hres : V = B → dv_fw w h S = V := h1
      refine jq_iload dX0_firstWay_11 rfl ?_
      refine jq_bipush (v := (nI 40)) dX0_firstWay_13 (by decide) ?_
      refine jq_geN (tgt := 78) dX0_firstWay_15 (by decide) ⟨by omega, by omega⟩ (fun c15 => ?_) (fun c15 => ?_)
      · exact absurd c15 (by omega)
      · refine jq_lload_n dX0_firstWay_18 rfl rfl ?_
        refine jq_lload dX0_firstWay_19 rfl ?_
        refine jq_lcmp dX0_firstWay_21 ?_
        refine jq_if_eq (tgt := 78) dX0_firstWay_22 (by decide) (fun c22 => ?_) (fun c22 => ?_)
        · have d22 := hcmp.mp c22
          refine jq_lload_n dX0_firstWay_78 rfl rfl ?_
          exact xq_lreturn dX0_firstWay_79 rfl (⟨by rw [hres d22], rfl⟩)
        · have d22 : V ≠ B := fun q => c22 (hcmp.mpr q)
          refine jq_lload_n dX0_firstWay_25 rfl rfl ?_
          refine jq_lstore dX0_firstWay_26 (by decide) rfl rfl ?_
          refine jq_iconst (v := (nI 0)) dX0_firstWay_28 (by decide) ?_
          refine jq_istore dX0_firstWay_29 (by decide) rfl rfl ?_
          exact loop2 (tb_np w h) 0 V d22 (by omega) hV rfl
  have hlow : lN S &&& -lN S = lN (dv_low S) := by
    by_cases q : S = 0
    · subst q; exact dv_neg0
    · exact dv_neg (by omega) q
  refine xs_Ct_of (L := [some (.ref (ad 1)), some (.long (lN S)), none, none, none, none, none, none, none]) rfl (Nat.le_of_ble_eq_true rfl) rfl ?_
  refine jq_lload_n dX0_firstWay_0 rfl rfl ?_
  refine jq_lload_n dX0_firstWay_1 rfl rfl ?_
  refine jq_lneg dX0_firstWay_2 ?_
  refine jq_land dX0_firstWay_3 ?_
  rw [hlow]
  refine jq_lstore_n dX0_firstWay_4 rfl (by decide) rfl rfl ?_
  refine jq_lconst (v := (lN 0)) dX0_firstWay_5 (by decide) ?_
  refine jq_lstore dX0_firstWay_6 (by decide) rfl rfl ?_
  refine jq_iconst (v := (nI 0)) dX0_firstWay_8 (by decide) ?_
  refine jq_istore dX0_firstWay_9 (by decide) rfl rfl ?_
  refine loop 40 0 (dv_low S) 0 _ (by omega) (dv_low_lt hS (by decide)) (by decide) (fun q => ?_) (fun q => rfl)
  have hS0 : S = 0 := Classical.byContradiction (fun z => dv_low_pos z q)
  subst hS0
  have hp0 : ∀ p, dv_pass w h 0 p 0 = 0 := by
    intro p
    induction p with
    | zero => rfl
    | succ p ihp => rw [dv_pass, ihp, if_pos (Nat.zero_and _)]
  show dv_grow w h 0 40 0 = 0
  rw [dv_grow, if_pos (hp0 _)]
set_option maxHeartbeats 4000000 in
theorem c_X0_isLoop {l : Launch} {G : jq_G} {n : Nat} {ad : Nat → Nat} {X : xs_T} (hn : 21 ≤ n) {w h : Nat} (hT : dv_T w h X) {S : Nat} (hS : S < 2 ^ 40) : xs_Ct l G mX0_isLoop 2 [.ref (ad 1), .long (lN S)] n ad X (xs_pd (some (.int (tb_b (dv_isLoop w h S)))) X) := by
  have hz := tb_sizes hT.1
  have loop : ∀ (k p : Nat) (o : Option Value), p + k = tb_np w h → (∀ j, j < p → (dv_deg w h S j == 0 || dv_deg w h S j == 2) = true) → jq_J l G mX0_isLoop (jq_R 2 0 0) jq_E0 (xs_Ye G n ad (xs_pd (some (.int (tb_b (dv_isLoop w h S)))) X)) 2 [some (.ref (ad 1)), some (.long (lN S)), none, some (.int (nI (p))), o] [] n ad (xs_mem G ad X) 0 0 := by
    intro k
    induction k with
    | zero =>
      intro p o hk hc
      have hall : (List.range (tb_np w h)).all (fun p => dv_deg w h S p == 0 || dv_deg w h S p == 2) = true := tb_allT (by rw [show tb_np w h = p by omega]; exact hc)
      have hfl : dv_fw w h S < 2 ^ 40 := by
        have : ∀ k V, V < 2 ^ 40 → dv_grow w h S k V < 2 ^ 40 := by
          intro k
          induction k with
          | zero => intro V hV; exact hV
          | succ k ih =>
            intro V hV
            rw [dv_grow]
            split
            · exact hV
            · exact ih _ (dv_pass_lt hS hV _)
        exact this 40 _ (dv_low_lt hS (by decide))
      have hcmp : lg_cmp (lN (dv_fw w h S)) (lN S) = 0 ↔ dv_fw w h S = S := by
        have e : lN (dv_fw w h S) = lN S ↔ dv_fw w h S = S := pk_lEQ (by omega) (by omega)
        unfold lg_cmp
        by_cases q : dv_fw w h S = S
        · rw [q]; simp
        · have q2 : ¬ lN (dv_fw w h S) = lN S := fun z => q (e.mp z)
          simp [q, q2]
          split <;> decide
      refine jq_iload_n dX0_isLoop_2 rfl rfl ?_
      refine jq_aload_n dX0_isLoop_3 rfl rfl ?_
      refine xq_getI fX0_50 dX0_isLoop_4 (xs_lt (by decide) hn) (by decide) hT.2.1.2.2.2.1 ?_
      refine jq_geN (tgt := 42) dX0_isLoop_7 (by decide) ⟨by omega, by omega⟩ (fun c7 => ?_) (fun c7 => ?_)
      · refine jq_lload_n dX0_isLoop_42 rfl rfl ?_
        refine jq_lconst (v := 0) dX0_isLoop_43 (by decide) ?_
        refine jq_lcmp dX0_isLoop_44 ?_
        refine jq_if_eq (tgt := 62) dX0_isLoop_45 (by decide) (fun c45 => ?_) (fun c45 => ?_)
        · have d45 := (lN_eq0 (by omega)).mp c45
          refine jq_iconst (v := 0) dX0_isLoop_62 (by decide) ?_
          exact xq_ireturn dX0_isLoop_63 rfl rfl (⟨by unfold dv_isLoop; rw [hall]; simp [*, tb_b], rfl⟩)
        · have d45 : ¬ S = 0 := fun q => c45 ((lN_eq0 (by omega)).mpr q)
          refine jq_aload_n dX0_isLoop_48 rfl rfl ?_
          refine jq_lload_n dX0_isLoop_49 rfl rfl ?_
          refine xq_vL dX0_isLoop_50 kX0_99 (c_X0_firstWay hn hT hS) (xs_lt (by decide) hn) ⟨rfl, rfl⟩ rfl rfl (Nat.le_of_ble_eq_true rfl) ⟨⟨by decide, by decide⟩, Nat.le_refl _, Nat.le_refl _⟩ ?_
          refine jq_lload_n dX0_isLoop_53 rfl rfl ?_
          refine jq_lcmp dX0_isLoop_54 ?_
          refine jq_if_ne (tgt := 62) dX0_isLoop_55 (by decide) (fun c55 => ?_) (fun c55 => ?_)
          · have d55 : ¬ dv_fw w h S = S := fun q => c55 (hcmp.mpr q)
            refine jq_iconst (v := 0) dX0_isLoop_62 (by decide) ?_
            exact xq_ireturn dX0_isLoop_63 rfl rfl (⟨by unfold dv_isLoop; rw [hall]; simp [*, tb_b], rfl⟩)
          · have d55 := hcmp.mp c55
            refine jq_iconst (v := 1) dX0_isLoop_58 (by decide) ?_
            refine jq_goto (tgt := 63) dX0_isLoop_59 (by decide) ?_
            exact xq_ireturn dX0_isLoop_63 rfl rfl (⟨by unfold dv_isLoop; rw [hall]; simp [*, tb_b], rfl⟩)
      · exact absurd c7 (by omega)
    | succ k ih =>
      intro p o hk hc
      have hpp : p < tb_np w h := by omega
      have hi : vp_in (nI p) 25 := vp_inN (by omega) (by decide)
      have he := hT.2.2.2.2.1 p hpp
      have hl := dv_ep_lt hT.1 (h := h) p
      have hd := dv_deg_le hT.1 S p
      refine jq_iload_n dX0_isLoop_2 rfl rfl ?_
      refine jq_aload_n dX0_isLoop_3 rfl rfl ?_
      refine xq_getI fX0_50 dX0_isLoop_4 (xs_lt (by decide) hn) (by decide) hT.2.1.2.2.2.1 ?_
      refine jq_geN (tgt := 42) dX0_isLoop_7 (by decide) ⟨by omega, by omega⟩ (fun c7 => ?_) (fun c7 => ?_)
      · exact absurd c7 (by omega)
      · refine jq_lload_n dX0_isLoop_10 rfl rfl ?_
        refine jq_aload_n dX0_isLoop_11 rfl rfl ?_
        refine xq_getR 4 fX0_19 dX0_isLoop_12 (xs_lt (by decide) hn) (by decide) ?_
        refine jq_iload_n dX0_isLoop_15 rfl rfl ?_
        refine xq_laload dX0_isLoop_16 (xs_lt (by decide) hn) rfl hi (xs_rdL he (by omega)) ?_
        refine jq_land dX0_isLoop_17 ?_
        rw [wb_and (by omega) (by omega)]
        refine xq_sI dX0_isLoop_18 kX0_89 (c_bitCount (Nat.lt_trans (dv_and_lt hS) (by decide))) rfl rfl (Nat.le_of_ble_eq_true rfl) ⟨⟨by decide, by decide⟩, Nat.le_refl _, Nat.le_refl _⟩ ?_
        rw [dv_pc hT.1]
        refine jq_istore dX0_isLoop_21 (by decide) rfl rfl ?_
        refine jq_iload dX0_isLoop_23 rfl ?_
        refine jq_eqZ (tgt := 36) dX0_isLoop_25 (by decide) (by omega) (fun c25 => ?_) (fun c25 => ?_)
        · refine jq_iincN dX0_isLoop_36 (by decide) rfl rfl rfl ?_
          refine jq_goto (tgt := 2) dX0_isLoop_39 (by decide) ?_
          refine ih (p + 1) _ (by omega) (fun j hj => ?_)
          rcases Nat.lt_or_ge j p with q | q
          · exact hc j q
          · rw [show j = p by omega]; simp [*]
        · refine jq_iload dX0_isLoop_28 rfl ?_
          refine jq_iconst (v := (nI 2)) dX0_isLoop_30 (by decide) ?_
          refine jq_eqN (tgt := 36) dX0_isLoop_31 (by decide) ⟨by omega, by omega⟩ (fun c31 => ?_) (fun c31 => ?_)
          · refine jq_iincN dX0_isLoop_36 (by decide) rfl rfl rfl ?_
            refine jq_goto (tgt := 2) dX0_isLoop_39 (by decide) ?_
            refine ih (p + 1) _ (by omega) (fun j hj => ?_)
            rcases Nat.lt_or_ge j p with q | q
            · exact hc j q
            · rw [show j = p by omega]; simp [*]
          · refine jq_iconst (v := 0) dX0_isLoop_34 (by decide) ?_
            exact xq_ireturn dX0_isLoop_35 rfl rfl (⟨by unfold dv_isLoop; rw [tb_allF (c := p) (by omega) (by simp [*])]; rfl, rfl⟩)
  refine xs_Ct_of (L := [some (.ref (ad 1)), some (.long (lN S)), none, none, none]) rfl (Nat.le_of_ble_eq_true rfl) rfl ?_
  refine jq_iconst (v := (nI 0)) dX0_isLoop_0 (by decide) ?_
  refine jq_istore_n dX0_isLoop_1 rfl (by decide) rfl rfl ?_
  exact loop (tb_np w h) 0 _ (by omega) (fun j hj => absurd hj (Nat.not_lt_zero j))
