theorem dv_cfr {w h : Nat} {st : Nat → Nat} {k : Nat} {S : List Nat} {F : List (Nat × Nat)} {X Y : xs_T} (hC : dv_C w h st k X) (hf : xs_fr S F X Y) (hq : (!decide (13 ∈ S) && !decide (14 ∈ S) && !decide ((12, 2) ∈ F) && !decide ((12, 3) ∈ F)) = true := by decide) : dv_C w h st k Y := by
  simp only [Bool.and_eq_true, Bool.not_eq_true'] at hq
  obtain ⟨⟨⟨q1, q2⟩, q3⟩, q4⟩ := hq
  refine ⟨fun a ha => ?_, xs_fi hf 12 2 hC.2.1 q3, xs_fi hf 12 3 hC.2.2 q4⟩
  rw [xs_fa hf 13 q1, xs_fa hf 14 q2]
  exact hC.1 a ha
theorem dv_kfr {w h : Nat} {st : Nat → Nat} {S : List Nat} {F : List (Nat × Nat)} {X Y : xs_T} (hK : dv_K w h st X) (hf : xs_fr S F X Y) (hq : (!decide ((11, 3) ∈ F) && !decide ((11, 4) ∈ F)) = true := by decide) : dv_K w h st Y := by
  simp only [Bool.and_eq_true, Bool.not_eq_true'] at hq
  exact ⟨xs_fl hf 11 3 hK.1 hq.1, xs_fl hf 11 4 hK.2 hq.2⟩
set_option maxHeartbeats 4000000 in
theorem c_X4_look {l : Launch} {G : jq_G} {n : Nat} {ad : Nat → Nat} {X : xs_T} (hn : 21 ≤ n) {w h : Nat} (hT : dv_T w h X) {st : Nat → Nat} (hst : ∀ e, e < tb_ne w h → st e ≤ 2) : xs_Ct l G mX4_look 3 [.ref (ad 11), .long (lN (dv_S w h st 1)), .long (lN (dv_S w h st 2))] n ad X (xs_pv (fun X' => xs_fr [13, 14] [(11, 3), (11, 4), (12, 2), (12, 3)] X X' ∧ dv_K w h st X' ∧ dv_C w h st (tb_ne w h) X')) := by
  have hz := tb_sizes hT.1
  have hL := dv_S_lt hT.1 st 1
  have hU := dv_S_lt hT.1 st 0
  have loop : ∀ (k e : Nat) (Y : xs_T), e + k = tb_ne w h → xs_fr [13, 14] [(11, 3), (11, 4), (12, 2), (12, 3)] X Y → dv_K w h st Y → dv_C w h st e Y → jq_J l G mX4_look (jq_R 3 0 0) jq_E0 (xs_Ye G n ad (xs_pv (fun X' => xs_fr [13, 14] [(11, 3), (11, 4), (12, 2), (12, 3)] X X' ∧ dv_K w h st X' ∧ dv_C w h st (tb_ne w h) X'))) 47 [some (.ref (ad 11)), some (.long (lN (dv_S w h st 1))), none, some (.long (lN (dv_S w h st 2))), none, some (.int (nI (e)))] [] n ad (xs_mem G ad Y) 0 0 := by
    intro k
    induction k with
    | zero =>
      intro e Y hk hf hK hC
      have hT2 := dv_fr hT hf
      have e1 : e = tb_ne w h := by omega
      subst e1
      refine jq_iload dX4_look_47 rfl ?_
      refine jq_aload_n dX4_look_49 rfl rfl ?_
      refine xq_getR 1 fX4_22 dX4_look_50 (xs_lt (by decide) hn) (by decide) ?_
      refine xq_getI fX4_48 dX4_look_53 (xs_lt (by decide) hn) (by decide) hT2.2.1.2.2.2.2.1 ?_
      refine jq_geN (tgt := 113) dX4_look_56 (by decide) ⟨by omega, by omega⟩ (fun c56 => ?_) (fun c56 => ?_)
      · exact xq_return rfl dX4_look_113 rfl (⟨rfl, hf, hK, hC⟩)
      · exact absurd c56 (by omega)
    | succ k ih =>
      intro e Y hk hf hK hC
      have hT2 := dv_fr hT hf
      have he : e < tb_ne w h := by omega
      have hi : vp_in (nI e) 40 := vp_inN (by omega) (by decide)
      have h1 := hT2.2.2.1 e he
      refine jq_iload dX4_look_47 rfl ?_
      refine jq_aload_n dX4_look_49 rfl rfl ?_
      refine xq_getR 1 fX4_22 dX4_look_50 (xs_lt (by decide) hn) (by decide) ?_
      refine xq_getI fX4_48 dX4_look_53 (xs_lt (by decide) hn) (by decide) hT2.2.1.2.2.2.2.1 ?_
      refine jq_geN (tgt := 113) dX4_look_56 (by decide) ⟨by omega, by omega⟩ (fun c56 => ?_) (fun c56 => ?_)
      · exact absurd c56 (by omega)
      · refine jq_aload_n dX4_look_59 rfl rfl ?_
        refine xq_getL fX4_37 dX4_look_60 (xs_lt (by decide) hn) (by decide) hK.2 ?_
        refine jq_iload dX4_look_63 rfl ?_
        refine xq_sI dX4_look_65 kX4_51 (c_X5_has (by omega) (by omega)) rfl rfl (Nat.le_of_ble_eq_true rfl) ⟨⟨by decide, by decide⟩, Nat.le_refl _, Nat.le_refl _⟩ ?_
        rw [dv_S_bit he]
        refine jq_if_ne (tgt := 107) dX4_look_68 (by decide) (fun c68 => ?_) (fun c68 => ?_)
        · have d68 : st e = 0 := by simpa using tb_b1.mp c68
          refine jq_iincN dX4_look_107 (by decide) rfl rfl rfl ?_
          refine jq_goto (tgt := 47) dX4_look_110 (by decide) ?_
          first
            | exact ih (e + 1) _ (by omega) (xs_fr_tr hf (xs_fr_mo h104.1 (by decide))) (dv_kfr hK h104.1) h104.2
            | exact ih (e + 1) _ (by omega) hf hK (by unfold dv_C; rw [tb_ch_0 d68]; exact hC)
        · have d68 : st e ≠ 0 := by simpa using tb_b0.mp c68
          refine jq_aload_n dX4_look_71 rfl rfl ?_
          refine xq_getR 12 fX4_12 dX4_look_72 (xs_lt (by decide) hn) (by decide) ?_
          refine jq_aload_n dX4_look_75 rfl rfl ?_
          refine xq_getR 1 fX4_22 dX4_look_76 (xs_lt (by decide) hn) (by decide) ?_
          refine xq_getR 7 fX4_55 dX4_look_79 (xs_lt (by decide) hn) (by decide) ?_
          refine jq_iload dX4_look_82 rfl ?_
          refine xq_iaload dX4_look_84 (xs_lt (by decide) hn) rfl hi (xs_rd h1.2.2.1 (by omega)) ?_
          refine jq_aload_n dX4_look_85 rfl rfl ?_
          refine xq_getR 1 fX4_22 dX4_look_86 (xs_lt (by decide) hn) (by decide) ?_
          refine xq_getR 8 fX4_59 dX4_look_89 (xs_lt (by decide) hn) (by decide) ?_
          refine jq_iload dX4_look_92 rfl ?_
          refine xq_iaload dX4_look_94 (xs_lt (by decide) hn) rfl hi (xs_rd h1.2.2.2 (by omega)) ?_
          refine jq_aload_n dX4_look_95 rfl rfl ?_
          refine xq_getL fX4_26 dX4_look_96 (xs_lt (by decide) hn) (by decide) hK.1 ?_
          refine jq_iload dX4_look_99 rfl ?_
          refine xq_sI dX4_look_101 kX4_51 (c_X5_has (by omega) (by omega)) rfl rfl (Nat.le_of_ble_eq_true rfl) ⟨⟨by decide, by decide⟩, Nat.le_refl _, Nat.le_refl _⟩ ?_
          rw [dv_S_bit he]
          refine xq_rV dX4_look_104 kX4_62 (c_X1_join hn hT.1 he d68 hC) (xs_lt (by decide) hn) ⟨rfl, rfl⟩ rfl rfl (Nat.le_of_ble_eq_true rfl) ⟨⟨by decide, by decide⟩, Nat.le_refl _, Nat.le_refl _⟩ (fun X104 h104 => ?_)
          refine jq_iincN dX4_look_107 (by decide) rfl rfl rfl ?_
          refine jq_goto (tgt := 47) dX4_look_110 (by decide) ?_
          first
            | exact ih (e + 1) _ (by omega) (xs_fr_tr hf (xs_fr_mo h104.1 (by decide))) (dv_kfr hK h104.1) h104.2
            | exact ih (e + 1) _ (by omega) hf hK (by unfold dv_C; rw [tb_ch_0 d68]; exact hC)
  have hT2 : dv_T w h (xs_sl X 11 3 (lN (dv_S w h st 1))) := dv_fr hT (xs_fr_sl (S := []) (F := [(11, 3)]) xs_fr_rf (by decide))
  have hf2 : xs_fr [13, 14] [(11, 3), (11, 4), (12, 2), (12, 3)] X (xs_sl (xs_sl X 11 3 (lN (dv_S w h st 1))) 11 4 (lN (dv_S w h st 0))) := xs_fr_sl (xs_fr_sl xs_fr_rf (by decide)) (by decide)
  have hK2 : dv_K w h st (xs_sl (xs_sl X 11 3 (lN (dv_S w h st 1))) 11 4 (lN (dv_S w h st 0))) := ⟨by rw [xs_sl_ne (by decide), xs_sl_at], xs_sl_at⟩
  have h28 : jq_J l G mX4_look (jq_R 3 0 0) jq_E0 (xs_Ye G n ad (xs_pv (fun X' => xs_fr [13, 14] [(11, 3), (11, 4), (12, 2), (12, 3)] X X' ∧ dv_K w h st X' ∧ dv_C w h st (tb_ne w h) X'))) 28 [some (.ref (ad 11)), some (.long (lN (dv_S w h st 1))), none, some (.long (lN (dv_S w h st 2))), none, none] [] n ad (xs_mem G ad (xs_sl (xs_sl X 11 3 (lN (dv_S w h st 1))) 11 4 (lN (dv_S w h st 0)))) 0 0 := by
    have hT2 := dv_fr hT hf2
    refine jq_aload_n dX4_look_28 rfl rfl ?_
    refine xq_getR 12 fX4_12 dX4_look_29 (xs_lt (by decide) hn) (by decide) ?_
    refine jq_aload_n dX4_look_32 rfl rfl ?_
    refine xq_getR 1 fX4_22 dX4_look_33 (xs_lt (by decide) hn) (by decide) ?_
    refine xq_getI fX4_40 dX4_look_36 (xs_lt (by decide) hn) (by decide) hT2.2.1.2.2.1 ?_
    refine jq_iconst (v := (nI 1)) dX4_look_39 (by decide) ?_
    refine jq_iaddN dX4_look_40 ?_
    refine xq_rV dX4_look_41 kX4_44 (c_X1_clear hn hT.1 st) (xs_lt (by decide) hn) ⟨rfl, rfl⟩ rfl rfl (Nat.le_of_ble_eq_true rfl) ⟨⟨by decide, by decide⟩, Nat.le_refl _, Nat.le_refl _⟩ (fun X41 h41 => ?_)
    refine jq_iconst (v := (nI 0)) dX4_look_44 (by decide) ?_
    refine jq_istore dX4_look_45 (by decide) rfl rfl ?_
    exact loop (tb_ne w h) 0 _ (by omega) (xs_fr_tr hf2 (xs_fr_mo h41.1 (by decide))) (dv_kfr hK2 h41.1) h41.2
  refine xs_Ct_of (L := [some (.ref (ad 11)), some (.long (lN (dv_S w h st 1))), none, some (.long (lN (dv_S w h st 2))), none, none]) rfl (Nat.le_of_ble_eq_true rfl) rfl ?_
  refine jq_aload_n dX4_look_0 rfl rfl ?_
  refine jq_lload_n dX4_look_1 rfl rfl ?_
  refine xq_putL pX4_26 dX4_look_2 (xs_lt (by decide) hn) (by decide) ?_
  refine jq_aload_n dX4_look_5 rfl rfl ?_
  refine jq_aload_n dX4_look_6 rfl rfl ?_
  refine xq_getR 1 fX4_22 dX4_look_7 (xs_lt (by decide) hn) (by decide) ?_
  refine xq_getL fX4_30 dX4_look_10 (xs_lt (by decide) hn) (by decide) hT2.2.1.2.2.2.2.2.2 ?_
  refine jq_lload_n dX4_look_13 rfl rfl ?_
  refine jq_ldc2 dX4_look_14 vX4_35 ?_
  refine jq_lxor dX4_look_17 ?_
  refine jq_land dX4_look_18 ?_
  refine jq_lload_n dX4_look_19 rfl rfl ?_
  refine jq_ldc2 dX4_look_20 vX4_35 ?_
  refine jq_lxor dX4_look_23 ?_
  refine jq_land dX4_look_24 ?_
  rw [dv_unk hT.1 hst]
  refine xq_putL pX4_37 dX4_look_25 (xs_lt (by decide) hn) (by decide) ?_
  exact h28
set_option maxHeartbeats 4000000 in
theorem c_X4_hasBrokenCell {l : Launch} {G : jq_G} {n : Nat} {ad : Nat → Nat} {X : xs_T} (hn : 21 ≤ n) {w h : Nat} {num : Nat → Int32} {st : Nat → Nat} (hT : dv_T w h X) (hK : dv_K w h st X) (hN : dv_N w h num X) : xs_Ct l G mX4_hasBrokenCell 2 [.ref (ad 11)] n ad X (xs_pd (some (.int (tb_b ((List.range (tb_nc w h)).any (tb_cellBad w h num st))))) X) := by
  have hz := tb_sizes hT.1
  have hL := dv_S_lt hT.1 st 1
  have hU := dv_S_lt hT.1 st 0
  have loop : ∀ (k c : Nat) (o2 o3 o4 : Option Value), c + k = tb_nc w h → (∀ j, j < c → tb_cellBad w h num st j = false) → jq_J l G mX4_hasBrokenCell (jq_R 2 0 0) jq_E0 (xs_Ye G n ad (xs_pd (some (.int (tb_b ((List.range (tb_nc w h)).any (tb_cellBad w h num st))))) X)) 2 [some (.ref (ad 11)), some (.int (nI (c))), o2, o3, o4] [] n ad (xs_mem G ad X) 0 0 := by
    intro k
    induction k with
    | zero =>
      intro c o2 o3 o4 hk hc
      refine jq_iload_n dX4_hasBrokenCell_2 rfl rfl ?_
      refine jq_aload_n dX4_hasBrokenCell_3 rfl rfl ?_
      refine xq_getR 1 fX4_22 dX4_hasBrokenCell_4 (xs_lt (by decide) hn) (by decide) ?_
      refine xq_getI fX4_40 dX4_hasBrokenCell_7 (xs_lt (by decide) hn) (by decide) hT.2.1.2.2.1 ?_
      refine jq_geN (tgt := 86) dX4_hasBrokenCell_10 (by decide) ⟨by omega, by omega⟩ (fun c10 => ?_) (fun c10 => ?_)
      · refine jq_iconst (v := 0) dX4_hasBrokenCell_86 (by decide) ?_
        exact xq_ireturn dX4_hasBrokenCell_87 rfl rfl (⟨tb_vf (tb_anyF (by rw [show tb_nc w h = c by omega]; exact hc)), rfl⟩)
      · exact absurd c10 (by omega)
    | succ k ih =>
      intro c o2 o3 o4 hk hc
      have hcc : c < tb_nc w h := by omega
      have h3 := hN c hcc
      have ha := hT.2.2.2.1 c (by omega)
      have hl := dv_ea_lt hT.1 (h := h) c
      have hi : vp_in (nI c) 16 := vp_inN (by omega) (by decide)
      have hi2 : vp_in (nI c) 17 := vp_inN (by omega) (by decide)
      refine jq_iload_n dX4_hasBrokenCell_2 rfl rfl ?_
      refine jq_aload_n dX4_hasBrokenCell_3 rfl rfl ?_
      refine xq_getR 1 fX4_22 dX4_hasBrokenCell_4 (xs_lt (by decide) hn) (by decide) ?_
      refine xq_getI fX4_40 dX4_hasBrokenCell_7 (xs_lt (by decide) hn) (by decide) hT.2.1.2.2.1 ?_
      refine jq_geN (tgt := 86) dX4_hasBrokenCell_10 (by decide) ⟨by omega, by omega⟩ (fun c10 => ?_) (fun c10 => ?_)
      · exact absurd c10 (by omega)
      · refine jq_aload_n dX4_hasBrokenCell_13 rfl rfl ?_
        refine xq_getR 1 fX4_22 dX4_hasBrokenCell_14 (xs_lt (by decide) hn) (by decide) ?_
        refine xq_getR 2 fX4_80 dX4_hasBrokenCell_17 (xs_lt (by decide) hn) (by decide) ?_
        refine jq_iload_n dX4_hasBrokenCell_20 rfl rfl ?_
        refine xq_iaload dX4_hasBrokenCell_21 (xs_lt (by decide) hn) rfl hi (xs_rd h3 (by omega)) ?_
        refine jq_istore_n dX4_hasBrokenCell_22 rfl (by decide) rfl rfl ?_
        refine jq_aload_n dX4_hasBrokenCell_23 rfl rfl ?_
        refine xq_getL fX4_26 dX4_hasBrokenCell_24 (xs_lt (by decide) hn) (by decide) hK.1 ?_
        refine jq_aload_n dX4_hasBrokenCell_27 rfl rfl ?_
        refine xq_getR 1 fX4_22 dX4_hasBrokenCell_28 (xs_lt (by decide) hn) (by decide) ?_
        refine xq_getR 3 fX4_83 dX4_hasBrokenCell_31 (xs_lt (by decide) hn) (by decide) ?_
        refine jq_iload_n dX4_hasBrokenCell_34 rfl rfl ?_
        refine xq_laload dX4_hasBrokenCell_35 (xs_lt (by decide) hn) rfl hi2 (xs_rdL ha (by omega)) ?_
        refine jq_land dX4_hasBrokenCell_36 ?_
        rw [wb_and (by omega) (by omega)]
        refine xq_sI dX4_hasBrokenCell_37 kX4_86 (c_bitCount (Nat.lt_trans (dv_and_lt hL) (by decide))) rfl rfl (Nat.le_of_ble_eq_true rfl) ⟨⟨by decide, by decide⟩, Nat.le_refl _, Nat.le_refl _⟩ ?_
        rw [dv_pcA hT.1, dv_arS_S hT.1 st 1 hcc]
        refine jq_istore_n dX4_hasBrokenCell_40 rfl (by decide) rfl rfl ?_
        refine jq_iload_n dX4_hasBrokenCell_41 rfl rfl ?_
        refine jq_aload_n dX4_hasBrokenCell_42 rfl rfl ?_
        refine xq_getL fX4_37 dX4_hasBrokenCell_43 (xs_lt (by decide) hn) (by decide) hK.2 ?_
        refine jq_aload_n dX4_hasBrokenCell_46 rfl rfl ?_
        refine xq_getR 1 fX4_22 dX4_hasBrokenCell_47 (xs_lt (by decide) hn) (by decide) ?_
        refine xq_getR 3 fX4_83 dX4_hasBrokenCell_50 (xs_lt (by decide) hn) (by decide) ?_
        refine jq_iload_n dX4_hasBrokenCell_53 rfl rfl ?_
        refine xq_laload dX4_hasBrokenCell_54 (xs_lt (by decide) hn) rfl hi2 (xs_rdL ha (by omega)) ?_
        refine jq_land dX4_hasBrokenCell_55 ?_
        rw [wb_and (by omega) (by omega)]
        refine xq_sI dX4_hasBrokenCell_56 kX4_86 (c_bitCount (Nat.lt_trans (dv_and_lt hU) (by decide))) rfl rfl (Nat.le_of_ble_eq_true rfl) ⟨⟨by decide, by decide⟩, Nat.le_refl _, Nat.le_refl _⟩ ?_
        rw [dv_pcA hT.1, dv_arS_S hT.1 st 0 hcc]
        refine jq_iaddN dX4_hasBrokenCell_59 ?_
        refine jq_istore dX4_hasBrokenCell_60 (by decide) rfl rfl ?_
        refine jq_iload_n dX4_hasBrokenCell_62 rfl rfl ?_
        refine jq_iconst (v := (-1)) dX4_hasBrokenCell_63 (by decide) ?_
        refine jq_icmp_eq (tgt := 80) dX4_hasBrokenCell_64 (by decide) (fun c64 => ?_) (fun c64 => ?_)
        · refine jq_iincN dX4_hasBrokenCell_80 (by decide) rfl rfl rfl ?_
          refine jq_goto (tgt := 2) dX4_hasBrokenCell_83 (by decide) ?_
          refine ih (c + 1) _ _ _ (by omega) (fun j hj => ?_)
          rcases Nat.lt_or_ge j c with q | q
          · exact hc j q
          · rw [show j = c by omega]; unfold tb_cellBad; first | (rw [c64]; rfl) | (rw [decide_eq_false c69, decide_eq_false (Int32.not_lt.mpr c75)]; simp)
        · refine jq_iload_n dX4_hasBrokenCell_67 rfl rfl ?_
          refine jq_iload_n dX4_hasBrokenCell_68 rfl rfl ?_
          refine jq_icmp_gt (tgt := 78) dX4_hasBrokenCell_69 (by decide) (fun c69 => ?_) (fun c69 => ?_)
          · refine jq_iconst (v := 1) dX4_hasBrokenCell_78 (by decide) ?_
            exact xq_ireturn dX4_hasBrokenCell_79 rfl rfl (⟨tb_vt (tb_anyT (c := c) hcc (by unfold tb_cellBad; rw [show (num c == -1) = false by simp [c64]]; first | (rw [decide_eq_true c69]; rfl) | (rw [decide_eq_true (Int32.not_le.mp c75)]; simp))), rfl⟩)
          · refine jq_iload dX4_hasBrokenCell_72 rfl ?_
            refine jq_iload_n dX4_hasBrokenCell_74 rfl rfl ?_
            refine jq_icmp_ge (tgt := 80) dX4_hasBrokenCell_75 (by decide) (fun c75 => ?_) (fun c75 => ?_)
            · refine jq_iincN dX4_hasBrokenCell_80 (by decide) rfl rfl rfl ?_
              refine jq_goto (tgt := 2) dX4_hasBrokenCell_83 (by decide) ?_
              refine ih (c + 1) _ _ _ (by omega) (fun j hj => ?_)
              rcases Nat.lt_or_ge j c with q | q
              · exact hc j q
              · rw [show j = c by omega]; unfold tb_cellBad; first | (rw [c64]; rfl) | (rw [decide_eq_false c69, decide_eq_false (Int32.not_lt.mpr c75)]; simp)
            · refine jq_iconst (v := 1) dX4_hasBrokenCell_78 (by decide) ?_
              exact xq_ireturn dX4_hasBrokenCell_79 rfl rfl (⟨tb_vt (tb_anyT (c := c) hcc (by unfold tb_cellBad; rw [show (num c == -1) = false by simp [c64]]; first | (rw [decide_eq_true c69]; rfl) | (rw [decide_eq_true (Int32.not_le.mp c75)]; simp))), rfl⟩)
  refine xs_Ct_of (L := [some (.ref (ad 11)), none, none, none, none]) rfl (Nat.le_of_ble_eq_true rfl) rfl ?_
  refine jq_iconst (v := (nI 0)) dX4_hasBrokenCell_0 (by decide) ?_
  refine jq_istore_n dX4_hasBrokenCell_1 rfl (by decide) rfl rfl ?_
  exact loop (tb_nc w h) 0 _ _ _ (by omega) (fun j hj => absurd hj (Nat.not_lt_zero j))
set_option maxHeartbeats 4000000 in
theorem c_X4_hasBrokenPoint {l : Launch} {G : jq_G} {n : Nat} {ad : Nat → Nat} {X : xs_T} (hn : 21 ≤ n) {w h : Nat} {st : Nat → Nat} (hT : dv_T w h X) (hK : dv_K w h st X) : xs_Ct l G mX4_hasBrokenPoint 2 [.ref (ad 11)] n ad X (xs_pd (some (.int (tb_b ((List.range (tb_np w h)).any (tb_ptBad w h st))))) X) := by
  have hz := tb_sizes hT.1
  have hL := dv_S_lt hT.1 st 1
  have hU := dv_S_lt hT.1 st 0
  have loop : ∀ (k p : Nat) (o2 : Option Value), p + k = tb_np w h → (∀ j, j < p → tb_ptBad w h st j = false) → jq_J l G mX4_hasBrokenPoint (jq_R 2 0 0) jq_E0 (xs_Ye G n ad (xs_pd (some (.int (tb_b ((List.range (tb_np w h)).any (tb_ptBad w h st))))) X)) 2 [some (.ref (ad 11)), some (.int (nI (p))), o2] [] n ad (xs_mem G ad X) 0 0 := by
    intro k
    induction k with
    | zero =>
      intro p o2 hk hc
      refine jq_iload_n dX4_hasBrokenPoint_2 rfl rfl ?_
      refine jq_aload_n dX4_hasBrokenPoint_3 rfl rfl ?_
      refine xq_getR 1 fX4_22 dX4_hasBrokenPoint_4 (xs_lt (by decide) hn) (by decide) ?_
      refine xq_getI fX4_92 dX4_hasBrokenPoint_7 (xs_lt (by decide) hn) (by decide) hT.2.1.2.2.2.1 ?_
      refine jq_geN (tgt := 64) dX4_hasBrokenPoint_10 (by decide) ⟨by omega, by omega⟩ (fun c10 => ?_) (fun c10 => ?_)
      · refine jq_iconst (v := 0) dX4_hasBrokenPoint_64 (by decide) ?_
        exact xq_ireturn dX4_hasBrokenPoint_65 rfl rfl (⟨tb_vf (tb_anyF (by rw [show tb_np w h = p by omega]; exact hc)), rfl⟩)
      · exact absurd c10 (by omega)
    | succ k ih =>
      intro p o2 hk hc
      have hpp : p < tb_np w h := by omega
      have he := hT.2.2.2.2.1 p hpp
      have hl := dv_ep_lt hT.1 (h := h) p
      have hd := tb_at_le hT.1 st p 1
      have hd0 := tb_at_le hT.1 st p 0
      have hi : vp_in (nI p) 25 := vp_inN (by omega) (by decide)
      refine jq_iload_n dX4_hasBrokenPoint_2 rfl rfl ?_
      refine jq_aload_n dX4_hasBrokenPoint_3 rfl rfl ?_
      refine xq_getR 1 fX4_22 dX4_hasBrokenPoint_4 (xs_lt (by decide) hn) (by decide) ?_
      refine xq_getI fX4_92 dX4_hasBrokenPoint_7 (xs_lt (by decide) hn) (by decide) hT.2.1.2.2.2.1 ?_
      refine jq_geN (tgt := 64) dX4_hasBrokenPoint_10 (by decide) ⟨by omega, by omega⟩ (fun c10 => ?_) (fun c10 => ?_)
      · exact absurd c10 (by omega)
      · refine jq_aload_n dX4_hasBrokenPoint_13 rfl rfl ?_
        refine xq_getL fX4_26 dX4_hasBrokenPoint_14 (xs_lt (by decide) hn) (by decide) hK.1 ?_
        refine jq_aload_n dX4_hasBrokenPoint_17 rfl rfl ?_
        refine xq_getR 1 fX4_22 dX4_hasBrokenPoint_18 (xs_lt (by decide) hn) (by decide) ?_
        refine xq_getR 4 fX4_95 dX4_hasBrokenPoint_21 (xs_lt (by decide) hn) (by decide) ?_
        refine jq_iload_n dX4_hasBrokenPoint_24 rfl rfl ?_
        refine xq_laload dX4_hasBrokenPoint_25 (xs_lt (by decide) hn) rfl hi (xs_rdL he (by omega)) ?_
        refine jq_land dX4_hasBrokenPoint_26 ?_
        rw [wb_and (by omega) (by omega)]
        refine xq_sI dX4_hasBrokenPoint_27 kX4_86 (c_bitCount (Nat.lt_trans (dv_and_lt hL) (by decide))) rfl rfl (Nat.le_of_ble_eq_true rfl) ⟨⟨by decide, by decide⟩, Nat.le_refl _, Nat.le_refl _⟩ ?_
        rw [dv_pc hT.1, dv_deg_S]
        refine jq_istore_n dX4_hasBrokenPoint_30 rfl (by decide) rfl rfl ?_
        refine jq_iload_n dX4_hasBrokenPoint_31 rfl rfl ?_
        refine jq_iconst (v := (nI 2)) dX4_hasBrokenPoint_32 (by decide) ?_
        refine jq_gtN (tgt := 56) dX4_hasBrokenPoint_33 (by decide) ⟨by omega, by omega⟩ (fun c33 => ?_) (fun c33 => ?_)
        · refine jq_iconst (v := 1) dX4_hasBrokenPoint_56 (by decide) ?_
          exact xq_ireturn dX4_hasBrokenPoint_57 rfl rfl (⟨tb_vt (tb_anyT (c := p) hpp (tb_ptBad_t (by omega))), rfl⟩)
        · refine jq_iload_n dX4_hasBrokenPoint_36 rfl rfl ?_
          refine jq_iconst (v := (nI 1)) dX4_hasBrokenPoint_37 (by decide) ?_
          refine jq_neN (tgt := 58) dX4_hasBrokenPoint_38 (by decide) ⟨by omega, by omega⟩ (fun c38 => ?_) (fun c38 => ?_)
          · refine jq_iincN dX4_hasBrokenPoint_58 (by decide) rfl rfl rfl ?_
            refine jq_goto (tgt := 2) dX4_hasBrokenPoint_61 (by decide) ?_
            refine ih (p + 1) _ (by omega) (fun j hj => ?_)
            rcases Nat.lt_or_ge j p with q | q
            · exact hc j q
            · rw [show j = p by omega]; exact tb_ptBad_f (by omega)
          · refine jq_aload_n dX4_hasBrokenPoint_41 rfl rfl ?_
            refine xq_getR 1 fX4_22 dX4_hasBrokenPoint_42 (xs_lt (by decide) hn) (by decide) ?_
            refine jq_aload_n dX4_hasBrokenPoint_45 rfl rfl ?_
            refine xq_getL fX4_37 dX4_hasBrokenPoint_46 (xs_lt (by decide) hn) (by decide) hK.2 ?_
            refine jq_iload_n dX4_hasBrokenPoint_49 rfl rfl ?_
            refine xq_vI dX4_hasBrokenPoint_50 kX4_98 (c_X0_touches hn hT hU hpp) (xs_lt (by decide) hn) ⟨rfl, rfl⟩ rfl rfl (Nat.le_of_ble_eq_true rfl) ⟨⟨by decide, by decide⟩, Nat.le_refl _, Nat.le_refl _⟩ ?_
            rw [dv_deg_S]
            refine jq_if_ne (tgt := 58) dX4_hasBrokenPoint_53 (by decide) (fun c53 => ?_) (fun c53 => ?_)
            · have d53 : tb_at w h st p 0 ≠ 0 := by simpa using tb_b1.mp c53
              refine jq_iincN dX4_hasBrokenPoint_58 (by decide) rfl rfl rfl ?_
              refine jq_goto (tgt := 2) dX4_hasBrokenPoint_61 (by decide) ?_
              refine ih (p + 1) _ (by omega) (fun j hj => ?_)
              rcases Nat.lt_or_ge j p with q | q
              · exact hc j q
              · rw [show j = p by omega]; exact tb_ptBad_f (by omega)
            · have d53 : tb_at w h st p 0 = 0 := by simpa using tb_b0.mp c53
              refine jq_iconst (v := 1) dX4_hasBrokenPoint_56 (by decide) ?_
              exact xq_ireturn dX4_hasBrokenPoint_57 rfl rfl (⟨tb_vt (tb_anyT (c := p) hpp (tb_ptBad_t (by omega))), rfl⟩)
  refine xs_Ct_of (L := [some (.ref (ad 11)), none, none]) rfl (Nat.le_of_ble_eq_true rfl) rfl ?_
  refine jq_iconst (v := (nI 0)) dX4_hasBrokenPoint_0 (by decide) ?_
  refine jq_istore_n dX4_hasBrokenPoint_1 rfl (by decide) rfl rfl ?_
  exact loop (tb_np w h) 0 _ (by omega) (fun j hj => absurd hj (Nat.not_lt_zero j))
