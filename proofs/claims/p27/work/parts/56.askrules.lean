def dv_askC1 (w h : Nat) (num : Nat → Int32) (st : Nat → Nat) (c : Nat) : dv_Wt := if num c ≠ -1 ∧ num c = nI (tb_ar w h st c 1) then dv_want (dv_S w h st 0) (dv_askC w h num st c) 1 2 (dv_ea w h c) else dv_askC w h num st c
theorem dv_askC_s (w h : Nat) (num : Nat → Int32) (st : Nat → Nat) (c : Nat) : dv_askC w h num st (c + 1) = (if num c ≠ -1 ∧ num c = nI (tb_ar w h st c 1 + tb_ar w h st c 0) then dv_want (dv_S w h st 0) (dv_askC1 w h num st c) 2 1 (dv_ea w h c) else dv_askC1 w h num st c) := rfl
set_option maxHeartbeats 4000000 in
theorem c_X4_askCells {l : Launch} {G : jq_G} {n : Nat} {ad : Nat → Nat} {X : xs_T} (hn : 21 ≤ n) {w h : Nat} {num : Nat → Int32} {st : Nat → Nat} (hT : dv_T w h X) (hK : dv_K w h st X) (hN : dv_N w h num X) (hD0 : dv_D (dv_askC w h num st 0) X) : xs_Ct l G mX4_askCells 2 [.ref (ad 11)] n ad X (xs_pv (fun X' => xs_fr dv_SA dv_FA X X' ∧ dv_D (dv_askC w h num st (tb_nc w h)) X')) := by
  have hz := tb_sizes hT.1
  have hL := dv_S_lt hT.1 st 1
  have hU := dv_S_lt hT.1 st 0
  have loop : ∀ (k c : Nat) (o2 o4 o5 : Option Value) (Y : xs_T), c + k = tb_nc w h → xs_fr dv_SA dv_FA X Y → dv_D (dv_askC w h num st c) Y → jq_J l G mX4_askCells (jq_R 2 0 0) jq_E0 (xs_Ye G n ad (xs_pv (fun X' => xs_fr dv_SA dv_FA X X' ∧ dv_D (dv_askC w h num st (tb_nc w h)) X'))) 2 [some (.ref (ad 11)), some (.int (nI (c))), o2, none, o4, o5] [] n ad (xs_mem G ad Y) 0 0 := by
    intro k
    induction k with
    | zero =>
      intro c o2 o4 o5 Y hk hf hD
      have hT2 := dv_fr hT hf
      refine jq_iload_n dX4_askCells_2 rfl rfl ?_
      refine jq_aload_n dX4_askCells_3 rfl rfl ?_
      refine xq_getR 1 fX4_22 dX4_askCells_4 (xs_lt (by decide) hn) (by decide) ?_
      refine xq_getI fX4_40 dX4_askCells_7 (xs_lt (by decide) hn) (by decide) hT2.2.1.2.2.1 ?_
      refine jq_geN (tgt := 101) dX4_askCells_10 (by decide) ⟨by omega, by omega⟩ (fun c10 => ?_) (fun c10 => ?_)
      · exact xq_return rfl dX4_askCells_101 rfl (⟨rfl, hf, by rw [show tb_nc w h = c by omega]; exact hD⟩)
      · exact absurd c10 (by omega)
    | succ k ih =>
      intro c o2 o4 o5 Y hk hf hD
      have hT2 := dv_fr hT hf
      have hK2 := dv_kfr hK hf
      have hcc : c < tb_nc w h := by omega
      have h3 := dv_nfr hN hf (by decide) c hcc
      have ha := hT2.2.2.2.1 c (by omega)
      have hl := dv_ea_lt hT.1 (h := h) c
      have hi : vp_in (nI c) 16 := vp_inN (by omega) (by decide)
      have hi2 : vp_in (nI c) 17 := vp_inN (by omega) (by decide)
      have h95 : ∀ (Z : xs_T), xs_fr dv_SA dv_FA X Z → dv_D (dv_askC w h num st (c + 1)) Z → jq_J l G mX4_askCells (jq_R 2 0 0) jq_E0 (xs_Ye G n ad (xs_pv (fun X' => xs_fr dv_SA dv_FA X X' ∧ dv_D (dv_askC w h num st (tb_nc w h)) X'))) 95 [some (.ref (ad 11)), some (.int (nI (c))), some (.long (lN (dv_ea w h c))), none, some (.int (num c)), some (.int (nI (tb_ar w h st c 1)))] [] n ad (xs_mem G ad Z) 0 0 := by
        intro Z hfZ hDZ
        refine jq_iincN dX4_askCells_95 (by decide) rfl rfl rfl ?_
        refine jq_goto (tgt := 2) dX4_askCells_98 (by decide) ?_
        exact ih (c + 1) _ _ _ Z (by omega) hfZ hDZ
      have h65 : ∀ (Z : xs_T), xs_fr dv_SA dv_FA X Z → dv_D (dv_askC1 w h num st c) Z → jq_J l G mX4_askCells (jq_R 2 0 0) jq_E0 (xs_Ye G n ad (xs_pv (fun X' => xs_fr dv_SA dv_FA X X' ∧ dv_D (dv_askC w h num st (tb_nc w h)) X'))) 65 [some (.ref (ad 11)), some (.int (nI (c))), some (.long (lN (dv_ea w h c))), none, some (.int (num c)), some (.int (nI (tb_ar w h st c 1)))] [] n ad (xs_mem G ad Z) 0 0 := by
        intro Z hfZ hDZ
        have hT2 := dv_fr hT hfZ
        have hK2 := dv_kfr hK hfZ
        refine jq_iload dX4_askCells_65 rfl ?_
        refine jq_iconst (v := (-1)) dX4_askCells_67 (by decide) ?_
        refine jq_icmp_eq (tgt := 95) dX4_askCells_68 (by decide) (fun c68 => ?_) (fun c68 => ?_)
        · first
            | exact h95 _ (xs_fr_tr hfZ h92.1) (by rw [dv_askC_s, if_pos ⟨c68, c85.symm⟩]; exact h92.2)
            | exact h95 Z hfZ (by rw [dv_askC_s, if_neg (by intro q; first | exact q.1 c68 | exact c85 q.2.symm)]; exact hDZ)
        · refine jq_iload dX4_askCells_71 rfl ?_
          refine jq_aload_n dX4_askCells_73 rfl rfl ?_
          refine xq_getL fX4_37 dX4_askCells_74 (xs_lt (by decide) hn) (by decide) hK2.2 ?_
          refine jq_lload_n dX4_askCells_77 rfl rfl ?_
          refine jq_land dX4_askCells_78 ?_
          rw [wb_and (by omega) (by omega)]
          refine xq_sI dX4_askCells_79 kX4_86 (c_bitCount (Nat.lt_trans (dv_and_lt hU) (by decide))) rfl rfl (Nat.le_of_ble_eq_true rfl) ⟨⟨by decide, by decide⟩, Nat.le_refl _, Nat.le_refl _⟩ ?_
          rw [dv_pcA hT.1, dv_arS_S hT.1 st 0 hcc]
          refine jq_iaddN dX4_askCells_82 ?_
          refine jq_iload dX4_askCells_83 rfl ?_
          refine jq_icmp_ne (tgt := 95) dX4_askCells_85 (by decide) (fun c85 => ?_) (fun c85 => ?_)
          · first
              | exact h95 _ (xs_fr_tr hfZ h92.1) (by rw [dv_askC_s, if_pos ⟨c68, c85.symm⟩]; exact h92.2)
              | exact h95 Z hfZ (by rw [dv_askC_s, if_neg (by intro q; first | exact q.1 c68 | exact c85 q.2.symm)]; exact hDZ)
          · refine jq_aload_n dX4_askCells_88 rfl rfl ?_
            refine jq_iconst (v := (nI 2)) dX4_askCells_89 (by decide) ?_
            refine jq_iconst (v := (nI 1)) dX4_askCells_90 (by decide) ?_
            refine jq_lload_n dX4_askCells_91 rfl rfl ?_
            refine xq_rV dX4_askCells_92 kX4_136 (c_X4_want hn hT.1 hK2 hDZ (by decide) (by decide) hl) (xs_lt (by decide) hn) ⟨rfl, rfl⟩ rfl rfl (Nat.le_of_ble_eq_true rfl) ⟨⟨by decide, by decide⟩, Nat.le_refl _, Nat.le_refl _⟩ (fun X92 h92 => ?_)
            first
              | exact h95 _ (xs_fr_tr hfZ h92.1) (by rw [dv_askC_s, if_pos ⟨c68, c85.symm⟩]; exact h92.2)
              | exact h95 Z hfZ (by rw [dv_askC_s, if_neg (by intro q; first | exact q.1 c68 | exact c85 q.2.symm)]; exact hDZ)
      refine jq_iload_n dX4_askCells_2 rfl rfl ?_
      refine jq_aload_n dX4_askCells_3 rfl rfl ?_
      refine xq_getR 1 fX4_22 dX4_askCells_4 (xs_lt (by decide) hn) (by decide) ?_
      refine xq_getI fX4_40 dX4_askCells_7 (xs_lt (by decide) hn) (by decide) hT2.2.1.2.2.1 ?_
      refine jq_geN (tgt := 101) dX4_askCells_10 (by decide) ⟨by omega, by omega⟩ (fun c10 => ?_) (fun c10 => ?_)
      · exact absurd c10 (by omega)
      · refine jq_aload_n dX4_askCells_13 rfl rfl ?_
        refine xq_getR 1 fX4_22 dX4_askCells_14 (xs_lt (by decide) hn) (by decide) ?_
        refine xq_getR 3 fX4_83 dX4_askCells_17 (xs_lt (by decide) hn) (by decide) ?_
        refine jq_iload_n dX4_askCells_20 rfl rfl ?_
        refine xq_laload dX4_askCells_21 (xs_lt (by decide) hn) rfl hi2 (xs_rdL ha (by omega)) ?_
        refine jq_lstore_n dX4_askCells_22 rfl (by decide) rfl rfl ?_
        refine jq_aload_n dX4_askCells_23 rfl rfl ?_
        refine xq_getR 1 fX4_22 dX4_askCells_24 (xs_lt (by decide) hn) (by decide) ?_
        refine xq_getR 2 fX4_80 dX4_askCells_27 (xs_lt (by decide) hn) (by decide) ?_
        refine jq_iload_n dX4_askCells_30 rfl rfl ?_
        refine xq_iaload dX4_askCells_31 (xs_lt (by decide) hn) rfl hi (xs_rd h3 (by omega)) ?_
        refine jq_istore dX4_askCells_32 (by decide) rfl rfl ?_
        refine jq_aload_n dX4_askCells_34 rfl rfl ?_
        refine xq_getL fX4_26 dX4_askCells_35 (xs_lt (by decide) hn) (by decide) hK2.1 ?_
        refine jq_lload_n dX4_askCells_38 rfl rfl ?_
        refine jq_land dX4_askCells_39 ?_
        rw [wb_and (by omega) (by omega)]
        refine xq_sI dX4_askCells_40 kX4_86 (c_bitCount (Nat.lt_trans (dv_and_lt hL) (by decide))) rfl rfl (Nat.le_of_ble_eq_true rfl) ⟨⟨by decide, by decide⟩, Nat.le_refl _, Nat.le_refl _⟩ ?_
        rw [dv_pcA hT.1, dv_arS_S hT.1 st 1 hcc]
        refine jq_istore dX4_askCells_43 (by decide) rfl rfl ?_
        refine jq_iload dX4_askCells_45 rfl ?_
        refine jq_iconst (v := (-1)) dX4_askCells_47 (by decide) ?_
        refine jq_icmp_eq (tgt := 65) dX4_askCells_48 (by decide) (fun c48 => ?_) (fun c48 => ?_)
        · first
            | exact h65 _ (xs_fr_tr hf h62.1) (by unfold dv_askC1; rw [if_pos ⟨c48, c55.symm⟩]; exact h62.2)
            | exact h65 Y hf (by unfold dv_askC1; rw [if_neg (by intro q; first | exact q.1 c48 | exact c55 q.2.symm)]; exact hD)
        · refine jq_iload dX4_askCells_51 rfl ?_
          refine jq_iload dX4_askCells_53 rfl ?_
          refine jq_icmp_ne (tgt := 65) dX4_askCells_55 (by decide) (fun c55 => ?_) (fun c55 => ?_)
          · first
              | exact h65 _ (xs_fr_tr hf h62.1) (by unfold dv_askC1; rw [if_pos ⟨c48, c55.symm⟩]; exact h62.2)
              | exact h65 Y hf (by unfold dv_askC1; rw [if_neg (by intro q; first | exact q.1 c48 | exact c55 q.2.symm)]; exact hD)
          · refine jq_aload_n dX4_askCells_58 rfl rfl ?_
            refine jq_iconst (v := (nI 1)) dX4_askCells_59 (by decide) ?_
            refine jq_iconst (v := (nI 2)) dX4_askCells_60 (by decide) ?_
            refine jq_lload_n dX4_askCells_61 rfl rfl ?_
            refine xq_rV dX4_askCells_62 kX4_136 (c_X4_want hn hT.1 hK2 hD (by decide) (by decide) hl) (xs_lt (by decide) hn) ⟨rfl, rfl⟩ rfl rfl (Nat.le_of_ble_eq_true rfl) ⟨⟨by decide, by decide⟩, Nat.le_refl _, Nat.le_refl _⟩ (fun X62 h62 => ?_)
            first
              | exact h65 _ (xs_fr_tr hf h62.1) (by unfold dv_askC1; rw [if_pos ⟨c48, c55.symm⟩]; exact h62.2)
              | exact h65 Y hf (by unfold dv_askC1; rw [if_neg (by intro q; first | exact q.1 c48 | exact c55 q.2.symm)]; exact hD)
  refine xs_Ct_of (L := [some (.ref (ad 11)), none, none, none, none, none]) rfl (Nat.le_of_ble_eq_true rfl) rfl ?_
  refine jq_iconst (v := (nI 0)) dX4_askCells_0 (by decide) ?_
  refine jq_istore_n dX4_askCells_1 rfl (by decide) rfl rfl ?_
  exact loop (tb_nc w h) 0 _ _ _ X (by omega) xs_fr_rf hD0
set_option maxHeartbeats 4000000 in
theorem c_X4_askPoints {l : Launch} {G : jq_G} {n : Nat} {ad : Nat → Nat} {X : xs_T} (hn : 21 ≤ n) {w h : Nat} {num : Nat → Int32} {st : Nat → Nat} (hT : dv_T w h X) (hK : dv_K w h st X) (hD0 : dv_D (dv_askP w h num st 0) X) : xs_Ct l G mX4_askPoints 2 [.ref (ad 11)] n ad X (xs_pv (fun X' => xs_fr dv_SA dv_FA X X' ∧ dv_D (dv_askP w h num st (tb_np w h)) X')) := by
  have hz := tb_sizes hT.1
  have hL := dv_S_lt hT.1 st 1
  have hU := dv_S_lt hT.1 st 0
  have loop : ∀ (k p : Nat) (o2 o4 o5 : Option Value) (Y : xs_T), p + k = tb_np w h → xs_fr dv_SA dv_FA X Y → dv_D (dv_askP w h num st p) Y → jq_J l G mX4_askPoints (jq_R 2 0 0) jq_E0 (xs_Ye G n ad (xs_pv (fun X' => xs_fr dv_SA dv_FA X X' ∧ dv_D (dv_askP w h num st (tb_np w h)) X'))) 2 [some (.ref (ad 11)), some (.int (nI (p))), o2, none, o4, o5] [] n ad (xs_mem G ad Y) 0 0 := by
    intro k
    induction k with
    | zero =>
      intro p o2 o4 o5 Y hk hf hD
      have hT2 := dv_fr hT hf
      refine jq_iload_n dX4_askPoints_2 rfl rfl ?_
      refine jq_aload_n dX4_askPoints_3 rfl rfl ?_
      refine xq_getR 1 fX4_22 dX4_askPoints_4 (xs_lt (by decide) hn) (by decide) ?_
      refine xq_getI fX4_92 dX4_askPoints_7 (xs_lt (by decide) hn) (by decide) hT2.2.1.2.2.2.1 ?_
      refine jq_geN (tgt := 101) dX4_askPoints_10 (by decide) ⟨by omega, by omega⟩ (fun c10 => ?_) (fun c10 => ?_)
      · exact xq_return rfl dX4_askPoints_101 rfl (⟨rfl, hf, by rw [show tb_np w h = p by omega]; exact hD⟩)
      · exact absurd c10 (by omega)
    | succ k ih =>
      intro p o2 o4 o5 Y hk hf hD
      have hT2 := dv_fr hT hf
      have hK2 := dv_kfr hK hf
      have hpp : p < tb_np w h := by omega
      have he := hT2.2.2.2.2.1 p hpp
      have hl := dv_ep_lt hT.1 (h := h) p
      have hd := tb_at_le hT.1 st p 1
      have hd0 := tb_at_le hT.1 st p 0
      have hi : vp_in (nI p) 25 := vp_inN (by omega) (by decide)
      have h95 : ∀ (Z : xs_T), xs_fr dv_SA dv_FA X Z → dv_D (dv_askP w h num st (p + 1)) Z → jq_J l G mX4_askPoints (jq_R 2 0 0) jq_E0 (xs_Ye G n ad (xs_pv (fun X' => xs_fr dv_SA dv_FA X X' ∧ dv_D (dv_askP w h num st (tb_np w h)) X'))) 95 [some (.ref (ad 11)), some (.int (nI (p))), some (.long (lN (dv_ep w h p))), none, some (.int (nI (tb_at w h st p 1))), some (.int (nI (tb_at w h st p 0)))] [] n ad (xs_mem G ad Z) 0 0 := by
        intro Z hfZ hDZ
        refine jq_iincN dX4_askPoints_95 (by decide) rfl rfl rfl ?_
        refine jq_goto (tgt := 2) dX4_askPoints_98 (by decide) ?_
        exact ih (p + 1) _ _ _ Z (by omega) hfZ hDZ
      have h77 : ∀ (Z : xs_T), xs_fr dv_SA dv_FA X Z → dv_D (dv_askP2 w h st (dv_askP1 w h st (dv_askP w h num st p) p) p) Z → jq_J l G mX4_askPoints (jq_R 2 0 0) jq_E0 (xs_Ye G n ad (xs_pv (fun X' => xs_fr dv_SA dv_FA X X' ∧ dv_D (dv_askP w h num st (tb_np w h)) X'))) 77 [some (.ref (ad 11)), some (.int (nI (p))), some (.long (lN (dv_ep w h p))), none, some (.int (nI (tb_at w h st p 1))), some (.int (nI (tb_at w h st p 0)))] [] n ad (xs_mem G ad Z) 0 0 := by
        intro Z hfZ hDZ
        have hK2 := dv_kfr hK hfZ
        refine jq_iload dX4_askPoints_77 rfl ?_
        refine jq_neZ (tgt := 95) dX4_askPoints_79 (by decide) (by omega) (fun c79 => ?_) (fun c79 => ?_)
        · first
            | exact h95 _ (xs_fr_tr hfZ h92.1) (by rw [dv_askP]; unfold dv_askP3; rw [if_pos ⟨c79, c85⟩]; exact h92.2)
            | exact h95 Z hfZ (by rw [dv_askP]; unfold dv_askP3; rw [if_neg (by omega)]; exact hDZ)
            | omega
        · refine jq_iload dX4_askPoints_82 rfl ?_
          refine jq_iconst (v := (nI 1)) dX4_askPoints_84 (by decide) ?_
          refine jq_neN (tgt := 95) dX4_askPoints_85 (by decide) ⟨by omega, by omega⟩ (fun c85 => ?_) (fun c85 => ?_)
          · first
              | exact h95 _ (xs_fr_tr hfZ h92.1) (by rw [dv_askP]; unfold dv_askP3; rw [if_pos ⟨c79, c85⟩]; exact h92.2)
              | exact h95 Z hfZ (by rw [dv_askP]; unfold dv_askP3; rw [if_neg (by omega)]; exact hDZ)
              | omega
          · refine jq_aload_n dX4_askPoints_88 rfl rfl ?_
            refine jq_iconst (v := (nI 5)) dX4_askPoints_89 (by decide) ?_
            refine jq_iconst (v := (nI 2)) dX4_askPoints_90 (by decide) ?_
            refine jq_lload_n dX4_askPoints_91 rfl rfl ?_
            refine xq_rV dX4_askPoints_92 kX4_136 (c_X4_want hn hT.1 hK2 hDZ (by decide) (by decide) hl) (xs_lt (by decide) hn) ⟨rfl, rfl⟩ rfl rfl (Nat.le_of_ble_eq_true rfl) ⟨⟨by decide, by decide⟩, Nat.le_refl _, Nat.le_refl _⟩ (fun X92 h92 => ?_)
            first
              | exact h95 _ (xs_fr_tr hfZ h92.1) (by rw [dv_askP]; unfold dv_askP3; rw [if_pos ⟨c79, c85⟩]; exact h92.2)
              | exact h95 Z hfZ (by rw [dv_askP]; unfold dv_askP3; rw [if_neg (by omega)]; exact hDZ)
              | omega
      have h58 : ∀ (Z : xs_T), xs_fr dv_SA dv_FA X Z → dv_D (dv_askP1 w h st (dv_askP w h num st p) p) Z → jq_J l G mX4_askPoints (jq_R 2 0 0) jq_E0 (xs_Ye G n ad (xs_pv (fun X' => xs_fr dv_SA dv_FA X X' ∧ dv_D (dv_askP w h num st (tb_np w h)) X'))) 58 [some (.ref (ad 11)), some (.int (nI (p))), some (.long (lN (dv_ep w h p))), none, some (.int (nI (tb_at w h st p 1))), some (.int (nI (tb_at w h st p 0)))] [] n ad (xs_mem G ad Z) 0 0 := by
        intro Z hfZ hDZ
        have hK2 := dv_kfr hK hfZ
        refine jq_iload dX4_askPoints_58 rfl ?_
        refine jq_iconst (v := (nI 1)) dX4_askPoints_60 (by decide) ?_
        refine jq_neN (tgt := 77) dX4_askPoints_61 (by decide) ⟨by omega, by omega⟩ (fun c61 => ?_) (fun c61 => ?_)
        · first
            | exact h77 _ (xs_fr_tr hfZ h74.1) (by unfold dv_askP2; rw [if_pos ⟨c61, c67⟩]; exact h74.2)
            | exact h77 Z hfZ (by unfold dv_askP2; rw [if_neg (by omega)]; exact hDZ)
            | omega
        · refine jq_iload dX4_askPoints_64 rfl ?_
          refine jq_iconst (v := (nI 1)) dX4_askPoints_66 (by decide) ?_
          refine jq_neN (tgt := 77) dX4_askPoints_67 (by decide) ⟨by omega, by omega⟩ (fun c67 => ?_) (fun c67 => ?_)
          · first
              | exact h77 _ (xs_fr_tr hfZ h74.1) (by unfold dv_askP2; rw [if_pos ⟨c61, c67⟩]; exact h74.2)
              | exact h77 Z hfZ (by unfold dv_askP2; rw [if_neg (by omega)]; exact hDZ)
              | omega
          · refine jq_aload_n dX4_askPoints_70 rfl rfl ?_
            refine jq_iconst (v := (nI 4)) dX4_askPoints_71 (by decide) ?_
            refine jq_iconst (v := (nI 1)) dX4_askPoints_72 (by decide) ?_
            refine jq_lload_n dX4_askPoints_73 rfl rfl ?_
            refine xq_rV dX4_askPoints_74 kX4_136 (c_X4_want hn hT.1 hK2 hDZ (by decide) (by decide) hl) (xs_lt (by decide) hn) ⟨rfl, rfl⟩ rfl rfl (Nat.le_of_ble_eq_true rfl) ⟨⟨by decide, by decide⟩, Nat.le_refl _, Nat.le_refl _⟩ (fun X74 h74 => ?_)
            first
              | exact h77 _ (xs_fr_tr hfZ h74.1) (by unfold dv_askP2; rw [if_pos ⟨c61, c67⟩]; exact h74.2)
              | exact h77 Z hfZ (by unfold dv_askP2; rw [if_neg (by omega)]; exact hDZ)
              | omega
      refine jq_iload_n dX4_askPoints_2 rfl rfl ?_
      refine jq_aload_n dX4_askPoints_3 rfl rfl ?_
      refine xq_getR 1 fX4_22 dX4_askPoints_4 (xs_lt (by decide) hn) (by decide) ?_
      refine xq_getI fX4_92 dX4_askPoints_7 (xs_lt (by decide) hn) (by decide) hT2.2.1.2.2.2.1 ?_
      refine jq_geN (tgt := 101) dX4_askPoints_10 (by decide) ⟨by omega, by omega⟩ (fun c10 => ?_) (fun c10 => ?_)
      · exact absurd c10 (by omega)
      · refine jq_aload_n dX4_askPoints_13 rfl rfl ?_
        refine xq_getR 1 fX4_22 dX4_askPoints_14 (xs_lt (by decide) hn) (by decide) ?_
        refine xq_getR 4 fX4_95 dX4_askPoints_17 (xs_lt (by decide) hn) (by decide) ?_
        refine jq_iload_n dX4_askPoints_20 rfl rfl ?_
        refine xq_laload dX4_askPoints_21 (xs_lt (by decide) hn) rfl hi (xs_rdL he (by omega)) ?_
        refine jq_lstore_n dX4_askPoints_22 rfl (by decide) rfl rfl ?_
        refine jq_aload_n dX4_askPoints_23 rfl rfl ?_
        refine xq_getL fX4_26 dX4_askPoints_24 (xs_lt (by decide) hn) (by decide) hK2.1 ?_
        refine jq_lload_n dX4_askPoints_27 rfl rfl ?_
        refine jq_land dX4_askPoints_28 ?_
        rw [wb_and (by omega) (by omega)]
        refine xq_sI dX4_askPoints_29 kX4_86 (c_bitCount (Nat.lt_trans (dv_and_lt hL) (by decide))) rfl rfl (Nat.le_of_ble_eq_true rfl) ⟨⟨by decide, by decide⟩, Nat.le_refl _, Nat.le_refl _⟩ ?_
        rw [dv_pc hT.1, dv_deg_S]
        refine jq_istore dX4_askPoints_32 (by decide) rfl rfl ?_
        refine jq_aload_n dX4_askPoints_34 rfl rfl ?_
        refine xq_getL fX4_37 dX4_askPoints_35 (xs_lt (by decide) hn) (by decide) hK2.2 ?_
        refine jq_lload_n dX4_askPoints_38 rfl rfl ?_
        refine jq_land dX4_askPoints_39 ?_
        rw [wb_and (by omega) (by omega)]
        refine xq_sI dX4_askPoints_40 kX4_86 (c_bitCount (Nat.lt_trans (dv_and_lt hU) (by decide))) rfl rfl (Nat.le_of_ble_eq_true rfl) ⟨⟨by decide, by decide⟩, Nat.le_refl _, Nat.le_refl _⟩ ?_
        rw [dv_pc hT.1, dv_deg_S]
        refine jq_istore dX4_askPoints_43 (by decide) rfl rfl ?_
        refine jq_iload dX4_askPoints_45 rfl ?_
        refine jq_iconst (v := (nI 2)) dX4_askPoints_47 (by decide) ?_
        refine jq_neN (tgt := 58) dX4_askPoints_48 (by decide) ⟨by omega, by omega⟩ (fun c48 => ?_) (fun c48 => ?_)
        · first
            | exact h58 _ (xs_fr_tr hf h55.1) (by unfold dv_askP1; rw [if_pos c48]; exact h55.2)
            | exact h58 Y hf (by unfold dv_askP1; rw [if_neg c48]; exact hD)
            | omega
        · refine jq_aload_n dX4_askPoints_51 rfl rfl ?_
          refine jq_iconst (v := (nI 3)) dX4_askPoints_52 (by decide) ?_
          refine jq_iconst (v := (nI 2)) dX4_askPoints_53 (by decide) ?_
          refine jq_lload_n dX4_askPoints_54 rfl rfl ?_
          refine xq_rV dX4_askPoints_55 kX4_136 (c_X4_want hn hT.1 hK2 hD (by decide) (by decide) hl) (xs_lt (by decide) hn) ⟨rfl, rfl⟩ rfl rfl (Nat.le_of_ble_eq_true rfl) ⟨⟨by decide, by decide⟩, Nat.le_refl _, Nat.le_refl _⟩ (fun X55 h55 => ?_)
          first
            | exact h58 _ (xs_fr_tr hf h55.1) (by unfold dv_askP1; rw [if_pos c48]; exact h55.2)
            | exact h58 Y hf (by unfold dv_askP1; rw [if_neg c48]; exact hD)
            | omega
  refine xs_Ct_of (L := [some (.ref (ad 11)), none, none, none, none, none]) rfl (Nat.le_of_ble_eq_true rfl) rfl ?_
  refine jq_iconst (v := (nI 0)) dX4_askPoints_0 (by decide) ?_
  refine jq_istore_n dX4_askPoints_1 rfl (by decide) rfl rfl ?_
  exact loop (tb_np w h) 0 _ _ _ X (by omega) xs_fr_rf hD0
set_option maxHeartbeats 4000000 in
theorem c_X4_askWays {l : Launch} {G : jq_G} {n : Nat} {ad : Nat → Nat} {X : xs_T} (hn : 21 ≤ n) {w h : Nat} {num : Nat → Int32} {st : Nat → Nat} (hT : dv_T w h X) (hK : dv_K w h st X) (hN : dv_N w h num X) {D0 : dv_Wt} (hD0 : dv_D D0 X) : xs_Ct l G mX4_askWays 3 [.ref (ad 11)] n ad X (xs_pv (fun X' => xs_fr dv_SA dv_FA X X' ∧ dv_D (dv_askW w h num st 40 (dv_S w h st 1) D0) X')) := by
  have hz := tb_sizes hT.1
  have hL := dv_S_lt hT.1 st 1
  have hU := dv_S_lt hT.1 st 0
  have loop : ∀ (k m R : Nat) (o4 o6 o7 : Option Value) (D : dv_Wt) (Y : xs_T), m + k = 40 → R < 2 ^ 40 → xs_fr dv_SA dv_FA X Y → dv_D D Y → dv_askW w h num st k R D = dv_askW w h num st 40 (dv_S w h st 1) D0 → jq_J l G mX4_askWays (jq_R 3 0 0) jq_E0 (xs_Ye G n ad (xs_pv (fun X' => xs_fr dv_SA dv_FA X X' ∧ dv_D (dv_askW w h num st 40 (dv_S w h st 1) D0) X'))) 7 [some (.ref (ad 11)), some (.long (lN R)), none, some (.int (nI (m))), o4, none, o6, o7, none] [] n ad (xs_mem G ad Y) 0 0 := by
    intro k
    induction k with
    | zero =>
      intro m R o4 o6 o7 D Y hk hR hf hD hres
      refine jq_iload_n dX4_askWays_7 rfl rfl ?_
      refine jq_bipush (v := (nI 40)) dX4_askWays_8 (by decide) ?_
      refine jq_geN (tgt := 138) dX4_askWays_10 (by decide) ⟨by omega, by omega⟩ (fun c10 => ?_) (fun c10 => ?_)
      · exact xq_return rfl dX4_askWays_138 rfl (⟨rfl, hf, by rw [← hres]; exact hD⟩)
      · exact absurd c10 (by omega)
    | succ k ih =>
      intro m R o4 o6 o7 D Y hk hR hf hD hres
      have hfw := dv_fw_lt (w := w) (h := h) hR
      have hnot := dv_not hR hfw
      rw [dv_askW] at hres
      have inner : R ≠ 0 → ∀ (k2 e : Nat) (o7 : Option Value) (Y : xs_T), e + k2 = tb_ne w h → xs_fr dv_SA dv_FA X Y → dv_D (dv_askW1 w h num st (dv_fw w h R) D e) Y → jq_J l G mX4_askWays (jq_R 3 0 0) jq_E0 (xs_Ye G n ad (xs_pv (fun X' => xs_fr dv_SA dv_FA X X' ∧ dv_D (dv_askW w h num st 40 (dv_S w h st 1) D0) X'))) 41 [some (.ref (ad 11)), some (.long (lN (dv_minus R (dv_fw w h R)))), none, some (.int (nI (m))), some (.long (lN (dv_fw w h R))), none, some (.int (nI (e))), o7, none] [] n ad (xs_mem G ad Y) 0 0 := by
        intro hr0 k2
        rw [if_neg hr0] at hres
        induction k2 with
        | zero =>
          intro e o7 Y hk2 hf hD
          have hT2 := dv_fr hT hf
          have e1 : e = tb_ne w h := by omega
          subst e1
          refine jq_iload dX4_askWays_41 rfl ?_
          refine jq_aload_n dX4_askWays_43 rfl rfl ?_
          refine xq_getR 1 fX4_22 dX4_askWays_44 (xs_lt (by decide) hn) (by decide) ?_
          refine xq_getI fX4_48 dX4_askWays_47 (xs_lt (by decide) hn) (by decide) hT2.2.1.2.2.2.2.1 ?_
          refine jq_geN (tgt := 132) dX4_askWays_50 (by decide) ⟨by omega, by omega⟩ (fun c50 => ?_) (fun c50 => ?_)
          · refine jq_iincN dX4_askWays_132 (by decide) rfl rfl rfl ?_
            refine jq_goto (tgt := 7) dX4_askWays_135 (by decide) ?_
            exact ih (m + 1) _ _ _ _ _ Y (by omega) (dv_minus_lt _ _) hf hD hres
          · exact absurd c50 (by omega)
        | succ k2 ih2 =>
          intro e o7 Y hk2 hf hD
          have hT2 := dv_fr hT hf
          have hK2 := dv_kfr hK hf
          have hN2 := dv_nfr hN hf
          have he : e < tb_ne w h := by omega
          have hpe : 2 ^ e < 2 ^ 40 := Nat.pow_lt_pow_right (by decide) (by omega)
          have hcl : dv_S w h st 1 ||| 2 ^ e < 2 ^ 40 := Nat.or_lt_two_pow hL hpe
          have h126 : ∀ (Z : xs_T), xs_fr dv_SA dv_FA X Z → dv_D (dv_askW1 w h num st (dv_fw w h R) D (e + 1)) Z → jq_J l G mX4_askWays (jq_R 3 0 0) jq_E0 (xs_Ye G n ad (xs_pv (fun X' => xs_fr dv_SA dv_FA X X' ∧ dv_D (dv_askW w h num st 40 (dv_S w h st 1) D0) X'))) 126 [some (.ref (ad 11)), some (.long (lN (dv_minus R (dv_fw w h R)))), none, some (.int (nI (m))), some (.long (lN (dv_fw w h R))), none, some (.int (nI (e))), some (.long (lN (dv_S w h st 1 ||| 2 ^ e))), none] [] n ad (xs_mem G ad Z) 0 0 := by
            intro Z hfZ hDZ
            refine jq_iincN dX4_askWays_126 (by decide) rfl rfl rfl ?_
            refine jq_goto (tgt := 41) dX4_askWays_129 (by decide) ?_
            exact ih2 (e + 1) _ Z (by omega) hfZ hDZ
          have hno : ¬ (st e = 0 ∧ dv_joins w h (dv_fw w h R) e = true ∧ dv_shut w h num (dv_S w h st 1) e = false) → jq_J l G mX4_askWays (jq_R 3 0 0) jq_E0 (xs_Ye G n ad (xs_pv (fun X' => xs_fr dv_SA dv_FA X X' ∧ dv_D (dv_askW w h num st 40 (dv_S w h st 1) D0) X'))) 126 [some (.ref (ad 11)), some (.long (lN (dv_minus R (dv_fw w h R)))), none, some (.int (nI (m))), some (.long (lN (dv_fw w h R))), none, some (.int (nI (e))), some (.long (lN (dv_S w h st 1 ||| 2 ^ e))), none] [] n ad (xs_mem G ad Y) 0 0 := fun q => h126 Y hf (by rw [dv_askW1, if_neg q]; exact hD)
          have h115 : st e = 0 → dv_joins w h (dv_fw w h R) e = true → dv_shut w h num (dv_S w h st 1) e = false → jq_J l G mX4_askWays (jq_R 3 0 0) jq_E0 (xs_Ye G n ad (xs_pv (fun X' => xs_fr dv_SA dv_FA X X' ∧ dv_D (dv_askW w h num st 40 (dv_S w h st 1) D0) X'))) 115 [some (.ref (ad 11)), some (.long (lN (dv_minus R (dv_fw w h R)))), none, some (.int (nI (m))), some (.long (lN (dv_fw w h R))), none, some (.int (nI (e))), some (.long (lN (dv_S w h st 1 ||| 2 ^ e))), none] [] n ad (xs_mem G ad Y) 0 0 := by
            intro q1 q2 q3
            refine jq_aload_n dX4_askWays_115 rfl rfl ?_
            refine jq_bipush (v := (nI 6)) dX4_askWays_116 (by decide) ?_
            refine jq_iconst (v := (nI 2)) dX4_askWays_118 (by decide) ?_
            refine jq_lconst (v := (lN 1)) dX4_askWays_119 (by decide) ?_
            refine jq_iload dX4_askWays_120 rfl ?_
            refine jq_lshl dX4_askWays_122 (wb_shl 1 (show e < 64 by omega)) ?_
            rw [Nat.one_mul]
            refine xq_rV dX4_askWays_123 kX4_136 (c_X4_want hn hT.1 hK2 hD (by decide) (by decide) hpe) (xs_lt (by decide) hn) ⟨rfl, rfl⟩ rfl rfl (Nat.le_of_ble_eq_true rfl) ⟨⟨by decide, by decide⟩, Nat.le_refl _, Nat.le_refl _⟩ (fun X123 h123 => ?_)
            exact h126 _ (xs_fr_tr hf h123.1) (by rw [dv_askW1, if_pos ⟨q1, q2, q3⟩]; exact h123.2)
          refine jq_iload dX4_askWays_41 rfl ?_
          refine jq_aload_n dX4_askWays_43 rfl rfl ?_
          refine xq_getR 1 fX4_22 dX4_askWays_44 (xs_lt (by decide) hn) (by decide) ?_
          refine xq_getI fX4_48 dX4_askWays_47 (xs_lt (by decide) hn) (by decide) hT2.2.1.2.2.2.2.1 ?_
          refine jq_geN (tgt := 132) dX4_askWays_50 (by decide) ⟨by omega, by omega⟩ (fun c50 => ?_) (fun c50 => ?_)
          · exact absurd c50 (by omega)
          · refine jq_aload_n dX4_askWays_53 rfl rfl ?_
            refine xq_getL fX4_26 dX4_askWays_54 (xs_lt (by decide) hn) (by decide) hK2.1 ?_
            refine jq_lconst (v := (lN 1)) dX4_askWays_57 (by decide) ?_
            refine jq_iload dX4_askWays_58 rfl ?_
            refine jq_lshl dX4_askWays_60 (wb_shl 1 (show e < 64 by omega)) ?_
            rw [Nat.one_mul]
            refine jq_lor dX4_askWays_61 ?_
            rw [wb_or (by omega) (by omega)]
            refine jq_lstore dX4_askWays_62 (by decide) rfl rfl ?_
            refine jq_aload_n dX4_askWays_64 rfl rfl ?_
            refine xq_getL fX4_37 dX4_askWays_65 (xs_lt (by decide) hn) (by decide) hK2.2 ?_
            refine jq_iload dX4_askWays_68 rfl ?_
            refine xq_sI dX4_askWays_70 kX4_51 (c_X5_has (by omega) (by omega)) rfl rfl (Nat.le_of_ble_eq_true rfl) ⟨⟨by decide, by decide⟩, Nat.le_refl _, Nat.le_refl _⟩ ?_
            rw [dv_S_bit he]
            refine jq_if_eq (tgt := 126) dX4_askWays_73 (by decide) (fun c73 => ?_) (fun c73 => ?_)
            · have d73 : st e ≠ 0 := by simpa using tb_b0.mp c73
              first
                | exact hno (fun q => d73 q.1)
                | exact hno (fun q => absurd (d87.symm.trans q.2.1) (by decide))
                | exact hno (fun q => by have z := q.2.2; unfold dv_shut at z; rw [d99, d112] at z; cases z)
            · have d73 : st e = 0 := by simpa using tb_b1.mp c73
              refine jq_aload_n dX4_askWays_76 rfl rfl ?_
              refine xq_getR 1 fX4_22 dX4_askWays_77 (xs_lt (by decide) hn) (by decide) ?_
              refine jq_lload dX4_askWays_80 rfl ?_
              refine jq_iload dX4_askWays_82 rfl ?_
              refine xq_vI dX4_askWays_84 kX4_140 (c_X0_joinsPointsOf hn hT2 hfw he) (xs_lt (by decide) hn) ⟨rfl, rfl⟩ rfl rfl (Nat.le_of_ble_eq_true rfl) ⟨⟨by decide, by decide⟩, Nat.le_refl _, Nat.le_refl _⟩ ?_
              refine jq_if_eq (tgt := 126) dX4_askWays_87 (by decide) (fun c87 => ?_) (fun c87 => ?_)
              · have d87 : dv_joins w h (dv_fw w h R) e = false := tb_b0.mp c87
                first
                  | exact hno (fun q => d73 q.1)
                  | exact hno (fun q => absurd (d87.symm.trans q.2.1) (by decide))
                  | exact hno (fun q => by have z := q.2.2; unfold dv_shut at z; rw [d99, d112] at z; cases z)
              · have d87 : dv_joins w h (dv_fw w h R) e = true := tb_b1.mp c87
                refine jq_aload_n dX4_askWays_90 rfl rfl ?_
                refine xq_getR 1 fX4_22 dX4_askWays_91 (xs_lt (by decide) hn) (by decide) ?_
                refine jq_lload dX4_askWays_94 rfl ?_
                refine xq_vI dX4_askWays_96 kX4_105 (c_X0_isLoop hn hT2 hcl) (xs_lt (by decide) hn) ⟨rfl, rfl⟩ rfl rfl (Nat.le_of_ble_eq_true rfl) ⟨⟨by decide, by decide⟩, Nat.le_refl _, Nat.le_refl _⟩ ?_
                refine jq_if_eq (tgt := 115) dX4_askWays_99 (by decide) (fun c99 => ?_) (fun c99 => ?_)
                · have d99 := tb_b0.mp c99
                  exact h115 d73 d87 (by unfold dv_shut; first | (rw [d99]; rfl) | (rw [d112, Bool.and_false]))
                · have d99 := tb_b1.mp c99
                  refine jq_aload_n dX4_askWays_102 rfl rfl ?_
                  refine xq_getR 1 fX4_22 dX4_askWays_103 (xs_lt (by decide) hn) (by decide) ?_
                  refine jq_lload dX4_askWays_106 rfl ?_
                  refine jq_iconst (v := (-1)) dX4_askWays_108 (by decide) ?_
                  refine xq_vI dX4_askWays_109 kX4_109 (c_X0_numbersAreRight hn hT2 hN2 hcl (-1)) (xs_lt (by decide) hn) ⟨rfl, rfl⟩ rfl rfl (Nat.le_of_ble_eq_true rfl) ⟨⟨by decide, by decide⟩, Nat.le_refl _, Nat.le_refl _⟩ ?_
                  refine jq_if_ne (tgt := 126) dX4_askWays_112 (by decide) (fun c112 => ?_) (fun c112 => ?_)
                  · have d112 := tb_b1.mp c112
                    first
                      | exact hno (fun q => d73 q.1)
                      | exact hno (fun q => absurd (d87.symm.trans q.2.1) (by decide))
                      | exact hno (fun q => by have z := q.2.2; unfold dv_shut at z; rw [d99, d112] at z; cases z)
                  · have d112 := tb_b0.mp c112
                    exact h115 d73 d87 (by unfold dv_shut; first | (rw [d99]; rfl) | (rw [d112, Bool.and_false]))
      have h0 : R = 0 → dv_D (dv_askW w h num st 40 (dv_S w h st 1) D0) Y := fun q => by rw [← hres, if_pos q]; exact hD
      have hK2 := dv_kfr hK hf
      have hT2 := dv_fr hT hf
      refine jq_iload_n dX4_askWays_7 rfl rfl ?_
      refine jq_bipush (v := (nI 40)) dX4_askWays_8 (by decide) ?_
      refine jq_geN (tgt := 138) dX4_askWays_10 (by decide) ⟨by omega, by omega⟩ (fun c10 => ?_) (fun c10 => ?_)
      · exact absurd c10 (by omega)
      · refine jq_lload_n dX4_askWays_13 rfl rfl ?_
        refine jq_lconst (v := 0) dX4_askWays_14 (by decide) ?_
        refine jq_lcmp dX4_askWays_15 ?_
        refine jq_if_eq (tgt := 138) dX4_askWays_16 (by decide) (fun c16 => ?_) (fun c16 => ?_)
        · have d16 := (lN_eq0 (by omega)).mp c16
          exact xq_return rfl dX4_askWays_138 rfl (⟨rfl, hf, h0 d16⟩)
        · have d16 : R ≠ 0 := fun q => c16 ((lN_eq0 (by omega)).mpr q)
          refine jq_aload_n dX4_askWays_19 rfl rfl ?_
          refine xq_getR 1 fX4_22 dX4_askWays_20 (xs_lt (by decide) hn) (by decide) ?_
          refine jq_lload_n dX4_askWays_23 rfl rfl ?_
          refine xq_vL dX4_askWays_24 kX4_101 (c_X0_firstWay hn hT2 hR) (xs_lt (by decide) hn) ⟨rfl, rfl⟩ rfl rfl (Nat.le_of_ble_eq_true rfl) ⟨⟨by decide, by decide⟩, Nat.le_refl _, Nat.le_refl _⟩ ?_
          refine jq_lstore dX4_askWays_27 (by decide) rfl rfl ?_
          refine jq_lload_n dX4_askWays_29 rfl rfl ?_
          refine jq_lload dX4_askWays_30 rfl ?_
          refine jq_ldc2 dX4_askWays_32 vX4_35 ?_
          refine jq_lxor dX4_askWays_35 ?_
          refine jq_land dX4_askWays_36 ?_
          rw [hnot]
          refine jq_lstore_n dX4_askWays_37 rfl (by decide) rfl rfl ?_
          refine jq_iconst (v := (nI 0)) dX4_askWays_38 (by decide) ?_
          refine jq_istore dX4_askWays_39 (by decide) rfl rfl ?_
          exact inner d16 (tb_ne w h) 0 _ Y (by omega) hf hD
  have hK2 := hK
  refine xs_Ct_of (L := [some (.ref (ad 11)), none, none, none, none, none, none, none, none]) rfl (Nat.le_of_ble_eq_true rfl) rfl ?_
  refine jq_aload_n dX4_askWays_0 rfl rfl ?_
  refine xq_getL fX4_26 dX4_askWays_1 (xs_lt (by decide) hn) (by decide) hK2.1 ?_
  refine jq_lstore_n dX4_askWays_4 rfl (by decide) rfl rfl ?_
  refine jq_iconst (v := (nI 0)) dX4_askWays_5 (by decide) ?_
  refine jq_istore_n dX4_askWays_6 rfl (by decide) rfl rfl ?_
  exact loop 40 0 _ _ _ _ D0 X (by omega) hL xs_fr_rf hD0 rfl
set_option maxHeartbeats 4000000 in
theorem c_X4_askColours {l : Launch} {G : jq_G} {n : Nat} {ad : Nat → Nat} {X : xs_T} (hn : 21 ≤ n) {w h : Nat} {st : Nat → Nat} (hT : dv_T w h X) (hK : dv_K w h st X) (hC : dv_C w h st (tb_ne w h) X) {D0 : dv_Wt} (hD0 : dv_D D0 X) : xs_Ct l G mX4_askColours 2 [.ref (ad 11)] n ad X (xs_pv (fun X' => xs_fr dv_SA dv_FA X X' ∧ dv_D (dv_askE w h st D0 (tb_ne w h)) X')) := by
  have hz := tb_sizes hT.1
  have loop : ∀ (k e : Nat) (o2 o3 : Option Value) (Y : xs_T), e + k = tb_ne w h → xs_fr dv_SA dv_FA X Y → dv_D (dv_askE w h st D0 e) Y → jq_J l G mX4_askColours (jq_R 2 0 0) jq_E0 (xs_Ye G n ad (xs_pv (fun X' => xs_fr dv_SA dv_FA X X' ∧ dv_D (dv_askE w h st D0 (tb_ne w h)) X'))) 2 [some (.ref (ad 11)), some (.int (nI (e))), o2, o3] [] n ad (xs_mem G ad Y) 0 0 := by
    intro k
    induction k with
    | zero =>
      intro e o2 o3 Y hk hf hD
      have hT2 := dv_fr hT hf
      have e1 : e = tb_ne w h := by omega
      subst e1
      refine jq_iload_n dX4_askColours_2 rfl rfl ?_
      refine jq_aload_n dX4_askColours_3 rfl rfl ?_
      refine xq_getR 1 fX4_22 dX4_askColours_4 (xs_lt (by decide) hn) (by decide) ?_
      refine xq_getI fX4_48 dX4_askColours_7 (xs_lt (by decide) hn) (by decide) hT2.2.1.2.2.2.2.1 ?_
      refine jq_geN (tgt := 77) dX4_askColours_10 (by decide) ⟨by omega, by omega⟩ (fun c10 => ?_) (fun c10 => ?_)
      · exact xq_return rfl dX4_askColours_77 rfl (⟨rfl, hf, hD⟩)
      · exact absurd c10 (by omega)
    | succ k ih =>
      intro e o2 o3 Y hk hf hD
      have hT2 := dv_fr hT hf
      have hK2 := dv_kfr hK hf
      have hC2 := dv_cfr hC hf
      have he : e < tb_ne w h := by omega
      have hi : vp_in (nI e) 40 := vp_inN (by omega) (by decide)
      have hb := tb_ends hT.1 e he
      have h1 := hT2.2.2.1 e he
      have hpe : 2 ^ e < 2 ^ 40 := Nat.pow_lt_pow_right (by decide) (by omega)
      have h71 : ∀ (Z : xs_T), xs_fr dv_SA dv_FA X Z → dv_D (dv_askE w h st D0 (e + 1)) Z → jq_J l G mX4_askColours (jq_R 2 0 0) jq_E0 (xs_Ye G n ad (xs_pv (fun X' => xs_fr dv_SA dv_FA X X' ∧ dv_D (dv_askE w h st D0 (tb_ne w h)) X'))) 71 [some (.ref (ad 11)), some (.int (nI (e))), some (.int (nI (tb_are w h e))), some (.int (nI (tb_bes w h e)))] [] n ad (xs_mem G ad Z) 0 0 := by
        intro Z hfZ hDZ
        refine jq_iincN dX4_askColours_71 (by decide) rfl rfl rfl ?_
        refine jq_goto (tgt := 2) dX4_askColours_74 (by decide) ?_
        exact ih (e + 1) _ _ Z (by omega) hfZ hDZ
      have h65 : (tb_chE w h st).1 (tb_are w h e) = (tb_chE w h st).1 (tb_bes w h e) → ∀ v : Nat, v = (if (tb_chE w h st).2.1 (tb_are w h e) = (tb_chE w h st).2.1 (tb_bes w h e) then 2 else 1) → jq_J l G mX4_askColours (jq_R 2 0 0) jq_E0 (xs_Ye G n ad (xs_pv (fun X' => xs_fr dv_SA dv_FA X X' ∧ dv_D (dv_askE w h st D0 (tb_ne w h)) X'))) 65 [some (.ref (ad 11)), some (.int (nI (e))), some (.int (nI (tb_are w h e))), some (.int (nI (tb_bes w h e)))] [.int (nI (v)), .int (nI (7)), .ref (ad 11)] n ad (xs_mem G ad Y) 0 0 := by
        intro q v hv
        have hv3 : v < 2 ^ 31 := by rw [hv]; split <;> decide
        refine jq_lconst (v := (lN 1)) dX4_askColours_65 (by decide) ?_
        refine jq_iload_n dX4_askColours_66 rfl rfl ?_
        refine jq_lshl dX4_askColours_67 (wb_shl 1 (show e < 64 by omega)) ?_
        rw [Nat.one_mul]
        refine xq_rV dX4_askColours_68 kX4_136 (c_X4_want hn hT.1 hK2 hD (by decide) hv3 hpe) (xs_lt (by decide) hn) ⟨rfl, rfl⟩ rfl rfl (Nat.le_of_ble_eq_true rfl) ⟨⟨by decide, by decide⟩, Nat.le_refl _, Nat.le_refl _⟩ (fun X68 h68 => ?_)
        exact h71 _ (xs_fr_tr hf h68.1) (by rw [dv_askE, if_pos q, ← hv]; exact h68.2)
      refine jq_iload_n dX4_askColours_2 rfl rfl ?_
      refine jq_aload_n dX4_askColours_3 rfl rfl ?_
      refine xq_getR 1 fX4_22 dX4_askColours_4 (xs_lt (by decide) hn) (by decide) ?_
      refine xq_getI fX4_48 dX4_askColours_7 (xs_lt (by decide) hn) (by decide) hT2.2.1.2.2.2.2.1 ?_
      refine jq_geN (tgt := 77) dX4_askColours_10 (by decide) ⟨by omega, by omega⟩ (fun c10 => ?_) (fun c10 => ?_)
      · exact absurd c10 (by omega)
      · refine jq_aload_n dX4_askColours_13 rfl rfl ?_
        refine xq_getR 1 fX4_22 dX4_askColours_14 (xs_lt (by decide) hn) (by decide) ?_
        refine xq_getR 7 fX4_55 dX4_askColours_17 (xs_lt (by decide) hn) (by decide) ?_
        refine jq_iload_n dX4_askColours_20 rfl rfl ?_
        refine xq_iaload dX4_askColours_21 (xs_lt (by decide) hn) rfl hi (xs_rd h1.2.2.1 (by omega)) ?_
        refine jq_istore_n dX4_askColours_22 rfl (by decide) rfl rfl ?_
        refine jq_aload_n dX4_askColours_23 rfl rfl ?_
        refine xq_getR 1 fX4_22 dX4_askColours_24 (xs_lt (by decide) hn) (by decide) ?_
        refine xq_getR 8 fX4_59 dX4_askColours_27 (xs_lt (by decide) hn) (by decide) ?_
        refine jq_iload_n dX4_askColours_30 rfl rfl ?_
        refine xq_iaload dX4_askColours_31 (xs_lt (by decide) hn) rfl hi (xs_rd h1.2.2.2 (by omega)) ?_
        refine jq_istore_n dX4_askColours_32 rfl (by decide) rfl rfl ?_
        refine jq_aload_n dX4_askColours_33 rfl rfl ?_
        refine xq_getR 12 fX4_12 dX4_askColours_34 (xs_lt (by decide) hn) (by decide) ?_
        refine jq_iload_n dX4_askColours_37 rfl rfl ?_
        refine jq_iload_n dX4_askColours_38 rfl rfl ?_
        refine xq_vI dX4_askColours_39 kX4_143 (c_X1_areJoined hn hT.1 (Nat.le_refl _) hC2 hb.2.2.2.1 hb.2.2.2.2) (xs_lt (by decide) hn) ⟨rfl, rfl⟩ rfl rfl (Nat.le_of_ble_eq_true rfl) ⟨⟨by decide, by decide⟩, Nat.le_refl _, Nat.le_refl _⟩ ?_
        refine jq_if_eq (tgt := 71) dX4_askColours_42 (by decide) (fun c42 => ?_) (fun c42 => ?_)
        · have d42 : ¬ (tb_chE w h st).1 (tb_are w h e) = (tb_chE w h st).1 (tb_bes w h e) := by simpa [tb_chE] using tb_b0.mp c42
          exact h71 Y hf (by rw [dv_askE, if_neg d42]; exact hD)
        · have d42 : (tb_chE w h st).1 (tb_are w h e) = (tb_chE w h st).1 (tb_bes w h e) := eq_of_beq (tb_b1.mp c42)
          refine jq_aload_n dX4_askColours_45 rfl rfl ?_
          refine jq_bipush (v := (nI 7)) dX4_askColours_46 (by decide) ?_
          refine jq_aload_n dX4_askColours_48 rfl rfl ?_
          refine xq_getR 12 fX4_12 dX4_askColours_49 (xs_lt (by decide) hn) (by decide) ?_
          refine jq_iload_n dX4_askColours_52 rfl rfl ?_
          refine jq_iload_n dX4_askColours_53 rfl rfl ?_
          refine xq_vI dX4_askColours_54 kX4_147 (c_X1_differ hn hT.1 hC2 hb.2.2.2.1 hb.2.2.2.2) (xs_lt (by decide) hn) ⟨rfl, rfl⟩ rfl rfl (Nat.le_of_ble_eq_true rfl) ⟨⟨by decide, by decide⟩, Nat.le_refl _, Nat.le_refl _⟩ ?_
          refine jq_if_eq (tgt := 64) dX4_askColours_57 (by decide) (fun c57 => ?_) (fun c57 => ?_)
          · have d57 : (tb_chE w h st).2.1 (tb_are w h e) = (tb_chE w h st).2.1 (tb_bes w h e) := by simpa [tb_chE] using tb_b0.mp c57
            refine jq_iconst (v := (nI 2)) dX4_askColours_64 (by decide) ?_
            exact h65 d42 _ (by first | exact (if_pos d57).symm | exact (if_neg d57).symm | omega)
          · have d57 : ¬ (tb_chE w h st).2.1 (tb_are w h e) = (tb_chE w h st).2.1 (tb_bes w h e) := by simpa [tb_chE] using tb_b1.mp c57
            refine jq_iconst (v := (nI 1)) dX4_askColours_60 (by decide) ?_
            refine jq_goto (tgt := 65) dX4_askColours_61 (by decide) ?_
            exact h65 d42 _ (by first | exact (if_pos d57).symm | exact (if_neg d57).symm | omega)
  refine xs_Ct_of (L := [some (.ref (ad 11)), none, none, none]) rfl (Nat.le_of_ble_eq_true rfl) rfl ?_
  refine jq_iconst (v := (nI 0)) dX4_askColours_0 (by decide) ?_
  refine jq_istore_n dX4_askColours_1 rfl (by decide) rfl rfl ?_
  exact loop (tb_ne w h) 0 _ _ X (by omega) xs_fr_rf hD0
set_option maxHeartbeats 4000000 in
theorem c_X4_askRules {l : Launch} {G : jq_G} {n : Nat} {ad : Nat → Nat} {X : xs_T} (hn : 21 ≤ n) {w h : Nat} {num : Nat → Int32} {st : Nat → Nat} (hT : dv_T w h X) (hK : dv_K w h st X) (hN : dv_N w h num X) (hC : dv_C w h st (tb_ne w h) X) : xs_Ct l G mX4_askRules 4 [.ref (ad 11)] n ad X (xs_pv (fun X' => xs_fr dv_SA dv_FA X X' ∧ dv_D (dv_asks w h num st) X')) := by
  refine xs_Ct_of (L := [some (.ref (ad 11))]) rfl (Nat.le_of_ble_eq_true rfl) rfl ?_
  refine jq_aload_n dX4_askRules_0 rfl rfl ?_
  refine xq_getR 15 fX4_18 dX4_askRules_1 (xs_lt (by decide) hn) (by decide) ?_
  refine jq_lconst (v := (lN 0)) dX4_askRules_4 (by decide) ?_
  refine xq_rSV dX4_askRules_5 kX4_112 (c_fillL_15 hn (lN 0)) rfl rfl (Nat.le_of_ble_eq_true rfl) ⟨⟨by decide, by decide⟩, Nat.le_refl _, Nat.le_refl _⟩ (fun X5 h5 => ?_)
  refine jq_aload_n dX4_askRules_8 rfl rfl ?_
  refine jq_lconst (v := (lN 0)) dX4_askRules_9 (by decide) ?_
  refine xq_putL pX4_118 dX4_askRules_10 (xs_lt (by decide) hn) (by decide) ?_
  refine jq_aload_n dX4_askRules_13 rfl rfl ?_
  refine jq_lconst (v := (lN 0)) dX4_askRules_14 (by decide) ?_
  refine xq_putL pX4_121 dX4_askRules_15 (xs_lt (by decide) hn) (by decide) ?_
  have hf1 : xs_fr dv_SA dv_FA X (xs_sl (xs_sl X5 11 5 (lN 0)) 11 6 (lN 0)) := xs_fr_sl (xs_fr_sl (xs_fr_mo h5.1 (by decide)) (by decide)) (by decide)
  have hD1 : dv_D (dv_askC w h num st 0) (xs_sl (xs_sl X5 11 5 (lN 0)) 11 6 (lN 0)) := ⟨fun r hr => ⟨h5.2 r hr, show 0 < 2 ^ 40 by decide⟩, ⟨(xs_sl_ne (by decide)).trans xs_sl_at, show 0 < 2 ^ 40 by decide⟩, ⟨xs_sl_at, show 0 < 2 ^ 40 by decide⟩⟩
  refine jq_aload_n dX4_askRules_18 rfl rfl ?_
  refine xq_rV dX4_askRules_19 kX4_124 (c_X4_askCells hn (dv_fr hT hf1) (dv_kfr hK hf1) (dv_nfr hN hf1) hD1) (xs_lt (by decide) hn) ⟨rfl, rfl⟩ rfl rfl (Nat.le_of_ble_eq_true rfl) ⟨⟨by decide, by decide⟩, Nat.le_refl _, Nat.le_refl _⟩ (fun X19 h19 => ?_)
  have hf2 := xs_fr_tr hf1 h19.1
  refine jq_aload_n dX4_askRules_22 rfl rfl ?_
  refine xq_rV dX4_askRules_23 kX4_127 (c_X4_askPoints (num := num) hn (dv_fr hT hf2) (dv_kfr hK hf2) h19.2) (xs_lt (by decide) hn) ⟨rfl, rfl⟩ rfl rfl (Nat.le_of_ble_eq_true rfl) ⟨⟨by decide, by decide⟩, Nat.le_refl _, Nat.le_refl _⟩ (fun X23 h23 => ?_)
  have hf3 := xs_fr_tr hf2 h23.1
  refine jq_aload_n dX4_askRules_26 rfl rfl ?_
  refine xq_rV dX4_askRules_27 kX4_130 (c_X4_askWays hn (dv_fr hT hf3) (dv_kfr hK hf3) (dv_nfr hN hf3) h23.2) (xs_lt (by decide) hn) ⟨rfl, rfl⟩ rfl rfl (Nat.le_of_ble_eq_true rfl) ⟨⟨by decide, by decide⟩, Nat.le_refl _, Nat.le_refl _⟩ (fun X27 h27 => ?_)
  have hf4 := xs_fr_tr hf3 h27.1
  refine jq_aload_n dX4_askRules_30 rfl rfl ?_
  refine xq_rV dX4_askRules_31 kX4_133 (c_X4_askColours hn (dv_fr hT hf4) (dv_kfr hK hf4) (dv_cfr hC hf4) h27.2) (xs_lt (by decide) hn) ⟨rfl, rfl⟩ rfl rfl (Nat.le_of_ble_eq_true rfl) ⟨⟨by decide, by decide⟩, Nat.le_refl _, Nat.le_refl _⟩ (fun X31 h31 => ?_)
  have hf5 := xs_fr_tr hf4 h31.1
  exact xq_return rfl dX4_askRules_34 rfl (⟨rfl, hf5, h31.2⟩)
