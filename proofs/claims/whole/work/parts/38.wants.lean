set_option maxHeartbeats 4000000 in
theorem c_X6_brokenBy {l : Launch} {G : jq_G} {n : Nat} {ad : Nat → Nat} {X : xs_T} (hn : 39 ≤ n) {w h : Nat} {num : Nat → Int32} {st : Nat → Nat} (hT : rf_T w h X) (hS : rf_S w h st X) (hN : rf_N w h num X) : xs_Ct l G mX6_brokenBy 4 [.ref (ad 21)] n ad X (xs_pi (fun v X' => v = nI (tb_broken w h num st) ∧ xs_fr [34, 35, 36] [] X X')) := by
  have hz := tb_sizes hT.1
  have h106 : ∀ (o1 o2 : Option Value), (List.range (tb_nc w h)).any (tb_cellBad w h num st) = false → (List.range (tb_np w h)).any (tb_ptBad w h st) = false → jq_J l G mX6_brokenBy (jq_R 4 0 0) jq_E0 (xs_Ye G n ad (xs_pi (fun v X' => v = nI (tb_broken w h num st) ∧ xs_fr [34, 35, 36] [] X X'))) 106 [some (.ref (ad 21)), o1, o2] [] n ad (xs_mem G ad X) 0 0 := by
    intro o1 o2 hb1 hb2
    have hwl : tb_ways w h st ≤ 25 := Nat.le_trans (fb_ct_le _ _) (by omega)
    have key : ∀ v : Nat, v = (if (tb_hasLoop w h st && (decide (1 < tb_ways w h st) || !tb_right w h num st)) = true then 3 else if tb_fine w h st = true then 0 else 4) → v = tb_broken w h num st := by
      intro v hv
      unfold tb_broken
      rw [hb1, hb2]
      exact hv
    have h134 : ∀ (Y : xs_T), xs_fr [34, 35, 36] [] X Y → (tb_hasLoop w h st && (decide (1 < tb_ways w h st) || !tb_right w h num st)) = false → jq_J l G mX6_brokenBy (jq_R 4 0 0) jq_E0 (xs_Ye G n ad (xs_pi (fun v X' => v = nI (tb_broken w h num st) ∧ xs_fr [34, 35, 36] [] X X'))) 134 [some (.ref (ad 21)), o1, o2] [] n ad (xs_mem G ad Y) 0 0 := by
      intro Y hf hno
      have hT2 := rf_fr hT hf
      have hS2 := rf_sfr hS hf
      refine jq_aload_n dX6_brokenBy_134 rfl rfl ?_
      refine xq_rI dX6_brokenBy_135 kX6_131 (c_X6_chains hn hT2 hS2) (xs_lt (by decide) hn) ⟨rfl, rfl⟩ rfl rfl (Nat.le_of_ble_eq_true rfl) ⟨⟨by decide, by decide⟩, Nat.le_refl _, Nat.le_refl _⟩ (fun v135 X135 h135 => ?_)
      obtain ⟨rfl, hf3, -⟩ := h135
      refine jq_if_eq (tgt := 145) dX6_brokenBy_138 (by decide) (fun c138 => ?_) (fun c138 => ?_)
      · have hfi := tb_b0.mp c138
        refine jq_iconst (v := (nI 4)) dX6_brokenBy_145 (by decide) ?_
        exact xq_ireturn dX6_brokenBy_146 rfl rfl (⟨_, rfl, congrArg nI (key _ (by rw [hno, hfi]; rfl)), xs_fr_tr hf (xs_fr_mo hf3 (by decide))⟩)
      · have hfi := tb_b1.mp c138
        refine jq_iconst (v := (nI 0)) dX6_brokenBy_141 (by decide) ?_
        refine jq_goto (tgt := 146) dX6_brokenBy_142 (by decide) ?_
        exact xq_ireturn dX6_brokenBy_146 rfl rfl (⟨_, rfl, congrArg nI (key _ (by rw [hno, hfi]; rfl)), xs_fr_tr hf (xs_fr_mo hf3 (by decide))⟩)
    refine jq_aload_n dX6_brokenBy_106 rfl rfl ?_
    refine xq_rV dX6_brokenBy_107 kX6_121 (c_X6_labels hn hT hS) (xs_lt (by decide) hn) ⟨rfl, rfl⟩ rfl rfl (Nat.le_of_ble_eq_true rfl) ⟨⟨by decide, by decide⟩, Nat.le_refl _, Nat.le_refl _⟩ (fun X107 h107 => ?_)
    obtain ⟨hf, hL⟩ := h107
    have hT1 := rf_fr hT hf
    have hS1 := rf_sfr hS hf
    have hN1 := rf_nfr hN hf
    have hfm := xs_fr_mo (S' := [34, 35, 36]) (F' := []) hf (by decide)
    refine jq_aload_n dX6_brokenBy_110 rfl rfl ?_
    refine xq_vI dX6_brokenBy_111 kX6_124 (c_X6_hasLoop hn hT1 hS1 hL) (xs_lt (by decide) hn) ⟨rfl, rfl⟩ rfl rfl (Nat.le_of_ble_eq_true rfl) ⟨⟨by decide, by decide⟩, Nat.le_refl _, Nat.le_refl _⟩ ?_
    refine jq_if_eq (tgt := 134) dX6_brokenBy_114 (by decide) (fun c114 => ?_) (fun c114 => ?_)
    · have hlo := tb_b0.mp c114
      exact h134 _ hfm (by simp [*])
    · have hlo := tb_b1.mp c114
      refine jq_aload_n dX6_brokenBy_117 rfl rfl ?_
      refine xq_vI dX6_brokenBy_118 kX6_117 (c_X6_waysOf hn hT1 hS1 hL) (xs_lt (by decide) hn) ⟨rfl, rfl⟩ rfl rfl (Nat.le_of_ble_eq_true rfl) ⟨⟨by decide, by decide⟩, Nat.le_refl _, Nat.le_refl _⟩ ?_
      refine jq_iconst (v := (nI 1)) dX6_brokenBy_121 (by decide) ?_
      refine jq_gtN (tgt := 132) dX6_brokenBy_122 (by decide) ⟨by omega, by omega⟩ (fun c122 => ?_) (fun c122 => ?_)
      · refine jq_iconst (v := (nI 3)) dX6_brokenBy_132 (by decide) ?_
        exact xq_ireturn dX6_brokenBy_133 rfl rfl (⟨_, rfl, congrArg nI (key 3 (by rw [if_pos]; simp [*])), hfm⟩)
      · refine jq_aload_n dX6_brokenBy_125 rfl rfl ?_
        refine xq_vI dX6_brokenBy_126 kX6_128 (c_X6_areRight hn hT1 hS1 hN1) (xs_lt (by decide) hn) ⟨rfl, rfl⟩ rfl rfl (Nat.le_of_ble_eq_true rfl) ⟨⟨by decide, by decide⟩, Nat.le_refl _, Nat.le_refl _⟩ ?_
        refine jq_if_ne (tgt := 134) dX6_brokenBy_129 (by decide) (fun c129 => ?_) (fun c129 => ?_)
        · have hri := tb_b1.mp c129
          exact h134 _ hfm (by simp [*])
        · have hri := tb_b0.mp c129
          refine jq_iconst (v := (nI 3)) dX6_brokenBy_132 (by decide) ?_
          exact xq_ireturn dX6_brokenBy_133 rfl rfl (⟨_, rfl, congrArg nI (key 3 (by rw [if_pos]; simp [*])), hfm⟩)
  have loop2 : ∀ (k p : Nat) (o2 : Option Value), p + k = tb_np w h → (List.range (tb_nc w h)).any (tb_cellBad w h num st) = false → (∀ j, j < p → tb_ptBad w h st j = false) → jq_J l G mX6_brokenBy (jq_R 4 0 0) jq_E0 (xs_Ye G n ad (xs_pi (fun v X' => v = nI (tb_broken w h num st) ∧ xs_fr [34, 35, 36] [] X X'))) 64 [some (.ref (ad 21)), some (.int (nI (p))), o2] [] n ad (xs_mem G ad X) 0 0 := by
    intro k
    induction k with
    | zero =>
      intro p o2 hk hb1 hc
      refine jq_iload_n dX6_brokenBy_64 rfl rfl ?_
      refine jq_aload_n dX6_brokenBy_65 rfl rfl ?_
      refine xq_getI fX6_83 dX6_brokenBy_66 (xs_lt (by decide) hn) (by decide) hT.2.2.2.2.2.1 ?_
      refine jq_geN (tgt := 106) dX6_brokenBy_69 (by decide) ⟨by omega, by omega⟩ (fun c69 => ?_) (fun c69 => ?_)
      · exact h106 _ _ hb1 (tb_anyF (by rw [show tb_np w h = p by omega]; exact hc))
      · exact absurd c69 (by omega)
    | succ k ih =>
      intro p o2 hk hb1 hc
      have hd := tb_at_le hT.1 st p 1
      have hd0 := tb_at_le hT.1 st p 0
      refine jq_iload_n dX6_brokenBy_64 rfl rfl ?_
      refine jq_aload_n dX6_brokenBy_65 rfl rfl ?_
      refine xq_getI fX6_83 dX6_brokenBy_66 (xs_lt (by decide) hn) (by decide) hT.2.2.2.2.2.1 ?_
      refine jq_geN (tgt := 106) dX6_brokenBy_69 (by decide) ⟨by omega, by omega⟩ (fun c69 => ?_) (fun c69 => ?_)
      · exact absurd c69 (by omega)
      · refine jq_aload_n dX6_brokenBy_72 rfl rfl ?_
        refine jq_iload_n dX6_brokenBy_73 rfl rfl ?_
        refine jq_iconst (v := (nI 1)) dX6_brokenBy_74 (by decide) ?_
        refine xq_vI dX6_brokenBy_75 kX6_114 (c_X6_at hn hT hS (by omega) (by decide)) (xs_lt (by decide) hn) ⟨rfl, rfl⟩ rfl rfl (Nat.le_of_ble_eq_true rfl) ⟨⟨by decide, by decide⟩, Nat.le_refl _, Nat.le_refl _⟩ ?_
        refine jq_istore_n dX6_brokenBy_78 rfl (by decide) rfl rfl ?_
        refine jq_iload_n dX6_brokenBy_79 rfl rfl ?_
        refine jq_iconst (v := (nI 2)) dX6_brokenBy_80 (by decide) ?_
        refine jq_gtN (tgt := 98) dX6_brokenBy_81 (by decide) ⟨by omega, by omega⟩ (fun c81 => ?_) (fun c81 => ?_)
        · refine jq_iconst (v := (nI 2)) dX6_brokenBy_98 (by decide) ?_
          exact xq_ireturn dX6_brokenBy_99 rfl rfl (⟨_, rfl, congrArg nI (by unfold tb_broken; rw [hb1, tb_anyT (c := p) (by omega) (tb_ptBad_t (by omega))]; rfl), xs_fr_rf⟩)
        · refine jq_iload_n dX6_brokenBy_84 rfl rfl ?_
          refine jq_iconst (v := (nI 1)) dX6_brokenBy_85 (by decide) ?_
          refine jq_neN (tgt := 100) dX6_brokenBy_86 (by decide) ⟨by omega, by omega⟩ (fun c86 => ?_) (fun c86 => ?_)
          · refine jq_iincN dX6_brokenBy_100 (by decide) rfl rfl rfl ?_
            refine jq_goto (tgt := 64) dX6_brokenBy_103 (by decide) ?_
            refine ih (p + 1) _ (by omega) hb1 (fun j hj => ?_)
            rcases Nat.lt_or_ge j p with q | q
            · exact hc j q
            · rw [show j = p by omega]; exact tb_ptBad_f (by omega)
          · refine jq_aload_n dX6_brokenBy_89 rfl rfl ?_
            refine jq_iload_n dX6_brokenBy_90 rfl rfl ?_
            refine jq_iconst (v := (nI 0)) dX6_brokenBy_91 (by decide) ?_
            refine xq_vI dX6_brokenBy_92 kX6_114 (c_X6_at hn hT hS (by omega) (by decide)) (xs_lt (by decide) hn) ⟨rfl, rfl⟩ rfl rfl (Nat.le_of_ble_eq_true rfl) ⟨⟨by decide, by decide⟩, Nat.le_refl _, Nat.le_refl _⟩ ?_
            refine jq_neZ (tgt := 100) dX6_brokenBy_95 (by decide) (by omega) (fun c95 => ?_) (fun c95 => ?_)
            · refine jq_iincN dX6_brokenBy_100 (by decide) rfl rfl rfl ?_
              refine jq_goto (tgt := 64) dX6_brokenBy_103 (by decide) ?_
              refine ih (p + 1) _ (by omega) hb1 (fun j hj => ?_)
              rcases Nat.lt_or_ge j p with q | q
              · exact hc j q
              · rw [show j = p by omega]; exact tb_ptBad_f (by omega)
            · refine jq_iconst (v := (nI 2)) dX6_brokenBy_98 (by decide) ?_
              exact xq_ireturn dX6_brokenBy_99 rfl rfl (⟨_, rfl, congrArg nI (by unfold tb_broken; rw [hb1, tb_anyT (c := p) (by omega) (tb_ptBad_t (by omega))]; rfl), xs_fr_rf⟩)
  have loop1 : ∀ (k c : Nat) (o2 : Option Value), c + k = tb_nc w h → (∀ j, j < c → tb_cellBad w h num st j = false) → jq_J l G mX6_brokenBy (jq_R 4 0 0) jq_E0 (xs_Ye G n ad (xs_pi (fun v X' => v = nI (tb_broken w h num st) ∧ xs_fr [34, 35, 36] [] X X'))) 2 [some (.ref (ad 21)), some (.int (nI (c))), o2] [] n ad (xs_mem G ad X) 0 0 := by
    intro k
    induction k with
    | zero =>
      intro c o2 hk hc
      refine jq_iload_n dX6_brokenBy_2 rfl rfl ?_
      refine jq_aload_n dX6_brokenBy_3 rfl rfl ?_
      refine xq_getI fX6_71 dX6_brokenBy_4 (xs_lt (by decide) hn) (by decide) hT.2.2.2.1 ?_
      refine jq_geN (tgt := 62) dX6_brokenBy_7 (by decide) ⟨by omega, by omega⟩ (fun c7 => ?_) (fun c7 => ?_)
      · refine jq_iconst (v := (nI 0)) dX6_brokenBy_62 (by decide) ?_
        refine jq_istore_n dX6_brokenBy_63 rfl (by decide) rfl rfl ?_
        exact loop2 (tb_np w h) 0 _ (by omega) (tb_anyF (by rw [show tb_nc w h = c by omega]; exact hc)) (fun j hj => absurd hj (Nat.not_lt_zero j))
      · exact absurd c7 (by omega)
    | succ k ih =>
      intro c o2 hk hc
      have h3 := hN c (by omega)
      have hi : vp_in (nI c) 16 := vp_inN (by omega) (by decide)
      refine jq_iload_n dX6_brokenBy_2 rfl rfl ?_
      refine jq_aload_n dX6_brokenBy_3 rfl rfl ?_
      refine xq_getI fX6_71 dX6_brokenBy_4 (xs_lt (by decide) hn) (by decide) hT.2.2.2.1 ?_
      refine jq_geN (tgt := 62) dX6_brokenBy_7 (by decide) ⟨by omega, by omega⟩ (fun c7 => ?_) (fun c7 => ?_)
      · exact absurd c7 (by omega)
      · refine jq_aload_n dX6_brokenBy_10 rfl rfl ?_
        refine jq_iload_n dX6_brokenBy_11 rfl rfl ?_
        refine jq_iconst (v := (nI 1)) dX6_brokenBy_12 (by decide) ?_
        refine xq_vI dX6_brokenBy_13 kX6_111 (c_X6_around hn hT hS (by omega) (by decide)) (xs_lt (by decide) hn) ⟨rfl, rfl⟩ rfl rfl (Nat.le_of_ble_eq_true rfl) ⟨⟨by decide, by decide⟩, Nat.le_refl _, Nat.le_refl _⟩ ?_
        refine jq_istore_n dX6_brokenBy_16 rfl (by decide) rfl rfl ?_
        refine jq_aload_n dX6_brokenBy_17 rfl rfl ?_
        refine xq_getR 27 fX6_25 dX6_brokenBy_18 (xs_lt (by decide) hn) (by decide) ?_
        refine jq_iload_n dX6_brokenBy_21 rfl rfl ?_
        refine xq_iaload dX6_brokenBy_22 (xs_lt (by decide) hn) rfl hi (xs_rd h3 (by omega)) ?_
        refine jq_iconst (v := (-1)) dX6_brokenBy_23 (by decide) ?_
        refine jq_icmp_eq (tgt := 56) dX6_brokenBy_24 (by decide) (fun c24 => ?_) (fun c24 => ?_)
        · refine jq_iincN dX6_brokenBy_56 (by decide) rfl rfl rfl ?_
          refine jq_goto (tgt := 2) dX6_brokenBy_59 (by decide) ?_
          refine ih (c + 1) _ (by omega) (fun j hj => ?_)
          rcases Nat.lt_or_ge j c with q | q
          · exact hc j q
          · rw [show j = c by omega]; unfold tb_cellBad; first | (rw [c24]; rfl) | (rw [decide_eq_false c34, decide_eq_false (Int32.not_lt.mpr c51)]; simp)
        · refine jq_iload_n dX6_brokenBy_27 rfl rfl ?_
          refine jq_aload_n dX6_brokenBy_28 rfl rfl ?_
          refine xq_getR 27 fX6_25 dX6_brokenBy_29 (xs_lt (by decide) hn) (by decide) ?_
          refine jq_iload_n dX6_brokenBy_32 rfl rfl ?_
          refine xq_iaload dX6_brokenBy_33 (xs_lt (by decide) hn) rfl hi (xs_rd h3 (by omega)) ?_
          refine jq_icmp_gt (tgt := 54) dX6_brokenBy_34 (by decide) (fun c34 => ?_) (fun c34 => ?_)
          · refine jq_iconst (v := (nI 1)) dX6_brokenBy_54 (by decide) ?_
            exact xq_ireturn dX6_brokenBy_55 rfl rfl (⟨_, rfl, congrArg nI (by unfold tb_broken; rw [tb_anyT (c := c) (by omega) (by unfold tb_cellBad; rw [show (num c == -1) = false by simp [c24]]; first | (rw [decide_eq_true c34]; rfl) | (rw [decide_eq_true (Int32.not_le.mp c51)]; simp))]; rfl), xs_fr_rf⟩)
          · refine jq_iload_n dX6_brokenBy_37 rfl rfl ?_
            refine jq_aload_n dX6_brokenBy_38 rfl rfl ?_
            refine jq_iload_n dX6_brokenBy_39 rfl rfl ?_
            refine jq_iconst (v := (nI 0)) dX6_brokenBy_40 (by decide) ?_
            refine xq_vI dX6_brokenBy_41 kX6_111 (c_X6_around hn hT hS (by omega) (by decide)) (xs_lt (by decide) hn) ⟨rfl, rfl⟩ rfl rfl (Nat.le_of_ble_eq_true rfl) ⟨⟨by decide, by decide⟩, Nat.le_refl _, Nat.le_refl _⟩ ?_
            refine jq_iaddN dX6_brokenBy_44 ?_
            refine jq_aload_n dX6_brokenBy_45 rfl rfl ?_
            refine xq_getR 27 fX6_25 dX6_brokenBy_46 (xs_lt (by decide) hn) (by decide) ?_
            refine jq_iload_n dX6_brokenBy_49 rfl rfl ?_
            refine xq_iaload dX6_brokenBy_50 (xs_lt (by decide) hn) rfl hi (xs_rd h3 (by omega)) ?_
            refine jq_icmp_ge (tgt := 56) dX6_brokenBy_51 (by decide) (fun c51 => ?_) (fun c51 => ?_)
            · refine jq_iincN dX6_brokenBy_56 (by decide) rfl rfl rfl ?_
              refine jq_goto (tgt := 2) dX6_brokenBy_59 (by decide) ?_
              refine ih (c + 1) _ (by omega) (fun j hj => ?_)
              rcases Nat.lt_or_ge j c with q | q
              · exact hc j q
              · rw [show j = c by omega]; unfold tb_cellBad; first | (rw [c24]; rfl) | (rw [decide_eq_false c34, decide_eq_false (Int32.not_lt.mpr c51)]; simp)
            · refine jq_iconst (v := (nI 1)) dX6_brokenBy_54 (by decide) ?_
              exact xq_ireturn dX6_brokenBy_55 rfl rfl (⟨_, rfl, congrArg nI (by unfold tb_broken; rw [tb_anyT (c := c) (by omega) (by unfold tb_cellBad; rw [show (num c == -1) = false by simp [c24]]; first | (rw [decide_eq_true c34]; rfl) | (rw [decide_eq_true (Int32.not_le.mp c51)]; simp))]; rfl), xs_fr_rf⟩)
  refine xs_Ct_of (L := [some (.ref (ad 21)), none, none]) rfl (Nat.le_of_ble_eq_true rfl) rfl ?_
  refine jq_iconst (v := (nI 0)) dX6_brokenBy_0 (by decide) ?_
  refine jq_istore_n dX6_brokenBy_1 rfl (by decide) rfl rfl ?_
  exact loop1 (tb_nc w h) 0 _ (by omega) (fun j hj => absurd hj (Nat.not_lt_zero j))
set_option maxHeartbeats 4000000 in
theorem c_X6_want {l : Launch} {G : jq_G} {n : Nat} {ad : Nat → Nat} {X : xs_T} (hn : 39 ≤ n) {w h : Nat} {st : Nat → Nat} {W : tb_Wt} (hT : rf_T w h X) (hS : rf_S w h st X) (hW : rf_W w h W X) {e how b : Nat} (he : e < tb_ne w h) (hh : how ≤ 3) (hb : b ≤ 7) : xs_Ct l G mX6_want 1 [.ref (ad 21), .int (nI (e)), .int (nI (how)), .int (nI (b))] n ad X (xs_pv (fun X' => xs_fr [30, 31] [] X X' ∧ rf_W w h (tb_want st W e how b) X')) := by
  have hz := tb_sizes hT.1
  have hi : vp_in (nI e) 40 := vp_inN (by omega) (by decide)
  have h3 := hS e he
  obtain ⟨w1, w2, w3, w4⟩ := hW e he
  have hor : W.1 e ||| how ≤ 3 := by
    have := Nat.or_lt_two_pow (n := 2) (show W.1 e < 2 ^ 2 by omega) (show how < 2 ^ 2 by omega)
    omega
  have h53 : st e = 0 → ∀ v : Nat, v = (if W.2 e = 0 ∨ b < W.2 e then b else W.2 e) → jq_J l G mX6_want (jq_R 1 0 0) jq_E0 (xs_Ye G n ad (xs_pv (fun X' => xs_fr [30, 31] [] X X' ∧ rf_W w h (tb_want st W e how b) X'))) 53 [some (.ref (ad 21)), some (.int (nI (e))), some (.int (nI (how))), some (.int (nI (b)))] [.int (nI (v)), .int (nI (e)), .ref (ad 31)] n ad (xs_mem G ad (xs_ai X 30 (upd (X.2.2.1 30) (nI e).toNatClampNeg (nI (W.1 e ||| how))))) 0 0 := by
    intro hs v hv
    have hv7 : v ≤ 7 := by rw [hv]; split <;> omega
    refine xq_iastore dX6_want_53 (xs_lt (by decide) hn) rfl hi ?_
    have hfin : rf_W w h (tb_want st W e how b) (xs_ai (xs_ai X 30 (upd (X.2.2.1 30) (nI e).toNatClampNeg (nI (W.1 e ||| how)))) 31 (upd ((xs_ai X 30 (upd (X.2.2.1 30) (nI e).toNatClampNeg (nI (W.1 e ||| how)))).2.2.1 31) (nI e).toNatClampNeg (nI v))) := by
      intro j hj
      unfold tb_want
      rw [if_pos hs, xs_ai_ne (by decide), xs_ai_at, xs_ai_at, xs_ai_ne (by decide)]
      by_cases hje : j = e
      · subst hje; rw [xs_upd_at (by omega), xs_upd_at (by omega)]; simp only [if_pos]; exact ⟨trivial, by rw [hv], hor, by rw [← hv]; exact hv7⟩
      · rw [xs_upd_ne (by omega) hje, xs_upd_ne (by omega) hje]; simp only [if_neg hje]; exact hW j hj
    exact xq_return rfl dX6_want_54 rfl (⟨rfl, xs_fr_ai (xs_fr_ai xs_fr_rf (by decide)) (by decide), hfin⟩)
  refine xs_Ct_of (L := [some (.ref (ad 21)), some (.int (nI (e))), some (.int (nI (how))), some (.int (nI (b)))]) rfl (Nat.le_of_ble_eq_true rfl) rfl ?_
  refine jq_aload_n dX6_want_0 rfl rfl ?_
  refine xq_getR 29 fX6_31 dX6_want_1 (xs_lt (by decide) hn) (by decide) ?_
  refine jq_iload_n dX6_want_4 rfl rfl ?_
  refine xq_iaload dX6_want_5 (xs_lt (by decide) hn) rfl hi (xs_rd h3.1 (by omega)) ?_
  refine jq_neZ (tgt := 54) dX6_want_6 (by decide) (by omega) (fun c6 => ?_) (fun c6 => ?_)
  · exact xq_return rfl dX6_want_54 rfl (⟨rfl, xs_fr_rf, by unfold tb_want; rw [if_neg c6]; exact hW⟩)
  · refine jq_aload_n dX6_want_9 rfl rfl ?_
    refine xq_getR 30 fX6_34 dX6_want_10 (xs_lt (by decide) hn) (by decide) ?_
    refine jq_iload_n dX6_want_13 rfl rfl ?_
    refine jq_dup2 dX6_want_14 rfl rfl ?_
    refine xq_iaload dX6_want_15 (xs_lt (by decide) hn) rfl hi (xs_rd w1 (by omega)) ?_
    refine jq_iload_n dX6_want_16 rfl rfl ?_
    refine jq_ior dX6_want_17 ?_
    rw [fa_or]
    refine xq_iastore dX6_want_18 (xs_lt (by decide) hn) rfl hi ?_
    refine jq_aload_n dX6_want_19 rfl rfl ?_
    refine xq_getR 31 fX6_37 dX6_want_20 (xs_lt (by decide) hn) (by decide) ?_
    refine jq_iload_n dX6_want_23 rfl rfl ?_
    refine jq_aload_n dX6_want_24 rfl rfl ?_
    refine xq_getR 31 fX6_37 dX6_want_25 (xs_lt (by decide) hn) (by decide) ?_
    refine jq_iload_n dX6_want_28 rfl rfl ?_
    refine xq_iaload dX6_want_29 (xs_lt (by decide) hn) rfl hi (xs_rd (show (xs_ai X 30 _).2.2.1 31 e = _ from w2) (by omega)) ?_
    refine jq_eqZ (tgt := 43) dX6_want_30 (by decide) (by omega) (fun c30 => ?_) (fun c30 => ?_)
    · refine jq_iload_n dX6_want_43 rfl rfl ?_
      refine jq_goto (tgt := 53) dX6_want_44 (by decide) ?_
      exact h53 c6 _ (by first | exact (if_pos (Or.inl c30)).symm | exact (if_pos (Or.inr c40)).symm | exact (if_neg (by omega)).symm)
    · refine jq_iload_n dX6_want_33 rfl rfl ?_
      refine jq_aload_n dX6_want_34 rfl rfl ?_
      refine xq_getR 31 fX6_37 dX6_want_35 (xs_lt (by decide) hn) (by decide) ?_
      refine jq_iload_n dX6_want_38 rfl rfl ?_
      refine xq_iaload dX6_want_39 (xs_lt (by decide) hn) rfl hi (xs_rd (show (xs_ai X 30 _).2.2.1 31 e = _ from w2) (by omega)) ?_
      refine jq_geN (tgt := 47) dX6_want_40 (by decide) ⟨by omega, by omega⟩ (fun c40 => ?_) (fun c40 => ?_)
      · refine jq_aload_n dX6_want_47 rfl rfl ?_
        refine xq_getR 31 fX6_37 dX6_want_48 (xs_lt (by decide) hn) (by decide) ?_
        refine jq_iload_n dX6_want_51 rfl rfl ?_
        refine xq_iaload dX6_want_52 (xs_lt (by decide) hn) rfl hi (xs_rd (show (xs_ai X 30 _).2.2.1 31 e = _ from w2) (by omega)) ?_
        exact h53 c6 _ (by first | exact (if_pos (Or.inl c30)).symm | exact (if_pos (Or.inr c40)).symm | exact (if_neg (by omega)).symm)
      · refine jq_iload_n dX6_want_43 rfl rfl ?_
        refine jq_goto (tgt := 53) dX6_want_44 (by decide) ?_
        exact h53 c6 _ (by first | exact (if_pos (Or.inl c30)).symm | exact (if_pos (Or.inr c40)).symm | exact (if_neg (by omega)).symm)
