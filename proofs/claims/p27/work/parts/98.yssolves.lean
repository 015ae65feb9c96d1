/-! the law's solves, whole -/
theorem lk_fr5 {X : xs_T} : xs_fr [24, 25, 26, 27, 28] [(24, 0), (25, 0), (26, 0), (27, 0), (28, 0)] X (xs_nw (xs_nw (xs_nw (xs_nw (xs_nw X 24 24) 25 24) 26 24) 27 24) 28 4) :=
  xs_fr_tr (xs_fr_tr (xs_fr_tr (xs_fr_tr (xs_fr_mo xs_nw_fr (by decide)) (xs_fr_mo xs_nw_fr (by decide))) (xs_fr_mo xs_nw_fr (by decide))) (xs_fr_mo xs_nw_fr (by decide))) (xs_fr_mo xs_nw_fr (by decide))
theorem ls_new {w h : Nat} {num : Nat → Int32} {mk : Nat → Nat} {X : xs_T} (hI : lk_I w h num mk X) : ls_I w h num mk (xs_nw (xs_nw (xs_nw (xs_nw (xs_nw X 24 24) 25 24) 26 24) 27 24) 28 4) := by
  obtain ⟨hL, hA, hC, hn0⟩ := hI
  have hf := lk_fr5 (X := X)
  refine ⟨lk_up (lk_fr hL hf) (by decide), dv_afr hA hf, dv_lcfr hC hf, ⟨by decide, by decide, ?_⟩, ⟨by decide, by decide, ?_⟩, ?_, ?_, by decide, by decide, ?_⟩
  · rw [(xs_nw_fr.1 24 0 (by decide)).1, (xs_nw_fr.1 24 0 (by decide)).1, (xs_nw_fr.1 24 0 (by decide)).1, (xs_nw_fr.1 24 0 (by decide)).1, xs_nw_at]; decide
  · rw [(xs_nw_fr.1 25 0 (by decide)).1, (xs_nw_fr.1 25 0 (by decide)).1, (xs_nw_fr.1 25 0 (by decide)).1, xs_nw_at]; decide
  · rw [(xs_nw_fr.1 26 0 (by decide)).1, (xs_nw_fr.1 26 0 (by decide)).1, xs_nw_at]; decide
  · rw [(xs_nw_fr.1 27 0 (by decide)).1, xs_nw_at]; decide
  · rw [xs_nw_at]; decide
set_option maxHeartbeats 16000000 in
theorem sv_103 {l : Launch} {G : jq_G} {ad ad5 : Nat → Nat} {Y : xs_T} {w h : Nat} {num : Nat → Int32} {mk : Nat → Nat} (hl : l.stackTraces = false) (ha5 : ∀ k, k < 24 → ad5 k = ad k) (hI : ls_I w h num mk Y) (hn0 : ∀ c, c < tb_nc w h → tb_numOk (num c) = true) (y : Int32) (ii iv fr ce sl : Nat) (hii : ii < 10) (hiv : iv = (if ii < tb_nc w h then 1 else 0)) (hfr : ii < tb_nc w h → fr = tb_cnt2 w h num mk (nI ii)) (hce : ce ≤ 1080) (hsl : sl ≤ 24800) (o14 o15 o16 o17 o18 o19 o20 o21 : Option Value) : jq_J l G mL_solves (jq_R 26 1700 45000) (jx_E []) (xj_Ye G 24 ad (xs_pi (fun r X' => r = nI 1 ∧ lk_Z X')) 1700 45000) 103 [some (.ref (ad5 0)), some (.int (y)), some (.ref (ad5 21)), some (.ref (ad5 22)), some (.ref (ad5 23)), some (.ref (ad5 24)), some (.ref (ad5 25)), some (.ref (ad5 26)), some (.ref (ad5 27)), some (.ref (ad5 28)), some (.int (nI (ii))), some (.int (nI (iv))), some (.int (nI (tb_cnt2 w h num mk (-1)))), some (.int (nI (fr))), o14, o15, o16, o17, o18, o19, o20, o21] [] (29) ad5 (xs_mem G ad5 Y) (ce) (sl) := by
  have hk := hI.1.1.2.2.2
  have hz := lr_sz hk
  have hn : 21 ≤ 29 := by decide
  have hcn := tb_cnt2_le (lr_W hk) num mk (-1)
  have hnum := lk_nums hn0
  by_cases hin : ii < tb_nc w h
  · rw [if_pos hin] at hiv
    subst hiv
    have hf2 := hfr hin
    have hfl : fr ≤ 9349 := by rw [hf2]; exact tb_cnt2_le (lr_W hk) num mk (nI ii)
    have hi : vp_in (nI ii) 9 := vp_inN (by omega) (by decide)
    refine jq_aload_n dL_solves_103 rfl rfl ?_
    refine xq_rI dL_solves_104 kL_189 (c_X5_answers hn hI.2.1 hI.2.2.1) (xs_lt (by decide) hn) ⟨rfl, rfl⟩ rfl rfl (Nat.le_of_ble_eq_true rfl) (⟨⟨by decide, by decide⟩, by show _ ≤ 1700; omega, by show _ ≤ 45000; omega⟩) (fun v104 X104 h104 => ?_)
    obtain ⟨r104, f104, l104⟩ := h104
    have hI1 := ls_frL hI f104 l104
    refine jq_iload dL_solves_107 rfl ?_
    refine jq_icmp_ne (tgt := 152) dL_solves_109 (by decide) (fun c109 => ?_) (fun c109 => ?_)
    · exact absurd r104 c109
    · refine jq_aload_n dL_solves_112 rfl rfl ?_
      refine jq_iconst (v := (nI 4)) dL_solves_113 (by decide) ?_
      refine jq_iload dL_solves_114 rfl ?_
      refine jq_iconst (v := (nI 0)) dL_solves_116 (by decide) ?_
      refine xx_sI (M' := mL_of) (hh := hL_of) (na := 4) jx_E_ok dL_solves_117 gL_156 ⟨by decide, by decide, by decide +kernel⟩ (c_L_of4_ok hn hI1.2.1 hI1.2.2.1 hin (nI 0)) rfl rfl (Nat.le_of_ble_eq_true rfl) (⟨⟨by decide, by decide⟩, by show _ ≤ 1700; omega, by show _ ≤ 45000; omega⟩) (fun v117 X117 h117 => ?_)
      obtain ⟨r117, f117, l117⟩ := h117
      have hI2 := ls_frL hI1 f117 l117
      refine jq_iload dL_solves_120 rfl ?_
      refine jq_eqZ (tgt := 147) dL_solves_122 (by decide) (by decide) (fun c122 => ?_) (fun c122 => ?_)
      · exact absurd c122 (by decide)
      · refine jq_aload_n dL_solves_125 rfl rfl ?_
        refine jq_iload dL_solves_126 rfl ?_
        refine xq_iald dL_solves_128 (hI2.1.2.1.1) (hi) ((hI2.1.2.1.2 ii hin)) ?_
        refine jq_if_lt (tgt := 143) dL_solves_129 (by decide) (fun c129 => ?_) (fun c129 => ?_)
        · have e117 : v117 = nI 0 := by rw [r117, (hnum ii hin).mp c129, show ((-1 : Int32) == -1) = true by decide]; rfl
          refine jq_iconst (v := (nI 0)) dL_solves_143 (by decide) ?_
          refine jq_goto (tgt := 149) dL_solves_144 (by decide) ?_
          refine jq_icmp_eq (tgt := 154) dL_solves_149 (by decide) (fun c149 => ?_) (fun c149 => ?_)
          · exact sv_mid hl ha5 hI2 hn0 y ii 1 fr _ _ (by omega) (by omega) _ _ _ _ _ _ _ _
          · exact absurd e117 c149
        · have n1 : ¬ num ii = -1 := fun z => c129 ((hnum ii hin).mpr z)
          refine jq_iload dL_solves_132 rfl ?_
          refine jq_iload dL_solves_134 rfl ?_
          refine jq_leN (tgt := 143) dL_solves_136 (by decide) ⟨by omega, by omega⟩ (fun c136 => ?_) (fun c136 => ?_)
          · have e117 : v117 = nI 0 := by rw [r117, ← hf2, decide_eq_false (by omega), Bool.and_false]; rfl
            refine jq_iconst (v := (nI 0)) dL_solves_143 (by decide) ?_
            refine jq_goto (tgt := 149) dL_solves_144 (by decide) ?_
            refine jq_icmp_eq (tgt := 154) dL_solves_149 (by decide) (fun c149 => ?_) (fun c149 => ?_)
            · exact sv_mid hl ha5 hI2 hn0 y ii 1 fr _ _ (by omega) (by omega) _ _ _ _ _ _ _ _
            · exact absurd e117 c149
          · have e117 : v117 = nI 1 := by rw [r117, ← hf2, decide_eq_true (by omega), beq_eq_false_iff_ne.mpr n1]; rfl
            refine jq_iconst (v := (nI 1)) dL_solves_139 (by decide) ?_
            refine jq_goto (tgt := 149) dL_solves_140 (by decide) ?_
            refine jq_icmp_eq (tgt := 154) dL_solves_149 (by decide) (fun c149 => ?_) (fun c149 => ?_)
            · exact sv_mid hl ha5 hI2 hn0 y ii 1 fr _ _ (by omega) (by omega) _ _ _ _ _ _ _ _
            · exact absurd e117 c149
  · rw [if_neg hin] at hiv
    subst hiv
    have hx : tb_inB (nI ii) (tb_nc w h) = false := by
      rw [Bool.eq_false_iff]
      intro q
      obtain ⟨a, ha, ea⟩ := lk_inB (by omega) q
      rw [nI_eq (by omega) (by omega)] at ea
      omega
    refine jq_aload_n dL_solves_103 rfl rfl ?_
    refine xq_rI dL_solves_104 kL_189 (c_X5_answers hn hI.2.1 hI.2.2.1) (xs_lt (by decide) hn) ⟨rfl, rfl⟩ rfl rfl (Nat.le_of_ble_eq_true rfl) (⟨⟨by decide, by decide⟩, by show _ ≤ 1700; omega, by show _ ≤ 45000; omega⟩) (fun v104 X104 h104 => ?_)
    obtain ⟨r104, f104, l104⟩ := h104
    have hI1 := ls_frL hI f104 l104
    refine jq_iload dL_solves_107 rfl ?_
    refine jq_icmp_ne (tgt := 152) dL_solves_109 (by decide) (fun c109 => ?_) (fun c109 => ?_)
    · exact absurd r104 c109
    · refine jq_aload_n dL_solves_112 rfl rfl ?_
      refine jq_iconst (v := (nI 4)) dL_solves_113 (by decide) ?_
      refine jq_iload dL_solves_114 rfl ?_
      refine jq_iconst (v := (nI 0)) dL_solves_116 (by decide) ?_
      refine xx_sI (M' := mL_of) (hh := hL_of) (na := 4) jx_E_ok dL_solves_117 gL_156 ⟨by decide, by decide, by decide +kernel⟩ (c_L_of4_no hl hn hI1.2.1.1 _ hx (nI 0)) rfl rfl (Nat.le_of_ble_eq_true rfl) (⟨⟨by decide, by decide⟩, by show _ ≤ 1700; omega, by show _ ≤ 45000; omega⟩) (fun v117 X117 h117 => ?_)
      obtain ⟨r117, f117⟩ := h117
      subst f117
      refine jq_iload dL_solves_120 rfl ?_
      refine jq_eqZ (tgt := 147) dL_solves_122 (by decide) (by decide) (fun c122 => ?_) (fun c122 => ?_)
      · refine jq_bipush (v := (-101)) dL_solves_147 (by decide) ?_
        refine jq_icmp_eq (tgt := 154) dL_solves_149 (by decide) (fun c149 => ?_) (fun c149 => ?_)
        · exact sv_mid hl ha5 hI1 hn0 y ii 0 fr _ _ (by omega) (by omega) _ _ _ _ _ _ _ _
        · exact absurd r117 c149
      · exact absurd rfl c122
set_option maxHeartbeats 16000000 in
theorem sv_29 {l : Launch} {G : jq_G} {ad ad5 : Nat → Nat} {Y : xs_T} {w h : Nat} {num : Nat → Int32} {mk : Nat → Nat} (hl : l.stackTraces = false) (ha5 : ∀ k, k < 24 → ad5 k = ad k) (hI : ls_I w h num mk Y) (hn0 : ∀ c, c < tb_nc w h → tb_numOk (num c) = true) (y : Int32) (o10 o11 o12 o13 o14 o15 o16 o17 o18 o19 o20 o21 : Option Value) : jq_J l G mL_solves (jq_R 26 1700 45000) (jx_E []) (xj_Ye G 24 ad (xs_pi (fun r X' => r = nI 1 ∧ lk_Z X')) 1700 45000) 29 [some (.ref (ad5 0)), some (.int (y)), some (.ref (ad5 21)), some (.ref (ad5 22)), some (.ref (ad5 23)), some (.ref (ad5 24)), some (.ref (ad5 25)), some (.ref (ad5 26)), some (.ref (ad5 27)), some (.ref (ad5 28)), o10, o11, o12, o13, o14, o15, o16, o17, o18, o19, o20, o21] [] (29) ad5 (xs_mem G ad5 Y) (5) (100) := by
  have hB := hI.1.1
  have hk := hI.1.1.2.2.2
  have hz := lr_sz hk
  have hn : 21 ≤ 29 := by decide
  have hcn := tb_cnt2_le (lr_W hk) num mk (-1)
  have hnum := lk_nums hn0
  have hmk : ∀ e, e < tb_ne w h → mk e ≤ 2 := fun e he => (hI.1.2.2.2 e he).2
  have hcm := lr_sm_lt y (show 0 < w * h + 1 by omega)
  have s61 : ∀ (iv : Nat), iv = (if lr_sm y (w * h + 1) < tb_nc w h then 1 else 0) → jq_J l G mL_solves (jq_R 26 1700 45000) (jx_E []) (xj_Ye G 24 ad (xs_pi (fun r X' => r = nI 1 ∧ lk_Z X')) 1700 45000) 61 [some (.ref (ad5 0)), some (.int (y)), some (.ref (ad5 21)), some (.ref (ad5 22)), some (.ref (ad5 23)), some (.ref (ad5 24)), some (.ref (ad5 25)), some (.ref (ad5 26)), some (.ref (ad5 27)), some (.ref (ad5 28)), some (.int (nI (lr_sm y (w * h + 1)))), o11, o12, o13, o14, o15, o16, o17, o18, o19, o20, o21] [.int (nI (iv))] (29) ad5 (xs_mem G ad5 Y) (5) (100) := by
    intro iv hiv
    have hiv1 : iv ≤ 1 := by rw [hiv]; split <;> omega
    refine jq_istore dL_solves_61 (by decide) rfl rfl ?_
    refine jq_aload_n dL_solves_63 rfl rfl ?_
    refine jq_aload dL_solves_64 rfl ?_
    refine jq_aload_n dL_solves_66 rfl rfl ?_
    refine jq_iconst (v := (-1)) dL_solves_67 (by decide) ?_
    refine jq_lconst (v := (lN 0)) dL_solves_68 (by decide) ?_
    refine jq_aload dL_solves_69 rfl ?_
    refine jq_aload dL_solves_71 rfl ?_
    refine xm_sI dL_solves_73 kL_185 (c_L_answers (qw := 24) (qt := 28) hI.1.1 hI.1.2.2 hI.1.2.1 ⟨by decide, by decide, hI.2.2.2.1.2.2⟩ ⟨by decide, by decide, hI.2.2.2.2.2.2.2.2.2⟩ (by decide) (-1) (T := 0) (by decide)) rfl rfl (Nat.le_of_ble_eq_true rfl) (⟨⟨by decide, by decide⟩, by show _ ≤ 1700; omega, by show _ ≤ 45000; omega⟩) (fun v73 X73 h73 => ?_)
    obtain ⟨r73, g73⟩ := h73
    rw [lr_cnt_eq hk hnum hmk (-1)] at r73
    subst r73
    have hI2 := ls_fr hI g73.1 (dv_afr hI.2.1 g73.1) (dv_lcfr hI.2.2.1 g73.1)
    refine jq_istore dL_solves_76 (by decide) rfl rfl ?_
    refine jq_iload dL_solves_78 rfl ?_
    refine jq_eqZ (tgt := 100) dL_solves_80 (by decide) (by omega) (fun c80 => ?_) (fun c80 => ?_)
    · have hIz := hI2
      have hfr : lr_sm y (w * h + 1) < tb_nc w h → 0 = tb_cnt2 w h num mk (nI (lr_sm y (w * h + 1))) := fun q => by rw [if_pos q] at hiv; omega
      refine jq_iconst (v := (nI 0)) dL_solves_100 (by decide) ?_
      refine jq_istore dL_solves_101 (by decide) rfl rfl ?_
      exact sv_103 hl ha5 hIz hn0 y _ _ _ _ _ (by omega) hiv hfr (by decide) (by decide) _ _ _ _ _ _ _ _
    · refine jq_aload_n dL_solves_83 rfl rfl ?_
      refine jq_aload dL_solves_84 rfl ?_
      refine jq_aload_n dL_solves_86 rfl rfl ?_
      refine jq_iload dL_solves_87 rfl ?_
      refine jq_lconst (v := (lN 0)) dL_solves_89 (by decide) ?_
      refine jq_aload dL_solves_90 rfl ?_
      refine jq_aload dL_solves_92 rfl ?_
      refine xm_sI dL_solves_94 kL_185 (c_L_answers (qw := 24) (qt := 28) hI2.1.1 hI2.1.2.2 hI2.1.2.1 ⟨by decide, by decide, hI2.2.2.2.1.2.2⟩ ⟨by decide, by decide, hI2.2.2.2.2.2.2.2.2.2⟩ (by decide) (nI (lr_sm y (w * h + 1))) (T := 0) (by decide)) rfl rfl (Nat.le_of_ble_eq_true rfl) (⟨⟨by decide, by decide⟩, by show _ ≤ 1700; omega, by show _ ≤ 45000; omega⟩) (fun v94 X94 h94 => ?_)
      obtain ⟨r94, g94⟩ := h94
      rw [lr_cnt_eq hk hnum hmk (nI (lr_sm y (w * h + 1)))] at r94
      subst r94
      have hIz := ls_fr hI2 g94.1 (dv_afr hI2.2.1 g94.1) (dv_lcfr hI2.2.2.1 g94.1)
      have hfr : lr_sm y (w * h + 1) < tb_nc w h → tb_cnt2 w h num mk (nI (lr_sm y (w * h + 1))) = tb_cnt2 w h num mk (nI (lr_sm y (w * h + 1))) := fun _ => rfl
      refine jq_goto (tgt := 101) dL_solves_97 (by decide) ?_
      refine jq_istore dL_solves_101 (by decide) rfl rfl ?_
      exact sv_103 hl ha5 hIz hn0 y _ _ _ _ _ (by omega) hiv hfr (by decide) (by decide) _ _ _ _ _ _ _ _
  refine jq_iload_n dL_solves_29 rfl rfl ?_
  refine jq_aload_n dL_solves_30 rfl rfl ?_
  refine jq_iconst (v := (nI 0)) dL_solves_31 (by decide) ?_
  refine xq_iald dL_solves_32 hB.1 lr_v0 hB.2.1 ?_
  refine jq_aload_n dL_solves_33 rfl rfl ?_
  refine jq_iconst (v := (nI 1)) dL_solves_34 (by decide) ?_
  refine xq_iald dL_solves_35 hB.1 lr_v1 hB.2.2.1 ?_
  refine jq_imulN dL_solves_36 ?_
  refine jq_iconst (v := (nI 1)) dL_solves_37 (by decide) ?_
  refine jq_iaddN dL_solves_38 ?_
  refine xq_sI dL_solves_39 kL_135 (c_L_some y (by omega) (by omega)) rfl rfl (Nat.le_of_ble_eq_true rfl) (⟨⟨by decide, by decide⟩, by show _ ≤ 1700; omega, by show _ ≤ 45000; omega⟩) ?_
  refine jq_istore dL_solves_42 (by decide) rfl rfl ?_
  refine jq_iload dL_solves_44 rfl ?_
  refine jq_aload_n dL_solves_46 rfl rfl ?_
  refine jq_iconst (v := (nI 0)) dL_solves_47 (by decide) ?_
  refine xq_iald dL_solves_48 hB.1 lr_v0 hB.2.1 ?_
  refine jq_aload_n dL_solves_49 rfl rfl ?_
  refine jq_iconst (v := (nI 1)) dL_solves_50 (by decide) ?_
  refine xq_iald dL_solves_51 hB.1 lr_v1 hB.2.2.1 ?_
  refine jq_imulN dL_solves_52 ?_
  refine jq_geN (tgt := 60) dL_solves_53 (by decide) ⟨by omega, by omega⟩ (fun c53 => ?_) (fun c53 => ?_)
  · have hiv : 0 = (if lr_sm y (w * h + 1) < tb_nc w h then 1 else 0) := by rw [if_neg (fun q => by omega)]
    refine jq_iconst (v := (nI 0)) dL_solves_60 (by decide) ?_
    exact s61 _ hiv
  · have hiv : 1 = (if lr_sm y (w * h + 1) < tb_nc w h then 1 else 0) := by rw [if_pos (by omega)]
    refine jq_iconst (v := (nI 1)) dL_solves_56 (by decide) ?_
    refine jq_goto (tgt := 61) dL_solves_57 (by decide) ?_
    exact s61 _ hiv
set_option maxHeartbeats 16000000 in
theorem c_L_solves {l : Launch} {G : jq_G} {ad : Nat → Nat} {X : xs_T} {w h : Nat} {num : Nat → Int32} {mk : Nat → Nat} (hl : l.stackTraces = false) (hI : lk_I w h num mk X) (y : Int32) : xj_Ct l G mL_solves 26 1700 45000 [.ref (ad 0), .int (y), .ref (ad 21), .ref (ad 22), .ref (ad 23)] 24 ad X (xs_pi (fun r X' => r = nI 1 ∧ lk_Z X')) := by
  refine xj_Ct_of (L := [some (.ref (ad 0)), some (.int y), some (.ref (ad 21)), some (.ref (ad 22)), some (.ref (ad 23)), none, none, none, none, none, none, none, none, none, none, none, none, none, none, none, none, none]) rfl (Nat.le_of_ble_eq_true rfl) rfl ?_
  refine jq_bipush (v := (nI 24)) dL_solves_0 (by decide) ?_
  refine xm_newI dL_solves_2 (by decide) (by decide) ⟨by decide, by decide⟩ (fun ad1 ha1 => ?_)
  rw [← ha1 0 (by decide), ← ha1 21 (by decide), ← ha1 22 (by decide), ← ha1 23 (by decide)]
  refine jq_astore dL_solves_4 (by decide) rfl rfl ?_
  refine jq_bipush (v := (nI 24)) dL_solves_6 (by decide) ?_
  refine xm_newI dL_solves_8 (by decide) (by decide) ⟨by decide, by decide⟩ (fun ad2 ha2 => ?_)
  rw [← ha2 0 (by decide), ← ha2 21 (by decide), ← ha2 22 (by decide), ← ha2 23 (by decide), ← ha2 24 (by decide)]
  refine jq_astore dL_solves_10 (by decide) rfl rfl ?_
  refine jq_bipush (v := (nI 24)) dL_solves_12 (by decide) ?_
  refine xm_newI dL_solves_14 (by decide) (by decide) ⟨by decide, by decide⟩ (fun ad3 ha3 => ?_)
  rw [← ha3 0 (by decide), ← ha3 21 (by decide), ← ha3 22 (by decide), ← ha3 23 (by decide), ← ha3 24 (by decide), ← ha3 25 (by decide)]
  refine jq_astore dL_solves_16 (by decide) rfl rfl ?_
  refine jq_bipush (v := (nI 24)) dL_solves_18 (by decide) ?_
  refine xm_newI dL_solves_20 (by decide) (by decide) ⟨by decide, by decide⟩ (fun ad4 ha4 => ?_)
  rw [← ha4 0 (by decide), ← ha4 21 (by decide), ← ha4 22 (by decide), ← ha4 23 (by decide), ← ha4 24 (by decide), ← ha4 25 (by decide), ← ha4 26 (by decide)]
  refine jq_astore dL_solves_22 (by decide) rfl rfl ?_
  refine jq_iconst (v := (nI 4)) dL_solves_24 (by decide) ?_
  refine xm_newI dL_solves_25 (by decide) (by decide) ⟨by decide, by decide⟩ (fun ad5 ha5 => ?_)
  rw [← ha5 0 (by decide), ← ha5 21 (by decide), ← ha5 22 (by decide), ← ha5 23 (by decide), ← ha5 24 (by decide), ← ha5 25 (by decide), ← ha5 26 (by decide), ← ha5 27 (by decide)]
  have ha : ∀ k, k < 24 → ad5 k = ad k := fun k hk => by rw [ha5 k (by omega), ha4 k (by omega), ha3 k (by omega), ha2 k (by omega), ha1 k hk]
  refine jq_astore dL_solves_27 (by decide) rfl rfl ?_
  exact sv_29 hl ha (ls_new hI) hI.2.2.2 y _ _ _ _ _ _ _ _ _ _ _ _
