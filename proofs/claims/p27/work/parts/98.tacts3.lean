/-! the law's choices: the rounds held against the class -/
theorem lk_rows4 {X : xs_T} : lr_rows 28 24 (xs_nw (xs_nw (xs_nw (xs_nw X 24 24) 25 24) 26 24) 27 4) := by
  refine ⟨by decide, by decide, ?_, ?_, ?_, ?_⟩
  · rw [(xs_nw_fr.1 24 0 (by decide)).1, (xs_nw_fr.1 24 0 (by decide)).1, (xs_nw_fr.1 24 0 (by decide)).1, xs_nw_at]; decide
  · rw [(xs_nw_fr.1 (24 + 1) 0 (by decide)).1, (xs_nw_fr.1 (24 + 1) 0 (by decide)).1, show 24 + 1 = 25 from rfl, xs_nw_at]; decide
  · rw [(xs_nw_fr.1 (24 + 2) 0 (by decide)).1, show 24 + 2 = 26 from rfl, xs_nw_at]; decide
  · rw [show 24 + 3 = 27 from rfl, xs_nw_at]; decide
theorem lk_fr4 {X : xs_T} : xs_fr [24, 25, 26, 27] [(24, 0), (25, 0), (26, 0), (27, 0)] X (xs_nw (xs_nw (xs_nw (xs_nw X 24 24) 25 24) 26 24) 27 4) :=
  xs_fr_tr (xs_fr_tr (xs_fr_tr (xs_fr_mo xs_nw_fr (by decide)) (xs_fr_mo xs_nw_fr (by decide))) (xs_fr_mo xs_nw_fr (by decide))) (xs_fr_mo xs_nw_fr (by decide))
theorem lk_F28 {w h qs n : Nat} {g : tb_Go} {hv : Int32} {X X' : xs_T} (hF : lr_F n w h qs g hv X X') (hR : lr_rows n qs X) : (qs + 1 < n ∧ 21 ≤ qs + 1 ∧ (X'.1 (qs + 1) 0).toNatClampNeg = 24) ∧ (qs + 2 < n ∧ 21 ≤ qs + 2 ∧ (X'.1 (qs + 2) 0).toNatClampNeg = 24) ∧ (qs + 3 < n ∧ 21 ≤ qs + 3 ∧ (X'.1 (qs + 3) 0).toNatClampNeg = 4) := by
  obtain ⟨r0, r1, r2, r3, r4, r5⟩ := hR
  have e : ∀ q, X'.1 q 0 = X.1 q 0 := fun q => (hF.1.1 q 0 (by simp)).1
  exact ⟨⟨by omega, by omega, by rw [e]; exact r3⟩, ⟨by omega, by omega, by rw [e]; exact r4⟩, by omega, by omega, by rw [e]; exact r5⟩
theorem lk_24 {n w h : Nat} {num : Nat → Int32} {mk : Nat → Nat} {X : xs_T} (hL : lk_Lw n w h num mk X) : lk_Lw 24 w h num mk X :=
  ⟨⟨⟨by decide, hL.1.1.2⟩, hL.1.2⟩, ⟨⟨by decide, hL.2.1.1.2⟩, hL.2.1.2⟩, ⟨⟨by decide, hL.2.2.1.2⟩, hL.2.2.2⟩⟩
set_option maxHeartbeats 16000000 in
theorem la_same {l : Launch} {G : jq_G} {ad ad4 : Nat → Nat} {X X5 : xs_T} {w h : Nat} {num : Nat → Int32} {mk : Nat → Nat} (hl : l.stackTraces = false) (ha4 : ∀ k, k < 24 → ad4 k = ad k) (hL : lk_Lw 28 w h num mk X5) (hA : dv_A w h num mk X5) (hC : dv_LC w h X5) (hn0 : ∀ c, c < tb_nc w h → tb_numOk (num c) = true) (hR : lr_rows 28 24 X) (hF : lr_F 28 w h 24 (tb_follow w h num mk) (tb_hint w h num mk) X X5) {kd : Nat} (hkd : kd ≠ 10) (hkd2 : kd < 100) (y : Int32) (o10 o11 : Option Value) : jq_J l G mL_acts (jq_R 26 100 700) (jx_E []) (xj_Ye G 24 ad (xs_pi (fun r X' => r = nI 1 ∧ lk_Z X')) 100 700) 572 [some (.ref (ad4 0)), some (.int (nI (kd))), some (.int (y)), some (.ref (ad4 21)), some (.ref (ad4 22)), some (.ref (ad4 23)), some (.ref (ad4 24)), some (.ref (ad4 25)), some (.ref (ad4 26)), some (.ref (ad4 27)), o10, o11] [] (28) ad4 (xs_mem G ad4 X5) (5) (100) := by
  obtain ⟨hB, hN, hS⟩ := id hL
  have hk := hB.2.2.2
  have hz := lr_sz hk
  have hn : 21 ≤ 28 := by decide
  obtain ⟨hzr, hzl, hzt⟩ := lk_F28 hF hR
  have loop : ∀ (k e : Nat) (Y : xs_T) (o11 : Option Value), e + k = tb_ne w h + 1 → xs_fr dv_SC dv_FC X5 Y → jq_J l G mL_acts (jq_R 26 100 700) (jx_E []) (xj_Ye G 24 ad (xs_pi (fun r X' => r = nI 1 ∧ lk_Z X')) 100 700) 657 [some (.ref (ad4 0)), some (.int (nI (kd))), some (.int (y)), some (.ref (ad4 21)), some (.ref (ad4 22)), some (.ref (ad4 23)), some (.ref (ad4 24)), some (.ref (ad4 25)), some (.ref (ad4 26)), some (.ref (ad4 27)), some (.int (nI (e))), o11] [] (28) ad4 (xs_mem G ad4 Y) (5 + 3 * e) (100 + 18 * e) := by
    intro k
    induction k with
    | zero =>
      intro e Y o11 he hf
      have hAY := dv_afr hA hf
      have hB := (lk_fr hL hf).1
      have hzt2 : 27 < 28 ∧ 21 ≤ 27 ∧ (Y.1 27 0).toNatClampNeg = 4 := ⟨by decide, by decide, by rw [(hf.1 27 0 (by decide)).1]; exact hzt.2.2⟩
      have t0 : Y.2.2.1 27 (nI 0).toNatClampNeg = nI (tb_follow w h num mk).2.2.2.1 := by rw [xs_fa hf 27]; exact hF.2.2.2.1
      have t1 : Y.2.2.1 27 (nI 1).toNatClampNeg = nI (tb_follow w h num mk).2.2.2.2 := by rw [xs_fa hf 27]; exact hF.2.2.2.2.1
      refine jq_iload dL_acts_657 rfl ?_
      refine jq_aload_n dL_acts_659 rfl rfl ?_
      refine xq_sI dL_acts_660 kL_32 (c_L_edges hB) rfl rfl (Nat.le_of_ble_eq_true rfl) (⟨⟨by decide, by decide⟩, by show _ ≤ 100; omega, by show _ ≤ 700; omega⟩) ?_
      refine jq_gtN (tgt := 768) dL_acts_663 (by decide) ⟨by omega, by omega⟩ (fun c663 => ?_) (fun c663 => ?_)
      · refine jq_aload_n dL_acts_768 rfl rfl ?_
        refine xq_rI dL_acts_769 kL_160 (c_X5_rounds hn hAY) (xs_lt (by decide) hn) ⟨rfl, rfl⟩ rfl rfl (Nat.le_of_ble_eq_true rfl) (⟨⟨by decide, by decide⟩, by show _ ≤ 100; omega, by show _ ≤ 700; omega⟩) (fun v769 X769 h769 => ?_)
        obtain ⟨r769, f769⟩ := h769
        have t0b := (xs_fa f769 27) ▸ t0
        have hA2 := dv_afr hAY f769
        refine jq_aload dL_acts_772 rfl ?_
        refine jq_iconst (v := (nI 0)) dL_acts_774 (by decide) ?_
        refine xq_iald dL_acts_775 (⟨by decide, by decide, by rw [(f769.1 27 0 (by decide)).1]; exact hzt2.2.2⟩) (lr_t0) (t0b) ?_
        refine jq_icmp_ne (tgt := 794) dL_acts_776 (by decide) (fun c776 => ?_) (fun c776 => ?_)
        · exact absurd r769 c776
        · refine jq_aload_n dL_acts_779 rfl rfl ?_
          refine xq_rI dL_acts_780 kL_163 (c_X5_end hn hA2) (xs_lt (by decide) hn) ⟨rfl, rfl⟩ rfl rfl (Nat.le_of_ble_eq_true rfl) (⟨⟨by decide, by decide⟩, by show _ ≤ 100; omega, by show _ ≤ 700; omega⟩) (fun v780 X780 h780 => ?_)
          obtain ⟨r780, f780⟩ := h780
          have t1b := (xs_fa f780 27) ▸ ((xs_fa f769 27) ▸ t1)
          refine jq_aload dL_acts_783 rfl ?_
          refine jq_iconst (v := (nI 1)) dL_acts_785 (by decide) ?_
          refine xq_iald dL_acts_786 (⟨by decide, by decide, by rw [(f780.1 27 0 (by decide)).1, (f769.1 27 0 (by decide)).1]; exact hzt2.2.2⟩) (lr_t1) (t1b) ?_
          refine jq_icmp_ne (tgt := 794) dL_acts_787 (by decide) (fun c787 => ?_) (fun c787 => ?_)
          · exact absurd r780 c787
          · refine jq_iconst (v := (nI 1)) dL_acts_790 (by decide) ?_
            refine jq_goto (tgt := 795) dL_acts_791 (by decide) ?_
            exact xj_ireturn dL_acts_795 rfl rfl (⟨by omega, by omega⟩) (by omega) (by omega) ha4 (⟨_, rfl, rfl, w, h, num, mk, lk_24 (lk_fr hL (xs_fr_tr hf (xs_fr_tr f769 f780))), dv_afr hA (xs_fr_tr hf (xs_fr_tr f769 f780)), dv_lcfr hC (xs_fr_tr hf (xs_fr_tr f769 f780)), hn0⟩)
      · exact absurd c663 (by omega)
    | succ k ih =>
      intro e Y o11 he hf
      have hAY := dv_afr hA hf
      have hB := (lk_fr hL hf).1
      have hie : e < 24 → vp_in (nI e) 24 := fun q => vp_inN q (by decide)
      have rows : ∀ (Z : xs_T), xs_fr dv_SC dv_FC X5 Z → (24 < 28 ∧ 21 ≤ 24 ∧ (Z.1 24 0).toNatClampNeg = 24) ∧ (25 < 28 ∧ 21 ≤ 25 ∧ (Z.1 25 0).toNatClampNeg = 24) ∧ (26 < 28 ∧ 21 ≤ 26 ∧ (Z.1 26 0).toNatClampNeg = 24) ∧ Z.2.2.1 24 = X5.2.2.1 24 ∧ Z.2.2.1 25 = X5.2.2.1 25 ∧ Z.2.2.1 26 = X5.2.2.1 26 := fun Z hz => ⟨⟨by decide, by decide, by rw [(hz.1 24 0 (by decide)).1]; exact hF.2.1.1.2.2⟩, ⟨by decide, by decide, by rw [(hz.1 25 0 (by decide)).1]; exact hzr.2.2⟩, ⟨by decide, by decide, by rw [(hz.1 26 0 (by decide)).1]; exact hzl.2.2⟩, xs_fa hz 24, xs_fa hz 25, xs_fa hz 26⟩
      by_cases hee : e < tb_ne w h
      · have hi := hie (by omega)
        have q0 : X5.2.2.1 24 (nI e).toNatClampNeg = nI ((tb_follow w h num mk).1 e) := (hF.2.1.2 e hee).1
        have q1 : X5.2.2.1 25 (nI e).toNatClampNeg = (tb_follow w h num mk).2.1 e := (hF.2.2.1 e hee).1
        have q2 : X5.2.2.1 26 (nI e).toNatClampNeg = (tb_follow w h num mk).2.2.1 e := (hF.2.2.1 e hee).2
        refine jq_iload dL_acts_657 rfl ?_
        refine jq_aload_n dL_acts_659 rfl rfl ?_
        refine xq_sI dL_acts_660 kL_32 (c_L_edges hB) rfl rfl (Nat.le_of_ble_eq_true rfl) (⟨⟨by decide, by decide⟩, by show _ ≤ 100; omega, by show _ ≤ 700; omega⟩) ?_
        refine jq_gtN (tgt := 768) dL_acts_663 (by decide) ⟨by omega, by omega⟩ (fun c663 => ?_) (fun c663 => ?_)
        · exact absurd c663 (by omega)
        · refine jq_iload dL_acts_666 rfl ?_
          refine jq_aload_n dL_acts_668 rfl rfl ?_
          refine xq_sI dL_acts_669 kL_32 (c_L_edges hB) rfl rfl (Nat.le_of_ble_eq_true rfl) (⟨⟨by decide, by decide⟩, by show _ ≤ 100; omega, by show _ ≤ 700; omega⟩) ?_
          refine jq_geN (tgt := 679) dL_acts_672 (by decide) ⟨by omega, by omega⟩ (fun c672 => ?_) (fun c672 => ?_)
          · exact absurd c672 (by omega)
          · refine jq_iconst (v := (nI 1)) dL_acts_675 (by decide) ?_
            refine jq_goto (tgt := 680) dL_acts_676 (by decide) ?_
            refine jq_istore dL_acts_680 (by decide) rfl rfl ?_
            refine jq_aload_n dL_acts_682 rfl rfl ?_
            refine jq_iconst (v := (nI 0)) dL_acts_683 (by decide) ?_
            refine jq_iload dL_acts_684 rfl ?_
            refine jq_iconst (v := (nI 0)) dL_acts_686 (by decide) ?_
            refine xx_sI (M' := mL_of) (hh := hL_of) (na := 4) jx_E_ok dL_acts_687 gL_156 ⟨by decide, by decide, by decide +kernel⟩ (c_L_of0_ok hn hAY hee (nI 0)) rfl rfl (Nat.le_of_ble_eq_true rfl) (⟨⟨by decide, by decide⟩, by show _ ≤ 100; omega, by show _ ≤ 700; omega⟩) (fun v687 X687 h687 => ?_)
            obtain ⟨r0, f0⟩ := h687
            have g0 := xs_fr_tr hf f0
            have w0 := rows _ g0
            have A0 := dv_afr hAY f0
            refine jq_iload dL_acts_690 rfl ?_
            refine jq_eqZ (tgt := 703) dL_acts_692 (by decide) (by decide) (fun c692 => ?_) (fun c692 => ?_)
            · exact absurd c692 (by decide)
            · refine jq_aload dL_acts_695 rfl ?_
              refine jq_iload dL_acts_697 rfl ?_
              refine xq_iald dL_acts_699 (w0.1) (hi) (((congrFun w0.2.2.2.1 _).trans q0)) ?_
              refine jq_goto (tgt := 705) dL_acts_700 (by decide) ?_
              refine jq_icmp_ne (tgt := 760) dL_acts_705 (by decide) (fun c705 => ?_) (fun c705 => ?_)
              · exact absurd r0 c705
              · refine jq_aload_n dL_acts_708 rfl rfl ?_
                refine jq_iconst (v := (nI 1)) dL_acts_709 (by decide) ?_
                refine jq_iload dL_acts_710 rfl ?_
                refine jq_iconst (v := (nI 0)) dL_acts_712 (by decide) ?_
                refine xx_sI (M' := mL_of) (hh := hL_of) (na := 4) jx_E_ok dL_acts_713 gL_156 ⟨by decide, by decide, by decide +kernel⟩ (c_L_of1_ok hn A0 hee (nI 0)) rfl rfl (Nat.le_of_ble_eq_true rfl) (⟨⟨by decide, by decide⟩, by show _ ≤ 100; omega, by show _ ≤ 700; omega⟩) (fun v713 X713 h713 => ?_)
                obtain ⟨r1, f1⟩ := h713
                have g1 := xs_fr_tr g0 f1
                have w1 := rows _ g1
                have A1 := dv_afr A0 f1
                refine jq_iload dL_acts_716 rfl ?_
                refine jq_eqZ (tgt := 729) dL_acts_718 (by decide) (by decide) (fun c718 => ?_) (fun c718 => ?_)
                · exact absurd c718 (by decide)
                · refine jq_aload dL_acts_721 rfl ?_
                  refine jq_iload dL_acts_723 rfl ?_
                  refine xq_iald dL_acts_725 (w1.2.1) (hi) (((congrFun w1.2.2.2.2.1 _).trans q1)) ?_
                  refine jq_goto (tgt := 731) dL_acts_726 (by decide) ?_
                  refine jq_icmp_ne (tgt := 760) dL_acts_731 (by decide) (fun c731 => ?_) (fun c731 => ?_)
                  · exact absurd r1 c731
                  · refine jq_aload_n dL_acts_734 rfl rfl ?_
                    refine jq_iconst (v := (nI 2)) dL_acts_735 (by decide) ?_
                    refine jq_iload dL_acts_736 rfl ?_
                    refine jq_iconst (v := (nI 0)) dL_acts_738 (by decide) ?_
                    refine xx_sI (M' := mL_of) (hh := hL_of) (na := 4) jx_E_ok dL_acts_739 gL_156 ⟨by decide, by decide, by decide +kernel⟩ (c_L_of2_ok hn A1 hee (nI 0)) rfl rfl (Nat.le_of_ble_eq_true rfl) (⟨⟨by decide, by decide⟩, by show _ ≤ 100; omega, by show _ ≤ 700; omega⟩) (fun v739 X739 h739 => ?_)
                    obtain ⟨r2, f2⟩ := h739
                    have g2 := xs_fr_tr g1 f2
                    have w2 := rows _ g2
                    refine jq_iload dL_acts_742 rfl ?_
                    refine jq_eqZ (tgt := 755) dL_acts_744 (by decide) (by decide) (fun c744 => ?_) (fun c744 => ?_)
                    · exact absurd c744 (by decide)
                    · refine jq_aload dL_acts_747 rfl ?_
                      refine jq_iload dL_acts_749 rfl ?_
                      refine xq_iald dL_acts_751 (w2.2.2.1) (hi) (((congrFun w2.2.2.2.2.2 _).trans q2)) ?_
                      refine jq_goto (tgt := 757) dL_acts_752 (by decide) ?_
                      refine jq_icmp_eq (tgt := 762) dL_acts_757 (by decide) (fun c757 => ?_) (fun c757 => ?_)
                      · refine jq_iincN dL_acts_762 (by decide) rfl rfl rfl ?_
                        refine jq_goto (tgt := 657) dL_acts_765 (by decide) ?_
                        exact ih (e + 1) _ _ (by omega) g2
                      · exact absurd r2 c757
      · have e1 : e = tb_ne w h := by omega
        have hno : tb_inB (nI e) (tb_ne w h) = false := by rw [e1]; exact lk_notin (by omega)
        have hT := hAY.1
        refine jq_iload dL_acts_657 rfl ?_
        refine jq_aload_n dL_acts_659 rfl rfl ?_
        refine xq_sI dL_acts_660 kL_32 (c_L_edges hB) rfl rfl (Nat.le_of_ble_eq_true rfl) (⟨⟨by decide, by decide⟩, by show _ ≤ 100; omega, by show _ ≤ 700; omega⟩) ?_
        refine jq_gtN (tgt := 768) dL_acts_663 (by decide) ⟨by omega, by omega⟩ (fun c663 => ?_) (fun c663 => ?_)
        · exact absurd c663 (by omega)
        · refine jq_iload dL_acts_666 rfl ?_
          refine jq_aload_n dL_acts_668 rfl rfl ?_
          refine xq_sI dL_acts_669 kL_32 (c_L_edges hB) rfl rfl (Nat.le_of_ble_eq_true rfl) (⟨⟨by decide, by decide⟩, by show _ ≤ 100; omega, by show _ ≤ 700; omega⟩) ?_
          refine jq_geN (tgt := 679) dL_acts_672 (by decide) ⟨by omega, by omega⟩ (fun c672 => ?_) (fun c672 => ?_)
          · refine jq_iconst (v := (nI 0)) dL_acts_679 (by decide) ?_
            refine jq_istore dL_acts_680 (by decide) rfl rfl ?_
            refine jq_aload_n dL_acts_682 rfl rfl ?_
            refine jq_iconst (v := (nI 0)) dL_acts_683 (by decide) ?_
            refine jq_iload dL_acts_684 rfl ?_
            refine jq_iconst (v := (nI 0)) dL_acts_686 (by decide) ?_
            refine xx_sI (M' := mL_of) (hh := hL_of) (na := 4) jx_E_ok dL_acts_687 gL_156 ⟨by decide, by decide, by decide +kernel⟩ (c_L_of0_no hl hn hT _ hno (nI 0)) rfl rfl (Nat.le_of_ble_eq_true rfl) (⟨⟨by decide, by decide⟩, by show _ ≤ 100; omega, by show _ ≤ 700; omega⟩) (fun v687 X687 h687 => ?_)
            obtain ⟨r0, f0⟩ := h687
            subst f0
            refine jq_iload dL_acts_690 rfl ?_
            refine jq_eqZ (tgt := 703) dL_acts_692 (by decide) (by decide) (fun c692 => ?_) (fun c692 => ?_)
            · refine jq_bipush (v := (-101)) dL_acts_703 (by decide) ?_
              refine jq_icmp_ne (tgt := 760) dL_acts_705 (by decide) (fun c705 => ?_) (fun c705 => ?_)
              · exact absurd r0 c705
              · refine jq_aload_n dL_acts_708 rfl rfl ?_
                refine jq_iconst (v := (nI 1)) dL_acts_709 (by decide) ?_
                refine jq_iload dL_acts_710 rfl ?_
                refine jq_iconst (v := (nI 0)) dL_acts_712 (by decide) ?_
                refine xx_sI (M' := mL_of) (hh := hL_of) (na := 4) jx_E_ok dL_acts_713 gL_156 ⟨by decide, by decide, by decide +kernel⟩ (c_L_of1_no hl hn hT _ hno (nI 0)) rfl rfl (Nat.le_of_ble_eq_true rfl) (⟨⟨by decide, by decide⟩, by show _ ≤ 100; omega, by show _ ≤ 700; omega⟩) (fun v713 X713 h713 => ?_)
                obtain ⟨r1, f1⟩ := h713
                subst f1
                refine jq_iload dL_acts_716 rfl ?_
                refine jq_eqZ (tgt := 729) dL_acts_718 (by decide) (by decide) (fun c718 => ?_) (fun c718 => ?_)
                · refine jq_bipush (v := (-101)) dL_acts_729 (by decide) ?_
                  refine jq_icmp_ne (tgt := 760) dL_acts_731 (by decide) (fun c731 => ?_) (fun c731 => ?_)
                  · exact absurd r1 c731
                  · refine jq_aload_n dL_acts_734 rfl rfl ?_
                    refine jq_iconst (v := (nI 2)) dL_acts_735 (by decide) ?_
                    refine jq_iload dL_acts_736 rfl ?_
                    refine jq_iconst (v := (nI 0)) dL_acts_738 (by decide) ?_
                    refine xx_sI (M' := mL_of) (hh := hL_of) (na := 4) jx_E_ok dL_acts_739 gL_156 ⟨by decide, by decide, by decide +kernel⟩ (c_L_of2_no hl hn hT _ hno (nI 0)) rfl rfl (Nat.le_of_ble_eq_true rfl) (⟨⟨by decide, by decide⟩, by show _ ≤ 100; omega, by show _ ≤ 700; omega⟩) (fun v739 X739 h739 => ?_)
                    obtain ⟨r2, f2⟩ := h739
                    subst f2
                    refine jq_iload dL_acts_742 rfl ?_
                    refine jq_eqZ (tgt := 755) dL_acts_744 (by decide) (by decide) (fun c744 => ?_) (fun c744 => ?_)
                    · refine jq_bipush (v := (-101)) dL_acts_755 (by decide) ?_
                      refine jq_icmp_eq (tgt := 762) dL_acts_757 (by decide) (fun c757 => ?_) (fun c757 => ?_)
                      · refine jq_iincN dL_acts_762 (by decide) rfl rfl rfl ?_
                        refine jq_goto (tgt := 657) dL_acts_765 (by decide) ?_
                        exact ih (e + 1) _ _ (by omega) hf
                      · exact absurd r2 c757
                    · exact absurd rfl c744
                · exact absurd rfl c718
            · exact absurd rfl c692
          · exact absurd c672 (by omega)
  refine jq_iload_n dL_acts_572 rfl rfl ?_
  refine jq_bipush (v := (nI 10)) dL_acts_573 (by decide) ?_
  refine jq_neN (tgt := 654) dL_acts_575 (by decide) ⟨by omega, by omega⟩ (fun c575 => ?_) (fun c575 => ?_)
  · refine jq_iconst (v := (nI 0)) dL_acts_654 (by decide) ?_
    refine jq_istore dL_acts_655 (by decide) rfl rfl ?_
    exact loop (tb_ne w h + 1) 0 X5 _ (by omega) xs_fr_rf
  · exact absurd c575 hkd
set_option maxHeartbeats 16000000 in
theorem la_mall {l : Launch} {G : jq_G} {ad ad4 : Nat → Nat} {X X5 : xs_T} {w h : Nat} {num : Nat → Int32} {mk : Nat → Nat} (ha4 : ∀ k, k < 24 → ad4 k = ad k) (hL : lk_Lw 28 w h num mk X5) (hA : dv_A w h num mk X5) (hC : dv_LC w h X5) (hn0 : ∀ c, c < tb_nc w h → tb_numOk (num c) = true) (hR : lr_rows 28 24 X) (hF : lr_F 28 w h 24 (tb_follow w h num mk) (tb_hint w h num mk) X X5) (hen : (tb_follow w h num mk).2.2.2.2 ≤ 5) (y : Int32) (o10 o11 : Option Value) : jq_J l G mL_acts (jq_R 26 100 700) (jx_E []) (xj_Ye G 24 ad (xs_pi (fun r X' => r = nI 1 ∧ lk_Z X')) 100 700) 572 [some (.ref (ad4 0)), some (.int (nI (10))), some (.int (y)), some (.ref (ad4 21)), some (.ref (ad4 22)), some (.ref (ad4 23)), some (.ref (ad4 24)), some (.ref (ad4 25)), some (.ref (ad4 26)), some (.ref (ad4 27)), o10, o11] [] (28) ad4 (xs_mem G ad4 X5) (5) (100) := by
  obtain ⟨hB, hN, hS⟩ := id hL
  have hk := hB.2.2.2
  have hz := lr_sz hk
  have hn : 21 ≤ 28 := by decide
  obtain ⟨hzr, hzl, hzt⟩ := lk_F28 hF hR
  have t1 : X5.2.2.1 27 (nI 1).toNatClampNeg = nI (tb_follow w h num mk).2.2.2.2 := hF.2.2.2.2.1
  -- behind the marking
  have s639 : ∀ (Y : xs_T) (bec : Nat) (o11 : Option Value), xs_fr [23] [] X5 Y → lr_S 28 w h 23 (if (tb_follow w h num mk).2.2.2.2 = 0 then (tb_follow w h num mk).1 else mk) Y → (nI bec : Int32) = (if (tb_follow w h num mk).2.2.2.2 = 0 then nI (tb_became w h mk (tb_follow w h num mk).1) else 0) → jq_J l G mL_acts (jq_R 26 100 700) (jx_E []) (xj_Ye G 24 ad (xs_pi (fun r X' => r = nI 1 ∧ lk_Z X')) 100 700) 639 [some (.ref (ad4 0)), some (.int (nI (10))), some (.int (y)), some (.ref (ad4 21)), some (.ref (ad4 22)), some (.ref (ad4 23)), some (.ref (ad4 24)), some (.ref (ad4 25)), some (.ref (ad4 26)), some (.ref (ad4 27)), some (.int (nI (bec))), o11] [] (28) ad4 (xs_mem G ad4 Y) (5) (100) := by
    intro Y bec o11 hf hSY hbec
    have hAY := dv_afr hA hf
    have hCY := dv_lcfr hC hf
    have hLY : lk_Lw 28 w h num (if (tb_follow w h num mk).2.2.2.2 = 0 then (tb_follow w h num mk).1 else mk) Y := ⟨⟨⟨by decide, by decide, by rw [(hf.1 21 0 (by simp)).1]; exact hB.1.2.2⟩, by rw [xs_fa hf 21]; exact hB.2.1, by rw [xs_fa hf 21]; exact hB.2.2.1, hk⟩, ⟨⟨by decide, by decide, by rw [(hf.1 22 0 (by simp)).1]; exact hN.1.2.2⟩, fun c hc => by rw [xs_fa hf 22]; exact hN.2 c hc⟩, hSY⟩
    refine jq_aload_n dL_acts_639 rfl rfl ?_
    refine xq_rI dL_acts_640 kL_153 (c_X5_markAll hn hAY) (xs_lt (by decide) hn) ⟨rfl, rfl⟩ rfl rfl (Nat.le_of_ble_eq_true rfl) ⟨⟨by decide, by decide⟩, by decide, by decide⟩ (fun v640 X640 h640 => ?_)
    obtain ⟨r640, f640, A640⟩ := h640
    refine jq_iload dL_acts_643 rfl ?_
    refine jq_icmp_ne (tgt := 652) dL_acts_645 (by decide) (fun c645 => ?_) (fun c645 => ?_)
    · exact absurd (r640.trans hbec.symm) c645
    · refine jq_iconst (v := (nI 1)) dL_acts_648 (by decide) ?_
      refine jq_goto (tgt := 653) dL_acts_649 (by decide) ?_
      exact xj_ireturn dL_acts_653 rfl rfl (⟨by decide, by decide⟩) (by omega) (by omega) ha4 (⟨_, rfl, rfl, w, h, num, _, lk_24 (lk_fr hLY f640), A640, dv_lcfr hCY f640, hn0⟩)
  by_cases h0 : (tb_follow w h num mk).2.2.2.2 = 0
  · have loop : ∀ (k e : Nat) (Y : xs_T), e + k = tb_ne w h → xs_fr [23] [] X5 Y → (∀ j, j < 24 → Y.2.2.1 23 j = if j < e then nI ((tb_follow w h num mk).1 j) else X5.2.2.1 23 j) → jq_J l G mL_acts (jq_R 26 100 700) (jx_E []) (xj_Ye G 24 ad (xs_pi (fun r X' => r = nI 1 ∧ lk_Z X')) 100 700) 584 [some (.ref (ad4 0)), some (.int (nI (10))), some (.int (y)), some (.ref (ad4 21)), some (.ref (ad4 22)), some (.ref (ad4 23)), some (.ref (ad4 24)), some (.ref (ad4 25)), some (.ref (ad4 26)), some (.ref (ad4 27)), some (.int (nI (fb_ct (fun e => !(mk e == (tb_follow w h num mk).1 e)) e))), some (.int (nI (e)))] [] (28) ad4 (xs_mem G ad4 Y) (5) (100) := by
      intro k
      induction k with
      | zero =>
        intro e Y he hf hrow
        have hBY : lr_B 28 w h Y := ⟨⟨by decide, by decide, by rw [(hf.1 21 0 (by simp)).1]; exact hB.1.2.2⟩, by rw [xs_fa hf 21]; exact hB.2.1, by rw [xs_fa hf 21]; exact hB.2.2.1, hk⟩
        have e1 : e = tb_ne w h := by omega
        subst e1
        refine jq_iload dL_acts_584 rfl ?_
        refine jq_aload_n dL_acts_586 rfl rfl ?_
        refine xq_sI dL_acts_587 kL_32 (c_L_edges hBY) rfl rfl (Nat.le_of_ble_eq_true rfl) ⟨⟨by decide, by decide⟩, by decide, by decide⟩ ?_
        refine jq_geN (tgt := 639) dL_acts_590 (by decide) ⟨by omega, by omega⟩ (fun c590 => ?_) (fun c590 => ?_)
        · exact s639 Y _ _ hf (by rw [if_pos h0]; exact ⟨⟨by decide, by decide, by rw [(hf.1 23 0 (by simp)).1]; exact hS.1.2.2⟩, fun j hj => ⟨by rw [nI_clamp (show j < 2 ^ 31 by omega), hrow j (by omega), if_pos hj], (hF.2.1.2 j hj).2⟩⟩) (by rw [if_pos h0]; rfl)
        · exact absurd c590 (by omega)
      | succ k ih =>
        intro e Y he hf hrow
        have hee : e < tb_ne w h := by omega
        have hi : vp_in (nI e) 24 := vp_inN (by omega) (by decide)
        have hBY : lr_B 28 w h Y := ⟨⟨by decide, by decide, by rw [(hf.1 21 0 (by simp)).1]; exact hB.1.2.2⟩, by rw [xs_fa hf 21]; exact hB.2.1, by rw [xs_fa hf 21]; exact hB.2.2.1, hk⟩
        have hzm : 23 < 28 ∧ 21 ≤ 23 ∧ (Y.1 23 0).toNatClampNeg = 24 := ⟨by decide, by decide, by rw [(hf.1 23 0 (by simp)).1]; exact hS.1.2.2⟩
        have hzs : 24 < 28 ∧ 21 ≤ 24 ∧ (Y.1 24 0).toNatClampNeg = 24 := ⟨by decide, by decide, by rw [(hf.1 24 0 (by simp)).1]; exact hF.2.1.1.2.2⟩
        have hzt2 : 27 < 28 ∧ 21 ≤ 27 ∧ (Y.1 27 0).toNatClampNeg = 4 := ⟨by decide, by decide, by rw [(hf.1 27 0 (by simp)).1]; exact hzt.2.2⟩
        have t1y : Y.2.2.1 27 (nI 1).toNatClampNeg = nI 0 := by rw [xs_fa hf 27, t1, h0]
        have mke : Y.2.2.1 23 (nI e).toNatClampNeg = nI (mk e) := by
          rw [nI_clamp (show e < 2 ^ 31 by omega), hrow e (by omega), if_neg (Nat.lt_irrefl _)]
          have := (hS.2 e hee).1
          rw [nI_clamp (show e < 2 ^ 31 by omega)] at this
          exact this
        have ste : Y.2.2.1 24 (nI e).toNatClampNeg = nI ((tb_follow w h num mk).1 e) := by rw [xs_fa hf 24]; exact (hF.2.1.2 e hee).1
        have m2 := (hS.2 e hee).2
        have s2 := (hF.2.1.2 e hee).2
        have s621 : ∀ v : Nat, v = fb_ct (fun e => !(mk e == (tb_follow w h num mk).1 e)) (e + 1) → jq_J l G mL_acts (jq_R 26 100 700) (jx_E []) (xj_Ye G 24 ad (xs_pi (fun r X' => r = nI 1 ∧ lk_Z X')) 100 700) 621 [some (.ref (ad4 0)), some (.int (nI (10))), some (.int (y)), some (.ref (ad4 21)), some (.ref (ad4 22)), some (.ref (ad4 23)), some (.ref (ad4 24)), some (.ref (ad4 25)), some (.ref (ad4 26)), some (.ref (ad4 27)), some (.int (nI (fb_ct (fun e => !(mk e == (tb_follow w h num mk).1 e)) e))), some (.int (nI (e)))] [.int (nI (v))] (28) ad4 (xs_mem G ad4 Y) (5) (100) := by
          intro v hv
          subst hv
          refine jq_istore dL_acts_621 (by decide) rfl rfl ?_
          refine jq_aload dL_acts_623 rfl ?_
          refine jq_iload dL_acts_625 rfl ?_
          refine jq_aload dL_acts_627 rfl ?_
          refine jq_iload dL_acts_629 rfl ?_
          refine xq_iald dL_acts_631 (hzs) (hi) (ste) ?_
          refine xq_iast dL_acts_632 (hzm) (hi) ?_
          refine jq_iincN dL_acts_633 (by decide) rfl rfl rfl ?_
          refine jq_goto (tgt := 584) dL_acts_636 (by decide) ?_
          refine ih (e + 1) _ (by omega) (xs_fr_ai (q := 23) hf (by decide)) (fun j hj => ?_)
          rw [lk_up1 (by omega)]
          by_cases z : j = e
          · rw [if_pos z, if_pos (by omega), z]
          · rw [if_neg z, hrow j hj]; by_cases q : j < e; (· rw [if_pos q, if_pos (by omega)]); (· rw [if_neg q, if_neg (by omega)])
        refine jq_iload dL_acts_584 rfl ?_
        refine jq_aload_n dL_acts_586 rfl rfl ?_
        refine xq_sI dL_acts_587 kL_32 (c_L_edges hBY) rfl rfl (Nat.le_of_ble_eq_true rfl) ⟨⟨by decide, by decide⟩, by decide, by decide⟩ ?_
        refine jq_geN (tgt := 639) dL_acts_590 (by decide) ⟨by omega, by omega⟩ (fun c590 => ?_) (fun c590 => ?_)
        · exact absurd c590 (by omega)
        · refine jq_aload dL_acts_593 rfl ?_
          refine jq_iconst (v := (nI 1)) dL_acts_595 (by decide) ?_
          refine xq_iald dL_acts_596 (hzt2) (lr_t1) (t1y) ?_
          refine jq_neZ (tgt := 639) dL_acts_597 (by decide) (by decide) (fun c597 => ?_) (fun c597 => ?_)
          · exact absurd rfl c597
          · refine jq_iload dL_acts_600 rfl ?_
            refine jq_aload dL_acts_602 rfl ?_
            refine jq_iload dL_acts_604 rfl ?_
            refine xq_iald dL_acts_606 (hzm) (hi) (mke) ?_
            refine jq_aload dL_acts_607 rfl ?_
            refine jq_iload dL_acts_609 rfl ?_
            refine xq_iald dL_acts_611 (hzs) (hi) (ste) ?_
            refine jq_neN (tgt := 619) dL_acts_612 (by decide) ⟨by omega, by omega⟩ (fun c612 => ?_) (fun c612 => ?_)
            · refine jq_iconst (v := (nI 1)) dL_acts_619 (by decide) ?_
              refine jq_iaddN dL_acts_620 ?_
              exact s621 _ (by rw [fb_ct_succ]; simp [c612])
            · refine jq_iconst (v := (nI 0)) dL_acts_615 (by decide) ?_
              refine jq_goto (tgt := 620) dL_acts_616 (by decide) ?_
              refine jq_iaddN dL_acts_620 ?_
              exact s621 _ (by rw [fb_ct_succ]; simp [c612])
    refine jq_iload_n dL_acts_572 rfl rfl ?_
    refine jq_bipush (v := (nI 10)) dL_acts_573 (by decide) ?_
    refine jq_neN (tgt := 654) dL_acts_575 (by decide) ⟨by omega, by omega⟩ (fun c575 => ?_) (fun c575 => ?_)
    · exact absurd rfl c575
    · refine jq_iconst (v := (nI 0)) dL_acts_578 (by decide) ?_
      refine jq_istore dL_acts_579 (by decide) rfl rfl ?_
      refine jq_iconst (v := (nI 0)) dL_acts_581 (by decide) ?_
      refine jq_istore dL_acts_582 (by decide) rfl rfl ?_
      exact loop (tb_ne w h) 0 X5 (by omega) xs_fr_rf (fun j hj => by rw [if_neg (Nat.not_lt_zero _)])
  · skip
    refine jq_iload_n dL_acts_572 rfl rfl ?_
    refine jq_bipush (v := (nI 10)) dL_acts_573 (by decide) ?_
    refine jq_neN (tgt := 654) dL_acts_575 (by decide) ⟨by omega, by omega⟩ (fun c575 => ?_) (fun c575 => ?_)
    · exact absurd rfl c575
    · refine jq_iconst (v := (nI 0)) dL_acts_578 (by decide) ?_
      refine jq_istore dL_acts_579 (by decide) rfl rfl ?_
      refine jq_iconst (v := (nI 0)) dL_acts_581 (by decide) ?_
      refine jq_istore dL_acts_582 (by decide) rfl rfl ?_
      refine jq_iload dL_acts_584 rfl ?_
      refine jq_aload_n dL_acts_586 rfl rfl ?_
      refine xq_sI dL_acts_587 kL_32 (c_L_edges hB) rfl rfl (Nat.le_of_ble_eq_true rfl) ⟨⟨by decide, by decide⟩, by decide, by decide⟩ ?_
      refine jq_geN (tgt := 639) dL_acts_590 (by decide) ⟨by omega, by omega⟩ (fun c590 => ?_) (fun c590 => ?_)
      · exact absurd c590 (by omega)
      · refine jq_aload dL_acts_593 rfl ?_
        refine jq_iconst (v := (nI 1)) dL_acts_595 (by decide) ?_
        refine xq_iald dL_acts_596 (hzt) (lr_t1) (t1) ?_
        refine jq_neZ (tgt := 639) dL_acts_597 (by decide) (by omega) (fun c597 => ?_) (fun c597 => ?_)
        · exact s639 X5 0 _ xs_fr_rf (by rw [if_neg h0]; exact hS) (by rw [if_neg h0]; rfl)
        · exact absurd c597 h0
theorem tb_go_end (w h : Nat) (num : Nat → Int32) : ∀ k st rd rl c, (tb_go w h num k st rd rl c).2.2.2.2 ≤ 5
  | 0, _, _, _, _ => Nat.zero_le _
  | k + 1, st, rd, rl, c => by
    rw [tb_go]
    have := tb_broken_le w h num st
    split
    · show tb_broken w h num st ≤ 5; omega
    · split
      · exact Nat.le_refl _
      · split
        · exact tb_go_end w h num k _ _ _ _
        · exact Nat.zero_le _
set_option maxHeartbeats 16000000 in
theorem la_rest {l : Launch} {G : jq_G} {ad : Nat → Nat} {X : xs_T} {w h : Nat} {num : Nat → Int32} {mk : Nat → Nat} (hl : l.stackTraces = false) (hI : lk_I w h num mk X) {kd : Nat} (hkd2 : kd < 100) (y : Int32) (o6 o7 o8 o9 o10 o11 : Option Value) : jq_J l G mL_acts (jq_R 26 100 700) (jx_E []) (xj_Ye G 24 ad (xs_pi (fun r X' => r = nI 1 ∧ lk_Z X')) 100 700) 533 [some (.ref (ad 0)), some (.int (nI (kd))), some (.int (y)), some (.ref (ad 21)), some (.ref (ad 22)), some (.ref (ad 23)), o6, o7, o8, o9, o10, o11] [] (24) ad (xs_mem G ad X) (0) (0) := by
  obtain ⟨hL, hA, hC, hn0⟩ := id hI
  have hk := hL.1.2.2.2
  have hf4 := lk_fr4 (X := X)
  have hL4 := lk_up (lk_fr hL hf4) (show 24 ≤ 28 by decide)
  refine jq_bipush (v := (nI 24)) dL_acts_533 (by decide) ?_
  refine xm_newI dL_acts_535 (by decide) (by decide) ⟨by decide, by decide⟩ (fun ad1 ha1 => ?_)
  rw [← ha1 0 (by decide), ← ha1 21 (by decide), ← ha1 22 (by decide), ← ha1 23 (by decide)]
  refine jq_astore dL_acts_537 (by decide) rfl rfl ?_
  refine jq_bipush (v := (nI 24)) dL_acts_539 (by decide) ?_
  refine xm_newI dL_acts_541 (by decide) (by decide) ⟨by decide, by decide⟩ (fun ad2 ha2 => ?_)
  rw [← ha2 0 (by decide), ← ha2 21 (by decide), ← ha2 22 (by decide), ← ha2 23 (by decide), ← ha2 24 (by decide)]
  refine jq_astore dL_acts_543 (by decide) rfl rfl ?_
  refine jq_bipush (v := (nI 24)) dL_acts_545 (by decide) ?_
  refine xm_newI dL_acts_547 (by decide) (by decide) ⟨by decide, by decide⟩ (fun ad3 ha3 => ?_)
  rw [← ha3 0 (by decide), ← ha3 21 (by decide), ← ha3 22 (by decide), ← ha3 23 (by decide), ← ha3 24 (by decide), ← ha3 25 (by decide)]
  refine jq_astore dL_acts_549 (by decide) rfl rfl ?_
  refine jq_iconst (v := (nI 4)) dL_acts_551 (by decide) ?_
  refine xm_newI dL_acts_552 (by decide) (by decide) ⟨by decide, by decide⟩ (fun ad4 ha4 => ?_)
  rw [← ha4 0 (by decide), ← ha4 21 (by decide), ← ha4 22 (by decide), ← ha4 23 (by decide), ← ha4 24 (by decide), ← ha4 25 (by decide), ← ha4 26 (by decide)]
  have ha : ∀ k, k < 24 → ad4 k = ad k := fun k hk => by rw [ha4 k (by omega), ha3 k (by omega), ha2 k (by omega), ha1 k hk]
  refine jq_astore dL_acts_554 (by decide) rfl rfl ?_
  refine jq_aload_n dL_acts_556 rfl rfl ?_
  refine jq_aload dL_acts_557 rfl ?_
  refine jq_aload dL_acts_559 rfl ?_
  refine jq_aload dL_acts_561 rfl ?_
  refine jq_aload dL_acts_563 rfl ?_
  refine jq_aload dL_acts_565 rfl ?_
  refine jq_aload dL_acts_567 rfl ?_
  refine xm_sV dL_acts_569 kL_149 (c_L_follow (n := 28) (ad := ad4) (qs := 24) hL4.1 hL4.2.2 hL4.2.1 (lk_nums hn0) lk_rows4) rfl rfl (Nat.le_of_ble_eq_true rfl) ⟨⟨by decide, by decide⟩, by decide, by decide⟩ (fun X5 hF => ?_)
  have hL5 := lk_fr hL4 hF.1
  have hA5 := dv_afr (dv_afr hA hf4) hF.1
  have hC5 := dv_lcfr (dv_lcfr hC hf4) hF.1
  by_cases z : kd = 10
  · subst z
    exact la_mall ha hL5 hA5 hC5 hn0 lk_rows4 hF (tb_go_end _ _ _ _ _ _ _ _) y _ _
  · exact la_same hl ha hL5 hA5 hC5 hn0 lk_rows4 hF z hkd2 y _ _
set_option maxHeartbeats 16000000 in
theorem c_L_acts {l : Launch} {G : jq_G} {ad : Nat → Nat} {X : xs_T} {w h : Nat} {num : Nat → Int32} {mk : Nat → Nat} (hl : l.stackTraces = false) (hI : lk_I w h num mk X) {kd : Nat} (hkd2 : kd < 100) (y : Int32) : xj_Ct l G mL_acts 26 100 700 [.ref (ad 0), .int (nI (kd)), .int (y), .ref (ad 21), .ref (ad 22), .ref (ad 23)] 24 ad X (xs_pi (fun r X' => r = nI 1 ∧ lk_Z X')) := by
  have hL := hI.1
  have h3 := lr_sm_lt y (show 0 < 3 by decide)
  refine xj_Ct_of (L := [some (.ref (ad 0)), some (.int (nI (kd))), some (.int (y)), some (.ref (ad 21)), some (.ref (ad 22)), some (.ref (ad 23)), none, none, none, none, none, none]) rfl (Nat.le_of_ble_eq_true rfl) rfl ?_
  refine jq_iload_n dL_acts_0 rfl rfl ?_
  refine jq_neZ (tgt := 166) dL_acts_1 (by decide) (by omega) (fun c1 => ?_) (fun c1 => ?_)
  · refine jq_iload_n dL_acts_166 rfl rfl ?_
    refine jq_iconst (v := (nI 5)) dL_acts_167 (by decide) ?_
    refine jq_geN (tgt := 331) dL_acts_168 (by decide) ⟨by omega, by omega⟩ (fun c168 => ?_) (fun c168 => ?_)
    · refine jq_iload_n dL_acts_331 rfl rfl ?_
      refine jq_bipush (v := (nI 9)) dL_acts_332 (by decide) ?_
      refine jq_geN (tgt := 489) dL_acts_334 (by decide) ⟨by omega, by omega⟩ (fun c334 => ?_) (fun c334 => ?_)
      · refine jq_iload_n dL_acts_489 rfl rfl ?_
        refine jq_bipush (v := (nI 9)) dL_acts_490 (by decide) ?_
        refine jq_neN (tgt := 533) dL_acts_492 (by decide) ⟨by omega, by omega⟩ (fun c492 => ?_) (fun c492 => ?_)
        · exact la_rest hl hI hkd2 _ _ _ _ _ _ _
        · refine jq_iload_n dL_acts_495 rfl rfl ?_
          refine jq_iconst (v := (nI 3)) dL_acts_496 (by decide) ?_
          refine xq_sI dL_acts_497 kL_135 (c_L_some y (by decide) (by decide)) rfl rfl (Nat.le_of_ble_eq_true rfl) ⟨⟨by decide, by decide⟩, by decide, by decide⟩ ?_
          refine jq_neZ (tgt := 533) dL_acts_500 (by decide) (by omega) (fun c500 => ?_) (fun c500 => ?_)
          · exact la_rest hl hI hkd2 _ _ _ _ _ _ _
          · exact la_wipe hI _ _ _ _ _ _ _ _
      · exact la_mark hl hI _ _ _ _ _ _ _ _
    · exact la_num hl hI _ _ _ _ _ _ _ _
  · exact la_lay hl hI _ _ _ _ _ _ _ _
