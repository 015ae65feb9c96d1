def tb_stp (w h : Nat) (num : Nat → Int32) (st : Nat → Nat) (rd rl : Nat → Int32) (c : Nat) : Bool × tb_Go :=
  if tb_broken w h num st ≠ 0 then (false, st, rd, rl, c, tb_broken w h num st)
  else if tb_torn w h (tb_asks w h num st) = true then (false, st, rd, rl, c, 5)
  else if tb_more w h (tb_asks w h num st) = true then (true, tb_dec (tb_asks w h num st) st, tb_decR (tb_asks w h num st) rd (c + 1), tb_decL (tb_asks w h num st) rl, c + 1, 0)
  else (false, st, rd, rl, c, 0)
theorem tb_go_stp (w h : Nat) (num : Nat → Int32) (k : Nat) (st : Nat → Nat) (rd rl : Nat → Int32) (c : Nat) : tb_go w h num (k + 1) st rd rl c = if (tb_stp w h num st rd rl c).1 = true then tb_go w h num k (tb_stp w h num st rd rl c).2.1 (tb_stp w h num st rd rl c).2.2.1 (tb_stp w h num st rd rl c).2.2.2.1 (tb_stp w h num st rd rl c).2.2.2.2.1 else (tb_stp w h num st rd rl c).2 := by
  rw [tb_go]
  unfold tb_stp
  by_cases h1 : tb_broken w h num st ≠ 0
  · rw [if_pos h1, if_pos h1]; rfl
  · rw [if_neg h1, if_neg h1]
    by_cases h2 : tb_torn w h (tb_asks w h num st) = true
    · rw [if_pos h2, if_pos h2]; rfl
    · rw [if_neg h2, if_neg h2]
      by_cases h3 : tb_more w h (tb_asks w h num st) = true
      · rw [if_pos h3, if_pos h3]; rfl
      · rw [if_neg h3, if_neg h3]; rfl
theorem tb_stp_1 {w h : Nat} {num : Nat → Int32} {st : Nat → Nat} {rd rl : Nat → Int32} {c : Nat} (h1 : tb_broken w h num st ≠ 0) : tb_stp w h num st rd rl c = (false, st, rd, rl, c, tb_broken w h num st) := by
  unfold tb_stp; rw [if_pos h1]
theorem tb_stp_2 {w h : Nat} {num : Nat → Int32} {st : Nat → Nat} {rd rl : Nat → Int32} {c : Nat} (h1 : tb_broken w h num st = 0) (h2 : tb_torn w h (tb_asks w h num st) = true) : tb_stp w h num st rd rl c = (false, st, rd, rl, c, 5) := by
  unfold tb_stp; rw [if_neg (fun q => q h1), if_pos h2]
theorem tb_stp_3 {w h : Nat} {num : Nat → Int32} {st : Nat → Nat} {rd rl : Nat → Int32} {c : Nat} (h1 : tb_broken w h num st = 0) (h2 : tb_torn w h (tb_asks w h num st) = false) (h3 : tb_more w h (tb_asks w h num st) = true) : tb_stp w h num st rd rl c = (true, tb_dec (tb_asks w h num st) st, tb_decR (tb_asks w h num st) rd (c + 1), tb_decL (tb_asks w h num st) rl, c + 1, 0) := by
  unfold tb_stp; rw [if_neg (fun q => q h1), if_neg (by rw [h2]; decide), if_pos h3]
theorem tb_stp_4 {w h : Nat} {num : Nat → Int32} {st : Nat → Nat} {rd rl : Nat → Int32} {c : Nat} (h1 : tb_broken w h num st = 0) (h2 : tb_torn w h (tb_asks w h num st) = false) (h3 : tb_more w h (tb_asks w h num st) = false) : tb_stp w h num st rd rl c = (false, st, rd, rl, c, 0) := by
  unfold tb_stp; rw [if_neg (fun q => q h1), if_neg (by rw [h2]; decide), if_neg (by rw [h3]; decide)]
def dv_R (w h : Nat) (g : tb_Go) (X : xs_T) : Prop := dv_V w h g.1 g.2.1 g.2.2.1 g.2.2.2.1 X ∧ X.1 16 7 = nI g.2.2.2.2
theorem dv_dlt {w h : Nat} (hW : tb_W w h) (num : Nat → Int32) (st : Nat → Nat) : (dv_asks w h num st).2.1 < 2 ^ 40 ∧ (dv_asks w h num st).2.2 < 2 ^ 40 := ⟨dv_set_lt hW (dv_inU_all num st).1, dv_set_lt hW (dv_inU_all num st).2⟩
set_option maxHeartbeats 4000000 in
theorem c_X2_playRound {l : Launch} {G : jq_G} {n : Nat} {ad : Nat → Nat} {X : xs_T} (hn : 21 ≤ n) {w h : Nat} {num : Nat → Int32} {st : Nat → Nat} {rd rl : Nat → Int32} {c : Nat} (hT : dv_T w h X) (hN : dv_N w h num X) (hst : ∀ e, e < tb_ne w h → st e ≤ 2) (hV : dv_V w h st rd rl c X) : xs_Ct l G mX2_playRound 5 [.ref (ad 16)] n ad X (xs_pi (fun v X' => xs_fr dv_SC dv_FC X X' ∧ v = tb_b (tb_stp w h num st rd rl c).1 ∧ dv_R w h (tb_stp w h num st rd rl c).2 X')) := by
  obtain ⟨hd1, hd2⟩ := dv_dlt hT.1 num st
  have ho : (dv_asks w h num st).2.1 ||| (dv_asks w h num st).2.2 < 2 ^ 40 := Nat.or_lt_two_pow hd1 hd2
  have hb4 := tb_broken_le w h num st
  refine xs_Ct_of (L := [some (.ref (ad 16))]) rfl (Nat.le_of_ble_eq_true rfl) rfl ?_
  refine jq_aload_n dX2_playRound_0 rfl rfl ?_
  refine xq_getR 11 fX2_22 dX2_playRound_1 (xs_lt (by decide) hn) (by decide) ?_
  refine jq_aload_n dX2_playRound_4 rfl rfl ?_
  refine xq_getL fX2_34 dX2_playRound_5 (xs_lt (by decide) hn) (by decide) hV.1.1 ?_
  refine jq_aload_n dX2_playRound_8 rfl rfl ?_
  refine xq_getL fX2_38 dX2_playRound_9 (xs_lt (by decide) hn) (by decide) hV.1.2.1 ?_
  refine xq_rV dX2_playRound_12 kX2_57 (c_X4_look hn hT hst) (xs_lt (by decide) hn) ⟨rfl, rfl⟩ rfl rfl (Nat.le_of_ble_eq_true rfl) ⟨⟨by decide, by decide⟩, Nat.le_refl _, Nat.le_refl _⟩ (fun X12 h12 => ?_)
  obtain ⟨hf1, hK1, hC1⟩ := h12
  have hT1 := dv_fr hT hf1
  have hN1 := dv_nfr hN hf1
  have hV1 := dv_vfr hV hf1
  have hf1m : xs_fr dv_SC dv_FC X X12 := xs_fr_mo hf1 (by decide)
  refine jq_aload_n dX2_playRound_15 rfl rfl ?_
  refine jq_aload_n dX2_playRound_16 rfl rfl ?_
  refine xq_getR 11 fX2_22 dX2_playRound_17 (xs_lt (by decide) hn) (by decide) ?_
  refine xq_vI dX2_playRound_20 kX2_62 (c_X4_reason hn hT1 hK1 hN1 hC1) (xs_lt (by decide) hn) ⟨rfl, rfl⟩ rfl rfl (Nat.le_of_ble_eq_true rfl) ⟨⟨by decide, by decide⟩, Nat.le_refl _, Nat.le_refl _⟩ ?_
  rw [dv_broken_eq hT.1]
  refine xq_putI pX2_45 dX2_playRound_23 (xs_lt (by decide) hn) (by decide) rfl rfl ?_
  have hfE : xs_fr [] [(16, 7)] X12 (xs_si X12 16 7 (nI (tb_broken w h num st))) := xs_fr_si xs_fr_rf (by decide)
  have hf2 : xs_fr dv_SC dv_FC X (xs_si X12 16 7 (nI (tb_broken w h num st))) := xs_fr_si hf1m (by decide)
  refine jq_aload_n dX2_playRound_26 rfl rfl ?_
  refine xq_getI fX2_45 dX2_playRound_27 (xs_lt (by decide) hn) (by decide) xs_si_at ?_
  refine jq_eqZ (tgt := 35) dX2_playRound_30 (by decide) (by omega) (fun c30 => ?_) (fun c30 => ?_)
  · refine jq_aload_n dX2_playRound_35 rfl rfl ?_
    refine xq_getR 11 fX2_22 dX2_playRound_36 (xs_lt (by decide) hn) (by decide) ?_
    refine xq_rV dX2_playRound_39 kX2_66 (c_X4_askRules hn (dv_fr hT1 hfE) (dv_kfr hK1 hfE) (dv_nfr hN1 hfE) (dv_cfr hC1 hfE)) (xs_lt (by decide) hn) ⟨rfl, rfl⟩ rfl rfl (Nat.le_of_ble_eq_true rfl) ⟨⟨by decide, by decide⟩, Nat.le_refl _, Nat.le_refl _⟩ (fun X39 h39 => ?_)
    obtain ⟨hf3, hD3⟩ := h39
    have hf3m := xs_fr_tr hf2 (xs_fr_mo (S' := dv_SC) (F' := dv_FC) hf3 (by decide))
    have hV3 := dv_vfr (dv_vfr hV1 hfE) hf3
    have hE3 := xs_fi hf3 16 7 xs_si_at
    rw [c30] at hE3
    refine jq_aload_n dX2_playRound_42 rfl rfl ?_
    refine xq_getR 11 fX2_22 dX2_playRound_43 (xs_lt (by decide) hn) (by decide) ?_
    refine xq_vI dX2_playRound_46 kX2_69 (c_X4_isTorn hn hD3) (xs_lt (by decide) hn) ⟨rfl, rfl⟩ rfl rfl (Nat.le_of_ble_eq_true rfl) ⟨⟨by decide, by decide⟩, Nat.le_refl _, Nat.le_refl _⟩ ?_
    rw [dv_torn hT.1]
    refine jq_if_eq (tgt := 59) dX2_playRound_49 (by decide) (fun c49 => ?_) (fun c49 => ?_)
    · have d49 := tb_b0.mp c49
      refine jq_aload_n dX2_playRound_59 rfl rfl ?_
      refine xq_getR 11 fX2_22 dX2_playRound_60 (xs_lt (by decide) hn) (by decide) ?_
      refine xq_getL fX2_72 dX2_playRound_63 (xs_lt (by decide) hn) (by decide) hD3.2.1.1 ?_
      refine jq_aload_n dX2_playRound_66 rfl rfl ?_
      refine xq_getR 11 fX2_22 dX2_playRound_67 (xs_lt (by decide) hn) (by decide) ?_
      refine xq_getL fX2_75 dX2_playRound_70 (xs_lt (by decide) hn) (by decide) hD3.2.2.1 ?_
      refine jq_lor dX2_playRound_73 ?_
      rw [wb_or (by omega) (by omega)]
      refine jq_lconst (v := 0) dX2_playRound_74 (by decide) ?_
      refine jq_lcmp dX2_playRound_75 ?_
      refine jq_if_ne (tgt := 81) dX2_playRound_76 (by decide) (fun c76 => ?_) (fun c76 => ?_)
      · have d76 : tb_more w h (tb_asks w h num st) = true := by rw [← Bool.not_eq_false]; exact fun q => c76 ((lN_eq0 (by omega)).mpr ((dv_more hT.1 num st).mpr q))
        refine jq_aload_n dX2_playRound_81 rfl rfl ?_
        refine xq_rV dX2_playRound_82 kX2_78 (c_X2_decide hn (dv_fr hT hf3m) hD3 hV3 d49) (xs_lt (by decide) hn) ⟨rfl, rfl⟩ rfl rfl (Nat.le_of_ble_eq_true rfl) ⟨⟨by decide, by decide⟩, Nat.le_refl _, Nat.le_refl _⟩ (fun X82 h82 => ?_)
        refine jq_iconst (v := 1) dX2_playRound_85 (by decide) ?_
        exact xq_ireturn dX2_playRound_86 rfl rfl (⟨1, rfl, xs_fr_tr hf3m (xs_fr_mo h82.1 (by decide)), by rw [tb_stp_3 c30 d49 d76]; rfl, by rw [tb_stp_3 c30 d49 d76]; exact ⟨h82.2, xs_fi h82.1 16 7 hE3⟩⟩)
      · have d76 := (dv_more hT.1 num st).mp ((lN_eq0 (by omega)).mp c76)
        refine jq_iconst (v := 0) dX2_playRound_79 (by decide) ?_
        exact xq_ireturn dX2_playRound_80 rfl rfl (⟨0, rfl, hf3m, by rw [tb_stp_4 c30 d49 d76]; rfl, by rw [tb_stp_4 c30 d49 d76]; exact ⟨hV3, hE3⟩⟩)
    · have d49 := tb_b1.mp c49
      refine jq_aload_n dX2_playRound_52 rfl rfl ?_
      refine jq_iconst (v := (nI 5)) dX2_playRound_53 (by decide) ?_
      refine xq_putI pX2_45 dX2_playRound_54 (xs_lt (by decide) hn) (by decide) rfl rfl ?_
      refine jq_iconst (v := 0) dX2_playRound_57 (by decide) ?_
      exact xq_ireturn dX2_playRound_58 rfl rfl (⟨0, rfl, xs_fr_si hf3m (by decide), by rw [tb_stp_2 c30 d49]; rfl, by rw [tb_stp_2 c30 d49]; exact ⟨dv_vfr hV3 (xs_fr_si (S := []) (F := [(16, 7)]) xs_fr_rf (by decide)), xs_si_at⟩⟩)
  · refine jq_iconst (v := 0) dX2_playRound_33 (by decide) ?_
    exact xq_ireturn dX2_playRound_34 rfl rfl (⟨0, rfl, hf2, by rw [tb_stp_1 c30]; rfl, by rw [tb_stp_1 c30]; exact ⟨dv_vfr hV1 hfE, xs_si_at⟩⟩)
set_option maxHeartbeats 4000000 in
theorem c_X2_run {l : Launch} {G : jq_G} {n : Nat} {ad : Nat → Nat} {X : xs_T} (hn : 21 ≤ n) {w h : Nat} {num : Nat → Int32} {mk : Nat → Nat} (hT : dv_T w h X) (hN : dv_N w h num X) (hst : ∀ e, e < tb_ne w h → mk e ≤ 2) : xs_Ct l G mX2_run 6 [.ref (ad 16), .long (lN (dv_S w h mk 1)), .long (lN (dv_S w h mk 2))] n ad X (xs_pv (fun X' => xs_fr dv_SC dv_FC X X' ∧ dv_R w h (tb_follow w h num mk) X' ∧ ∀ e, e < tb_ne w h → (tb_follow w h num mk).1 e ≤ 2)) := by
  have done : ∀ (m : Nat) (Y : xs_T), m ≤ 41 → xs_fr dv_SC dv_FC X Y → dv_R w h (tb_follow w h num mk) Y → (∀ e, e < tb_ne w h → (tb_follow w h num mk).1 e ≤ 2) → jq_J l G mX2_run (jq_R 6 0 0) jq_E0 (xs_Ye G n ad (xs_pv (fun X' => xs_fr dv_SC dv_FC X X' ∧ dv_R w h (tb_follow w h num mk) X' ∧ ∀ e, e < tb_ne w h → (tb_follow w h num mk).1 e ≤ 2))) 12 [some (.ref (ad 16)), some (.long (lN (dv_S w h mk 1))), none, some (.long (lN (dv_S w h mk 2))), none, some (.int (0)), some (.int (nI (m)))] [] n ad (xs_mem G ad Y) 0 0 := by
    intro m Y hm hf hR hle
    refine jq_iload dX2_run_12 rfl ?_
    refine jq_bipush (v := (nI 40)) dX2_run_14 (by decide) ?_
    refine jq_gtN (tgt := 36) dX2_run_16 (by decide) ⟨by omega, by omega⟩ (fun c16 => ?_) (fun c16 => ?_)
    · exact xq_return rfl dX2_run_36 rfl (⟨rfl, hf, hR, hle⟩)
    · refine jq_iload dX2_run_19 rfl ?_
      refine jq_if_eq (tgt := 36) dX2_run_21 (by decide) (fun c21 => ?_) (fun c21 => ?_)
      · exact xq_return rfl dX2_run_36 rfl (⟨rfl, hf, hR, hle⟩)
      · exact absurd rfl c21
  have main : ∀ (k : Nat) (st : Nat → Nat) (rd rl : Nat → Int32) (c m : Nat) (Y : xs_T), m + k = 41 → xs_fr dv_SC dv_FC X Y → (∀ e, e < tb_ne w h → st e ≤ 2) → dv_V w h st rd rl c Y → Y.1 16 7 = nI 0 → tb_go w h num k st rd rl c = tb_follow w h num mk → jq_J l G mX2_run (jq_R 6 0 0) jq_E0 (xs_Ye G n ad (xs_pv (fun X' => xs_fr dv_SC dv_FC X X' ∧ dv_R w h (tb_follow w h num mk) X' ∧ ∀ e, e < tb_ne w h → (tb_follow w h num mk).1 e ≤ 2))) 12 [some (.ref (ad 16)), some (.long (lN (dv_S w h mk 1))), none, some (.long (lN (dv_S w h mk 2))), none, some (.int (1)), some (.int (nI (m)))] [] n ad (xs_mem G ad Y) 0 0 := by
    intro k
    induction k with
    | zero =>
      intro st rd rl c m Y hk hf hs hV hE hgo
      refine jq_iload dX2_run_12 rfl ?_
      refine jq_bipush (v := (nI 40)) dX2_run_14 (by decide) ?_
      refine jq_gtN (tgt := 36) dX2_run_16 (by decide) ⟨by omega, by omega⟩ (fun c16 => ?_) (fun c16 => ?_)
      · exact xq_return rfl dX2_run_36 rfl (⟨rfl, hf, by rw [← hgo]; exact ⟨hV, hE⟩, by rw [← hgo]; exact hs⟩)
      · exact absurd c16 (by omega)
    | succ k ih =>
      intro st rd rl c m Y hk hf hs hV hE hgo
      rw [tb_go_stp] at hgo
      refine jq_iload dX2_run_12 rfl ?_
      refine jq_bipush (v := (nI 40)) dX2_run_14 (by decide) ?_
      refine jq_gtN (tgt := 36) dX2_run_16 (by decide) ⟨by omega, by omega⟩ (fun c16 => ?_) (fun c16 => ?_)
      · exact absurd c16 (by omega)
      · refine jq_iload dX2_run_19 rfl ?_
        refine jq_if_eq (tgt := 36) dX2_run_21 (by decide) (fun c21 => ?_) (fun c21 => ?_)
        · exact absurd c21 (by decide)
        · refine jq_aload_n dX2_run_24 rfl rfl ?_
          refine xq_rI dX2_run_25 kX2_30 (c_X2_playRound hn (dv_fr hT hf) (dv_nfr hN hf) hs hV) (xs_lt (by decide) hn) ⟨rfl, rfl⟩ rfl rfl (Nat.le_of_ble_eq_true rfl) ⟨⟨by decide, by decide⟩, Nat.le_refl _, Nat.le_refl _⟩ (fun v25 X25 h25 => ?_)
          obtain ⟨hf2, hv2, hR2⟩ := h25
          have hf3 := xs_fr_tr hf hf2
          refine jq_istore dX2_run_28 (by decide) rfl rfl ?_
          refine jq_iincN dX2_run_30 (by decide) rfl rfl rfl ?_
          refine jq_goto (tgt := 12) dX2_run_33 (by decide) ?_
          have hs2 : ∀ e, e < tb_ne w h → (tb_stp w h num st rd rl c).2.1 e ≤ 2 := by
            unfold tb_stp
            repeat' split
            · exact hs
            · exact hs
            · rename_i ht _; exact tb_dec_le hT.1 hs (by simpa using ht)
            · exact hs
          by_cases hg : (tb_stp w h num st rd rl c).1 = true
          · rw [if_pos hg] at hgo
            have hE2 : (tb_stp w h num st rd rl c).2.2.2.2.2 = 0 := by
              revert hg
              unfold tb_stp
              repeat' split
              all_goals first | exact fun q => Bool.noConfusion q | exact fun _ => rfl
            rw [hv2, hg]
            exact ih _ _ _ _ (m + 1) _ (by omega) hf3 hs2 hR2.1 (by rw [hR2.2, hE2]) hgo
          · rw [if_neg hg] at hgo
            have hg2 : (tb_stp w h num st rd rl c).1 = false := by simpa using hg
            rw [hv2, hg2]
            exact done (m + 1) _ (by omega) hf3 (by rw [← hgo]; exact hR2) (by rw [← hgo]; exact hs2)
  refine xs_Ct_of (L := [some (.ref (ad 16)), some (.long (lN (dv_S w h mk 1))), none, some (.long (lN (dv_S w h mk 2))), none, none, none]) rfl (Nat.le_of_ble_eq_true rfl) rfl ?_
  refine jq_aload_n dX2_run_0 rfl rfl ?_
  refine jq_lload_n dX2_run_1 rfl rfl ?_
  refine jq_lload_n dX2_run_2 rfl rfl ?_
  refine xq_rV dX2_run_3 kX2_26 (c_X2_begin hn hT hst) (xs_lt (by decide) hn) ⟨rfl, rfl⟩ rfl rfl (Nat.le_of_ble_eq_true rfl) ⟨⟨by decide, by decide⟩, Nat.le_refl _, Nat.le_refl _⟩ (fun X3 h3 => ?_)
  refine jq_iconst (v := 1) dX2_run_6 (by decide) ?_
  refine jq_istore dX2_run_7 (by decide) rfl rfl ?_
  refine jq_iconst (v := (nI 0)) dX2_run_9 (by decide) ?_
  refine jq_istore dX2_run_10 (by decide) rfl rfl ?_
  exact main 41 mk _ _ 0 0 _ (by omega) h3.1 hst h3.2.1 h3.2.2 rfl
