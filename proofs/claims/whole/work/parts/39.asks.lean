set_option maxHeartbeats 4000000 in
theorem c_X6_wantAround {l : Launch} {G : jq_G} {n : Nat} {ad : Nat → Nat} {X : xs_T} (hn : 39 ≤ n) {w h : Nat} {st : Nat → Nat} {W : tb_Wt} (hT : rf_T w h X) (hS : rf_S w h st X) (hW : rf_W w h W X) {c how b : Nat} (hc : c < tb_nc w h) (hh : how ≤ 3) (hb : b ≤ 7) : xs_Ct l G mX6_wantAround 2 [.ref (ad 21), .int (nI (c)), .int (nI (how)), .int (nI (b))] n ad X (xs_pv (fun X' => xs_fr [30, 31] [] X X' ∧ rf_W w h (tb_wantA w h st W c how b 4) X')) := by
  have hz := tb_sizes hT.1
  have loop : ∀ (k s : Nat) (Y : xs_T), s + k = 4 → xs_fr [30, 31] [] X Y → rf_W w h (tb_wantA w h st W c how b s) Y → jq_J l G mX6_wantAround (jq_R 2 0 0) jq_E0 (xs_Ye G n ad (xs_pv (fun X' => xs_fr [30, 31] [] X X' ∧ rf_W w h (tb_wantA w h st W c how b 4) X'))) 3 [some (.ref (ad 21)), some (.int (nI (c))), some (.int (nI (how))), some (.int (nI (b))), some (.int (nI (s)))] [] n ad (xs_mem G ad Y) 0 0 := by
    intro k
    induction k with
    | zero =>
      intro s Y hk hf hY
      refine jq_iload dX6_wantAround_3 rfl ?_
      refine jq_iconst (v := (nI 4)) dX6_wantAround_5 (by decide) ?_
      refine jq_geN (tgt := 32) dX6_wantAround_6 (by decide) ⟨by omega, by omega⟩ (fun c6 => ?_) (fun c6 => ?_)
      · exact xq_return rfl dX6_wantAround_32 rfl (⟨rfl, hf, by rw [show 4 = s by omega]; exact hY⟩)
      · exact absurd c6 (by omega)
    | succ k ih =>
      intro s Y hk hf hY
      have hT2 := rf_fr hT hf
      have hS2 := rf_sfr hS hf
      have h1 := hT2.2.2.2.2.2.2.2.2.2.2 c hc s (by omega)
      have hsd := tb_sides hT.1 c hc s (by omega)
      have hi : vp_in (nI (4 * c + s)) 64 := vp_inN (by omega) (by decide)
      refine jq_iload dX6_wantAround_3 rfl ?_
      refine jq_iconst (v := (nI 4)) dX6_wantAround_5 (by decide) ?_
      refine jq_geN (tgt := 32) dX6_wantAround_6 (by decide) ⟨by omega, by omega⟩ (fun c6 => ?_) (fun c6 => ?_)
      · exact absurd c6 (by omega)
      · refine jq_aload_n dX6_wantAround_9 rfl rfl ?_
        refine jq_aload_n dX6_wantAround_10 rfl rfl ?_
        refine xq_getR 26 fX6_22 dX6_wantAround_11 (xs_lt (by decide) hn) (by decide) ?_
        refine jq_iconst (v := (nI 4)) dX6_wantAround_14 (by decide) ?_
        refine jq_iload_n dX6_wantAround_15 rfl rfl ?_
        refine jq_imulN dX6_wantAround_16 ?_
        refine jq_iload dX6_wantAround_17 rfl ?_
        refine jq_iaddN dX6_wantAround_19 ?_
        refine xq_iaload dX6_wantAround_20 (xs_lt (by decide) hn) rfl hi (xs_rd h1 (by omega)) ?_
        refine jq_iload_n dX6_wantAround_21 rfl rfl ?_
        refine jq_iload_n dX6_wantAround_22 rfl rfl ?_
        refine xq_rV dX6_wantAround_23 kX6_134 (c_X6_want hn hT2 hS2 hY hsd hh hb) (xs_lt (by decide) hn) ⟨rfl, rfl⟩ rfl rfl (Nat.le_of_ble_eq_true rfl) ⟨⟨by decide, by decide⟩, Nat.le_refl _, Nat.le_refl _⟩ (fun X23 h23 => ?_)
        refine jq_iincN dX6_wantAround_26 (by decide) rfl rfl rfl ?_
        refine jq_goto (tgt := 3) dX6_wantAround_29 (by decide) ?_
        exact ih (s + 1) _ (by omega) (xs_fr_tr hf h23.1) h23.2
  refine xs_Ct_of (L := [some (.ref (ad 21)), some (.int (nI (c))), some (.int (nI (how))), some (.int (nI (b))), none]) rfl (Nat.le_of_ble_eq_true rfl) rfl ?_
  refine jq_iconst (v := (nI 0)) dX6_wantAround_0 (by decide) ?_
  refine jq_istore dX6_wantAround_1 (by decide) rfl rfl ?_
  exact loop 4 0 X (by omega) xs_fr_rf hW
set_option maxHeartbeats 4000000 in
theorem c_X6_wantAt {l : Launch} {G : jq_G} {n : Nat} {ad : Nat → Nat} {X : xs_T} (hn : 39 ≤ n) {w h : Nat} {st : Nat → Nat} {W : tb_Wt} (hT : rf_T w h X) (hS : rf_S w h st X) (hW : rf_W w h W X) {p how b : Nat} (hp : p < 2 ^ 31) (hh : how ≤ 3) (hb : b ≤ 7) : xs_Ct l G mX6_wantAt 2 [.ref (ad 21), .int (nI (p)), .int (nI (how)), .int (nI (b))] n ad X (xs_pv (fun X' => xs_fr [30, 31] [] X X' ∧ rf_W w h (tb_wantP w h st W p how b (tb_ne w h)) X')) := by
  have hz := tb_sizes hT.1
  have loop : ∀ (k e : Nat) (Y : xs_T), e + k = tb_ne w h → xs_fr [30, 31] [] X Y → rf_W w h (tb_wantP w h st W p how b e) Y → jq_J l G mX6_wantAt (jq_R 2 0 0) jq_E0 (xs_Ye G n ad (xs_pv (fun X' => xs_fr [30, 31] [] X X' ∧ rf_W w h (tb_wantP w h st W p how b (tb_ne w h)) X'))) 3 [some (.ref (ad 21)), some (.int (nI (p))), some (.int (nI (how))), some (.int (nI (b))), some (.int (nI (e)))] [] n ad (xs_mem G ad Y) 0 0 := by
    intro k
    induction k with
    | zero =>
      intro e Y hk hf hY
      have hT2 := rf_fr hT hf
      refine jq_iload dX6_wantAt_3 rfl ?_
      refine jq_aload_n dX6_wantAt_5 rfl rfl ?_
      refine xq_getI fX6_74 dX6_wantAt_6 (xs_lt (by decide) hn) (by decide) hT2.2.2.2.2.1 ?_
      refine jq_geN (tgt := 48) dX6_wantAt_9 (by decide) ⟨by omega, by omega⟩ (fun c9 => ?_) (fun c9 => ?_)
      · exact xq_return rfl dX6_wantAt_48 rfl (⟨rfl, hf, by rw [show tb_ne w h = e by omega]; exact hY⟩)
      · exact absurd c9 (by omega)
    | succ k ih =>
      intro e Y hk hf hY
      have he : e < tb_ne w h := by omega
      have hT2 := rf_fr hT hf
      have hS2 := rf_sfr hS hf
      have h1 := hT2.2.2.2.2.2.2.1 e he
      have h2 := hT2.2.2.2.2.2.2.2.1 e he
      have hb2 := tb_ends hT.1 e he
      have hi : vp_in (nI e) 40 := vp_inN (by omega) (by decide)
      have h42 : ∀ Z : xs_T, xs_fr [30, 31] [] X Z → rf_W w h (tb_wantP w h st W p how b (e + 1)) Z → jq_J l G mX6_wantAt (jq_R 2 0 0) jq_E0 (xs_Ye G n ad (xs_pv (fun X' => xs_fr [30, 31] [] X X' ∧ rf_W w h (tb_wantP w h st W p how b (tb_ne w h)) X'))) 42 [some (.ref (ad 21)), some (.int (nI (p))), some (.int (nI (how))), some (.int (nI (b))), some (.int (nI (e)))] [] n ad (xs_mem G ad Z) 0 0 := by
        intro Z hfZ hZ
        refine jq_iincN dX6_wantAt_42 (by decide) rfl rfl rfl ?_
        refine jq_goto (tgt := 3) dX6_wantAt_45 (by decide) ?_
        exact ih (e + 1) Z (by omega) hfZ hZ
      have h34 : (tb_one w h e = p ∨ tb_oth w h e = p) → jq_J l G mX6_wantAt (jq_R 2 0 0) jq_E0 (xs_Ye G n ad (xs_pv (fun X' => xs_fr [30, 31] [] X X' ∧ rf_W w h (tb_wantP w h st W p how b (tb_ne w h)) X'))) 34 [some (.ref (ad 21)), some (.int (nI (p))), some (.int (nI (how))), some (.int (nI (b))), some (.int (nI (e)))] [] n ad (xs_mem G ad Y) 0 0 := by
        intro hor
        refine jq_aload_n dX6_wantAt_34 rfl rfl ?_
        refine jq_iload dX6_wantAt_35 rfl ?_
        refine jq_iload_n dX6_wantAt_37 rfl rfl ?_
        refine jq_iload_n dX6_wantAt_38 rfl rfl ?_
        refine xq_rV dX6_wantAt_39 kX6_134 (c_X6_want hn hT2 hS2 hY he hh hb) (xs_lt (by decide) hn) ⟨rfl, rfl⟩ rfl rfl (Nat.le_of_ble_eq_true rfl) ⟨⟨by decide, by decide⟩, Nat.le_refl _, Nat.le_refl _⟩ (fun X39 h39 => ?_)
        exact h42 _ (xs_fr_tr hf h39.1) (by rw [tb_wantP, if_pos hor]; exact h39.2)
      refine jq_iload dX6_wantAt_3 rfl ?_
      refine jq_aload_n dX6_wantAt_5 rfl rfl ?_
      refine xq_getI fX6_74 dX6_wantAt_6 (xs_lt (by decide) hn) (by decide) hT2.2.2.2.2.1 ?_
      refine jq_geN (tgt := 48) dX6_wantAt_9 (by decide) ⟨by omega, by omega⟩ (fun c9 => ?_) (fun c9 => ?_)
      · exact absurd c9 (by omega)
      · refine jq_aload_n dX6_wantAt_12 rfl rfl ?_
        refine xq_getR 22 fX6_7 dX6_wantAt_13 (xs_lt (by decide) hn) (by decide) ?_
        refine jq_iload dX6_wantAt_16 rfl ?_
        refine xq_iaload dX6_wantAt_18 (xs_lt (by decide) hn) rfl hi (xs_rd h1 (by omega)) ?_
        refine jq_iload_n dX6_wantAt_19 rfl rfl ?_
        refine jq_eqN (tgt := 34) dX6_wantAt_20 (by decide) ⟨by omega, by omega⟩ (fun c20 => ?_) (fun c20 => ?_)
        · first | exact h34 (Or.inl c20) | exact h34 (Or.inr c31)
        · refine jq_aload_n dX6_wantAt_23 rfl rfl ?_
          refine xq_getR 23 fX6_13 dX6_wantAt_24 (xs_lt (by decide) hn) (by decide) ?_
          refine jq_iload dX6_wantAt_27 rfl ?_
          refine xq_iaload dX6_wantAt_29 (xs_lt (by decide) hn) rfl hi (xs_rd h2 (by omega)) ?_
          refine jq_iload_n dX6_wantAt_30 rfl rfl ?_
          refine jq_neN (tgt := 42) dX6_wantAt_31 (by decide) ⟨by omega, by omega⟩ (fun c31 => ?_) (fun c31 => ?_)
          · exact h42 Y hf (by rw [tb_wantP, if_neg (by rintro (q | q); exact c20 q; exact c31 q)]; exact hY)
          · first | exact h34 (Or.inl c20) | exact h34 (Or.inr c31)
  refine xs_Ct_of (L := [some (.ref (ad 21)), some (.int (nI (p))), some (.int (nI (how))), some (.int (nI (b))), none]) rfl (Nat.le_of_ble_eq_true rfl) rfl ?_
  refine jq_iconst (v := (nI 0)) dX6_wantAt_0 (by decide) ?_
  refine jq_istore dX6_wantAt_1 (by decide) rfl rfl ?_
  exact loop (tb_ne w h) 0 X (by omega) xs_fr_rf hW
set_option maxHeartbeats 4000000 in
theorem c_X6_closes {l : Launch} {G : jq_G} {n : Nat} {ad : Nat → Nat} {X : xs_T} (hn : 39 ≤ n) {w h : Nat} {num : Nat → Int32} {st : Nat → Nat} (hT : rf_T w h X) (hS : rf_S w h st X) (hN : rf_N w h num X) {e : Nat} (he : e < tb_ne w h) (h0 : st e = 0) : xs_Ct l G mX6_closes 4 [.ref (ad 21), .int (nI (e))] n ad X (xs_pi (fun v X' => v = tb_b (tb_closes w h num st e) ∧ xs_fr [29, 34] [] X X' ∧ rf_S w h st X' ∧ rf_L w h (tb_isL st) X')) := by
  have hz := tb_sizes hT.1
  have hi : vp_in (nI e) 40 := vp_inN (by omega) (by decide)
  have h30 : ∀ (Y : xs_T) (o2 : Option Value) (v : Int32), v = tb_b (tb_closes w h num st e) → xs_fr [29, 34] [] X Y → rf_S w h (tb_set st e 1) Y → jq_J l G mX6_closes (jq_R 4 0 0) jq_E0 (xs_Ye G n ad (xs_pi (fun v X' => v = tb_b (tb_closes w h num st e) ∧ xs_fr [29, 34] [] X X' ∧ rf_S w h st X' ∧ rf_L w h (tb_isL st) X'))) 30 [some (.ref (ad 21)), some (.int (nI (e))), o2] [.int (v)] n ad (xs_mem G ad Y) 0 0 := by
    intro Y o2 v hv hf hY
    have hfZ : xs_fr [29, 34] [] X (xs_ai Y 29 (upd (Y.2.2.1 29) (nI e).toNatClampNeg (nI 0))) := xs_fr_ai hf (by decide)
    have hSZ : rf_S w h st (xs_ai Y 29 (upd (Y.2.2.1 29) (nI e).toNatClampNeg (nI 0))) := by
      intro j hj
      rw [xs_ai_at]
      by_cases hje : j = e
      · subst hje; rw [xs_upd_at (by omega), h0]; exact ⟨rfl, by omega⟩
      · rw [xs_upd_ne (by omega) hje]
        have := hY j hj
        unfold tb_set at this
        rw [if_neg hje] at this
        exact this
    refine jq_istore_n dX6_closes_30 rfl (by decide) rfl rfl ?_
    refine jq_aload_n dX6_closes_31 rfl rfl ?_
    refine xq_getR 29 fX6_31 dX6_closes_32 (xs_lt (by decide) hn) (by decide) ?_
    refine jq_iload_n dX6_closes_35 rfl rfl ?_
    refine jq_iconst (v := (nI 0)) dX6_closes_36 (by decide) ?_
    refine xq_iastore dX6_closes_37 (xs_lt (by decide) hn) rfl hi ?_
    refine jq_aload_n dX6_closes_38 rfl rfl ?_
    refine xq_rV dX6_closes_39 kX6_121 (c_X6_labels hn (rf_fr hT hfZ) hSZ) (xs_lt (by decide) hn) ⟨rfl, rfl⟩ rfl rfl (Nat.le_of_ble_eq_true rfl) ⟨⟨by decide, by decide⟩, Nat.le_refl _, Nat.le_refl _⟩ (fun X39 h39 => ?_)
    refine jq_iload_n dX6_closes_42 rfl rfl ?_
    exact xq_ireturn dX6_closes_43 rfl (by rw [hv]; exact tb_narrow _) (⟨_, rfl, hv, xs_fr_tr hfZ (xs_fr_mo h39.1 (by decide)), rf_sfr hSZ h39.1, h39.2⟩)
  have hf1 : xs_fr [29, 34] [] X (xs_ai X 29 (upd (X.2.2.1 29) (nI e).toNatClampNeg (nI 1))) := xs_fr_ai xs_fr_rf (by decide)
  have hS1 : rf_S w h (tb_set st e 1) (xs_ai X 29 (upd (X.2.2.1 29) (nI e).toNatClampNeg (nI 1))) := by
    intro j hj
    rw [xs_ai_at]
    unfold tb_set
    by_cases hje : j = e
    · subst hje; rw [xs_upd_at (by omega), if_pos rfl]; exact ⟨rfl, by omega⟩
    · rw [xs_upd_ne (by omega) hje, if_neg hje]; exact hS j hj
  have hT1 := rf_fr hT hf1
  have hN1 := rf_nfr hN hf1
  refine xs_Ct_of (L := [some (.ref (ad 21)), some (.int (nI (e))), none]) rfl (Nat.le_of_ble_eq_true rfl) rfl ?_
  refine jq_aload_n dX6_closes_0 rfl rfl ?_
  refine xq_getR 29 fX6_31 dX6_closes_1 (xs_lt (by decide) hn) (by decide) ?_
  refine jq_iload_n dX6_closes_4 rfl rfl ?_
  refine jq_iconst (v := (nI 1)) dX6_closes_5 (by decide) ?_
  refine xq_iastore dX6_closes_6 (xs_lt (by decide) hn) rfl hi ?_
  refine jq_aload_n dX6_closes_7 rfl rfl ?_
  refine xq_rV dX6_closes_8 kX6_121 (c_X6_labels hn hT1 hS1) (xs_lt (by decide) hn) ⟨rfl, rfl⟩ rfl rfl (Nat.le_of_ble_eq_true rfl) ⟨⟨by decide, by decide⟩, Nat.le_refl _, Nat.le_refl _⟩ (fun X8 h8 => ?_)
  have hf2 := xs_fr_tr hf1 (xs_fr_mo (S' := [29, 34]) (F' := []) h8.1 (by decide))
  have hS2 := rf_sfr hS1 h8.1
  have hN2 := rf_nfr hN1 h8.1
  have hT2 := rf_fr hT1 h8.1
  refine jq_aload_n dX6_closes_11 rfl rfl ?_
  refine xq_vI dX6_closes_12 kX6_138 (c_X6_isLoop hn hT2 hS2 h8.2) (xs_lt (by decide) hn) ⟨rfl, rfl⟩ rfl rfl (Nat.le_of_ble_eq_true rfl) ⟨⟨by decide, by decide⟩, Nat.le_refl _, Nat.le_refl _⟩ ?_
  refine jq_if_eq (tgt := 29) dX6_closes_15 (by decide) (fun c15 => ?_) (fun c15 => ?_)
  · have hl0 := tb_b0.mp c15
    refine jq_iconst (v := 0) dX6_closes_29 (by decide) ?_
    exact h30 _ _ _ (by first | exact tb_b_t (by unfold tb_closes; simp [*]) | exact tb_b_f (by unfold tb_closes; simp [*])) hf2 hS2
  · have hl0 := tb_b1.mp c15
    refine jq_aload_n dX6_closes_18 rfl rfl ?_
    refine xq_vI dX6_closes_19 kX6_128 (c_X6_areRight hn hT2 hS2 hN2) (xs_lt (by decide) hn) ⟨rfl, rfl⟩ rfl rfl (Nat.le_of_ble_eq_true rfl) ⟨⟨by decide, by decide⟩, Nat.le_refl _, Nat.le_refl _⟩ ?_
    refine jq_if_eq (tgt := 29) dX6_closes_22 (by decide) (fun c22 => ?_) (fun c22 => ?_)
    · have hr0 := tb_b0.mp c22
      refine jq_iconst (v := 0) dX6_closes_29 (by decide) ?_
      exact h30 _ _ _ (by first | exact tb_b_t (by unfold tb_closes; simp [*]) | exact tb_b_f (by unfold tb_closes; simp [*])) hf2 hS2
    · have hr0 := tb_b1.mp c22
      refine jq_iconst (v := 1) dX6_closes_25 (by decide) ?_
      refine jq_goto (tgt := 30) dX6_closes_26 (by decide) ?_
      exact h30 _ _ _ (by first | exact tb_b_t (by unfold tb_closes; simp [*]) | exact tb_b_f (by unfold tb_closes; simp [*])) hf2 hS2
