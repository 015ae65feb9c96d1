/-! the reference: marks taken, counts around cells and points, ways and loops -/
set_option maxHeartbeats 4000000 in
theorem c_X6_takeMarks {l : Launch} {G : jq_G} {n : Nat} {ad : Nat → Nat} {X : xs_T} (hn : 39 ≤ n) {w h : Nat} (hT : rf_T w h X) : xs_Ct l G mX6_takeMarks 1 [.ref (ad 21)] n ad X (xs_pv (fun X' => xs_fr [29] [] X X' ∧ ∀ e, e < tb_ne w h → X'.2.2.1 29 e = X.2.2.1 28 e)) := by
  have hz := tb_sizes hT.1
  have loop : ∀ (k e : Nat) (Y : xs_T), e + k = tb_ne w h → xs_fr [29] [] X Y → (∀ j, j < e → Y.2.2.1 29 j = X.2.2.1 28 j) → jq_J l G mX6_takeMarks (jq_R 1 0 0) jq_E0 (xs_Ye G n ad (xs_pv (fun X' => xs_fr [29] [] X X' ∧ ∀ e, e < tb_ne w h → X'.2.2.1 29 e = X.2.2.1 28 e))) 2 [some (.ref (ad 21)), some (.int (nI (e)))] [] n ad (xs_mem G ad Y) 0 0 := by
    intro k
    induction k with
    | zero =>
      intro e Y hk hf hY
      have hE := xs_fi hf 21 3 hT.2.2.2.2.1
      refine jq_iload_n dX6_takeMarks_2 rfl rfl ?_
      refine jq_aload_n dX6_takeMarks_3 rfl rfl ?_
      refine xq_getI fX6_74 dX6_takeMarks_4 (xs_lt (by decide) hn) (by decide) hE ?_
      refine jq_geN (tgt := 28) dX6_takeMarks_7 (by decide) ⟨by omega, by omega⟩ (fun c7 => ?_) (fun c7 => ?_)
      · exact xq_return rfl dX6_takeMarks_28 rfl (⟨rfl, hf, by rw [show tb_ne w h = e by omega]; exact hY⟩)
      · exact absurd c7 (by omega)
    | succ k ih =>
      intro e Y hk hf hY
      have hE := xs_fi hf 21 3 hT.2.2.2.2.1
      have hi : vp_in (nI e) 40 := vp_inN (by omega) (by decide)
      refine jq_iload_n dX6_takeMarks_2 rfl rfl ?_
      refine jq_aload_n dX6_takeMarks_3 rfl rfl ?_
      refine xq_getI fX6_74 dX6_takeMarks_4 (xs_lt (by decide) hn) (by decide) hE ?_
      refine jq_geN (tgt := 28) dX6_takeMarks_7 (by decide) ⟨by omega, by omega⟩ (fun c7 => ?_) (fun c7 => ?_)
      · exact absurd c7 (by omega)
      · refine jq_aload_n dX6_takeMarks_10 rfl rfl ?_
        refine xq_getR 29 fX6_31 dX6_takeMarks_11 (xs_lt (by decide) hn) (by decide) ?_
        refine jq_iload_n dX6_takeMarks_14 rfl rfl ?_
        refine jq_aload_n dX6_takeMarks_15 rfl rfl ?_
        refine xq_getR 28 fX6_28 dX6_takeMarks_16 (xs_lt (by decide) hn) (by decide) ?_
        refine jq_iload_n dX6_takeMarks_19 rfl rfl ?_
        refine xq_iaload dX6_takeMarks_20 (xs_lt (by decide) hn) rfl hi rfl ?_
        refine xq_iastore dX6_takeMarks_21 (xs_lt (by decide) hn) rfl hi ?_
        refine jq_iincN dX6_takeMarks_22 (by decide) rfl rfl rfl ?_
        refine jq_goto (tgt := 2) dX6_takeMarks_25 (by decide) ?_
        refine ih (e + 1) _ (by omega) (xs_fr_ai hf (by decide)) (fun j hj => ?_)
        rw [xs_ai_at]
        rcases Nat.lt_or_ge j e with q | q
        · rw [xs_upd_ne (by omega) (by omega)]; exact hY j q
        · rw [show j = e by omega, xs_upd_at (by omega), nI_clamp (by omega), xs_fa hf 28]
  refine xs_Ct_of (L := [some (.ref (ad 21)), none]) rfl (Nat.le_of_ble_eq_true rfl) rfl ?_
  refine jq_iconst (v := (nI 0)) dX6_takeMarks_0 (by decide) ?_
  refine jq_istore_n dX6_takeMarks_1 rfl (by decide) rfl rfl ?_
  exact loop (tb_ne w h) 0 X (by omega) xs_fr_rf (fun j hj => absurd hj (Nat.not_lt_zero j))
set_option maxHeartbeats 4000000 in
theorem c_X6_around {l : Launch} {G : jq_G} {n : Nat} {ad : Nat → Nat} {X : xs_T} (hn : 39 ≤ n) {w h : Nat} {st : Nat → Nat} (hT : rf_T w h X) (hS : rf_S w h st X) {c how : Nat} (hc : c < tb_nc w h) (hh : how < 2 ^ 31) : xs_Ct l G mX6_around 1 [.ref (ad 21), .int (nI (c)), .int (nI (how))] n ad X (xs_pd (some (.int (nI (tb_ar w h st c how)))) X) := by
  have hz := tb_sizes hT.1
  have loop : ∀ k e cnt : Nat, e + k = 4 → cnt = fb_ct (fun s => st (tb_sid w h c s) == how) e → jq_J l G mX6_around (jq_R 1 0 0) jq_E0 (xs_Ye G n ad (xs_pd (some (.int (nI (tb_ar w h st c how)))) X)) 5 [some (.ref (ad 21)), some (.int (nI (c))), some (.int (nI (how))), some (.int (nI (cnt))), some (.int (nI (e)))] [] n ad (xs_mem G ad X) 0 0 := by
    intro k
    induction k with
    | zero =>
      intro e cnt hk hcn
      refine jq_iload dX6_around_5 rfl ?_
      refine jq_iconst (v := (nI 4)) dX6_around_7 (by decide) ?_
      refine jq_geN (tgt := 45) dX6_around_8 (by decide) ⟨by omega, by omega⟩ (fun c8 => ?_) (fun c8 => ?_)
      · refine jq_iload_n dX6_around_45 rfl rfl ?_
        exact xq_ireturn dX6_around_46 rfl rfl (⟨by rw [hcn, show e = 4 by omega]; rfl, rfl⟩)
      · exact absurd c8 (by omega)
    | succ k ih =>
      intro e cnt hk hcn
      have h1 := hT.2.2.2.2.2.2.2.2.2.2 c hc e (by omega)
      have hsd := tb_sides hT.1 c hc e (by omega)
      have h3 := hS _ hsd
      have hi : vp_in (nI (4 * c + e)) 64 := vp_inN (by omega) (by decide)
      have hi2 : vp_in (nI (tb_sid w h c e)) 40 := vp_inN (by omega) (by decide)
      refine jq_iload dX6_around_5 rfl ?_
      refine jq_iconst (v := (nI 4)) dX6_around_7 (by decide) ?_
      refine jq_geN (tgt := 45) dX6_around_8 (by decide) ⟨by omega, by omega⟩ (fun c8 => ?_) (fun c8 => ?_)
      · exact absurd c8 (by omega)
      · refine jq_iload_n dX6_around_11 rfl rfl ?_
        refine jq_aload_n dX6_around_12 rfl rfl ?_
        refine xq_getR 29 fX6_31 dX6_around_13 (xs_lt (by decide) hn) (by decide) ?_
        refine jq_aload_n dX6_around_16 rfl rfl ?_
        refine xq_getR 26 fX6_22 dX6_around_17 (xs_lt (by decide) hn) (by decide) ?_
        refine jq_iconst (v := (nI 4)) dX6_around_20 (by decide) ?_
        refine jq_iload_n dX6_around_21 rfl rfl ?_
        refine jq_imulN dX6_around_22 ?_
        refine jq_iload dX6_around_23 rfl ?_
        refine jq_iaddN dX6_around_25 ?_
        refine xq_iaload dX6_around_26 (xs_lt (by decide) hn) rfl hi (xs_rd h1 (by omega)) ?_
        refine xq_iaload dX6_around_27 (xs_lt (by decide) hn) rfl hi2 (xs_rd h3.1 (by omega)) ?_
        refine jq_iload_n dX6_around_28 rfl rfl ?_
        refine jq_neN (tgt := 36) dX6_around_29 (by decide) ⟨by omega, by omega⟩ (fun c29 => ?_) (fun c29 => ?_)
        · refine jq_iconst (v := (nI 0)) dX6_around_36 (by decide) ?_
          refine jq_iaddN dX6_around_37 ?_
          refine jq_istore_n dX6_around_38 rfl (by decide) rfl rfl ?_
          refine jq_iincN dX6_around_39 (by decide) rfl rfl rfl ?_
          refine jq_goto (tgt := 5) dX6_around_42 (by decide) ?_
          exact ih (e + 1) _ (by omega) (by rw [fb_ct_succ, ← hcn]; simp [*])
        · refine jq_iconst (v := (nI 1)) dX6_around_32 (by decide) ?_
          refine jq_goto (tgt := 37) dX6_around_33 (by decide) ?_
          refine jq_iaddN dX6_around_37 ?_
          refine jq_istore_n dX6_around_38 rfl (by decide) rfl rfl ?_
          refine jq_iincN dX6_around_39 (by decide) rfl rfl rfl ?_
          refine jq_goto (tgt := 5) dX6_around_42 (by decide) ?_
          exact ih (e + 1) _ (by omega) (by rw [fb_ct_succ, ← hcn]; simp [*])
  refine xs_Ct_of (L := [some (.ref (ad 21)), some (.int (nI (c))), some (.int (nI (how))), none, none]) rfl (Nat.le_of_ble_eq_true rfl) rfl ?_
  refine jq_iconst (v := (nI 0)) dX6_around_0 (by decide) ?_
  refine jq_istore_n dX6_around_1 rfl (by decide) rfl rfl ?_
  refine jq_iconst (v := (nI 0)) dX6_around_2 (by decide) ?_
  refine jq_istore dX6_around_3 (by decide) rfl rfl ?_
  exact loop 4 0 0 (by omega) rfl
set_option maxHeartbeats 4000000 in
theorem c_X6_count {l : Launch} {G : jq_G} {n : Nat} {ad : Nat → Nat} {X : xs_T} (hn : 39 ≤ n) {w h : Nat} {st : Nat → Nat} (hT : rf_T w h X) (hS : rf_S w h st X) {how : Nat} (hh : how < 2 ^ 31) : xs_Ct l G mX6_count 1 [.ref (ad 21), .int (nI (how))] n ad X (xs_pd (some (.int (nI (tb_cnt w h st how)))) X) := by
  have hz := tb_sizes hT.1
  have loop : ∀ k e cnt : Nat, e + k = tb_ne w h → cnt = fb_ct (fun e => st e == how) e → jq_J l G mX6_count (jq_R 1 0 0) jq_E0 (xs_Ye G n ad (xs_pd (some (.int (nI (tb_cnt w h st how)))) X)) 4 [some (.ref (ad 21)), some (.int (nI (how))), some (.int (nI (cnt))), some (.int (nI (e)))] [] n ad (xs_mem G ad X) 0 0 := by
    intro k
    induction k with
    | zero =>
      intro e cnt hk hcn
      refine jq_iload_n dX6_count_4 rfl rfl ?_
      refine jq_aload_n dX6_count_5 rfl rfl ?_
      refine xq_getI fX6_74 dX6_count_6 (xs_lt (by decide) hn) (by decide) hT.2.2.2.2.1 ?_
      refine jq_geN (tgt := 36) dX6_count_9 (by decide) ⟨by omega, by omega⟩ (fun c9 => ?_) (fun c9 => ?_)
      · refine jq_iload_n dX6_count_36 rfl rfl ?_
        exact xq_ireturn dX6_count_37 rfl rfl (⟨by rw [hcn, show e = tb_ne w h by omega]; rfl, rfl⟩)
      · exact absurd c9 (by omega)
    | succ k ih =>
      intro e cnt hk hcn
      have h3 := hS e (by omega)
      have hi : vp_in (nI e) 40 := vp_inN (by omega) (by decide)
      refine jq_iload_n dX6_count_4 rfl rfl ?_
      refine jq_aload_n dX6_count_5 rfl rfl ?_
      refine xq_getI fX6_74 dX6_count_6 (xs_lt (by decide) hn) (by decide) hT.2.2.2.2.1 ?_
      refine jq_geN (tgt := 36) dX6_count_9 (by decide) ⟨by omega, by omega⟩ (fun c9 => ?_) (fun c9 => ?_)
      · exact absurd c9 (by omega)
      · refine jq_iload_n dX6_count_12 rfl rfl ?_
        refine jq_aload_n dX6_count_13 rfl rfl ?_
        refine xq_getR 29 fX6_31 dX6_count_14 (xs_lt (by decide) hn) (by decide) ?_
        refine jq_iload_n dX6_count_17 rfl rfl ?_
        refine xq_iaload dX6_count_18 (xs_lt (by decide) hn) rfl hi (xs_rd h3.1 (by omega)) ?_
        refine jq_iload_n dX6_count_19 rfl rfl ?_
        refine jq_neN (tgt := 27) dX6_count_20 (by decide) ⟨by omega, by omega⟩ (fun c20 => ?_) (fun c20 => ?_)
        · refine jq_iconst (v := (nI 0)) dX6_count_27 (by decide) ?_
          refine jq_iaddN dX6_count_28 ?_
          refine jq_istore_n dX6_count_29 rfl (by decide) rfl rfl ?_
          refine jq_iincN dX6_count_30 (by decide) rfl rfl rfl ?_
          refine jq_goto (tgt := 4) dX6_count_33 (by decide) ?_
          exact ih (e + 1) _ (by omega) (by rw [fb_ct_succ, ← hcn]; simp [*])
        · refine jq_iconst (v := (nI 1)) dX6_count_23 (by decide) ?_
          refine jq_goto (tgt := 28) dX6_count_24 (by decide) ?_
          refine jq_iaddN dX6_count_28 ?_
          refine jq_istore_n dX6_count_29 rfl (by decide) rfl rfl ?_
          refine jq_iincN dX6_count_30 (by decide) rfl rfl rfl ?_
          refine jq_goto (tgt := 4) dX6_count_33 (by decide) ?_
          exact ih (e + 1) _ (by omega) (by rw [fb_ct_succ, ← hcn]; simp [*])
  refine xs_Ct_of (L := [some (.ref (ad 21)), some (.int (nI (how))), none, none]) rfl (Nat.le_of_ble_eq_true rfl) rfl ?_
  refine jq_iconst (v := (nI 0)) dX6_count_0 (by decide) ?_
  refine jq_istore_n dX6_count_1 rfl (by decide) rfl rfl ?_
  refine jq_iconst (v := (nI 0)) dX6_count_2 (by decide) ?_
  refine jq_istore_n dX6_count_3 rfl (by decide) rfl rfl ?_
  exact loop (tb_ne w h) 0 0 (by omega) rfl
set_option maxHeartbeats 4000000 in
theorem c_X6_areRight {l : Launch} {G : jq_G} {n : Nat} {ad : Nat → Nat} {X : xs_T} (hn : 39 ≤ n) {w h : Nat} {num : Nat → Int32} {st : Nat → Nat} (hT : rf_T w h X) (hS : rf_S w h st X) (hN : rf_N w h num X) : xs_Ct l G mX6_areRight 2 [.ref (ad 21)] n ad X (xs_pd (some (.int (tb_b (tb_right w h num st)))) X) := by
  have hz := tb_sizes hT.1
  have loop : ∀ k c : Nat, c + k = tb_nc w h → (∀ j, j < c → tb_rightB w h num st j = true) → jq_J l G mX6_areRight (jq_R 2 0 0) jq_E0 (xs_Ye G n ad (xs_pd (some (.int (tb_b (tb_right w h num st)))) X)) 2 [some (.ref (ad 21)), some (.int (nI (c)))] [] n ad (xs_mem G ad X) 0 0 := by
    intro k
    induction k with
    | zero =>
      intro c hk hc
      refine jq_iload_n dX6_areRight_2 rfl rfl ?_
      refine jq_aload_n dX6_areRight_3 rfl rfl ?_
      refine xq_getI fX6_71 dX6_areRight_4 (xs_lt (by decide) hn) (by decide) hT.2.2.2.1 ?_
      refine jq_geN (tgt := 43) dX6_areRight_7 (by decide) ⟨by omega, by omega⟩ (fun c7 => ?_) (fun c7 => ?_)
      · refine jq_iconst (v := 1) dX6_areRight_43 (by decide) ?_
        exact xq_ireturn dX6_areRight_44 rfl rfl (⟨tb_vt (tb_allT (by rw [show tb_nc w h = c by omega]; exact hc)), rfl⟩)
      · exact absurd c7 (by omega)
    | succ k ih =>
      intro c hk hc
      have h3 := hN c (by omega)
      have hi : vp_in (nI c) 16 := vp_inN (by omega) (by decide)
      refine jq_iload_n dX6_areRight_2 rfl rfl ?_
      refine jq_aload_n dX6_areRight_3 rfl rfl ?_
      refine xq_getI fX6_71 dX6_areRight_4 (xs_lt (by decide) hn) (by decide) hT.2.2.2.1 ?_
      refine jq_geN (tgt := 43) dX6_areRight_7 (by decide) ⟨by omega, by omega⟩ (fun c7 => ?_) (fun c7 => ?_)
      · exact absurd c7 (by omega)
      · refine jq_aload_n dX6_areRight_10 rfl rfl ?_
        refine xq_getR 27 fX6_25 dX6_areRight_11 (xs_lt (by decide) hn) (by decide) ?_
        refine jq_iload_n dX6_areRight_14 rfl rfl ?_
        refine xq_iaload dX6_areRight_15 (xs_lt (by decide) hn) rfl hi (xs_rd h3 (by omega)) ?_
        refine jq_iconst (v := (-1)) dX6_areRight_16 (by decide) ?_
        refine jq_icmp_eq (tgt := 37) dX6_areRight_17 (by decide) (fun c17 => ?_) (fun c17 => ?_)
        · refine jq_iincN dX6_areRight_37 (by decide) rfl rfl rfl ?_
          refine jq_goto (tgt := 2) dX6_areRight_40 (by decide) ?_
          refine ih (c + 1) (by omega) (fun j hj => ?_)
          rcases Nat.lt_or_ge j c with q | q
          · exact hc j q
          · rw [show j = c by omega]; simp [tb_rightB, *]
        · refine jq_aload_n dX6_areRight_20 rfl rfl ?_
          refine jq_iload_n dX6_areRight_21 rfl rfl ?_
          refine jq_iconst (v := (nI 1)) dX6_areRight_22 (by decide) ?_
          refine xq_vI dX6_areRight_23 kX6_111 (c_X6_around hn hT hS (by omega) (by decide)) (xs_lt (by decide) hn) ⟨rfl, rfl⟩ rfl rfl (Nat.le_of_ble_eq_true rfl) ⟨⟨by decide, by decide⟩, Nat.le_refl _, Nat.le_refl _⟩ ?_
          refine jq_aload_n dX6_areRight_26 rfl rfl ?_
          refine xq_getR 27 fX6_25 dX6_areRight_27 (xs_lt (by decide) hn) (by decide) ?_
          refine jq_iload_n dX6_areRight_30 rfl rfl ?_
          refine xq_iaload dX6_areRight_31 (xs_lt (by decide) hn) rfl hi (xs_rd h3 (by omega)) ?_
          refine jq_icmp_eq (tgt := 37) dX6_areRight_32 (by decide) (fun c32 => ?_) (fun c32 => ?_)
          · refine jq_iincN dX6_areRight_37 (by decide) rfl rfl rfl ?_
            refine jq_goto (tgt := 2) dX6_areRight_40 (by decide) ?_
            refine ih (c + 1) (by omega) (fun j hj => ?_)
            rcases Nat.lt_or_ge j c with q | q
            · exact hc j q
            · rw [show j = c by omega]; simp [tb_rightB, *]
          · refine jq_iconst (v := 0) dX6_areRight_35 (by decide) ?_
            exact xq_ireturn dX6_areRight_36 rfl rfl (⟨tb_vf (tb_allF (c := c) (by omega) (by simp [tb_rightB, *])), rfl⟩)
  refine xs_Ct_of (L := [some (.ref (ad 21)), none]) rfl (Nat.le_of_ble_eq_true rfl) rfl ?_
  refine jq_iconst (v := (nI 0)) dX6_areRight_0 (by decide) ?_
  refine jq_istore_n dX6_areRight_1 rfl (by decide) rfl rfl ?_
  exact loop (tb_nc w h) 0 (by omega) (fun j hj => absurd hj (Nat.not_lt_zero j))
set_option maxHeartbeats 4000000 in
theorem c_X6_waysOf {l : Launch} {G : jq_G} {n : Nat} {ad : Nat → Nat} {X : xs_T} (hn : 39 ≤ n) {w h : Nat} {st : Nat → Nat} (hT : rf_T w h X) (hS : rf_S w h st X) (hL : rf_L w h (tb_isL st) X) : xs_Ct l G mX6_waysOf 2 [.ref (ad 21)] n ad X (xs_pd (some (.int (nI (tb_ways w h st)))) X) := by
  have hz := tb_sizes hT.1
  have loop : ∀ k p cnt : Nat, p + k = tb_np w h → cnt = fb_ct (tb_wayB w h st) p → jq_J l G mX6_waysOf (jq_R 2 0 0) jq_E0 (xs_Ye G n ad (xs_pd (some (.int (nI (tb_ways w h st)))) X)) 4 [some (.ref (ad 21)), some (.int (nI (cnt))), some (.int (nI (p)))] [] n ad (xs_mem G ad X) 0 0 := by
    intro k
    induction k with
    | zero =>
      intro p cnt hk hcn
      refine jq_iload_n dX6_waysOf_4 rfl rfl ?_
      refine jq_aload_n dX6_waysOf_5 rfl rfl ?_
      refine xq_getI fX6_83 dX6_waysOf_6 (xs_lt (by decide) hn) (by decide) hT.2.2.2.2.2.1 ?_
      refine jq_geN (tgt := 45) dX6_waysOf_9 (by decide) ⟨by omega, by omega⟩ (fun c9 => ?_) (fun c9 => ?_)
      · refine jq_iload_n dX6_waysOf_45 rfl rfl ?_
        exact xq_ireturn dX6_waysOf_46 rfl rfl (⟨by rw [hcn, show p = tb_np w h by omega]; rfl, rfl⟩)
      · exact absurd c9 (by omega)
    | succ k ih =>
      intro p cnt hk hcn
      have h3 := hL p (by omega)
      have hl := tb_L_lt (S := tb_isL st) (show p < tb_np w h by omega)
      have hd := tb_at_le hT.1 st p 1
      have hi : vp_in (nI p) 25 := vp_inN (by omega) (by decide)
      refine jq_iload_n dX6_waysOf_4 rfl rfl ?_
      refine jq_aload_n dX6_waysOf_5 rfl rfl ?_
      refine xq_getI fX6_83 dX6_waysOf_6 (xs_lt (by decide) hn) (by decide) hT.2.2.2.2.2.1 ?_
      refine jq_geN (tgt := 45) dX6_waysOf_9 (by decide) ⟨by omega, by omega⟩ (fun c9 => ?_) (fun c9 => ?_)
      · exact absurd c9 (by omega)
      · refine jq_iload_n dX6_waysOf_12 rfl rfl ?_
        refine jq_aload_n dX6_waysOf_13 rfl rfl ?_
        refine xq_getR 34 fX6_46 dX6_waysOf_14 (xs_lt (by decide) hn) (by decide) ?_
        refine jq_iload_n dX6_waysOf_17 rfl rfl ?_
        refine xq_iaload dX6_waysOf_18 (xs_lt (by decide) hn) rfl hi (xs_rd h3 (by omega)) ?_
        refine jq_iload_n dX6_waysOf_19 rfl rfl ?_
        refine jq_neN (tgt := 36) dX6_waysOf_20 (by decide) ⟨by omega, by omega⟩ (fun c20 => ?_) (fun c20 => ?_)
        · refine jq_iconst (v := (nI 0)) dX6_waysOf_36 (by decide) ?_
          refine jq_iaddN dX6_waysOf_37 ?_
          refine jq_istore_n dX6_waysOf_38 rfl (by decide) rfl rfl ?_
          refine jq_iincN dX6_waysOf_39 (by decide) rfl rfl rfl ?_
          refine jq_goto (tgt := 4) dX6_waysOf_42 (by decide) ?_
          exact ih (p + 1) _ (by omega) (by rw [fb_ct_succ, ← hcn]; simp [tb_wayB, tb_deg, *])
        · refine jq_aload_n dX6_waysOf_23 rfl rfl ?_
          refine jq_iload_n dX6_waysOf_24 rfl rfl ?_
          refine jq_iconst (v := (nI 1)) dX6_waysOf_25 (by decide) ?_
          refine xq_vI dX6_waysOf_26 kX6_114 (c_X6_at hn hT hS (by omega) (by decide)) (xs_lt (by decide) hn) ⟨rfl, rfl⟩ rfl rfl (Nat.le_of_ble_eq_true rfl) ⟨⟨by decide, by decide⟩, Nat.le_refl _, Nat.le_refl _⟩ ?_
          refine jq_leZ (tgt := 36) dX6_waysOf_29 (by decide) (by omega) (fun c29 => ?_) (fun c29 => ?_)
          · refine jq_iconst (v := (nI 0)) dX6_waysOf_36 (by decide) ?_
            refine jq_iaddN dX6_waysOf_37 ?_
            refine jq_istore_n dX6_waysOf_38 rfl (by decide) rfl rfl ?_
            refine jq_iincN dX6_waysOf_39 (by decide) rfl rfl rfl ?_
            refine jq_goto (tgt := 4) dX6_waysOf_42 (by decide) ?_
            exact ih (p + 1) _ (by omega) (by rw [fb_ct_succ, ← hcn]; simp [tb_wayB, tb_deg, *])
          · refine jq_iconst (v := (nI 1)) dX6_waysOf_32 (by decide) ?_
            refine jq_goto (tgt := 37) dX6_waysOf_33 (by decide) ?_
            refine jq_iaddN dX6_waysOf_37 ?_
            refine jq_istore_n dX6_waysOf_38 rfl (by decide) rfl rfl ?_
            refine jq_iincN dX6_waysOf_39 (by decide) rfl rfl rfl ?_
            refine jq_goto (tgt := 4) dX6_waysOf_42 (by decide) ?_
            exact ih (p + 1) _ (by omega) (by rw [fb_ct_succ, ← hcn]; simp [tb_wayB, tb_deg, *])
  refine xs_Ct_of (L := [some (.ref (ad 21)), none, none]) rfl (Nat.le_of_ble_eq_true rfl) rfl ?_
  refine jq_iconst (v := (nI 0)) dX6_waysOf_0 (by decide) ?_
  refine jq_istore_n dX6_waysOf_1 rfl (by decide) rfl rfl ?_
  refine jq_iconst (v := (nI 0)) dX6_waysOf_2 (by decide) ?_
  refine jq_istore_n dX6_waysOf_3 rfl (by decide) rfl rfl ?_
  exact loop (tb_np w h) 0 0 (by omega) rfl
set_option maxHeartbeats 4000000 in
theorem c_X6_isLoop {l : Launch} {G : jq_G} {n : Nat} {ad : Nat → Nat} {X : xs_T} (hn : 39 ≤ n) {w h : Nat} {st : Nat → Nat} (hT : rf_T w h X) (hS : rf_S w h st X) (hL : rf_L w h (tb_isL st) X) : xs_Ct l G mX6_isLoop 3 [.ref (ad 21)] n ad X (xs_pd (some (.int (tb_b (tb_isLoop w h st)))) X) := by
  have hz := tb_sizes hT.1
  have loop : ∀ (k p : Nat) (o : Option Value), p + k = tb_np w h → (∀ j, j < p → (tb_deg w h st j == 0 || tb_deg w h st j == 2) = true) → jq_J l G mX6_isLoop (jq_R 3 0 0) jq_E0 (xs_Ye G n ad (xs_pd (some (.int (tb_b (tb_isLoop w h st)))) X)) 2 [some (.ref (ad 21)), some (.int (nI (p))), o] [] n ad (xs_mem G ad X) 0 0 := by
    intro k
    induction k with
    | zero =>
      intro p o hk hc
      have hall : (List.range (tb_np w h)).all (fun p => tb_deg w h st p == 0 || tb_deg w h st p == 2) = true := tb_allT (by rw [show tb_np w h = p by omega]; exact hc)
      have hwl : tb_ways w h st ≤ 25 := Nat.le_trans (fb_ct_le _ _) (by omega)
      refine jq_iload_n dX6_isLoop_2 rfl rfl ?_
      refine jq_aload_n dX6_isLoop_3 rfl rfl ?_
      refine xq_getI fX6_83 dX6_isLoop_4 (xs_lt (by decide) hn) (by decide) hT.2.2.2.2.2.1 ?_
      refine jq_geN (tgt := 34) dX6_isLoop_7 (by decide) ⟨by omega, by omega⟩ (fun c7 => ?_) (fun c7 => ?_)
      · refine jq_aload_n dX6_isLoop_34 rfl rfl ?_
        refine xq_vI dX6_isLoop_35 kX6_117 (c_X6_waysOf hn hT hS hL) (xs_lt (by decide) hn) ⟨rfl, rfl⟩ rfl rfl (Nat.le_of_ble_eq_true rfl) ⟨⟨by decide, by decide⟩, Nat.le_refl _, Nat.le_refl _⟩ ?_
        refine jq_iconst (v := (nI 1)) dX6_isLoop_38 (by decide) ?_
        refine jq_neN (tgt := 46) dX6_isLoop_39 (by decide) ⟨by omega, by omega⟩ (fun c39 => ?_) (fun c39 => ?_)
        · refine jq_iconst (v := 0) dX6_isLoop_46 (by decide) ?_
          exact xq_ireturn dX6_isLoop_47 rfl rfl (⟨by unfold tb_isLoop; rw [hall]; simp [tb_b, c39], rfl⟩)
        · refine jq_iconst (v := 1) dX6_isLoop_42 (by decide) ?_
          refine jq_goto (tgt := 47) dX6_isLoop_43 (by decide) ?_
          exact xq_ireturn dX6_isLoop_47 rfl rfl (⟨by unfold tb_isLoop; rw [hall]; simp [tb_b, c39], rfl⟩)
      · exact absurd c7 (by omega)
    | succ k ih =>
      intro p o hk hc
      have hd := tb_at_le hT.1 st p 1
      refine jq_iload_n dX6_isLoop_2 rfl rfl ?_
      refine jq_aload_n dX6_isLoop_3 rfl rfl ?_
      refine xq_getI fX6_83 dX6_isLoop_4 (xs_lt (by decide) hn) (by decide) hT.2.2.2.2.2.1 ?_
      refine jq_geN (tgt := 34) dX6_isLoop_7 (by decide) ⟨by omega, by omega⟩ (fun c7 => ?_) (fun c7 => ?_)
      · exact absurd c7 (by omega)
      · refine jq_aload_n dX6_isLoop_10 rfl rfl ?_
        refine jq_iload_n dX6_isLoop_11 rfl rfl ?_
        refine jq_iconst (v := (nI 1)) dX6_isLoop_12 (by decide) ?_
        refine xq_vI dX6_isLoop_13 kX6_114 (c_X6_at hn hT hS (by omega) (by decide)) (xs_lt (by decide) hn) ⟨rfl, rfl⟩ rfl rfl (Nat.le_of_ble_eq_true rfl) ⟨⟨by decide, by decide⟩, Nat.le_refl _, Nat.le_refl _⟩ ?_
        refine jq_istore_n dX6_isLoop_16 rfl (by decide) rfl rfl ?_
        refine jq_iload_n dX6_isLoop_17 rfl rfl ?_
        refine jq_eqZ (tgt := 28) dX6_isLoop_18 (by decide) (by omega) (fun c18 => ?_) (fun c18 => ?_)
        · refine jq_iincN dX6_isLoop_28 (by decide) rfl rfl rfl ?_
          refine jq_goto (tgt := 2) dX6_isLoop_31 (by decide) ?_
          refine ih (p + 1) _ (by omega) (fun j hj => ?_)
          rcases Nat.lt_or_ge j p with q | q
          · exact hc j q
          · rw [show j = p by omega]; simp [tb_deg, *]
        · refine jq_iload_n dX6_isLoop_21 rfl rfl ?_
          refine jq_iconst (v := (nI 2)) dX6_isLoop_22 (by decide) ?_
          refine jq_eqN (tgt := 28) dX6_isLoop_23 (by decide) ⟨by omega, by omega⟩ (fun c23 => ?_) (fun c23 => ?_)
          · refine jq_iincN dX6_isLoop_28 (by decide) rfl rfl rfl ?_
            refine jq_goto (tgt := 2) dX6_isLoop_31 (by decide) ?_
            refine ih (p + 1) _ (by omega) (fun j hj => ?_)
            rcases Nat.lt_or_ge j p with q | q
            · exact hc j q
            · rw [show j = p by omega]; simp [tb_deg, *]
          · refine jq_iconst (v := 0) dX6_isLoop_26 (by decide) ?_
            exact xq_ireturn dX6_isLoop_27 rfl rfl (⟨by unfold tb_isLoop; rw [tb_allF (c := p) (by omega) (by simp [tb_deg, *])]; rfl, rfl⟩)
  refine xs_Ct_of (L := [some (.ref (ad 21)), none, none]) rfl (Nat.le_of_ble_eq_true rfl) rfl ?_
  refine jq_iconst (v := (nI 0)) dX6_isLoop_0 (by decide) ?_
  refine jq_istore_n dX6_isLoop_1 rfl (by decide) rfl rfl ?_
  exact loop (tb_np w h) 0 _ (by omega) (fun j hj => absurd hj (Nat.not_lt_zero j))
