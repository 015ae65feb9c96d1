set_option maxHeartbeats 4000000 in
theorem c_X6_follows_no {l : Launch} {G : jq_G} {n : Nat} {ad : Nat → Nat} {X : xs_T} (hn : 39 ≤ n) {w h : Nat} {num : Nat → Int32} {mk : Nat → Nat} (hA : rf_A w h num mk X) (x : Int32) (hx : tb_inB x (tb_ne w h) = false) : xs_Ct l G mX6_follows 7 [.ref (ad 21), .int (x)] n ad X (xs_pd (some (.int 0)) (xs_si X 21 26 1)) := by
  refine xs_Ct_of (L := [some (.ref (ad 21)), some (.int (x))]) rfl (Nat.le_of_ble_eq_true rfl) rfl ?_
  refine jq_aload_n dX6_follows_0 rfl rfl ?_
  refine jq_aload_n dX6_follows_1 rfl rfl ?_
  refine jq_iload_n dX6_follows_2 rfl rfl ?_
  refine xq_vI dX6_follows_3 kX6_102 (c_X6_isEdge hn hA.1 x) (xs_lt (by decide) hn) ⟨rfl, rfl⟩ rfl rfl (Nat.le_of_ble_eq_true rfl) ⟨⟨by decide, by decide⟩, Nat.le_refl _, Nat.le_refl _⟩ ?_
  rw [hx]
  refine xq_vI dX6_follows_6 kX6_90 (c_X6_mayB hn _) (xs_lt (by decide) hn) ⟨rfl, rfl⟩ rfl rfl (Nat.le_of_ble_eq_true rfl) ⟨⟨by decide, by decide⟩, Nat.le_refl _, Nat.le_refl _⟩ ?_
  refine jq_if_ne (tgt := 14) dX6_follows_9 (by decide) (fun c9 => ?_) (fun c9 => ?_)
  · exact absurd rfl c9
  · refine jq_iconst (v := 0) dX6_follows_12 (by decide) ?_
    exact xq_ireturn dX6_follows_13 rfl rfl (⟨rfl, rfl⟩)
set_option maxHeartbeats 4000000 in
theorem c_X6_follows_ok {l : Launch} {G : jq_G} {n : Nat} {ad : Nat → Nat} {X : xs_T} (hn : 39 ≤ n) {w h : Nat} {num : Nat → Int32} {mk : Nat → Nat} (hA : rf_A w h num mk X) {j : Nat} (hj : j < tb_ne w h) : xs_Ct l G mX6_follows 7 [.ref (ad 21), .int (nI (j))] n ad X (xs_pi (fun v X' => v = nI ((tb_follow w h num mk).1 j) ∧ xs_fr rf_SQ rf_FQ X X' ∧ X'.1 21 26 = 0)) := by
  have hz := tb_sizes hA.1.1
  have hin := tb_inB_nI hj (by omega)
  have hi : vp_in (nI j) 40 := vp_inN (by omega) (by decide)
  have hf0 : xs_fr rf_SQ rf_FQ X (xs_si X 21 26 (tb_b (!true))) := xs_fr_si xs_fr_rf (by decide)
  have hA1 := rf_afr hA hf0
  refine xs_Ct_of (L := [some (.ref (ad 21)), some (.int (nI (j)))]) rfl (Nat.le_of_ble_eq_true rfl) rfl ?_
  refine jq_aload_n dX6_follows_0 rfl rfl ?_
  refine jq_aload_n dX6_follows_1 rfl rfl ?_
  refine jq_iload_n dX6_follows_2 rfl rfl ?_
  refine xq_vI dX6_follows_3 kX6_102 (c_X6_isEdge hn hA.1 _) (xs_lt (by decide) hn) ⟨rfl, rfl⟩ rfl rfl (Nat.le_of_ble_eq_true rfl) ⟨⟨by decide, by decide⟩, Nat.le_refl _, Nat.le_refl _⟩ ?_
  rw [hin]
  refine xq_vI dX6_follows_6 kX6_90 (c_X6_mayB hn _) (xs_lt (by decide) hn) ⟨rfl, rfl⟩ rfl rfl (Nat.le_of_ble_eq_true rfl) ⟨⟨by decide, by decide⟩, Nat.le_refl _, Nat.le_refl _⟩ ?_
  refine jq_if_ne (tgt := 14) dX6_follows_9 (by decide) (fun c9 => ?_) (fun c9 => ?_)
  · refine jq_aload_n dX6_follows_14 rfl rfl ?_
    refine xq_rV dX6_follows_15 kX6_105 (c_X6_follow hn hA1.1 hA1.2.1 hA1.2.2) (xs_lt (by decide) hn) ⟨rfl, rfl⟩ rfl rfl (Nat.le_of_ble_eq_true rfl) ⟨⟨by decide, by decide⟩, Nat.le_refl _, Nat.le_refl _⟩ (fun X15 h15 => ?_)
    obtain ⟨hf, hg⟩ := h15
    refine jq_aload_n dX6_follows_18 rfl rfl ?_
    refine xq_getR 29 fX6_31 dX6_follows_19 (xs_lt (by decide) hn) (by decide) ?_
    refine jq_iload_n dX6_follows_22 rfl rfl ?_
    refine xq_iaload dX6_follows_23 (xs_lt (by decide) hn) rfl hi (xs_rd (hg.1 j hj).1 (by omega)) ?_
    exact xq_ireturn dX6_follows_24 rfl rfl (⟨_, rfl, rfl, xs_fr_tr hf0 (xs_fr_mo hf (by decide)), xs_fi hf 21 26 xs_si_at⟩)
  · exact absurd c9 (by decide)
set_option maxHeartbeats 4000000 in
theorem c_X6_roundOf_no {l : Launch} {G : jq_G} {n : Nat} {ad : Nat → Nat} {X : xs_T} (hn : 39 ≤ n) {w h : Nat} {num : Nat → Int32} {mk : Nat → Nat} (hA : rf_A w h num mk X) (x : Int32) (hx : tb_inB x (tb_ne w h) = false) : xs_Ct l G mX6_roundOf 7 [.ref (ad 21), .int (x)] n ad X (xs_pd (some (.int 0)) (xs_si X 21 26 1)) := by
  refine xs_Ct_of (L := [some (.ref (ad 21)), some (.int (x))]) rfl (Nat.le_of_ble_eq_true rfl) rfl ?_
  refine jq_aload_n dX6_roundOf_0 rfl rfl ?_
  refine jq_aload_n dX6_roundOf_1 rfl rfl ?_
  refine jq_iload_n dX6_roundOf_2 rfl rfl ?_
  refine xq_vI dX6_roundOf_3 kX6_102 (c_X6_isEdge hn hA.1 x) (xs_lt (by decide) hn) ⟨rfl, rfl⟩ rfl rfl (Nat.le_of_ble_eq_true rfl) ⟨⟨by decide, by decide⟩, Nat.le_refl _, Nat.le_refl _⟩ ?_
  rw [hx]
  refine xq_vI dX6_roundOf_6 kX6_90 (c_X6_mayB hn _) (xs_lt (by decide) hn) ⟨rfl, rfl⟩ rfl rfl (Nat.le_of_ble_eq_true rfl) ⟨⟨by decide, by decide⟩, Nat.le_refl _, Nat.le_refl _⟩ ?_
  refine jq_if_ne (tgt := 14) dX6_roundOf_9 (by decide) (fun c9 => ?_) (fun c9 => ?_)
  · exact absurd rfl c9
  · refine jq_iconst (v := 0) dX6_roundOf_12 (by decide) ?_
    exact xq_ireturn dX6_roundOf_13 rfl rfl (⟨rfl, rfl⟩)
set_option maxHeartbeats 4000000 in
theorem c_X6_roundOf_ok {l : Launch} {G : jq_G} {n : Nat} {ad : Nat → Nat} {X : xs_T} (hn : 39 ≤ n) {w h : Nat} {num : Nat → Int32} {mk : Nat → Nat} (hA : rf_A w h num mk X) {j : Nat} (hj : j < tb_ne w h) : xs_Ct l G mX6_roundOf 7 [.ref (ad 21), .int (nI (j))] n ad X (xs_pi (fun v X' => v = (tb_follow w h num mk).2.1 j ∧ xs_fr rf_SQ rf_FQ X X' ∧ X'.1 21 26 = 0)) := by
  have hz := tb_sizes hA.1.1
  have hin := tb_inB_nI hj (by omega)
  have hi : vp_in (nI j) 40 := vp_inN (by omega) (by decide)
  have hf0 : xs_fr rf_SQ rf_FQ X (xs_si X 21 26 (tb_b (!true))) := xs_fr_si xs_fr_rf (by decide)
  have hA1 := rf_afr hA hf0
  refine xs_Ct_of (L := [some (.ref (ad 21)), some (.int (nI (j)))]) rfl (Nat.le_of_ble_eq_true rfl) rfl ?_
  refine jq_aload_n dX6_roundOf_0 rfl rfl ?_
  refine jq_aload_n dX6_roundOf_1 rfl rfl ?_
  refine jq_iload_n dX6_roundOf_2 rfl rfl ?_
  refine xq_vI dX6_roundOf_3 kX6_102 (c_X6_isEdge hn hA.1 _) (xs_lt (by decide) hn) ⟨rfl, rfl⟩ rfl rfl (Nat.le_of_ble_eq_true rfl) ⟨⟨by decide, by decide⟩, Nat.le_refl _, Nat.le_refl _⟩ ?_
  rw [hin]
  refine xq_vI dX6_roundOf_6 kX6_90 (c_X6_mayB hn _) (xs_lt (by decide) hn) ⟨rfl, rfl⟩ rfl rfl (Nat.le_of_ble_eq_true rfl) ⟨⟨by decide, by decide⟩, Nat.le_refl _, Nat.le_refl _⟩ ?_
  refine jq_if_ne (tgt := 14) dX6_roundOf_9 (by decide) (fun c9 => ?_) (fun c9 => ?_)
  · refine jq_aload_n dX6_roundOf_14 rfl rfl ?_
    refine xq_rV dX6_roundOf_15 kX6_105 (c_X6_follow hn hA1.1 hA1.2.1 hA1.2.2) (xs_lt (by decide) hn) ⟨rfl, rfl⟩ rfl rfl (Nat.le_of_ble_eq_true rfl) ⟨⟨by decide, by decide⟩, Nat.le_refl _, Nat.le_refl _⟩ (fun X15 h15 => ?_)
    obtain ⟨hf, hg⟩ := h15
    refine jq_aload_n dX6_roundOf_18 rfl rfl ?_
    refine xq_getR 32 fX6_40 dX6_roundOf_19 (xs_lt (by decide) hn) (by decide) ?_
    refine jq_iload_n dX6_roundOf_22 rfl rfl ?_
    refine xq_iaload dX6_roundOf_23 (xs_lt (by decide) hn) rfl hi (xs_rd (hg.2.1 j hj).1 (by omega)) ?_
    exact xq_ireturn dX6_roundOf_24 rfl rfl (⟨_, rfl, rfl, xs_fr_tr hf0 (xs_fr_mo hf (by decide)), xs_fi hf 21 26 xs_si_at⟩)
  · exact absurd c9 (by decide)
set_option maxHeartbeats 4000000 in
theorem c_X6_ruleOf_no {l : Launch} {G : jq_G} {n : Nat} {ad : Nat → Nat} {X : xs_T} (hn : 39 ≤ n) {w h : Nat} {num : Nat → Int32} {mk : Nat → Nat} (hA : rf_A w h num mk X) (x : Int32) (hx : tb_inB x (tb_ne w h) = false) : xs_Ct l G mX6_ruleOf 7 [.ref (ad 21), .int (x)] n ad X (xs_pd (some (.int 0)) (xs_si X 21 26 1)) := by
  refine xs_Ct_of (L := [some (.ref (ad 21)), some (.int (x))]) rfl (Nat.le_of_ble_eq_true rfl) rfl ?_
  refine jq_aload_n dX6_ruleOf_0 rfl rfl ?_
  refine jq_aload_n dX6_ruleOf_1 rfl rfl ?_
  refine jq_iload_n dX6_ruleOf_2 rfl rfl ?_
  refine xq_vI dX6_ruleOf_3 kX6_102 (c_X6_isEdge hn hA.1 x) (xs_lt (by decide) hn) ⟨rfl, rfl⟩ rfl rfl (Nat.le_of_ble_eq_true rfl) ⟨⟨by decide, by decide⟩, Nat.le_refl _, Nat.le_refl _⟩ ?_
  rw [hx]
  refine xq_vI dX6_ruleOf_6 kX6_90 (c_X6_mayB hn _) (xs_lt (by decide) hn) ⟨rfl, rfl⟩ rfl rfl (Nat.le_of_ble_eq_true rfl) ⟨⟨by decide, by decide⟩, Nat.le_refl _, Nat.le_refl _⟩ ?_
  refine jq_if_ne (tgt := 14) dX6_ruleOf_9 (by decide) (fun c9 => ?_) (fun c9 => ?_)
  · exact absurd rfl c9
  · refine jq_iconst (v := 0) dX6_ruleOf_12 (by decide) ?_
    exact xq_ireturn dX6_ruleOf_13 rfl rfl (⟨rfl, rfl⟩)
set_option maxHeartbeats 4000000 in
theorem c_X6_ruleOf_ok {l : Launch} {G : jq_G} {n : Nat} {ad : Nat → Nat} {X : xs_T} (hn : 39 ≤ n) {w h : Nat} {num : Nat → Int32} {mk : Nat → Nat} (hA : rf_A w h num mk X) {j : Nat} (hj : j < tb_ne w h) : xs_Ct l G mX6_ruleOf 7 [.ref (ad 21), .int (nI (j))] n ad X (xs_pi (fun v X' => v = (tb_follow w h num mk).2.2.1 j ∧ xs_fr rf_SQ rf_FQ X X' ∧ X'.1 21 26 = 0)) := by
  have hz := tb_sizes hA.1.1
  have hin := tb_inB_nI hj (by omega)
  have hi : vp_in (nI j) 40 := vp_inN (by omega) (by decide)
  have hf0 : xs_fr rf_SQ rf_FQ X (xs_si X 21 26 (tb_b (!true))) := xs_fr_si xs_fr_rf (by decide)
  have hA1 := rf_afr hA hf0
  refine xs_Ct_of (L := [some (.ref (ad 21)), some (.int (nI (j)))]) rfl (Nat.le_of_ble_eq_true rfl) rfl ?_
  refine jq_aload_n dX6_ruleOf_0 rfl rfl ?_
  refine jq_aload_n dX6_ruleOf_1 rfl rfl ?_
  refine jq_iload_n dX6_ruleOf_2 rfl rfl ?_
  refine xq_vI dX6_ruleOf_3 kX6_102 (c_X6_isEdge hn hA.1 _) (xs_lt (by decide) hn) ⟨rfl, rfl⟩ rfl rfl (Nat.le_of_ble_eq_true rfl) ⟨⟨by decide, by decide⟩, Nat.le_refl _, Nat.le_refl _⟩ ?_
  rw [hin]
  refine xq_vI dX6_ruleOf_6 kX6_90 (c_X6_mayB hn _) (xs_lt (by decide) hn) ⟨rfl, rfl⟩ rfl rfl (Nat.le_of_ble_eq_true rfl) ⟨⟨by decide, by decide⟩, Nat.le_refl _, Nat.le_refl _⟩ ?_
  refine jq_if_ne (tgt := 14) dX6_ruleOf_9 (by decide) (fun c9 => ?_) (fun c9 => ?_)
  · refine jq_aload_n dX6_ruleOf_14 rfl rfl ?_
    refine xq_rV dX6_ruleOf_15 kX6_105 (c_X6_follow hn hA1.1 hA1.2.1 hA1.2.2) (xs_lt (by decide) hn) ⟨rfl, rfl⟩ rfl rfl (Nat.le_of_ble_eq_true rfl) ⟨⟨by decide, by decide⟩, Nat.le_refl _, Nat.le_refl _⟩ (fun X15 h15 => ?_)
    obtain ⟨hf, hg⟩ := h15
    refine jq_aload_n dX6_ruleOf_18 rfl rfl ?_
    refine xq_getR 33 fX6_43 dX6_ruleOf_19 (xs_lt (by decide) hn) (by decide) ?_
    refine jq_iload_n dX6_ruleOf_22 rfl rfl ?_
    refine xq_iaload dX6_ruleOf_23 (xs_lt (by decide) hn) rfl hi (xs_rd (hg.2.1 j hj).2 (by omega)) ?_
    exact xq_ireturn dX6_ruleOf_24 rfl rfl (⟨_, rfl, rfl, xs_fr_tr hf0 (xs_fr_mo hf (by decide)), xs_fi hf 21 26 xs_si_at⟩)
  · exact absurd c9 (by decide)
set_option maxHeartbeats 4000000 in
theorem c_X6_rounds {l : Launch} {G : jq_G} {n : Nat} {ad : Nat → Nat} {X : xs_T} (hn : 39 ≤ n) {w h : Nat} {num : Nat → Int32} {mk : Nat → Nat} (hA : rf_A w h num mk X) : xs_Ct l G mX6_rounds 7 [.ref (ad 21)] n ad X (xs_pi (fun v X' => v = nI (tb_follow w h num mk).2.2.2.1 ∧ xs_fr rf_SQ rf_FQ X X' ∧ X'.1 21 26 = 0)) := by
  have hf0 : xs_fr rf_SQ rf_FQ X (xs_si X 21 26 0) := xs_fr_si xs_fr_rf (by decide)
  have hA1 := rf_afr hA hf0
  refine xs_Ct_of (L := [some (.ref (ad 21))]) rfl (Nat.le_of_ble_eq_true rfl) rfl ?_
  refine jq_aload_n dX6_rounds_0 rfl rfl ?_
  refine jq_iconst (v := 0) dX6_rounds_1 (by decide) ?_
  refine xq_putI pX6_67 dX6_rounds_2 (xs_lt (by decide) hn) (by decide) rfl rfl ?_
  refine jq_aload_n dX6_rounds_5 rfl rfl ?_
  refine xq_rV dX6_rounds_6 kX6_105 (c_X6_follow hn hA1.1 hA1.2.1 hA1.2.2) (xs_lt (by decide) hn) ⟨rfl, rfl⟩ rfl rfl (Nat.le_of_ble_eq_true rfl) ⟨⟨by decide, by decide⟩, Nat.le_refl _, Nat.le_refl _⟩ (fun X6 h6 => ?_)
  obtain ⟨hf, hg⟩ := h6
  refine jq_aload_n dX6_rounds_9 rfl rfl ?_
  refine xq_getI fX6_153 dX6_rounds_10 (xs_lt (by decide) hn) (by decide) hg.2.2.1 ?_
  exact xq_ireturn dX6_rounds_13 rfl rfl (⟨_, rfl, rfl, xs_fr_tr hf0 (xs_fr_mo hf (by decide)), xs_fi hf 21 26 xs_si_at⟩)
set_option maxHeartbeats 4000000 in
theorem c_X6_end {l : Launch} {G : jq_G} {n : Nat} {ad : Nat → Nat} {X : xs_T} (hn : 39 ≤ n) {w h : Nat} {num : Nat → Int32} {mk : Nat → Nat} (hA : rf_A w h num mk X) : xs_Ct l G mX6_end 7 [.ref (ad 21)] n ad X (xs_pi (fun v X' => v = nI (tb_follow w h num mk).2.2.2.2 ∧ xs_fr rf_SQ rf_FQ X X' ∧ X'.1 21 26 = 0)) := by
  have hf0 : xs_fr rf_SQ rf_FQ X (xs_si X 21 26 0) := xs_fr_si xs_fr_rf (by decide)
  have hA1 := rf_afr hA hf0
  refine xs_Ct_of (L := [some (.ref (ad 21))]) rfl (Nat.le_of_ble_eq_true rfl) rfl ?_
  refine jq_aload_n dX6_end_0 rfl rfl ?_
  refine jq_iconst (v := 0) dX6_end_1 (by decide) ?_
  refine xq_putI pX6_67 dX6_end_2 (xs_lt (by decide) hn) (by decide) rfl rfl ?_
  refine jq_aload_n dX6_end_5 rfl rfl ?_
  refine xq_rV dX6_end_6 kX6_105 (c_X6_follow hn hA1.1 hA1.2.1 hA1.2.2) (xs_lt (by decide) hn) ⟨rfl, rfl⟩ rfl rfl (Nat.le_of_ble_eq_true rfl) ⟨⟨by decide, by decide⟩, Nat.le_refl _, Nat.le_refl _⟩ (fun X6 h6 => ?_)
  obtain ⟨hf, hg⟩ := h6
  refine jq_aload_n dX6_end_9 rfl rfl ?_
  refine xq_getI fX6_108 dX6_end_10 (xs_lt (by decide) hn) (by decide) hg.2.2.2 ?_
  exact xq_ireturn dX6_end_13 rfl rfl (⟨_, rfl, rfl, xs_fr_tr hf0 (xs_fr_mo hf (by decide)), xs_fi hf 21 26 xs_si_at⟩)
set_option maxHeartbeats 4000000 in
theorem c_X6_lines {l : Launch} {G : jq_G} {n : Nat} {ad : Nat → Nat} {X : xs_T} (hn : 39 ≤ n) {w h : Nat} {num : Nat → Int32} {mk : Nat → Nat} (hA : rf_A w h num mk X) : xs_Ct l G mX6_lines 6 [.ref (ad 21)] n ad X (xs_pi (fun v X' => v = nI (tb_cnt w h mk 1) ∧ xs_fr rf_SQ rf_FQ X X' ∧ X'.1 21 26 = 0)) := by
  have hz := tb_sizes hA.1.1
  have hf0 : xs_fr rf_SQ rf_FQ X (xs_si X 21 26 0) := xs_fr_si xs_fr_rf (by decide)
  have hA1 := rf_afr hA hf0
  refine xs_Ct_of (L := [some (.ref (ad 21))]) rfl (Nat.le_of_ble_eq_true rfl) rfl ?_
  refine jq_aload_n dX6_lines_0 rfl rfl ?_
  refine jq_iconst (v := 0) dX6_lines_1 (by decide) ?_
  refine xq_putI pX6_67 dX6_lines_2 (xs_lt (by decide) hn) (by decide) rfl rfl ?_
  refine jq_aload_n dX6_lines_5 rfl rfl ?_
  refine xq_rV dX6_lines_6 kX6_150 (c_X6_takeMarks hn hA1.1) (xs_lt (by decide) hn) ⟨rfl, rfl⟩ rfl rfl (Nat.le_of_ble_eq_true rfl) ⟨⟨by decide, by decide⟩, Nat.le_refl _, Nat.le_refl _⟩ (fun X6 h6 => ?_)
  obtain ⟨hf1, hr1⟩ := h6
  have hA2 := rf_afr hA1 hf1
  have hS2 : rf_S w h mk X6 := fun e he => ⟨(hr1 e he).trans (hA1.2.1 e he).1, (hA1.2.1 e he).2⟩
  have hg1 := xs_fr_tr hf0 (xs_fr_mo (S' := rf_SQ) (F' := rf_FQ) hf1 (by decide))
  have ht1 : X6.1 21 26 = 0 := xs_fi hf1 21 26 xs_si_at
  refine jq_aload_n dX6_lines_9 rfl rfl ?_
  refine jq_iconst (v := (nI 1)) dX6_lines_10 (by decide) ?_
  refine xq_vI dX6_lines_11 kX6_162 (c_X6_count hn hA2.1 hS2 (by decide)) (xs_lt (by decide) hn) ⟨rfl, rfl⟩ rfl rfl (Nat.le_of_ble_eq_true rfl) ⟨⟨by decide, by decide⟩, Nat.le_refl _, Nat.le_refl _⟩ ?_
  exact xq_ireturn dX6_lines_14 rfl rfl (⟨_, rfl, rfl, hg1, ht1⟩)
set_option maxHeartbeats 4000000 in
theorem c_X6_ways {l : Launch} {G : jq_G} {n : Nat} {ad : Nat → Nat} {X : xs_T} (hn : 39 ≤ n) {w h : Nat} {num : Nat → Int32} {mk : Nat → Nat} (hA : rf_A w h num mk X) : xs_Ct l G mX6_ways 6 [.ref (ad 21)] n ad X (xs_pi (fun v X' => v = nI (tb_ways w h mk) ∧ xs_fr rf_SQ rf_FQ X X' ∧ X'.1 21 26 = 0)) := by
  have hz := tb_sizes hA.1.1
  have hf0 : xs_fr rf_SQ rf_FQ X (xs_si X 21 26 0) := xs_fr_si xs_fr_rf (by decide)
  have hA1 := rf_afr hA hf0
  refine xs_Ct_of (L := [some (.ref (ad 21))]) rfl (Nat.le_of_ble_eq_true rfl) rfl ?_
  refine jq_aload_n dX6_ways_0 rfl rfl ?_
  refine jq_iconst (v := 0) dX6_ways_1 (by decide) ?_
  refine xq_putI pX6_67 dX6_ways_2 (xs_lt (by decide) hn) (by decide) rfl rfl ?_
  refine jq_aload_n dX6_ways_5 rfl rfl ?_
  refine xq_rV dX6_ways_6 kX6_150 (c_X6_takeMarks hn hA1.1) (xs_lt (by decide) hn) ⟨rfl, rfl⟩ rfl rfl (Nat.le_of_ble_eq_true rfl) ⟨⟨by decide, by decide⟩, Nat.le_refl _, Nat.le_refl _⟩ (fun X6 h6 => ?_)
  obtain ⟨hf1, hr1⟩ := h6
  have hA2 := rf_afr hA1 hf1
  have hS2 : rf_S w h mk X6 := fun e he => ⟨(hr1 e he).trans (hA1.2.1 e he).1, (hA1.2.1 e he).2⟩
  have hg1 := xs_fr_tr hf0 (xs_fr_mo (S' := rf_SQ) (F' := rf_FQ) hf1 (by decide))
  have ht1 : X6.1 21 26 = 0 := xs_fi hf1 21 26 xs_si_at
  refine jq_aload_n dX6_ways_9 rfl rfl ?_
  refine xq_rV dX6_ways_10 kX6_121 (c_X6_labels hn hA2.1 hS2) (xs_lt (by decide) hn) ⟨rfl, rfl⟩ rfl rfl (Nat.le_of_ble_eq_true rfl) ⟨⟨by decide, by decide⟩, Nat.le_refl _, Nat.le_refl _⟩ (fun X10 h10 => ?_)
  refine jq_aload_n dX6_ways_13 rfl rfl ?_
  refine xq_vI dX6_ways_14 kX6_117 (c_X6_waysOf hn (rf_fr hA2.1 h10.1) (rf_sfr hS2 h10.1) h10.2) (xs_lt (by decide) hn) ⟨rfl, rfl⟩ rfl rfl (Nat.le_of_ble_eq_true rfl) ⟨⟨by decide, by decide⟩, Nat.le_refl _, Nat.le_refl _⟩ ?_
  exact xq_ireturn dX6_ways_17 rfl rfl (⟨_, rfl, rfl, xs_fr_tr hg1 (xs_fr_mo h10.1 (by decide)), xs_fi h10.1 21 26 ht1⟩)
set_option maxHeartbeats 4000000 in
theorem c_X6_broken {l : Launch} {G : jq_G} {n : Nat} {ad : Nat → Nat} {X : xs_T} (hn : 39 ≤ n) {w h : Nat} {num : Nat → Int32} {mk : Nat → Nat} (hA : rf_A w h num mk X) : xs_Ct l G mX6_broken 6 [.ref (ad 21)] n ad X (xs_pi (fun v X' => v = nI (tb_broken w h num mk) ∧ xs_fr rf_SQ rf_FQ X X' ∧ X'.1 21 26 = 0)) := by
  have hz := tb_sizes hA.1.1
  have hf0 : xs_fr rf_SQ rf_FQ X (xs_si X 21 26 0) := xs_fr_si xs_fr_rf (by decide)
  have hA1 := rf_afr hA hf0
  refine xs_Ct_of (L := [some (.ref (ad 21))]) rfl (Nat.le_of_ble_eq_true rfl) rfl ?_
  refine jq_aload_n dX6_broken_0 rfl rfl ?_
  refine jq_iconst (v := 0) dX6_broken_1 (by decide) ?_
  refine xq_putI pX6_67 dX6_broken_2 (xs_lt (by decide) hn) (by decide) rfl rfl ?_
  refine jq_aload_n dX6_broken_5 rfl rfl ?_
  refine xq_rV dX6_broken_6 kX6_150 (c_X6_takeMarks hn hA1.1) (xs_lt (by decide) hn) ⟨rfl, rfl⟩ rfl rfl (Nat.le_of_ble_eq_true rfl) ⟨⟨by decide, by decide⟩, Nat.le_refl _, Nat.le_refl _⟩ (fun X6 h6 => ?_)
  obtain ⟨hf1, hr1⟩ := h6
  have hA2 := rf_afr hA1 hf1
  have hS2 : rf_S w h mk X6 := fun e he => ⟨(hr1 e he).trans (hA1.2.1 e he).1, (hA1.2.1 e he).2⟩
  have hg1 := xs_fr_tr hf0 (xs_fr_mo (S' := rf_SQ) (F' := rf_FQ) hf1 (by decide))
  have ht1 : X6.1 21 26 = 0 := xs_fi hf1 21 26 xs_si_at
  refine jq_aload_n dX6_broken_9 rfl rfl ?_
  refine xq_rI dX6_broken_10 kX6_156 (c_X6_brokenBy hn hA2.1 hS2 hA2.2.2) (xs_lt (by decide) hn) ⟨rfl, rfl⟩ rfl rfl (Nat.le_of_ble_eq_true rfl) ⟨⟨by decide, by decide⟩, Nat.le_refl _, Nat.le_refl _⟩ (fun v10 X10 h10 => ?_)
  obtain ⟨rfl, hf2⟩ := h10
  exact xq_ireturn dX6_broken_13 rfl rfl (⟨_, rfl, rfl, xs_fr_tr hg1 (xs_fr_mo hf2 (by decide)), xs_fi hf2 21 26 ht1⟩)
set_option maxHeartbeats 4000000 in
theorem c_X6_isAnswer {l : Launch} {G : jq_G} {n : Nat} {ad : Nat → Nat} {X : xs_T} (hn : 39 ≤ n) {w h : Nat} {num : Nat → Int32} {mk : Nat → Nat} (hA : rf_A w h num mk X) : xs_Ct l G mX6_isAnswer 6 [.ref (ad 21)] n ad X (xs_pi (fun v X' => v = tb_b (tb_isLoop w h mk && tb_right w h num mk) ∧ xs_fr rf_SQ rf_FQ X X' ∧ X'.1 21 26 = 0)) := by
  have hz := tb_sizes hA.1.1
  have hf0 : xs_fr rf_SQ rf_FQ X (xs_si X 21 26 0) := xs_fr_si xs_fr_rf (by decide)
  have hA1 := rf_afr hA hf0
  refine xs_Ct_of (L := [some (.ref (ad 21))]) rfl (Nat.le_of_ble_eq_true rfl) rfl ?_
  refine jq_aload_n dX6_isAnswer_0 rfl rfl ?_
  refine jq_iconst (v := 0) dX6_isAnswer_1 (by decide) ?_
  refine xq_putI pX6_67 dX6_isAnswer_2 (xs_lt (by decide) hn) (by decide) rfl rfl ?_
  refine jq_aload_n dX6_isAnswer_5 rfl rfl ?_
  refine xq_rV dX6_isAnswer_6 kX6_150 (c_X6_takeMarks hn hA1.1) (xs_lt (by decide) hn) ⟨rfl, rfl⟩ rfl rfl (Nat.le_of_ble_eq_true rfl) ⟨⟨by decide, by decide⟩, Nat.le_refl _, Nat.le_refl _⟩ (fun X6 h6 => ?_)
  obtain ⟨hf1, hr1⟩ := h6
  have hA2 := rf_afr hA1 hf1
  have hS2 : rf_S w h mk X6 := fun e he => ⟨(hr1 e he).trans (hA1.2.1 e he).1, (hA1.2.1 e he).2⟩
  have hg1 := xs_fr_tr hf0 (xs_fr_mo (S' := rf_SQ) (F' := rf_FQ) hf1 (by decide))
  have ht1 : X6.1 21 26 = 0 := xs_fi hf1 21 26 xs_si_at
  refine jq_aload_n dX6_isAnswer_9 rfl rfl ?_
  refine xq_rV dX6_isAnswer_10 kX6_121 (c_X6_labels hn hA2.1 hS2) (xs_lt (by decide) hn) ⟨rfl, rfl⟩ rfl rfl (Nat.le_of_ble_eq_true rfl) ⟨⟨by decide, by decide⟩, Nat.le_refl _, Nat.le_refl _⟩ (fun X10 h10 => ?_)
  have hA3 := rf_afr hA2 h10.1
  have hS3 := rf_sfr hS2 h10.1
  have hfe := xs_fr_tr hg1 (xs_fr_mo (S' := rf_SQ) (F' := rf_FQ) h10.1 (by decide))
  have hte := xs_fi h10.1 21 26 ht1
  refine jq_aload_n dX6_isAnswer_13 rfl rfl ?_
  refine xq_vI dX6_isAnswer_14 kX6_138 (c_X6_isLoop hn hA3.1 hS3 h10.2) (xs_lt (by decide) hn) ⟨rfl, rfl⟩ rfl rfl (Nat.le_of_ble_eq_true rfl) ⟨⟨by decide, by decide⟩, Nat.le_refl _, Nat.le_refl _⟩ ?_
  refine jq_if_eq (tgt := 31) dX6_isAnswer_17 (by decide) (fun c17 => ?_) (fun c17 => ?_)
  · have a1 := tb_b0.mp c17
    refine jq_iconst (v := 0) dX6_isAnswer_31 (by decide) ?_
    exact xq_ireturn dX6_isAnswer_32 rfl rfl (⟨_, rfl, by rw [a1]; first | rfl | (rw [a2]; rfl), hfe, hte⟩)
  · have a1 := tb_b1.mp c17
    refine jq_aload_n dX6_isAnswer_20 rfl rfl ?_
    refine xq_vI dX6_isAnswer_21 kX6_128 (c_X6_areRight hn hA3.1 hS3 hA3.2.2) (xs_lt (by decide) hn) ⟨rfl, rfl⟩ rfl rfl (Nat.le_of_ble_eq_true rfl) ⟨⟨by decide, by decide⟩, Nat.le_refl _, Nat.le_refl _⟩ ?_
    refine jq_if_eq (tgt := 31) dX6_isAnswer_24 (by decide) (fun c24 => ?_) (fun c24 => ?_)
    · have a2 := tb_b0.mp c24
      refine jq_iconst (v := 0) dX6_isAnswer_31 (by decide) ?_
      exact xq_ireturn dX6_isAnswer_32 rfl rfl (⟨_, rfl, by rw [a1]; first | rfl | (rw [a2]; rfl), hfe, hte⟩)
    · have a2 := tb_b1.mp c24
      refine jq_iconst (v := 1) dX6_isAnswer_27 (by decide) ?_
      refine jq_goto (tgt := 32) dX6_isAnswer_28 (by decide) ?_
      exact xq_ireturn dX6_isAnswer_32 rfl rfl (⟨_, rfl, by rw [a1]; first | rfl | (rw [a2]; rfl), hfe, hte⟩)
set_option maxHeartbeats 4000000 in
theorem c_X6_hint {l : Launch} {G : jq_G} {n : Nat} {ad : Nat → Nat} {X : xs_T} (hn : 39 ≤ n) {w h : Nat} {num : Nat → Int32} {mk : Nat → Nat} (hA : rf_A w h num mk X) : xs_Ct l G mX6_hint 6 [.ref (ad 21)] n ad X (xs_pi (fun v X' => v = tb_hint w h num mk ∧ xs_fr rf_SQ rf_FQ X X' ∧ X'.1 21 26 = 0)) := by
  have hz := tb_sizes hA.1.1
  have hf0 : xs_fr rf_SQ rf_FQ X (xs_si X 21 26 0) := xs_fr_si xs_fr_rf (by decide)
  have hA1 := rf_afr hA hf0
  have hbl := tb_broken_le w h num mk
  have loop : ∀ (k e : Nat) (Y : xs_T), e + k = tb_ne w h → tb_broken w h num mk = 0 → xs_fr rf_SQ rf_FQ X Y → Y.1 21 26 = 0 → rf_W w h (tb_asks w h num mk) Y → (∀ j, j < e → (tb_asks w h num mk).1 j = 0) → jq_J l G mX6_hint (jq_R 6 0 0) jq_E0 (xs_Ye G n ad (xs_pi (fun v X' => v = tb_hint w h num mk ∧ xs_fr rf_SQ rf_FQ X X' ∧ X'.1 21 26 = 0))) 24 [some (.ref (ad 21)), some (.int (nI (e)))] [] n ad (xs_mem G ad Y) 0 0 := by
    intro k
    induction k with
    | zero =>
      intro e Y hk hb0 hf ht hW h0
      have hE := xs_fi hf 21 3 hA.1.2.2.2.2.1
      have e1 : e = tb_ne w h := by omega
      subst e1
      have hfi : ¬ fa_first (fun e => !((tb_asks w h num mk).1 e == 0)) (tb_ne w h) < tb_ne w h := by
        intro q
        have h1 := fa_first_yes _ _ q
        rw [h0 _ q] at h1
        cases h1
      refine jq_iload_n dX6_hint_24 rfl rfl ?_
      refine jq_aload_n dX6_hint_25 rfl rfl ?_
      refine xq_getI fX6_74 dX6_hint_26 (xs_lt (by decide) hn) (by decide) hE ?_
      refine jq_geN (tgt := 49) dX6_hint_29 (by decide) ⟨by omega, by omega⟩ (fun c29 => ?_) (fun c29 => ?_)
      · refine jq_iconst (v := (-1)) dX6_hint_49 (by decide) ?_
        exact xq_ireturn dX6_hint_50 rfl rfl (⟨_, rfl, by unfold tb_hint; rw [if_neg (by rw [hb0]; exact fun q => q rfl), if_neg hfi], hf, ht⟩)
      · exact absurd c29 (by omega)
    | succ k ih =>
      intro e Y hk hb0 hf ht hW h0
      have hE := xs_fi hf 21 3 hA.1.2.2.2.2.1
      have he : e < tb_ne w h := by omega
      have hi : vp_in (nI e) 40 := vp_inN (by omega) (by decide)
      have hw := hW e he
      refine jq_iload_n dX6_hint_24 rfl rfl ?_
      refine jq_aload_n dX6_hint_25 rfl rfl ?_
      refine xq_getI fX6_74 dX6_hint_26 (xs_lt (by decide) hn) (by decide) hE ?_
      refine jq_geN (tgt := 49) dX6_hint_29 (by decide) ⟨by omega, by omega⟩ (fun c29 => ?_) (fun c29 => ?_)
      · exact absurd c29 (by omega)
      · refine jq_aload_n dX6_hint_32 rfl rfl ?_
        refine xq_getR 30 fX6_34 dX6_hint_33 (xs_lt (by decide) hn) (by decide) ?_
        refine jq_iload_n dX6_hint_36 rfl rfl ?_
        refine xq_iaload dX6_hint_37 (xs_lt (by decide) hn) rfl hi (xs_rd hw.1 (by omega)) ?_
        refine jq_eqZ (tgt := 43) dX6_hint_38 (by decide) (by omega) (fun c38 => ?_) (fun c38 => ?_)
        · refine jq_iincN dX6_hint_43 (by decide) rfl rfl rfl ?_
          refine jq_goto (tgt := 24) dX6_hint_46 (by decide) ?_
          refine ih (e + 1) Y (by omega) hb0 hf ht hW (fun j hj => ?_)
          rcases Nat.lt_or_ge j e with q | q
          · exact h0 j q
          · rw [show j = e by omega]; exact c38
        · refine jq_iload_n dX6_hint_41 rfl rfl ?_
          have hfe : fa_first (fun e => !((tb_asks w h num mk).1 e == 0)) (tb_ne w h) = e := by
            have hle : ¬ e < fa_first (fun e => !((tb_asks w h num mk).1 e == 0)) (tb_ne w h) := by
              intro q; have := fa_first_no _ _ _ q; simp at this; exact c38 this
            rcases Nat.lt_or_ge (fa_first (fun e => !((tb_asks w h num mk).1 e == 0)) (tb_ne w h)) e with q | q
            · have h1 := fa_first_yes _ _ (Nat.lt_trans q he); rw [h0 _ q] at h1; cases h1
            · omega
          exact xq_ireturn dX6_hint_42 rfl rfl (⟨_, rfl, by unfold tb_hint; rw [if_neg (by rw [hb0]; exact fun q => q rfl), hfe, if_pos he], hf, ht⟩)
  refine xs_Ct_of (L := [some (.ref (ad 21)), none]) rfl (Nat.le_of_ble_eq_true rfl) rfl ?_
  refine jq_aload_n dX6_hint_0 rfl rfl ?_
  refine jq_iconst (v := 0) dX6_hint_1 (by decide) ?_
  refine xq_putI pX6_67 dX6_hint_2 (xs_lt (by decide) hn) (by decide) rfl rfl ?_
  refine jq_aload_n dX6_hint_5 rfl rfl ?_
  refine xq_rV dX6_hint_6 kX6_150 (c_X6_takeMarks hn hA1.1) (xs_lt (by decide) hn) ⟨rfl, rfl⟩ rfl rfl (Nat.le_of_ble_eq_true rfl) ⟨⟨by decide, by decide⟩, Nat.le_refl _, Nat.le_refl _⟩ (fun X6 h6 => ?_)
  obtain ⟨hf1, hr1⟩ := h6
  have hA2 := rf_afr hA1 hf1
  have hS2 : rf_S w h mk X6 := fun e he => ⟨(hr1 e he).trans (hA1.2.1 e he).1, (hA1.2.1 e he).2⟩
  have hg1 := xs_fr_tr hf0 (xs_fr_mo (S' := rf_SQ) (F' := rf_FQ) hf1 (by decide))
  have ht1 : X6.1 21 26 = 0 := xs_fi hf1 21 26 xs_si_at
  refine jq_aload_n dX6_hint_9 rfl rfl ?_
  refine xq_rI dX6_hint_10 kX6_156 (c_X6_brokenBy hn hA2.1 hS2 hA2.2.2) (xs_lt (by decide) hn) ⟨rfl, rfl⟩ rfl rfl (Nat.le_of_ble_eq_true rfl) ⟨⟨by decide, by decide⟩, Nat.le_refl _, Nat.le_refl _⟩ (fun v10 X10 h10 => ?_)
  obtain ⟨rfl, hf2⟩ := h10
  refine jq_eqZ (tgt := 18) dX6_hint_13 (by decide) (by omega) (fun c13 => ?_) (fun c13 => ?_)
  · refine jq_aload_n dX6_hint_18 rfl rfl ?_
    refine xq_rV dX6_hint_19 kX6_159 (c_X6_asks hn (rf_fr hA2.1 hf2) (rf_sfr hS2 hf2) (rf_nfr hA2.2.2 hf2)) (xs_lt (by decide) hn) ⟨rfl, rfl⟩ rfl rfl (Nat.le_of_ble_eq_true rfl) ⟨⟨by decide, by decide⟩, Nat.le_refl _, Nat.le_refl _⟩ (fun X19 h19 => ?_)
    refine jq_iconst (v := 0) dX6_hint_22 (by decide) ?_
    refine jq_istore_n dX6_hint_23 rfl (by decide) rfl rfl ?_
    exact loop (tb_ne w h) 0 _ (by omega) c13 (xs_fr_tr (xs_fr_tr hg1 (xs_fr_mo hf2 (by decide))) (xs_fr_mo h19.1 (by decide))) (xs_fi h19.1 21 26 (xs_fi hf2 21 26 ht1)) h19.2.2 (fun j hj => absurd hj (Nat.not_lt_zero j))
  · refine jq_iconst (v := (-1)) dX6_hint_16 (by decide) ?_
    exact xq_ireturn dX6_hint_17 rfl rfl (⟨_, rfl, by unfold tb_hint; rw [if_pos c13], xs_fr_tr hg1 (xs_fr_mo hf2 (by decide)), xs_fi hf2 21 26 ht1⟩)
set_option maxHeartbeats 4000000 in
theorem c_X6_markAll {l : Launch} {G : jq_G} {n : Nat} {ad : Nat → Nat} {X : xs_T} (hn : 39 ≤ n) {w h : Nat} {num : Nat → Int32} {mk : Nat → Nat} (hA : rf_A w h num mk X) : xs_Ct l G mX6_markAll 7 [.ref (ad 21)] n ad X (xs_pi (fun v X' => v = (if (tb_follow w h num mk).2.2.2.2 = 0 then nI (tb_became w h mk (tb_follow w h num mk).1) else 0) ∧ xs_fr (28 :: rf_SQ) rf_FQ X X' ∧ X'.1 21 26 = 0 ∧ rf_M w h (if (tb_follow w h num mk).2.2.2.2 = 0 then (tb_follow w h num mk).1 else mk) X')) := by
  have hz := tb_sizes hA.1.1
  have hf0 : xs_fr (28 :: rf_SQ) rf_FQ X (xs_si X 21 26 0) := xs_fr_si xs_fr_rf (by decide)
  have hf00 : xs_fr rf_SQ rf_FQ X (xs_si X 21 26 0) := xs_fr_si xs_fr_rf (by decide)
  have hA1 := rf_afr hA hf00
  have hel : (tb_follow w h num mk).2.2.2.2 < 2 ^ 31 := by
    have : ∀ k st rd rl c, (tb_go w h num k st rd rl c).2.2.2.2 ≤ 5 := by
      intro k
      induction k with
      | zero => intro st rd rl c; exact Nat.zero_le _
      | succ k ih =>
        intro st rd rl c
        rw [tb_go]
        repeat' split
        · exact Nat.le_trans (tb_broken_le w h num st) (by decide)
        · exact Nat.le_refl _
        · exact ih _ _ _ _
        · exact Nat.zero_le _
    exact Nat.lt_of_le_of_lt (this _ _ _ _ _) (by decide)
  have loop : ∀ (k e cnt : Nat) (Y : xs_T), e + k = tb_ne w h → xs_fr (28 :: rf_SQ) rf_FQ X Y → Y.1 21 26 = 0 → Y.1 21 18 = nI (tb_follow w h num mk).2.2.2.2 → rf_S w h (tb_follow w h num mk).1 Y → ((tb_follow w h num mk).2.2.2.2 ≠ 0 → e = 0) → cnt = fb_ct (fun e => !(mk e == (tb_follow w h num mk).1 e)) e → (∀ j, j < tb_ne w h → Y.2.2.1 28 j = nI (if j < e then (tb_follow w h num mk).1 j else mk j)) → jq_J l G mX6_markAll (jq_R 7 0 0) jq_E0 (xs_Ye G n ad (xs_pi (fun v X' => v = (if (tb_follow w h num mk).2.2.2.2 = 0 then nI (tb_became w h mk (tb_follow w h num mk).1) else 0) ∧ xs_fr (28 :: rf_SQ) rf_FQ X X' ∧ X'.1 21 26 = 0 ∧ rf_M w h (if (tb_follow w h num mk).2.2.2.2 = 0 then (tb_follow w h num mk).1 else mk) X'))) 13 [some (.ref (ad 21)), some (.int (nI (cnt))), some (.int (nI (e)))] [] n ad (xs_mem G ad Y) 0 0 := by
    intro k
    induction k with
    | zero =>
      intro e cnt Y hk hf ht hen hS he0 hc hY
      have hE := xs_fi hf 21 3 hA.1.2.2.2.2.1
      have e0 : (tb_follow w h num mk).2.2.2.2 = 0 := Classical.byContradiction (fun q => by have := he0 q; omega)
      have e1 : e = tb_ne w h := by omega
      subst e1
      refine jq_iload_n dX6_markAll_13 rfl rfl ?_
      refine jq_aload_n dX6_markAll_14 rfl rfl ?_
      refine xq_getI fX6_74 dX6_markAll_15 (xs_lt (by decide) hn) (by decide) hE ?_
      refine jq_geN (tgt := 69) dX6_markAll_18 (by decide) ⟨by omega, by omega⟩ (fun c18 => ?_) (fun c18 => ?_)
      · refine jq_iload_n dX6_markAll_69 rfl rfl ?_
        exact xq_ireturn dX6_markAll_70 rfl rfl (⟨_, rfl, by rw [if_pos e0, hc]; rfl, hf, ht, by rw [if_pos e0]; intro j hj; exact ⟨by rw [hY j hj, if_pos hj], (hS j hj).2⟩⟩)
      · exact absurd c18 (by omega)
    | succ k ih =>
      intro e cnt Y hk hf ht hen hS he0 hc hY
      have hE := xs_fi hf 21 3 hA.1.2.2.2.2.1
      have he : e < tb_ne w h := by omega
      have hi : vp_in (nI e) 40 := vp_inN (by omega) (by decide)
      have y1 := hY e he
      rw [if_neg (Nat.lt_irrefl e)] at y1
      have m1 := (hA.2.1 e he).2
      have s1 := (hS e he).2
      refine jq_iload_n dX6_markAll_13 rfl rfl ?_
      refine jq_aload_n dX6_markAll_14 rfl rfl ?_
      refine xq_getI fX6_74 dX6_markAll_15 (xs_lt (by decide) hn) (by decide) hE ?_
      refine jq_geN (tgt := 69) dX6_markAll_18 (by decide) ⟨by omega, by omega⟩ (fun c18 => ?_) (fun c18 => ?_)
      · exact absurd c18 (by omega)
      · refine jq_aload_n dX6_markAll_21 rfl rfl ?_
        refine xq_getI fX6_108 dX6_markAll_22 (xs_lt (by decide) hn) (by decide) hen ?_
        refine jq_neZ (tgt := 69) dX6_markAll_25 (by decide) hel (fun c25 => ?_) (fun c25 => ?_)
        · refine jq_iload_n dX6_markAll_69 rfl rfl ?_
          have ee := he0 c25
          subst ee
          exact xq_ireturn dX6_markAll_70 rfl rfl (⟨_, rfl, by rw [if_neg c25, hc]; rfl, hf, ht, by rw [if_neg c25]; intro j hj; exact ⟨by rw [hY j hj, if_neg (Nat.not_lt_zero j)], (hA.2.1 j hj).2⟩⟩)
        · refine jq_iload_n dX6_markAll_28 rfl rfl ?_
          refine jq_aload_n dX6_markAll_29 rfl rfl ?_
          refine xq_getR 28 fX6_28 dX6_markAll_30 (xs_lt (by decide) hn) (by decide) ?_
          refine jq_iload_n dX6_markAll_33 rfl rfl ?_
          refine xq_iaload dX6_markAll_34 (xs_lt (by decide) hn) rfl hi (xs_rd y1 (by omega)) ?_
          refine jq_aload_n dX6_markAll_35 rfl rfl ?_
          refine xq_getR 29 fX6_31 dX6_markAll_36 (xs_lt (by decide) hn) (by decide) ?_
          refine jq_iload_n dX6_markAll_39 rfl rfl ?_
          refine xq_iaload dX6_markAll_40 (xs_lt (by decide) hn) rfl hi (xs_rd (hS e he).1 (by omega)) ?_
          refine jq_neN (tgt := 48) dX6_markAll_41 (by decide) ⟨by omega, by omega⟩ (fun c41 => ?_) (fun c41 => ?_)
          · refine jq_iconst (v := (nI 1)) dX6_markAll_48 (by decide) ?_
            refine jq_iaddN dX6_markAll_49 ?_
            refine jq_istore_n dX6_markAll_50 rfl (by decide) rfl rfl ?_
            refine jq_aload_n dX6_markAll_51 rfl rfl ?_
            refine xq_getR 28 fX6_28 dX6_markAll_52 (xs_lt (by decide) hn) (by decide) ?_
            refine jq_iload_n dX6_markAll_55 rfl rfl ?_
            refine jq_aload_n dX6_markAll_56 rfl rfl ?_
            refine xq_getR 29 fX6_31 dX6_markAll_57 (xs_lt (by decide) hn) (by decide) ?_
            refine jq_iload_n dX6_markAll_60 rfl rfl ?_
            refine xq_iaload dX6_markAll_61 (xs_lt (by decide) hn) rfl hi (xs_rd (hS e he).1 (by omega)) ?_
            refine xq_iastore dX6_markAll_62 (xs_lt (by decide) hn) rfl hi ?_
            refine jq_iincN dX6_markAll_63 (by decide) rfl rfl rfl ?_
            refine jq_goto (tgt := 13) dX6_markAll_66 (by decide) ?_
            refine ih (e + 1) _ _ (by omega) (xs_fr_ai hf (by decide)) ht hen (fun j hj => ?_) (fun q => absurd c25 q) (by rw [fb_ct_succ, ← hc]; simp [c41]) (fun j hj => ?_)
            · rw [xs_ai_ne (by decide)]; exact hS j hj
            · rw [xs_ai_at]
              by_cases q : j = e
              · subst q; rw [xs_upd_at (by omega), if_pos (by omega)]
              · rw [xs_upd_ne (by omega) q, hY j hj]; congr 1; by_cases q2 : j < e; rw [if_pos q2, if_pos (by omega)]; rw [if_neg q2, if_neg (by omega)]
          · refine jq_iconst (v := (nI 0)) dX6_markAll_44 (by decide) ?_
            refine jq_goto (tgt := 49) dX6_markAll_45 (by decide) ?_
            refine jq_iaddN dX6_markAll_49 ?_
            refine jq_istore_n dX6_markAll_50 rfl (by decide) rfl rfl ?_
            refine jq_aload_n dX6_markAll_51 rfl rfl ?_
            refine xq_getR 28 fX6_28 dX6_markAll_52 (xs_lt (by decide) hn) (by decide) ?_
            refine jq_iload_n dX6_markAll_55 rfl rfl ?_
            refine jq_aload_n dX6_markAll_56 rfl rfl ?_
            refine xq_getR 29 fX6_31 dX6_markAll_57 (xs_lt (by decide) hn) (by decide) ?_
            refine jq_iload_n dX6_markAll_60 rfl rfl ?_
            refine xq_iaload dX6_markAll_61 (xs_lt (by decide) hn) rfl hi (xs_rd (hS e he).1 (by omega)) ?_
            refine xq_iastore dX6_markAll_62 (xs_lt (by decide) hn) rfl hi ?_
            refine jq_iincN dX6_markAll_63 (by decide) rfl rfl rfl ?_
            refine jq_goto (tgt := 13) dX6_markAll_66 (by decide) ?_
            refine ih (e + 1) _ _ (by omega) (xs_fr_ai hf (by decide)) ht hen (fun j hj => ?_) (fun q => absurd c25 q) (by rw [fb_ct_succ, ← hc]; simp [c41]) (fun j hj => ?_)
            · rw [xs_ai_ne (by decide)]; exact hS j hj
            · rw [xs_ai_at]
              by_cases q : j = e
              · subst q; rw [xs_upd_at (by omega), if_pos (by omega)]
              · rw [xs_upd_ne (by omega) q, hY j hj]; congr 1; by_cases q2 : j < e; rw [if_pos q2, if_pos (by omega)]; rw [if_neg q2, if_neg (by omega)]
  refine xs_Ct_of (L := [some (.ref (ad 21)), none, none]) rfl (Nat.le_of_ble_eq_true rfl) rfl ?_
  refine jq_aload_n dX6_markAll_0 rfl rfl ?_
  refine jq_iconst (v := 0) dX6_markAll_1 (by decide) ?_
  refine xq_putI pX6_67 dX6_markAll_2 (xs_lt (by decide) hn) (by decide) rfl rfl ?_
  refine jq_aload_n dX6_markAll_5 rfl rfl ?_
  refine xq_rV dX6_markAll_6 kX6_105 (c_X6_follow hn hA1.1 hA1.2.1 hA1.2.2) (xs_lt (by decide) hn) ⟨rfl, rfl⟩ rfl rfl (Nat.le_of_ble_eq_true rfl) ⟨⟨by decide, by decide⟩, Nat.le_refl _, Nat.le_refl _⟩ (fun X6 h6 => ?_)
  obtain ⟨hf, hg⟩ := h6
  refine jq_iconst (v := (nI 0)) dX6_markAll_9 (by decide) ?_
  refine jq_istore_n dX6_markAll_10 rfl (by decide) rfl rfl ?_
  refine jq_iconst (v := (nI 0)) dX6_markAll_11 (by decide) ?_
  refine jq_istore_n dX6_markAll_12 rfl (by decide) rfl rfl ?_
  exact loop (tb_ne w h) 0 0 _ (by omega) (xs_fr_tr hf0 (xs_fr_mo hf (by decide))) (xs_fi hf 21 26 xs_si_at) hg.2.2.2 hg.1 (fun _ => rfl) rfl (fun j hj => by rw [if_neg (Nat.not_lt_zero j), xs_fa hf 28]; exact (hA1.2.1 j hj).1)
