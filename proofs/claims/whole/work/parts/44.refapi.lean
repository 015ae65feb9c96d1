set_option maxHeartbeats 4000000 in
theorem c_X6_mayB {l : Launch} {G : jq_G} {n : Nat} {ad : Nat → Nat} {X : xs_T} (hn : 39 ≤ n) (b : Bool) : xs_Ct l G mX6_may 1 [.ref (ad 21), .int (tb_b b)] n ad X (xs_pd (some (.int (tb_b b))) (xs_si X 21 26 (tb_b (!b)))) := by
  refine xs_Ct_of (L := [some (.ref (ad 21)), some (.int (tb_b b))]) rfl (Nat.le_of_ble_eq_true rfl) rfl ?_
  refine jq_aload_n dX6_may_0 rfl rfl ?_
  refine jq_iload_n dX6_may_1 rfl rfl ?_
  refine jq_if_eq (tgt := 9) dX6_may_2 (by decide) (fun c2 => ?_) (fun c2 => ?_)
  · have hb := tb_b0.mp c2
    subst hb
    refine jq_iconst (v := 1) dX6_may_9 (by decide) ?_
    refine xq_putI pX6_67 dX6_may_10 (xs_lt (by decide) hn) (by decide) rfl rfl ?_
    refine jq_iload_n dX6_may_13 rfl rfl ?_
    exact xq_ireturn dX6_may_14 rfl rfl (⟨rfl, rfl⟩)
  · have hb := tb_b1.mp c2
    subst hb
    refine jq_iconst (v := 0) dX6_may_5 (by decide) ?_
    refine jq_goto (tgt := 10) dX6_may_6 (by decide) ?_
    refine xq_putI pX6_67 dX6_may_10 (xs_lt (by decide) hn) (by decide) rfl rfl ?_
    refine jq_iload_n dX6_may_13 rfl rfl ?_
    exact xq_ireturn dX6_may_14 rfl rfl (⟨rfl, rfl⟩)
set_option maxHeartbeats 4000000 in
theorem c_X6_mayBoth {l : Launch} {G : jq_G} {n : Nat} {ad : Nat → Nat} {X : xs_T} (hn : 39 ≤ n) (a b : Bool) : xs_Ct l G mX6_mayBoth 1 [.ref (ad 21), .int (tb_b a), .int (tb_b b)] n ad X (xs_pd (some (.int (tb_b (a && b)))) (xs_si X 21 26 (tb_thr a b))) := by
  refine xs_Ct_of (L := [some (.ref (ad 21)), some (.int (tb_b a)), some (.int (tb_b b))]) rfl (Nat.le_of_ble_eq_true rfl) rfl ?_
  refine jq_aload_n dX6_mayBoth_0 rfl rfl ?_
  refine jq_iload_n dX6_mayBoth_1 rfl rfl ?_
  refine jq_if_ne (tgt := 9) dX6_mayBoth_2 (by decide) (fun c2 => ?_) (fun c2 => ?_)
  · have ha := tb_b1.mp c2
    subst ha
    refine jq_iload_n dX6_mayBoth_9 rfl rfl ?_
    refine jq_if_ne (tgt := 17) dX6_mayBoth_10 (by decide) (fun c10 => ?_) (fun c10 => ?_)
    · have hb := tb_b1.mp c10
      subst hb
      refine jq_iconst (v := 0) dX6_mayBoth_17 (by decide) ?_
      refine xq_putI pX6_67 dX6_mayBoth_18 (xs_lt (by decide) hn) (by decide) rfl rfl ?_
      refine jq_aload_n dX6_mayBoth_21 rfl rfl ?_
      refine xq_getI fX6_67 dX6_mayBoth_22 (xs_lt (by decide) hn) (by decide) xs_si_at ?_
      refine jq_if_ne (tgt := 32) dX6_mayBoth_25 (by decide) (fun c25 => ?_) (fun c25 => ?_)
      · first | exact absurd rfl c25 | exact jq_iconst (v := 0) dX6_mayBoth_32 (by decide) (xq_ireturn dX6_mayBoth_33 rfl rfl ⟨rfl, rfl⟩)
      · first | exact absurd c25 (by decide) | exact jq_iconst (v := 1) dX6_mayBoth_28 (by decide) (jq_goto (tgt := 33) dX6_mayBoth_29 (by decide) (xq_ireturn dX6_mayBoth_33 rfl rfl ⟨rfl, rfl⟩))
    · have hb := tb_b0.mp c10
      subst hb
      refine jq_iconst (v := 2) dX6_mayBoth_13 (by decide) ?_
      refine jq_goto (tgt := 18) dX6_mayBoth_14 (by decide) ?_
      refine xq_putI pX6_67 dX6_mayBoth_18 (xs_lt (by decide) hn) (by decide) rfl rfl ?_
      refine jq_aload_n dX6_mayBoth_21 rfl rfl ?_
      refine xq_getI fX6_67 dX6_mayBoth_22 (xs_lt (by decide) hn) (by decide) xs_si_at ?_
      refine jq_if_ne (tgt := 32) dX6_mayBoth_25 (by decide) (fun c25 => ?_) (fun c25 => ?_)
      · first | exact absurd rfl c25 | exact jq_iconst (v := 0) dX6_mayBoth_32 (by decide) (xq_ireturn dX6_mayBoth_33 rfl rfl ⟨rfl, rfl⟩)
      · first | exact absurd c25 (by decide) | exact jq_iconst (v := 1) dX6_mayBoth_28 (by decide) (jq_goto (tgt := 33) dX6_mayBoth_29 (by decide) (xq_ireturn dX6_mayBoth_33 rfl rfl ⟨rfl, rfl⟩))
  · have ha := tb_b0.mp c2
    subst ha
    refine jq_iconst (v := 1) dX6_mayBoth_5 (by decide) ?_
    refine jq_goto (tgt := 18) dX6_mayBoth_6 (by decide) ?_
    refine xq_putI pX6_67 dX6_mayBoth_18 (xs_lt (by decide) hn) (by decide) rfl rfl ?_
    refine jq_aload_n dX6_mayBoth_21 rfl rfl ?_
    refine xq_getI fX6_67 dX6_mayBoth_22 (xs_lt (by decide) hn) (by decide) xs_si_at ?_
    refine jq_if_ne (tgt := 32) dX6_mayBoth_25 (by decide) (fun c25 => ?_) (fun c25 => ?_)
    · first | exact absurd rfl c25 | exact jq_iconst (v := 0) dX6_mayBoth_32 (by decide) (xq_ireturn dX6_mayBoth_33 rfl rfl ⟨rfl, rfl⟩)
    · first | exact absurd c25 (by decide) | exact jq_iconst (v := 1) dX6_mayBoth_28 (by decide) (jq_goto (tgt := 33) dX6_mayBoth_29 (by decide) (xq_ireturn dX6_mayBoth_33 rfl rfl ⟨rfl, rfl⟩))
set_option maxHeartbeats 4000000 in
theorem c_X6_isEdge {l : Launch} {G : jq_G} {n : Nat} {ad : Nat → Nat} {X : xs_T} (hn : 39 ≤ n) {w h : Nat} (hT : rf_T w h X) (x : Int32) : xs_Ct l G mX6_isEdge 1 [.ref (ad 21), .int (x)] n ad X (xs_pd (some (.int (tb_b (tb_inB x (tb_ne w h))))) X) := by
  refine xs_Ct_of (L := [some (.ref (ad 21)), some (.int (x))]) rfl (Nat.le_of_ble_eq_true rfl) rfl ?_
  refine jq_iload_n dX6_isEdge_0 rfl rfl ?_
  refine jq_if_lt (tgt := 16) dX6_isEdge_1 (by decide) (fun c1 => ?_) (fun c1 => ?_)
  · refine jq_iconst (v := 0) dX6_isEdge_16 (by decide) ?_
    exact xq_ireturn dX6_isEdge_17 rfl rfl (⟨by first | exact tb_vf (by unfold tb_inB; rw [decide_eq_false (Int32.not_le.mpr c1)]; rfl) | exact tb_vf (by unfold tb_inB; rw [decide_eq_false (Int32.not_lt.mpr c9), Bool.and_false]) | exact tb_vt (by unfold tb_inB; rw [decide_eq_true (Int32.not_lt.mp c1), decide_eq_true (Int32.not_le.mp c9)]; rfl), rfl⟩)
  · refine jq_iload_n dX6_isEdge_4 rfl rfl ?_
    refine jq_aload_n dX6_isEdge_5 rfl rfl ?_
    refine xq_getI fX6_74 dX6_isEdge_6 (xs_lt (by decide) hn) (by decide) hT.2.2.2.2.1 ?_
    refine jq_icmp_ge (tgt := 16) dX6_isEdge_9 (by decide) (fun c9 => ?_) (fun c9 => ?_)
    · refine jq_iconst (v := 0) dX6_isEdge_16 (by decide) ?_
      exact xq_ireturn dX6_isEdge_17 rfl rfl (⟨by first | exact tb_vf (by unfold tb_inB; rw [decide_eq_false (Int32.not_le.mpr c1)]; rfl) | exact tb_vf (by unfold tb_inB; rw [decide_eq_false (Int32.not_lt.mpr c9), Bool.and_false]) | exact tb_vt (by unfold tb_inB; rw [decide_eq_true (Int32.not_lt.mp c1), decide_eq_true (Int32.not_le.mp c9)]; rfl), rfl⟩)
    · refine jq_iconst (v := 1) dX6_isEdge_12 (by decide) ?_
      refine jq_goto (tgt := 17) dX6_isEdge_13 (by decide) ?_
      exact xq_ireturn dX6_isEdge_17 rfl rfl (⟨by first | exact tb_vf (by unfold tb_inB; rw [decide_eq_false (Int32.not_le.mpr c1)]; rfl) | exact tb_vf (by unfold tb_inB; rw [decide_eq_false (Int32.not_lt.mpr c9), Bool.and_false]) | exact tb_vt (by unfold tb_inB; rw [decide_eq_true (Int32.not_lt.mp c1), decide_eq_true (Int32.not_le.mp c9)]; rfl), rfl⟩)
set_option maxHeartbeats 4000000 in
theorem c_X6_isCellB {l : Launch} {G : jq_G} {n : Nat} {ad : Nat → Nat} {X : xs_T} (hn : 39 ≤ n) {w h : Nat} (hT : rf_T w h X) (x : Int32) : xs_Ct l G mX6_isCell 1 [.ref (ad 21), .int (x)] n ad X (xs_pd (some (.int (tb_b (tb_inB x (tb_nc w h))))) X) := by
  refine xs_Ct_of (L := [some (.ref (ad 21)), some (.int (x))]) rfl (Nat.le_of_ble_eq_true rfl) rfl ?_
  refine jq_iload_n dX6_isCell_0 rfl rfl ?_
  refine jq_if_lt (tgt := 16) dX6_isCell_1 (by decide) (fun c1 => ?_) (fun c1 => ?_)
  · refine jq_iconst (v := 0) dX6_isCell_16 (by decide) ?_
    exact xq_ireturn dX6_isCell_17 rfl rfl (⟨by first | exact tb_vf (by unfold tb_inB; rw [decide_eq_false (Int32.not_le.mpr c1)]; rfl) | exact tb_vf (by unfold tb_inB; rw [decide_eq_false (Int32.not_lt.mpr c9), Bool.and_false]) | exact tb_vt (by unfold tb_inB; rw [decide_eq_true (Int32.not_lt.mp c1), decide_eq_true (Int32.not_le.mp c9)]; rfl), rfl⟩)
  · refine jq_iload_n dX6_isCell_4 rfl rfl ?_
    refine jq_aload_n dX6_isCell_5 rfl rfl ?_
    refine xq_getI fX6_71 dX6_isCell_6 (xs_lt (by decide) hn) (by decide) hT.2.2.2.1 ?_
    refine jq_icmp_ge (tgt := 16) dX6_isCell_9 (by decide) (fun c9 => ?_) (fun c9 => ?_)
    · refine jq_iconst (v := 0) dX6_isCell_16 (by decide) ?_
      exact xq_ireturn dX6_isCell_17 rfl rfl (⟨by first | exact tb_vf (by unfold tb_inB; rw [decide_eq_false (Int32.not_le.mpr c1)]; rfl) | exact tb_vf (by unfold tb_inB; rw [decide_eq_false (Int32.not_lt.mpr c9), Bool.and_false]) | exact tb_vt (by unfold tb_inB; rw [decide_eq_true (Int32.not_lt.mp c1), decide_eq_true (Int32.not_le.mp c9)]; rfl), rfl⟩)
    · refine jq_iconst (v := 1) dX6_isCell_12 (by decide) ?_
      refine jq_goto (tgt := 17) dX6_isCell_13 (by decide) ?_
      exact xq_ireturn dX6_isCell_17 rfl rfl (⟨by first | exact tb_vf (by unfold tb_inB; rw [decide_eq_false (Int32.not_le.mpr c1)]; rfl) | exact tb_vf (by unfold tb_inB; rw [decide_eq_false (Int32.not_lt.mpr c9), Bool.and_false]) | exact tb_vt (by unfold tb_inB; rw [decide_eq_true (Int32.not_lt.mp c1), decide_eq_true (Int32.not_le.mp c9)]; rfl), rfl⟩)
set_option maxHeartbeats 4000000 in
theorem c_X6_cells {l : Launch} {G : jq_G} {n : Nat} {ad : Nat → Nat} {X : xs_T} (hn : 39 ≤ n) {w h : Nat} (hT : rf_T w h X) : xs_Ct l G mX6_cells 1 [.ref (ad 21)] n ad X (xs_pd (some (.int (nI (tb_nc w h)))) (xs_si X 21 26 0)) := by
  refine xs_Ct_of (L := [some (.ref (ad 21))]) rfl (Nat.le_of_ble_eq_true rfl) rfl ?_
  refine jq_aload_n dX6_cells_0 rfl rfl ?_
  refine jq_iconst (v := 0) dX6_cells_1 (by decide) ?_
  refine xq_putI pX6_67 dX6_cells_2 (xs_lt (by decide) hn) (by decide) rfl rfl ?_
  refine jq_aload_n dX6_cells_5 rfl rfl ?_
  refine xq_getI fX6_71 dX6_cells_6 (xs_lt (by decide) hn) (by decide) ((xs_si_ne (by decide)).trans hT.2.2.2.1) ?_
  exact xq_ireturn dX6_cells_9 rfl rfl (⟨rfl, rfl⟩)
set_option maxHeartbeats 4000000 in
theorem c_X6_edges {l : Launch} {G : jq_G} {n : Nat} {ad : Nat → Nat} {X : xs_T} (hn : 39 ≤ n) {w h : Nat} (hT : rf_T w h X) : xs_Ct l G mX6_edges 1 [.ref (ad 21)] n ad X (xs_pd (some (.int (nI (tb_ne w h)))) (xs_si X 21 26 0)) := by
  refine xs_Ct_of (L := [some (.ref (ad 21))]) rfl (Nat.le_of_ble_eq_true rfl) rfl ?_
  refine jq_aload_n dX6_edges_0 rfl rfl ?_
  refine jq_iconst (v := 0) dX6_edges_1 (by decide) ?_
  refine xq_putI pX6_67 dX6_edges_2 (xs_lt (by decide) hn) (by decide) rfl rfl ?_
  refine jq_aload_n dX6_edges_5 rfl rfl ?_
  refine xq_getI fX6_74 dX6_edges_6 (xs_lt (by decide) hn) (by decide) ((xs_si_ne (by decide)).trans hT.2.2.2.2.1) ?_
  exact xq_ireturn dX6_edges_9 rfl rfl (⟨rfl, rfl⟩)
set_option maxHeartbeats 4000000 in
theorem c_X6_number_no {l : Launch} {G : jq_G} {n : Nat} {ad : Nat → Nat} {X : xs_T} (hn : 39 ≤ n) {w h : Nat} (hT : rf_T w h X) (x v : Int32) (hno : (tb_inB x (tb_nc w h) && tb_numOk v) = false) : xs_Ct l G mX6_number 2 [.ref (ad 21), .int (x), .int (v)] n ad X (xs_pd (some (.int 0)) (xs_si X 21 26 (tb_thr (tb_inB x (tb_nc w h)) (tb_numOk v)))) := by
  have h21 : ∀ b : Bool, b = tb_numOk v → jq_J l G mX6_number (jq_R 2 0 0) jq_E0 (xs_Ye G n ad (xs_pd (some (.int 0)) (xs_si X 21 26 (tb_thr (tb_inB x (tb_nc w h)) (tb_numOk v))))) 21 [some (.ref (ad 21)), some (.int (x)), some (.int (v)), none] [.int (tb_b b), .int (tb_b (tb_inB x (tb_nc w h))), .ref (ad 21)] n ad (xs_mem G ad X) 0 0 := by
    intro b hb
    subst hb
    refine xq_vI dX6_number_21 kX6_98 (c_X6_mayBoth hn _ _) (xs_lt (by decide) hn) ⟨rfl, rfl⟩ rfl rfl (Nat.le_of_ble_eq_true rfl) ⟨⟨by decide, by decide⟩, Nat.le_refl _, Nat.le_refl _⟩ ?_
    refine jq_if_ne (tgt := 29) dX6_number_24 (by decide) (fun c24 => ?_) (fun c24 => ?_)
    · rw [hno] at c24; exact absurd rfl c24
    · refine jq_iconst (v := 0) dX6_number_27 (by decide) ?_
      exact xq_ireturn dX6_number_28 rfl rfl (⟨rfl, rfl⟩)
  refine xs_Ct_of (L := [some (.ref (ad 21)), some (.int (x)), some (.int (v)), none]) rfl (Nat.le_of_ble_eq_true rfl) rfl ?_
  refine jq_aload_n dX6_number_0 rfl rfl ?_
  refine jq_aload_n dX6_number_1 rfl rfl ?_
  refine jq_iload_n dX6_number_2 rfl rfl ?_
  refine xq_vI dX6_number_3 kX6_94 (c_X6_isCellB hn hT x) (xs_lt (by decide) hn) ⟨rfl, rfl⟩ rfl rfl (Nat.le_of_ble_eq_true rfl) ⟨⟨by decide, by decide⟩, Nat.le_refl _, Nat.le_refl _⟩ ?_
  refine jq_iload_n dX6_number_6 rfl rfl ?_
  refine jq_iconst (v := (-1)) dX6_number_7 (by decide) ?_
  refine jq_icmp_lt (tgt := 20) dX6_number_8 (by decide) (fun c8 => ?_) (fun c8 => ?_)
  · refine jq_iconst (v := 0) dX6_number_20 (by decide) ?_
    exact xs_nm (by first | exact tb_b1e | exact tb_b0e) (h21 _ (by unfold tb_numOk; first | (rw [decide_eq_false (Int32.not_le.mpr c8)]; rfl) | (rw [decide_eq_false (Int32.not_le.mpr c13), Bool.and_false]) | (rw [decide_eq_true (Int32.not_lt.mp c8), decide_eq_true (Int32.not_lt.mp c13)]; rfl)))
  · refine jq_iload_n dX6_number_11 rfl rfl ?_
    refine jq_iconst (v := 3) dX6_number_12 (by decide) ?_
    refine jq_icmp_gt (tgt := 20) dX6_number_13 (by decide) (fun c13 => ?_) (fun c13 => ?_)
    · refine jq_iconst (v := 0) dX6_number_20 (by decide) ?_
      exact xs_nm (by first | exact tb_b1e | exact tb_b0e) (h21 _ (by unfold tb_numOk; first | (rw [decide_eq_false (Int32.not_le.mpr c8)]; rfl) | (rw [decide_eq_false (Int32.not_le.mpr c13), Bool.and_false]) | (rw [decide_eq_true (Int32.not_lt.mp c8), decide_eq_true (Int32.not_lt.mp c13)]; rfl)))
    · refine jq_iconst (v := 1) dX6_number_16 (by decide) ?_
      refine jq_goto (tgt := 21) dX6_number_17 (by decide) ?_
      exact xs_nm (by first | exact tb_b1e | exact tb_b0e) (h21 _ (by unfold tb_numOk; first | (rw [decide_eq_false (Int32.not_le.mpr c8)]; rfl) | (rw [decide_eq_false (Int32.not_le.mpr c13), Bool.and_false]) | (rw [decide_eq_true (Int32.not_lt.mp c8), decide_eq_true (Int32.not_lt.mp c13)]; rfl)))
set_option maxHeartbeats 4000000 in
theorem c_X6_number_ok {l : Launch} {G : jq_G} {n : Nat} {ad : Nat → Nat} {X : xs_T} (hn : 39 ≤ n) {w h : Nat} (hT : rf_T w h X) {c : Nat} (hc : c < tb_nc w h) {v : Int32} (hv : tb_numOk v = true) : xs_Ct l G mX6_number 2 [.ref (ad 21), .int (nI (c)), .int (v)] n ad X (xs_pi (fun r X' => r = X.2.2.1 27 c ∧ xs_fr [27] [(21, 26)] X X' ∧ X'.2.2.1 27 = va_up (X.2.2.1 27) c v ∧ X'.1 21 26 = 0)) := by
  have hz := tb_sizes hT.1
  have hin := tb_inB_nI hc (by omega)
  have hi : vp_in (nI c) 16 := vp_inN (by omega) (by decide)
  have h21 : jq_J l G mX6_number (jq_R 2 0 0) jq_E0 (xs_Ye G n ad (xs_pi (fun r X' => r = X.2.2.1 27 c ∧ xs_fr [27] [(21, 26)] X X' ∧ X'.2.2.1 27 = va_up (X.2.2.1 27) c v ∧ X'.1 21 26 = 0))) 21 [some (.ref (ad 21)), some (.int (nI (c))), some (.int (v)), none] [.int (1), .int (tb_b (tb_inB (nI c) (tb_nc w h))), .ref (ad 21)] n ad (xs_mem G ad X) 0 0 := by
    rw [hin]
    refine xq_vI dX6_number_21 kX6_98 (c_X6_mayBoth hn true true) (xs_lt (by decide) hn) ⟨rfl, rfl⟩ rfl rfl (Nat.le_of_ble_eq_true rfl) ⟨⟨by decide, by decide⟩, Nat.le_refl _, Nat.le_refl _⟩ ?_
    refine jq_if_ne (tgt := 29) dX6_number_24 (by decide) (fun c24 => ?_) (fun c24 => ?_)
    · refine jq_aload_n dX6_number_29 rfl rfl ?_
      refine xq_getR 27 fX6_25 dX6_number_30 (xs_lt (by decide) hn) (by decide) ?_
      refine jq_iload_n dX6_number_33 rfl rfl ?_
      refine xq_iaload dX6_number_34 (xs_lt (by decide) hn) rfl hi (xs_rd rfl (by omega)) ?_
      refine jq_istore_n dX6_number_35 rfl (by decide) rfl rfl ?_
      refine jq_aload_n dX6_number_36 rfl rfl ?_
      refine xq_getR 27 fX6_25 dX6_number_37 (xs_lt (by decide) hn) (by decide) ?_
      refine jq_iload_n dX6_number_40 rfl rfl ?_
      refine jq_iload_n dX6_number_41 rfl rfl ?_
      refine xq_iastore dX6_number_42 (xs_lt (by decide) hn) rfl hi ?_
      refine jq_iload_n dX6_number_43 rfl rfl ?_
      exact xq_ireturn dX6_number_44 rfl rfl (⟨_, rfl, rfl, xs_fr_ai (xs_fr_si xs_fr_rf (by decide)) (by decide), by rw [xs_ai_at]; funext j; by_cases q : j = c; subst q; rw [xs_upd_at (by omega), va_up_self]; rw [xs_upd_ne (by omega) q, va_up_ne _ _ q]; rfl, (show (xs_si X 21 26 (tb_thr true true)).1 21 26 = 0 from xs_si_at)⟩)
    · exact absurd c24 (by decide)
  unfold tb_numOk at hv
  rw [Bool.and_eq_true, decide_eq_true_eq, decide_eq_true_eq] at hv
  refine xs_Ct_of (L := [some (.ref (ad 21)), some (.int (nI (c))), some (.int (v)), none]) rfl (Nat.le_of_ble_eq_true rfl) rfl ?_
  refine jq_aload_n dX6_number_0 rfl rfl ?_
  refine jq_aload_n dX6_number_1 rfl rfl ?_
  refine jq_iload_n dX6_number_2 rfl rfl ?_
  refine xq_vI dX6_number_3 kX6_94 (c_X6_isCellB hn hT _) (xs_lt (by decide) hn) ⟨rfl, rfl⟩ rfl rfl (Nat.le_of_ble_eq_true rfl) ⟨⟨by decide, by decide⟩, Nat.le_refl _, Nat.le_refl _⟩ ?_
  refine jq_iload_n dX6_number_6 rfl rfl ?_
  refine jq_iconst (v := (-1)) dX6_number_7 (by decide) ?_
  refine jq_icmp_lt (tgt := 20) dX6_number_8 (by decide) (fun c8 => ?_) (fun c8 => ?_)
  · exact absurd hv.1 (Int32.not_le.mpr c8)
  · refine jq_iload_n dX6_number_11 rfl rfl ?_
    refine jq_iconst (v := 3) dX6_number_12 (by decide) ?_
    refine jq_icmp_gt (tgt := 20) dX6_number_13 (by decide) (fun c13 => ?_) (fun c13 => ?_)
    · exact absurd hv.2 (Int32.not_le.mpr c13)
    · refine jq_iconst (v := 1) dX6_number_16 (by decide) ?_
      refine jq_goto (tgt := 21) dX6_number_17 (by decide) ?_
      exact h21
set_option maxHeartbeats 4000000 in
theorem c_X6_mark_no {l : Launch} {G : jq_G} {n : Nat} {ad : Nat → Nat} {X : xs_T} (hn : 39 ≤ n) {w h : Nat} (hT : rf_T w h X) (x v : Int32) (hno : (tb_inB x (tb_ne w h) && tb_stOk v) = false) : xs_Ct l G mX6_mark 2 [.ref (ad 21), .int (x), .int (v)] n ad X (xs_pd (some (.int 0)) (xs_si X 21 26 (tb_thr (tb_inB x (tb_ne w h)) (tb_stOk v)))) := by
  have h20 : ∀ b : Bool, b = tb_stOk v → jq_J l G mX6_mark (jq_R 2 0 0) jq_E0 (xs_Ye G n ad (xs_pd (some (.int 0)) (xs_si X 21 26 (tb_thr (tb_inB x (tb_ne w h)) (tb_stOk v))))) 20 [some (.ref (ad 21)), some (.int (x)), some (.int (v)), none] [.int (tb_b b), .int (tb_b (tb_inB x (tb_ne w h))), .ref (ad 21)] n ad (xs_mem G ad X) 0 0 := by
    intro b hb
    subst hb
    refine xq_vI dX6_mark_20 kX6_98 (c_X6_mayBoth hn _ _) (xs_lt (by decide) hn) ⟨rfl, rfl⟩ rfl rfl (Nat.le_of_ble_eq_true rfl) ⟨⟨by decide, by decide⟩, Nat.le_refl _, Nat.le_refl _⟩ ?_
    refine jq_if_ne (tgt := 28) dX6_mark_23 (by decide) (fun c23 => ?_) (fun c23 => ?_)
    · rw [hno] at c23; exact absurd rfl c23
    · refine jq_iconst (v := 0) dX6_mark_26 (by decide) ?_
      exact xq_ireturn dX6_mark_27 rfl rfl (⟨rfl, rfl⟩)
  refine xs_Ct_of (L := [some (.ref (ad 21)), some (.int (x)), some (.int (v)), none]) rfl (Nat.le_of_ble_eq_true rfl) rfl ?_
  refine jq_aload_n dX6_mark_0 rfl rfl ?_
  refine jq_aload_n dX6_mark_1 rfl rfl ?_
  refine jq_iload_n dX6_mark_2 rfl rfl ?_
  refine xq_vI dX6_mark_3 kX6_102 (c_X6_isEdge hn hT x) (xs_lt (by decide) hn) ⟨rfl, rfl⟩ rfl rfl (Nat.le_of_ble_eq_true rfl) ⟨⟨by decide, by decide⟩, Nat.le_refl _, Nat.le_refl _⟩ ?_
  refine jq_iload_n dX6_mark_6 rfl rfl ?_
  refine jq_if_lt (tgt := 19) dX6_mark_7 (by decide) (fun c7 => ?_) (fun c7 => ?_)
  · refine jq_iconst (v := 0) dX6_mark_19 (by decide) ?_
    exact xs_nm (by first | exact tb_b1e | exact tb_b0e) (h20 _ (by unfold tb_stOk; first | (rw [decide_eq_false (Int32.not_le.mpr c7)]; rfl) | (rw [decide_eq_false (Int32.not_le.mpr c12), Bool.and_false]) | (rw [decide_eq_true (Int32.not_lt.mp c7), decide_eq_true (Int32.not_lt.mp c12)]; rfl)))
  · refine jq_iload_n dX6_mark_10 rfl rfl ?_
    refine jq_iconst (v := 2) dX6_mark_11 (by decide) ?_
    refine jq_icmp_gt (tgt := 19) dX6_mark_12 (by decide) (fun c12 => ?_) (fun c12 => ?_)
    · refine jq_iconst (v := 0) dX6_mark_19 (by decide) ?_
      exact xs_nm (by first | exact tb_b1e | exact tb_b0e) (h20 _ (by unfold tb_stOk; first | (rw [decide_eq_false (Int32.not_le.mpr c7)]; rfl) | (rw [decide_eq_false (Int32.not_le.mpr c12), Bool.and_false]) | (rw [decide_eq_true (Int32.not_lt.mp c7), decide_eq_true (Int32.not_lt.mp c12)]; rfl)))
    · refine jq_iconst (v := 1) dX6_mark_15 (by decide) ?_
      refine jq_goto (tgt := 20) dX6_mark_16 (by decide) ?_
      exact xs_nm (by first | exact tb_b1e | exact tb_b0e) (h20 _ (by unfold tb_stOk; first | (rw [decide_eq_false (Int32.not_le.mpr c7)]; rfl) | (rw [decide_eq_false (Int32.not_le.mpr c12), Bool.and_false]) | (rw [decide_eq_true (Int32.not_lt.mp c7), decide_eq_true (Int32.not_lt.mp c12)]; rfl)))
set_option maxHeartbeats 4000000 in
theorem c_X6_mark_ok {l : Launch} {G : jq_G} {n : Nat} {ad : Nat → Nat} {X : xs_T} (hn : 39 ≤ n) {w h : Nat} (hT : rf_T w h X) {c : Nat} (hc : c < tb_ne w h) {v : Int32} (hv : tb_stOk v = true) : xs_Ct l G mX6_mark 2 [.ref (ad 21), .int (nI (c)), .int (v)] n ad X (xs_pi (fun r X' => r = X.2.2.1 28 c ∧ xs_fr [28] [(21, 26)] X X' ∧ X'.2.2.1 28 = va_up (X.2.2.1 28) c v ∧ X'.1 21 26 = 0)) := by
  have hz := tb_sizes hT.1
  have hin := tb_inB_nI hc (by omega)
  have hi : vp_in (nI c) 40 := vp_inN (by omega) (by decide)
  have h20 : jq_J l G mX6_mark (jq_R 2 0 0) jq_E0 (xs_Ye G n ad (xs_pi (fun r X' => r = X.2.2.1 28 c ∧ xs_fr [28] [(21, 26)] X X' ∧ X'.2.2.1 28 = va_up (X.2.2.1 28) c v ∧ X'.1 21 26 = 0))) 20 [some (.ref (ad 21)), some (.int (nI (c))), some (.int (v)), none] [.int (1), .int (tb_b (tb_inB (nI c) (tb_ne w h))), .ref (ad 21)] n ad (xs_mem G ad X) 0 0 := by
    rw [hin]
    refine xq_vI dX6_mark_20 kX6_98 (c_X6_mayBoth hn true true) (xs_lt (by decide) hn) ⟨rfl, rfl⟩ rfl rfl (Nat.le_of_ble_eq_true rfl) ⟨⟨by decide, by decide⟩, Nat.le_refl _, Nat.le_refl _⟩ ?_
    refine jq_if_ne (tgt := 28) dX6_mark_23 (by decide) (fun c23 => ?_) (fun c23 => ?_)
    · refine jq_aload_n dX6_mark_28 rfl rfl ?_
      refine xq_getR 28 fX6_28 dX6_mark_29 (xs_lt (by decide) hn) (by decide) ?_
      refine jq_iload_n dX6_mark_32 rfl rfl ?_
      refine xq_iaload dX6_mark_33 (xs_lt (by decide) hn) rfl hi (xs_rd rfl (by omega)) ?_
      refine jq_istore_n dX6_mark_34 rfl (by decide) rfl rfl ?_
      refine jq_aload_n dX6_mark_35 rfl rfl ?_
      refine xq_getR 28 fX6_28 dX6_mark_36 (xs_lt (by decide) hn) (by decide) ?_
      refine jq_iload_n dX6_mark_39 rfl rfl ?_
      refine jq_iload_n dX6_mark_40 rfl rfl ?_
      refine xq_iastore dX6_mark_41 (xs_lt (by decide) hn) rfl hi ?_
      refine jq_iload_n dX6_mark_42 rfl rfl ?_
      exact xq_ireturn dX6_mark_43 rfl rfl (⟨_, rfl, rfl, xs_fr_ai (xs_fr_si xs_fr_rf (by decide)) (by decide), by rw [xs_ai_at]; funext j; by_cases q : j = c; subst q; rw [xs_upd_at (by omega), va_up_self]; rw [xs_upd_ne (by omega) q, va_up_ne _ _ q]; rfl, (show (xs_si X 21 26 (tb_thr true true)).1 21 26 = 0 from xs_si_at)⟩)
    · exact absurd c23 (by decide)
  unfold tb_stOk at hv
  rw [Bool.and_eq_true, decide_eq_true_eq, decide_eq_true_eq] at hv
  refine xs_Ct_of (L := [some (.ref (ad 21)), some (.int (nI (c))), some (.int (v)), none]) rfl (Nat.le_of_ble_eq_true rfl) rfl ?_
  refine jq_aload_n dX6_mark_0 rfl rfl ?_
  refine jq_aload_n dX6_mark_1 rfl rfl ?_
  refine jq_iload_n dX6_mark_2 rfl rfl ?_
  refine xq_vI dX6_mark_3 kX6_102 (c_X6_isEdge hn hT _) (xs_lt (by decide) hn) ⟨rfl, rfl⟩ rfl rfl (Nat.le_of_ble_eq_true rfl) ⟨⟨by decide, by decide⟩, Nat.le_refl _, Nat.le_refl _⟩ ?_
  refine jq_iload_n dX6_mark_6 rfl rfl ?_
  refine jq_if_lt (tgt := 19) dX6_mark_7 (by decide) (fun c7 => ?_) (fun c7 => ?_)
  · exact absurd hv.1 (Int32.not_le.mpr c7)
  · refine jq_iload_n dX6_mark_10 rfl rfl ?_
    refine jq_iconst (v := 2) dX6_mark_11 (by decide) ?_
    refine jq_icmp_gt (tgt := 19) dX6_mark_12 (by decide) (fun c12 => ?_) (fun c12 => ?_)
    · exact absurd hv.2 (Int32.not_le.mpr c12)
    · refine jq_iconst (v := 1) dX6_mark_15 (by decide) ?_
      refine jq_goto (tgt := 20) dX6_mark_16 (by decide) ?_
      exact h20
set_option maxHeartbeats 4000000 in
theorem c_X6_edgeOf_no {l : Launch} {G : jq_G} {n : Nat} {ad : Nat → Nat} {X : xs_T} (hn : 39 ≤ n) {w h : Nat} (hT : rf_T w h X) (x y : Int32) (hno : (tb_inB x (tb_nc w h) && tb_inB y 4) = false) : xs_Ct l G mX6_edgeOf 2 [.ref (ad 21), .int (x), .int (y)] n ad X (xs_pd (some (.int 0)) (xs_si X 21 26 1)) := by
  have h23 : ∀ b : Bool, b = false → jq_J l G mX6_edgeOf (jq_R 2 0 0) jq_E0 (xs_Ye G n ad (xs_pd (some (.int 0)) (xs_si X 21 26 1))) 23 [some (.ref (ad 21)), some (.int (x)), some (.int (y))] [.int (tb_b b), .ref (ad 21)] n ad (xs_mem G ad X) 0 0 := by
    intro b hb
    subst hb
    refine xq_vI dX6_edgeOf_23 kX6_90 (c_X6_mayB hn false) (xs_lt (by decide) hn) ⟨rfl, rfl⟩ rfl rfl (Nat.le_of_ble_eq_true rfl) ⟨⟨by decide, by decide⟩, Nat.le_refl _, Nat.le_refl _⟩ ?_
    refine jq_if_eq (tgt := 42) dX6_edgeOf_26 (by decide) (fun c26 => ?_) (fun c26 => ?_)
    · refine jq_iconst (v := 0) dX6_edgeOf_42 (by decide) ?_
      exact xq_ireturn dX6_edgeOf_43 rfl rfl (⟨rfl, rfl⟩)
    · exact absurd rfl c26
  have h4 : (4 : Int32) = nI 4 := rfl
  refine xs_Ct_of (L := [some (.ref (ad 21)), some (.int (x)), some (.int (y))]) rfl (Nat.le_of_ble_eq_true rfl) rfl ?_
  refine jq_aload_n dX6_edgeOf_0 rfl rfl ?_
  refine jq_aload_n dX6_edgeOf_1 rfl rfl ?_
  refine jq_iload_n dX6_edgeOf_2 rfl rfl ?_
  refine xq_vI dX6_edgeOf_3 kX6_94 (c_X6_isCellB hn hT x) (xs_lt (by decide) hn) ⟨rfl, rfl⟩ rfl rfl (Nat.le_of_ble_eq_true rfl) ⟨⟨by decide, by decide⟩, Nat.le_refl _, Nat.le_refl _⟩ ?_
  refine jq_if_eq (tgt := 22) dX6_edgeOf_6 (by decide) (fun c6 => ?_) (fun c6 => ?_)
  · refine jq_iconst (v := 0) dX6_edgeOf_22 (by decide) ?_
    exact xs_nm tb_b0e (h23 _ rfl)
  · have d6 := tb_b1.mp c6
    refine jq_iload_n dX6_edgeOf_9 rfl rfl ?_
    refine jq_if_lt (tgt := 22) dX6_edgeOf_10 (by decide) (fun c10 => ?_) (fun c10 => ?_)
    · refine jq_iconst (v := 0) dX6_edgeOf_22 (by decide) ?_
      exact xs_nm tb_b0e (h23 _ rfl)
    · refine jq_iload_n dX6_edgeOf_13 rfl rfl ?_
      refine jq_iconst (v := (nI 4)) dX6_edgeOf_14 (by decide) ?_
      refine jq_icmp_ge (tgt := 22) dX6_edgeOf_15 (by decide) (fun c15 => ?_) (fun c15 => ?_)
      · refine jq_iconst (v := 0) dX6_edgeOf_22 (by decide) ?_
        exact xs_nm tb_b0e (h23 _ rfl)
      · exfalso; rw [d6] at hno; unfold tb_inB at hno; rw [decide_eq_true (Int32.not_lt.mp c10), decide_eq_true (Int32.not_le.mp c15)] at hno; cases hno
set_option maxHeartbeats 4000000 in
theorem c_X6_edgeOf_ok {l : Launch} {G : jq_G} {n : Nat} {ad : Nat → Nat} {X : xs_T} (hn : 39 ≤ n) {w h : Nat} (hT : rf_T w h X) {c s : Nat} (hc : c < tb_nc w h) (hs : s < 4) : xs_Ct l G mX6_edgeOf 2 [.ref (ad 21), .int (nI (c)), .int (nI (s))] n ad X (xs_pd (some (.int (nI (tb_sid w h c s)))) (xs_si X 21 26 0)) := by
  have hz := tb_sizes hT.1
  have hin := tb_inB_nI hc (by omega)
  have hi : vp_in (nI (4 * c + s)) 64 := vp_inN (by omega) (by decide)
  have h1 := hT.2.2.2.2.2.2.2.2.2.2 c hc s hs
  refine xs_Ct_of (L := [some (.ref (ad 21)), some (.int (nI (c))), some (.int (nI (s)))]) rfl (Nat.le_of_ble_eq_true rfl) rfl ?_
  refine jq_aload_n dX6_edgeOf_0 rfl rfl ?_
  refine jq_aload_n dX6_edgeOf_1 rfl rfl ?_
  refine jq_iload_n dX6_edgeOf_2 rfl rfl ?_
  refine xq_vI dX6_edgeOf_3 kX6_94 (c_X6_isCellB hn hT _) (xs_lt (by decide) hn) ⟨rfl, rfl⟩ rfl rfl (Nat.le_of_ble_eq_true rfl) ⟨⟨by decide, by decide⟩, Nat.le_refl _, Nat.le_refl _⟩ ?_
  refine jq_if_eq (tgt := 22) dX6_edgeOf_6 (by decide) (fun c6 => ?_) (fun c6 => ?_)
  · rw [hin] at c6; exact absurd c6 (by decide)
  · refine jq_iload_n dX6_edgeOf_9 rfl rfl ?_
    refine jq_if_lt (tgt := 22) dX6_edgeOf_10 (by decide) (fun c10 => ?_) (fun c10 => ?_)
    · exact absurd c10 (nI_pos (by omega))
    · refine jq_iload_n dX6_edgeOf_13 rfl rfl ?_
      refine jq_iconst (v := (nI 4)) dX6_edgeOf_14 (by decide) ?_
      refine jq_icmp_ge (tgt := 22) dX6_edgeOf_15 (by decide) (fun c15 => ?_) (fun c15 => ?_)
      · exact absurd c15 (nI_ge hs (by omega))
      · refine jq_iconst (v := 1) dX6_edgeOf_18 (by decide) ?_
        refine jq_goto (tgt := 23) dX6_edgeOf_19 (by decide) ?_
        refine xq_vI dX6_edgeOf_23 kX6_90 (c_X6_mayB hn true) (xs_lt (by decide) hn) ⟨rfl, rfl⟩ rfl rfl (Nat.le_of_ble_eq_true rfl) ⟨⟨by decide, by decide⟩, Nat.le_refl _, Nat.le_refl _⟩ ?_
        refine jq_if_eq (tgt := 42) dX6_edgeOf_26 (by decide) (fun c26 => ?_) (fun c26 => ?_)
        · exact absurd c26 (by decide)
        · refine jq_aload_n dX6_edgeOf_29 rfl rfl ?_
          refine xq_getR 26 fX6_22 dX6_edgeOf_30 (xs_lt (by decide) hn) (by decide) ?_
          refine jq_iconst (v := (nI 4)) dX6_edgeOf_33 (by decide) ?_
          refine jq_iload_n dX6_edgeOf_34 rfl rfl ?_
          refine jq_imulN dX6_edgeOf_35 ?_
          refine jq_iload_n dX6_edgeOf_36 rfl rfl ?_
          refine jq_iaddN dX6_edgeOf_37 ?_
          refine xq_iaload dX6_edgeOf_38 (xs_lt (by decide) hn) rfl hi (xs_rd (show (xs_si X 21 26 _).2.2.1 26 (4 * c + s) = _ from h1) (by omega)) ?_
          refine jq_goto (tgt := 43) dX6_edgeOf_39 (by decide) ?_
          exact xq_ireturn dX6_edgeOf_43 rfl rfl (⟨rfl, rfl⟩)
set_option maxHeartbeats 4000000 in
theorem c_X6_wipe {l : Launch} {G : jq_G} {n : Nat} {ad : Nat → Nat} {X : xs_T} (hn : 39 ≤ n) {w h : Nat} (hT : rf_T w h X) : xs_Ct l G mX6_wipe 1 [.ref (ad 21)] n ad X (xs_pv (fun X' => xs_fr [28] [(21, 26)] X X' ∧ ∀ e, e < tb_ne w h → X'.2.2.1 28 e = nI 0)) := by
  have hz := tb_sizes hT.1
  have loop : ∀ (k e : Nat) (Y : xs_T), e + k = tb_ne w h → xs_fr [28] [(21, 26)] X Y → (∀ j, j < e → Y.2.2.1 28 j = nI 0) → jq_J l G mX6_wipe (jq_R 1 0 0) jq_E0 (xs_Ye G n ad (xs_pv (fun X' => xs_fr [28] [(21, 26)] X X' ∧ ∀ e, e < tb_ne w h → X'.2.2.1 28 e = nI 0))) 7 [some (.ref (ad 21)), some (.int (nI (e)))] [] n ad (xs_mem G ad Y) 0 0 := by
    intro k
    induction k with
    | zero =>
      intro e Y hk hf hY
      have hE := xs_fi hf 21 3 hT.2.2.2.2.1
      refine jq_iload_n dX6_wipe_7 rfl rfl ?_
      refine jq_aload_n dX6_wipe_8 rfl rfl ?_
      refine xq_getI fX6_74 dX6_wipe_9 (xs_lt (by decide) hn) (by decide) hE ?_
      refine jq_geN (tgt := 28) dX6_wipe_12 (by decide) ⟨by omega, by omega⟩ (fun c12 => ?_) (fun c12 => ?_)
      · exact xq_return rfl dX6_wipe_28 rfl (⟨rfl, hf, by rw [show tb_ne w h = e by omega]; exact hY⟩)
      · exact absurd c12 (by omega)
    | succ k ih =>
      intro e Y hk hf hY
      have hE := xs_fi hf 21 3 hT.2.2.2.2.1
      have hi : vp_in (nI e) 40 := vp_inN (by omega) (by decide)
      refine jq_iload_n dX6_wipe_7 rfl rfl ?_
      refine jq_aload_n dX6_wipe_8 rfl rfl ?_
      refine xq_getI fX6_74 dX6_wipe_9 (xs_lt (by decide) hn) (by decide) hE ?_
      refine jq_geN (tgt := 28) dX6_wipe_12 (by decide) ⟨by omega, by omega⟩ (fun c12 => ?_) (fun c12 => ?_)
      · exact absurd c12 (by omega)
      · refine jq_aload_n dX6_wipe_15 rfl rfl ?_
        refine xq_getR 28 fX6_28 dX6_wipe_16 (xs_lt (by decide) hn) (by decide) ?_
        refine jq_iload_n dX6_wipe_19 rfl rfl ?_
        refine jq_iconst (v := (nI 0)) dX6_wipe_20 (by decide) ?_
        refine xq_iastore dX6_wipe_21 (xs_lt (by decide) hn) rfl hi ?_
        refine jq_iincN dX6_wipe_22 (by decide) rfl rfl rfl ?_
        refine jq_goto (tgt := 7) dX6_wipe_25 (by decide) ?_
        refine ih (e + 1) _ (by omega) (xs_fr_ai hf (by decide)) (fun j hj => ?_)
        rw [xs_ai_at]
        rcases Nat.lt_or_ge j e with q | q
        · rw [xs_upd_ne (by omega) (by omega)]; exact hY j q
        · rw [show j = e by omega, xs_upd_at (by omega)]
  refine xs_Ct_of (L := [some (.ref (ad 21)), none]) rfl (Nat.le_of_ble_eq_true rfl) rfl ?_
  refine jq_aload_n dX6_wipe_0 rfl rfl ?_
  refine jq_iconst (v := (nI 0)) dX6_wipe_1 (by decide) ?_
  refine xq_putI pX6_67 dX6_wipe_2 (xs_lt (by decide) hn) (by decide) rfl rfl ?_
  refine jq_iconst (v := (nI 0)) dX6_wipe_5 (by decide) ?_
  refine jq_istore_n dX6_wipe_6 rfl (by decide) rfl rfl ?_
  exact loop (tb_ne w h) 0 _ (by omega) (xs_fr_si xs_fr_rf (by decide)) (fun j hj => absurd hj (Nat.not_lt_zero j))
