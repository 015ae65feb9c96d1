set_option maxHeartbeats 4000000 in
theorem c_fillL_15 {l : Launch} {G : jq_G} {n : Nat} {ad : Nat → Nat} {X : xs_T} (hn : 21 ≤ n) (v : Int64) : xs_Ct l G mJ7_fill_d0a16 1 [.ref (ad 15), .long (v)] n ad X (xs_pv (fun X' => xs_fr [15] [] X X' ∧ ∀ j, j < 8 → X'.2.2.2 15 j = v)) := by
  have loop : ∀ (k j : Nat) (Y : xs_T), j + k = 8 → xs_fr [15] [] X Y → (∀ i, i < j → Y.2.2.2 15 i = v) → jq_J l G mJ7_fill_d0a16 (jq_R 1 0 0) jq_E0 (xs_Ye G n ad (xs_pv (fun X' => xs_fr [15] [] X X' ∧ ∀ j, j < 8 → X'.2.2.2 15 j = v))) 6 [some (.ref (ad 15)), some (.long (v)), none, some (.int (nI (j))), some (.int (nI (8)))] [] n ad (xs_mem G ad Y) 0 0 := by
    intro k
    induction k with
    | zero =>
      intro j Y hk hf hY
      refine jq_iload_n dJ7_fill_d0a16_6 rfl rfl ?_
      refine jq_iload dJ7_fill_d0a16_7 rfl ?_
      refine jq_geN (tgt := 22) dJ7_fill_d0a16_9 (by decide) ⟨by omega, by omega⟩ (fun c9 => ?_) (fun c9 => ?_)
      · exact xq_return rfl dJ7_fill_d0a16_22 rfl (⟨rfl, hf, by rw [show 8 = j by omega]; exact hY⟩)
      · exact absurd c9 (by omega)
    | succ k ih =>
      intro j Y hk hf hY
      have hi : vp_in (nI j) 8 := vp_inN (by omega) (by decide)
      refine jq_iload_n dJ7_fill_d0a16_6 rfl rfl ?_
      refine jq_iload dJ7_fill_d0a16_7 rfl ?_
      refine jq_geN (tgt := 22) dJ7_fill_d0a16_9 (by decide) ⟨by omega, by omega⟩ (fun c9 => ?_) (fun c9 => ?_)
      · exact absurd c9 (by omega)
      · refine jq_aload_n dJ7_fill_d0a16_12 rfl rfl ?_
        refine jq_iload_n dJ7_fill_d0a16_13 rfl rfl ?_
        refine jq_lload_n dJ7_fill_d0a16_14 rfl rfl ?_
        refine xq_lastore dJ7_fill_d0a16_15 (xs_lt (by decide) hn) rfl hi ?_
        refine jq_iincN dJ7_fill_d0a16_16 (by decide) rfl rfl rfl ?_
        refine jq_goto (tgt := 6) dJ7_fill_d0a16_19 (by decide) ?_
        refine ih (j + 1) _ (by omega) (xs_fr_al hf (by decide)) (fun i hi2 => ?_)
        rw [xs_al_at]
        rcases Nat.lt_or_ge i j with z | z
        · rw [xs_updL_ne (by omega) (by omega)]; exact hY i z
        · rw [show i = j by omega, xs_updL_at (by omega)]
  refine xs_Ct_of (L := [some (.ref (ad 15)), some (.long (v)), none, none, none]) rfl (Nat.le_of_ble_eq_true rfl) rfl ?_
  refine jq_iconst (v := (nI 0)) dJ7_fill_d0a16_0 (by decide) ?_
  refine jq_istore_n dJ7_fill_d0a16_1 rfl (by decide) rfl rfl ?_
  refine jq_aload_n dJ7_fill_d0a16_2 rfl rfl ?_
  refine xq_alenL dJ7_fill_d0a16_3 (xs_lt (by decide) hn) rfl ?_
  refine jq_istore dJ7_fill_d0a16_4 (by decide) rfl rfl ?_
  exact loop 8 0 X (by omega) xs_fr_rf (fun i hi => absurd hi (Nat.not_lt_zero i))
set_option maxHeartbeats 4000000 in
theorem c_fillL_3 {l : Launch} {G : jq_G} {n : Nat} {ad : Nat → Nat} {X : xs_T} (hn : 21 ≤ n) (v : Int64) : xs_Ct l G mJ7_fill_d0a16 1 [.ref (ad 3), .long (v)] n ad X (xs_pv (fun X' => xs_fr [3] [] X X' ∧ ∀ j, j < 17 → X'.2.2.2 3 j = v)) := by
  have loop : ∀ (k j : Nat) (Y : xs_T), j + k = 17 → xs_fr [3] [] X Y → (∀ i, i < j → Y.2.2.2 3 i = v) → jq_J l G mJ7_fill_d0a16 (jq_R 1 0 0) jq_E0 (xs_Ye G n ad (xs_pv (fun X' => xs_fr [3] [] X X' ∧ ∀ j, j < 17 → X'.2.2.2 3 j = v))) 6 [some (.ref (ad 3)), some (.long (v)), none, some (.int (nI (j))), some (.int (nI (17)))] [] n ad (xs_mem G ad Y) 0 0 := by
    intro k
    induction k with
    | zero =>
      intro j Y hk hf hY
      refine jq_iload_n dJ7_fill_d0a16_6 rfl rfl ?_
      refine jq_iload dJ7_fill_d0a16_7 rfl ?_
      refine jq_geN (tgt := 22) dJ7_fill_d0a16_9 (by decide) ⟨by omega, by omega⟩ (fun c9 => ?_) (fun c9 => ?_)
      · exact xq_return rfl dJ7_fill_d0a16_22 rfl (⟨rfl, hf, by rw [show 17 = j by omega]; exact hY⟩)
      · exact absurd c9 (by omega)
    | succ k ih =>
      intro j Y hk hf hY
      have hi : vp_in (nI j) 17 := vp_inN (by omega) (by decide)
      refine jq_iload_n dJ7_fill_d0a16_6 rfl rfl ?_
      refine jq_iload dJ7_fill_d0a16_7 rfl ?_
      refine jq_geN (tgt := 22) dJ7_fill_d0a16_9 (by decide) ⟨by omega, by omega⟩ (fun c9 => ?_) (fun c9 => ?_)
      · exact absurd c9 (by omega)
      · refine jq_aload_n dJ7_fill_d0a16_12 rfl rfl ?_
        refine jq_iload_n dJ7_fill_d0a16_13 rfl rfl ?_
        refine jq_lload_n dJ7_fill_d0a16_14 rfl rfl ?_
        refine xq_lastore dJ7_fill_d0a16_15 (xs_lt (by decide) hn) rfl hi ?_
        refine jq_iincN dJ7_fill_d0a16_16 (by decide) rfl rfl rfl ?_
        refine jq_goto (tgt := 6) dJ7_fill_d0a16_19 (by decide) ?_
        refine ih (j + 1) _ (by omega) (xs_fr_al hf (by decide)) (fun i hi2 => ?_)
        rw [xs_al_at]
        rcases Nat.lt_or_ge i j with z | z
        · rw [xs_updL_ne (by omega) (by omega)]; exact hY i z
        · rw [show i = j by omega, xs_updL_at (by omega)]
  refine xs_Ct_of (L := [some (.ref (ad 3)), some (.long (v)), none, none, none]) rfl (Nat.le_of_ble_eq_true rfl) rfl ?_
  refine jq_iconst (v := (nI 0)) dJ7_fill_d0a16_0 (by decide) ?_
  refine jq_istore_n dJ7_fill_d0a16_1 rfl (by decide) rfl rfl ?_
  refine jq_aload_n dJ7_fill_d0a16_2 rfl rfl ?_
  refine xq_alenL dJ7_fill_d0a16_3 (xs_lt (by decide) hn) rfl ?_
  refine jq_istore dJ7_fill_d0a16_4 (by decide) rfl rfl ?_
  exact loop 17 0 X (by omega) xs_fr_rf (fun i hi => absurd hi (Nat.not_lt_zero i))
set_option maxHeartbeats 4000000 in
theorem c_fillL_4 {l : Launch} {G : jq_G} {n : Nat} {ad : Nat → Nat} {X : xs_T} (hn : 21 ≤ n) (v : Int64) : xs_Ct l G mJ7_fill_d0a16 1 [.ref (ad 4), .long (v)] n ad X (xs_pv (fun X' => xs_fr [4] [] X X' ∧ ∀ j, j < 25 → X'.2.2.2 4 j = v)) := by
  have loop : ∀ (k j : Nat) (Y : xs_T), j + k = 25 → xs_fr [4] [] X Y → (∀ i, i < j → Y.2.2.2 4 i = v) → jq_J l G mJ7_fill_d0a16 (jq_R 1 0 0) jq_E0 (xs_Ye G n ad (xs_pv (fun X' => xs_fr [4] [] X X' ∧ ∀ j, j < 25 → X'.2.2.2 4 j = v))) 6 [some (.ref (ad 4)), some (.long (v)), none, some (.int (nI (j))), some (.int (nI (25)))] [] n ad (xs_mem G ad Y) 0 0 := by
    intro k
    induction k with
    | zero =>
      intro j Y hk hf hY
      refine jq_iload_n dJ7_fill_d0a16_6 rfl rfl ?_
      refine jq_iload dJ7_fill_d0a16_7 rfl ?_
      refine jq_geN (tgt := 22) dJ7_fill_d0a16_9 (by decide) ⟨by omega, by omega⟩ (fun c9 => ?_) (fun c9 => ?_)
      · exact xq_return rfl dJ7_fill_d0a16_22 rfl (⟨rfl, hf, by rw [show 25 = j by omega]; exact hY⟩)
      · exact absurd c9 (by omega)
    | succ k ih =>
      intro j Y hk hf hY
      have hi : vp_in (nI j) 25 := vp_inN (by omega) (by decide)
      refine jq_iload_n dJ7_fill_d0a16_6 rfl rfl ?_
      refine jq_iload dJ7_fill_d0a16_7 rfl ?_
      refine jq_geN (tgt := 22) dJ7_fill_d0a16_9 (by decide) ⟨by omega, by omega⟩ (fun c9 => ?_) (fun c9 => ?_)
      · exact absurd c9 (by omega)
      · refine jq_aload_n dJ7_fill_d0a16_12 rfl rfl ?_
        refine jq_iload_n dJ7_fill_d0a16_13 rfl rfl ?_
        refine jq_lload_n dJ7_fill_d0a16_14 rfl rfl ?_
        refine xq_lastore dJ7_fill_d0a16_15 (xs_lt (by decide) hn) rfl hi ?_
        refine jq_iincN dJ7_fill_d0a16_16 (by decide) rfl rfl rfl ?_
        refine jq_goto (tgt := 6) dJ7_fill_d0a16_19 (by decide) ?_
        refine ih (j + 1) _ (by omega) (xs_fr_al hf (by decide)) (fun i hi2 => ?_)
        rw [xs_al_at]
        rcases Nat.lt_or_ge i j with z | z
        · rw [xs_updL_ne (by omega) (by omega)]; exact hY i z
        · rw [show i = j by omega, xs_updL_at (by omega)]
  refine xs_Ct_of (L := [some (.ref (ad 4)), some (.long (v)), none, none, none]) rfl (Nat.le_of_ble_eq_true rfl) rfl ?_
  refine jq_iconst (v := (nI 0)) dJ7_fill_d0a16_0 (by decide) ?_
  refine jq_istore_n dJ7_fill_d0a16_1 rfl (by decide) rfl rfl ?_
  refine jq_aload_n dJ7_fill_d0a16_2 rfl rfl ?_
  refine xq_alenL dJ7_fill_d0a16_3 (xs_lt (by decide) hn) rfl ?_
  refine jq_istore dJ7_fill_d0a16_4 (by decide) rfl rfl ?_
  exact loop 25 0 X (by omega) xs_fr_rf (fun i hi => absurd hi (Nat.not_lt_zero i))
set_option maxHeartbeats 4000000 in
theorem c_fillI_2 {l : Launch} {G : jq_G} {n : Nat} {ad : Nat → Nat} {X : xs_T} (hn : 21 ≤ n) (v : Int32) : xs_Ct l G mJ7_fill_53178 1 [.ref (ad 2), .int (v)] n ad X (xs_pv (fun X' => xs_fr [2] [] X X' ∧ ∀ j, j < 16 → X'.2.2.1 2 j = v)) := by
  have loop : ∀ (k j : Nat) (Y : xs_T), j + k = 16 → xs_fr [2] [] X Y → (∀ i, i < j → Y.2.2.1 2 i = v) → jq_J l G mJ7_fill_53178 (jq_R 1 0 0) jq_E0 (xs_Ye G n ad (xs_pv (fun X' => xs_fr [2] [] X X' ∧ ∀ j, j < 16 → X'.2.2.1 2 j = v))) 5 [some (.ref (ad 2)), some (.int (v)), some (.int (nI (j))), some (.int (nI (16)))] [] n ad (xs_mem G ad Y) 0 0 := by
    intro k
    induction k with
    | zero =>
      intro j Y hk hf hY
      refine jq_iload_n dJ7_fill_53178_5 rfl rfl ?_
      refine jq_iload_n dJ7_fill_53178_6 rfl rfl ?_
      refine jq_geN (tgt := 20) dJ7_fill_53178_7 (by decide) ⟨by omega, by omega⟩ (fun c7 => ?_) (fun c7 => ?_)
      · exact xq_return rfl dJ7_fill_53178_20 rfl (⟨rfl, hf, by rw [show 16 = j by omega]; exact hY⟩)
      · exact absurd c7 (by omega)
    | succ k ih =>
      intro j Y hk hf hY
      have hi : vp_in (nI j) 16 := vp_inN (by omega) (by decide)
      refine jq_iload_n dJ7_fill_53178_5 rfl rfl ?_
      refine jq_iload_n dJ7_fill_53178_6 rfl rfl ?_
      refine jq_geN (tgt := 20) dJ7_fill_53178_7 (by decide) ⟨by omega, by omega⟩ (fun c7 => ?_) (fun c7 => ?_)
      · exact absurd c7 (by omega)
      · refine jq_aload_n dJ7_fill_53178_10 rfl rfl ?_
        refine jq_iload_n dJ7_fill_53178_11 rfl rfl ?_
        refine jq_iload_n dJ7_fill_53178_12 rfl rfl ?_
        refine xq_iastore dJ7_fill_53178_13 (xs_lt (by decide) hn) rfl hi ?_
        refine jq_iincN dJ7_fill_53178_14 (by decide) rfl rfl rfl ?_
        refine jq_goto (tgt := 5) dJ7_fill_53178_17 (by decide) ?_
        refine ih (j + 1) _ (by omega) (xs_fr_ai hf (by decide)) (fun i hi2 => ?_)
        rw [xs_ai_at]
        rcases Nat.lt_or_ge i j with z | z
        · rw [xs_upd_ne (by omega) (by omega)]; exact hY i z
        · rw [show i = j by omega, xs_upd_at (by omega)]
  refine xs_Ct_of (L := [some (.ref (ad 2)), some (.int (v)), none, none]) rfl (Nat.le_of_ble_eq_true rfl) rfl ?_
  refine jq_iconst (v := (nI 0)) dJ7_fill_53178_0 (by decide) ?_
  refine jq_istore_n dJ7_fill_53178_1 rfl (by decide) rfl rfl ?_
  refine jq_aload_n dJ7_fill_53178_2 rfl rfl ?_
  refine xq_alenI dJ7_fill_53178_3 (xs_lt (by decide) hn) rfl ?_
  refine jq_istore_n dJ7_fill_53178_4 rfl (by decide) rfl rfl ?_
  exact loop 16 0 X (by omega) xs_fr_rf (fun i hi => absurd hi (Nat.not_lt_zero i))
set_option maxHeartbeats 4000000 in
theorem c_X4_hasBrokenLoop {l : Launch} {G : jq_G} {n : Nat} {ad : Nat → Nat} {X : xs_T} (hn : 21 ≤ n) {w h : Nat} {num : Nat → Int32} {st : Nat → Nat} (hT : dv_T w h X) (hK : dv_K w h st X) (hN : dv_N w h num X) : xs_Ct l G mX4_hasBrokenLoop 3 [.ref (ad 11)] n ad X (xs_pd (some (.int (tb_b (dv_bl w h num (dv_S w h st 1) 40 (dv_S w h st 1))))) X) := by
  have hL := dv_S_lt hT.1 st 1
  have loop : ∀ (k m R : Nat) (o : Option Value), m + k = 40 → R < 2 ^ 40 → dv_bl w h num (dv_S w h st 1) k R = dv_bl w h num (dv_S w h st 1) 40 (dv_S w h st 1) → jq_J l G mX4_hasBrokenLoop (jq_R 3 0 0) jq_E0 (xs_Ye G n ad (xs_pd (some (.int (tb_b (dv_bl w h num (dv_S w h st 1) 40 (dv_S w h st 1))))) X)) 7 [some (.ref (ad 11)), some (.long (lN R)), none, some (.int (nI (m))), o, none] [] n ad (xs_mem G ad X) 0 0 := by
    intro k
    induction k with
    | zero =>
      intro m R o hk hR he
      refine jq_iload_n dX4_hasBrokenLoop_7 rfl rfl ?_
      refine jq_bipush (v := (nI 40)) dX4_hasBrokenLoop_8 (by decide) ?_
      refine jq_geN (tgt := 83) dX4_hasBrokenLoop_10 (by decide) ⟨by omega, by omega⟩ (fun c10 => ?_) (fun c10 => ?_)
      · refine jq_iconst (v := 0) dX4_hasBrokenLoop_83 (by decide) ?_
        exact xq_ireturn dX4_hasBrokenLoop_84 rfl rfl (⟨by rw [← he]; rfl, rfl⟩)
      · exact absurd c10 (by omega)
    | succ k ih =>
      intro m R o hk hR he
      have hfw := dv_fw_lt (w := w) (h := h) hR
      have hnot := dv_not hR hfw
      rw [dv_bl] at he
      have h77 : (dv_isLoop w h (dv_fw w h R) && (!(dv_fw w h R == dv_S w h st 1) || !dv_right w h num (dv_S w h st 1) (-1))) = false → R ≠ 0 → jq_J l G mX4_hasBrokenLoop (jq_R 3 0 0) jq_E0 (xs_Ye G n ad (xs_pd (some (.int (tb_b (dv_bl w h num (dv_S w h st 1) 40 (dv_S w h st 1))))) X)) 77 [some (.ref (ad 11)), some (.long (lN (dv_minus R (dv_fw w h R)))), none, some (.int (nI (m))), some (.long (lN (dv_fw w h R))), none] [] n ad (xs_mem G ad X) 0 0 := by
        intro hno hr0
        rw [if_neg hr0, if_neg (by rw [hno]; exact fun q => by cases q)] at he
        refine jq_iincN dX4_hasBrokenLoop_77 (by decide) rfl rfl rfl ?_
        refine jq_goto (tgt := 7) dX4_hasBrokenLoop_80 (by decide) ?_
        exact ih (m + 1) _ _ (by omega) (dv_minus_lt _ _) he
      refine jq_iload_n dX4_hasBrokenLoop_7 rfl rfl ?_
      refine jq_bipush (v := (nI 40)) dX4_hasBrokenLoop_8 (by decide) ?_
      refine jq_geN (tgt := 83) dX4_hasBrokenLoop_10 (by decide) ⟨by omega, by omega⟩ (fun c10 => ?_) (fun c10 => ?_)
      · exact absurd c10 (by omega)
      · refine jq_lload_n dX4_hasBrokenLoop_13 rfl rfl ?_
        refine jq_lconst (v := 0) dX4_hasBrokenLoop_14 (by decide) ?_
        refine jq_lcmp dX4_hasBrokenLoop_15 ?_
        refine jq_if_eq (tgt := 83) dX4_hasBrokenLoop_16 (by decide) (fun c16 => ?_) (fun c16 => ?_)
        · have d16 := (lN_eq0 (by omega)).mp c16
          refine jq_iconst (v := 0) dX4_hasBrokenLoop_83 (by decide) ?_
          exact xq_ireturn dX4_hasBrokenLoop_84 rfl rfl (⟨by rw [← he, if_pos d16]; rfl, rfl⟩)
        · have d16 : R ≠ 0 := fun q => c16 ((lN_eq0 (by omega)).mpr q)
          refine jq_aload_n dX4_hasBrokenLoop_19 rfl rfl ?_
          refine xq_getR 1 fX4_22 dX4_hasBrokenLoop_20 (xs_lt (by decide) hn) (by decide) ?_
          refine jq_lload_n dX4_hasBrokenLoop_23 rfl rfl ?_
          refine xq_vL dX4_hasBrokenLoop_24 kX4_101 (c_X0_firstWay hn hT hR) (xs_lt (by decide) hn) ⟨rfl, rfl⟩ rfl rfl (Nat.le_of_ble_eq_true rfl) ⟨⟨by decide, by decide⟩, Nat.le_refl _, Nat.le_refl _⟩ ?_
          refine jq_lstore dX4_hasBrokenLoop_27 (by decide) rfl rfl ?_
          refine jq_lload_n dX4_hasBrokenLoop_29 rfl rfl ?_
          refine jq_lload dX4_hasBrokenLoop_30 rfl ?_
          refine jq_ldc2 dX4_hasBrokenLoop_32 vX4_35 ?_
          refine jq_lxor dX4_hasBrokenLoop_35 ?_
          refine jq_land dX4_hasBrokenLoop_36 ?_
          rw [hnot]
          refine jq_lstore_n dX4_hasBrokenLoop_37 rfl (by decide) rfl rfl ?_
          refine jq_aload_n dX4_hasBrokenLoop_38 rfl rfl ?_
          refine xq_getR 1 fX4_22 dX4_hasBrokenLoop_39 (xs_lt (by decide) hn) (by decide) ?_
          refine jq_lload dX4_hasBrokenLoop_42 rfl ?_
          refine xq_vI dX4_hasBrokenLoop_44 kX4_105 (c_X0_isLoop hn hT hfw) (xs_lt (by decide) hn) ⟨rfl, rfl⟩ rfl rfl (Nat.le_of_ble_eq_true rfl) ⟨⟨by decide, by decide⟩, Nat.le_refl _, Nat.le_refl _⟩ ?_
          refine jq_if_eq (tgt := 77) dX4_hasBrokenLoop_47 (by decide) (fun c47 => ?_) (fun c47 => ?_)
          · have d47 := tb_b0.mp c47
            exact h77 (by simp [*]) d16
          · have d47 := tb_b1.mp c47
            refine jq_lload dX4_hasBrokenLoop_50 rfl ?_
            refine jq_aload_n dX4_hasBrokenLoop_52 rfl rfl ?_
            refine xq_getL fX4_26 dX4_hasBrokenLoop_53 (xs_lt (by decide) hn) (by decide) hK.1 ?_
            refine jq_lcmp dX4_hasBrokenLoop_56 ?_
            refine jq_if_ne (tgt := 75) dX4_hasBrokenLoop_57 (by decide) (fun c57 => ?_) (fun c57 => ?_)
            · have d57 : dv_fw w h R ≠ dv_S w h st 1 := fun q => c57 ((dv_cmp (by omega) (by omega)).mpr q)
              refine jq_iconst (v := 1) dX4_hasBrokenLoop_75 (by decide) ?_
              exact xq_ireturn dX4_hasBrokenLoop_76 rfl rfl (⟨tb_vt (by rw [← he, if_neg d16, if_pos]; first | (rw [d57] at d47 ⊢; simp [d47, d72]; done) | (simp [d47, d57]; done) | omega), rfl⟩)
            · have d57 := (dv_cmp (show dv_fw w h R < 2 ^ 63 by omega) (show dv_S w h st 1 < 2 ^ 63 by omega)).mp c57
              refine jq_aload_n dX4_hasBrokenLoop_60 rfl rfl ?_
              refine xq_getR 1 fX4_22 dX4_hasBrokenLoop_61 (xs_lt (by decide) hn) (by decide) ?_
              refine jq_aload_n dX4_hasBrokenLoop_64 rfl rfl ?_
              refine xq_getL fX4_26 dX4_hasBrokenLoop_65 (xs_lt (by decide) hn) (by decide) hK.1 ?_
              refine jq_iconst (v := (-1)) dX4_hasBrokenLoop_68 (by decide) ?_
              refine xq_vI dX4_hasBrokenLoop_69 kX4_109 (c_X0_numbersAreRight hn hT hN hL (-1)) (xs_lt (by decide) hn) ⟨rfl, rfl⟩ rfl rfl (Nat.le_of_ble_eq_true rfl) ⟨⟨by decide, by decide⟩, Nat.le_refl _, Nat.le_refl _⟩ ?_
              refine jq_if_ne (tgt := 77) dX4_hasBrokenLoop_72 (by decide) (fun c72 => ?_) (fun c72 => ?_)
              · have d72 := tb_b1.mp c72
                exact h77 (by simp [*]) d16
              · have d72 := tb_b0.mp c72
                refine jq_iconst (v := 1) dX4_hasBrokenLoop_75 (by decide) ?_
                exact xq_ireturn dX4_hasBrokenLoop_76 rfl rfl (⟨tb_vt (by rw [← he, if_neg d16, if_pos]; first | (rw [d57] at d47 ⊢; simp [d47, d72]; done) | (simp [d47, d57]; done) | omega), rfl⟩)
  refine xs_Ct_of (L := [some (.ref (ad 11)), none, none, none, none, none]) rfl (Nat.le_of_ble_eq_true rfl) rfl ?_
  refine jq_aload_n dX4_hasBrokenLoop_0 rfl rfl ?_
  refine xq_getL fX4_26 dX4_hasBrokenLoop_1 (xs_lt (by decide) hn) (by decide) hK.1 ?_
  refine jq_lstore_n dX4_hasBrokenLoop_4 rfl (by decide) rfl rfl ?_
  refine jq_iconst (v := (nI 0)) dX4_hasBrokenLoop_5 (by decide) ?_
  refine jq_istore_n dX4_hasBrokenLoop_6 rfl (by decide) rfl rfl ?_
  exact loop 40 0 _ _ (by omega) hL rfl
set_option maxHeartbeats 4000000 in
theorem c_X4_reason {l : Launch} {G : jq_G} {n : Nat} {ad : Nat → Nat} {X : xs_T} (hn : 21 ≤ n) {w h : Nat} {num : Nat → Int32} {st : Nat → Nat} (hT : dv_T w h X) (hK : dv_K w h st X) (hN : dv_N w h num X) (hC : dv_C w h st (tb_ne w h) X) : xs_Ct l G mX4_reason 4 [.ref (ad 11)] n ad X (xs_pd (some (.int (nI (dv_broken w h num st)))) X) := by
  have hcl : X.1 12 3 = tb_b (!tb_fine w h st) := hC.2.2
  refine xs_Ct_of (L := [some (.ref (ad 11))]) rfl (Nat.le_of_ble_eq_true rfl) rfl ?_
  refine jq_aload_n dX4_reason_0 rfl rfl ?_
  refine xq_vI dX4_reason_1 kX4_66 (c_X4_hasBrokenCell hn hT hK hN) (xs_lt (by decide) hn) ⟨rfl, rfl⟩ rfl rfl (Nat.le_of_ble_eq_true rfl) ⟨⟨by decide, by decide⟩, Nat.le_refl _, Nat.le_refl _⟩ ?_
  refine jq_if_eq (tgt := 9) dX4_reason_4 (by decide) (fun c4 => ?_) (fun c4 => ?_)
  · have d4 := tb_b0.mp c4
    refine jq_aload_n dX4_reason_9 rfl rfl ?_
    refine xq_vI dX4_reason_10 kX4_70 (c_X4_hasBrokenPoint hn hT hK) (xs_lt (by decide) hn) ⟨rfl, rfl⟩ rfl rfl (Nat.le_of_ble_eq_true rfl) ⟨⟨by decide, by decide⟩, Nat.le_refl _, Nat.le_refl _⟩ ?_
    refine jq_if_eq (tgt := 18) dX4_reason_13 (by decide) (fun c13 => ?_) (fun c13 => ?_)
    · have d13 := tb_b0.mp c13
      refine jq_aload_n dX4_reason_18 rfl rfl ?_
      refine xq_vI dX4_reason_19 kX4_73 (c_X4_hasBrokenLoop hn hT hK hN) (xs_lt (by decide) hn) ⟨rfl, rfl⟩ rfl rfl (Nat.le_of_ble_eq_true rfl) ⟨⟨by decide, by decide⟩, Nat.le_refl _, Nat.le_refl _⟩ ?_
      refine jq_if_eq (tgt := 27) dX4_reason_22 (by decide) (fun c22 => ?_) (fun c22 => ?_)
      · have d22 := tb_b0.mp c22
        refine jq_aload_n dX4_reason_27 rfl rfl ?_
        refine xq_getR 12 fX4_12 dX4_reason_28 (xs_lt (by decide) hn) (by decide) ?_
        refine xq_getI fX4_76 dX4_reason_31 (xs_lt (by decide) hn) (by decide) hcl ?_
        refine jq_if_eq (tgt := 41) dX4_reason_34 (by decide) (fun c34 => ?_) (fun c34 => ?_)
        · have d34 : tb_fine w h st = true := by simpa using tb_b0.mp c34
          refine jq_iconst (v := (nI 0)) dX4_reason_41 (by decide) ?_
          exact xq_ireturn dX4_reason_42 rfl rfl (⟨by unfold dv_broken; rw [d4, d13, d22, d34]; rfl, rfl⟩)
        · have d34 : tb_fine w h st = false := by simpa using tb_b1.mp c34
          refine jq_iconst (v := (nI 4)) dX4_reason_37 (by decide) ?_
          refine jq_goto (tgt := 42) dX4_reason_38 (by decide) ?_
          exact xq_ireturn dX4_reason_42 rfl rfl (⟨by unfold dv_broken; rw [d4, d13, d22, d34]; rfl, rfl⟩)
      · have d22 := tb_b1.mp c22
        refine jq_iconst (v := (nI 3)) dX4_reason_25 (by decide) ?_
        exact xq_ireturn dX4_reason_26 rfl rfl (⟨by unfold dv_broken; rw [d4, d13, if_pos d22]; rfl, rfl⟩)
    · have d13 := tb_b1.mp c13
      refine jq_iconst (v := (nI 2)) dX4_reason_16 (by decide) ?_
      exact xq_ireturn dX4_reason_17 rfl rfl (⟨by unfold dv_broken; rw [d4, if_pos d13]; rfl, rfl⟩)
  · have d4 := tb_b1.mp c4
    refine jq_iconst (v := (nI 1)) dX4_reason_7 (by decide) ?_
    exact xq_ireturn dX4_reason_8 rfl rfl (⟨by unfold dv_broken; rw [if_pos d4], rfl⟩)
set_option maxHeartbeats 4000000 in
theorem c_X4_want {l : Launch} {G : jq_G} {n : Nat} {ad : Nat → Nat} {X : xs_T} (hn : 21 ≤ n) {w h : Nat} {st : Nat → Nat} {D : dv_Wt} (hW : tb_W w h) (hK : dv_K w h st X) (hD : dv_D D X) {r how m : Nat} (hr : r < 8) (hh : how < 2 ^ 31) (hm : m < 2 ^ 40) : xs_Ct l G mX4_want 1 [.ref (ad 11), .int (nI (r)), .int (nI (how)), .long (lN m)] n ad X (xs_pv (fun X' => xs_fr dv_SA dv_FA X X' ∧ dv_D (dv_want (dv_S w h st 0) D r how m) X')) := by
  have hU := dv_S_lt hW st 0
  have hi : vp_in (nI r) 8 := vp_inN hr (by decide)
  have ho : m &&& dv_S w h st 0 < 2 ^ 40 := dv_and_lt hm
  obtain ⟨d1, d2⟩ := hD.1 r hr
  obtain ⟨d3, d4⟩ := hD.2.1
  obtain ⟨d5, d6⟩ := hD.2.2
  have hrow : ∀ j, j < 8 → (xs_al X 15 (vp_updL (X.2.2.2 15) (nI r).toNatClampNeg (lN (D.1 r ||| (m &&& dv_S w h st 0))))).2.2.2 15 j = lN (va_up D.1 r (D.1 r ||| (m &&& dv_S w h st 0)) j) ∧ va_up D.1 r (D.1 r ||| (m &&& dv_S w h st 0)) j < 2 ^ 40 := by
    intro j hj
    rw [xs_al_at]
    by_cases q : j = r
    · subst q; rw [xs_updL_at (by omega), va_up_self]; exact ⟨rfl, Nat.or_lt_two_pow d2 ho⟩
    · rw [xs_updL_ne (by omega) q, va_up_ne _ _ q]; exact hD.1 j hj
  refine xs_Ct_of (L := [some (.ref (ad 11)), some (.int (nI (r))), some (.int (nI (how))), some (.long (lN m)), none, none, none]) rfl (Nat.le_of_ble_eq_true rfl) rfl ?_
  refine jq_lload_n dX4_want_0 rfl rfl ?_
  refine jq_aload_n dX4_want_1 rfl rfl ?_
  refine xq_getL fX4_37 dX4_want_2 (xs_lt (by decide) hn) (by decide) hK.2 ?_
  refine jq_land dX4_want_5 ?_
  rw [wb_and (by omega) (by omega)]
  refine jq_lstore dX4_want_6 (by decide) rfl rfl ?_
  refine jq_aload_n dX4_want_8 rfl rfl ?_
  refine xq_getR 15 fX4_18 dX4_want_9 (xs_lt (by decide) hn) (by decide) ?_
  refine jq_iload_n dX4_want_12 rfl rfl ?_
  refine jq_dup2 dX4_want_13 rfl rfl ?_
  refine xq_laload dX4_want_14 (xs_lt (by decide) hn) rfl hi (xs_rdL d1 (by omega)) ?_
  refine jq_lload dX4_want_15 rfl ?_
  refine jq_lor dX4_want_17 ?_
  rw [wb_or (by omega) (by omega)]
  refine xq_lastore dX4_want_18 (xs_lt (by decide) hn) rfl hi ?_
  refine jq_iload_n dX4_want_19 rfl rfl ?_
  refine jq_iconst (v := (nI 1)) dX4_want_20 (by decide) ?_
  refine jq_neN (tgt := 38) dX4_want_21 (by decide) ⟨by omega, by omega⟩ (fun c21 => ?_) (fun c21 => ?_)
  · refine jq_aload_n dX4_want_38 rfl rfl ?_
    refine jq_dup dX4_want_39 rfl ?_
    refine xq_getL fX4_121 dX4_want_40 (xs_lt (by decide) hn) (by decide) d5 ?_
    refine jq_lload dX4_want_43 rfl ?_
    refine jq_lor dX4_want_45 ?_
    rw [wb_or (by omega) (by omega)]
    refine xq_putL pX4_121 dX4_want_46 (xs_lt (by decide) hn) (by decide) ?_
    first
      | exact xq_return rfl dX4_want_49 rfl ⟨rfl, xs_fr_sl (xs_fr_al xs_fr_rf (by decide)) (by decide), by
          unfold dv_want
          rw [if_pos c21, if_pos c21]
          exact ⟨hrow, ⟨xs_sl_at, Nat.or_lt_two_pow d4 ho⟩, ⟨(xs_sl_ne (by decide)).trans d5, d6⟩⟩⟩
      | exact xq_return rfl dX4_want_49 rfl ⟨rfl, xs_fr_sl (xs_fr_al xs_fr_rf (by decide)) (by decide), by
          unfold dv_want
          rw [if_neg c21, if_neg c21]
          exact ⟨hrow, ⟨(xs_sl_ne (by decide)).trans d3, d4⟩, ⟨xs_sl_at, Nat.or_lt_two_pow d6 ho⟩⟩⟩
  · refine jq_aload_n dX4_want_24 rfl rfl ?_
    refine jq_dup dX4_want_25 rfl ?_
    refine xq_getL fX4_118 dX4_want_26 (xs_lt (by decide) hn) (by decide) d3 ?_
    refine jq_lload dX4_want_29 rfl ?_
    refine jq_lor dX4_want_31 ?_
    rw [wb_or (by omega) (by omega)]
    refine xq_putL pX4_118 dX4_want_32 (xs_lt (by decide) hn) (by decide) ?_
    refine jq_goto (tgt := 49) dX4_want_35 (by decide) ?_
    first
      | exact xq_return rfl dX4_want_49 rfl ⟨rfl, xs_fr_sl (xs_fr_al xs_fr_rf (by decide)) (by decide), by
          unfold dv_want
          rw [if_pos c21, if_pos c21]
          exact ⟨hrow, ⟨xs_sl_at, Nat.or_lt_two_pow d4 ho⟩, ⟨(xs_sl_ne (by decide)).trans d5, d6⟩⟩⟩
      | exact xq_return rfl dX4_want_49 rfl ⟨rfl, xs_fr_sl (xs_fr_al xs_fr_rf (by decide)) (by decide), by
          unfold dv_want
          rw [if_neg c21, if_neg c21]
          exact ⟨hrow, ⟨(xs_sl_ne (by decide)).trans d3, d4⟩, ⟨xs_sl_at, Nat.or_lt_two_pow d6 ho⟩⟩⟩
set_option maxHeartbeats 4000000 in
theorem c_X4_isTorn {l : Launch} {G : jq_G} {n : Nat} {ad : Nat → Nat} {X : xs_T} (hn : 21 ≤ n) {D : dv_Wt} (hD : dv_D D X) : xs_Ct l G mX4_isTorn 1 [.ref (ad 11)] n ad X (xs_pd (some (.int (tb_b (!(D.2.1 &&& D.2.2 == 0))))) X) := by
  obtain ⟨d3, d4⟩ := hD.2.1
  obtain ⟨d5, d6⟩ := hD.2.2
  have hlt : D.2.1 &&& D.2.2 < 2 ^ 40 := dv_and_lt d4
  refine xs_Ct_of (L := [some (.ref (ad 11))]) rfl (Nat.le_of_ble_eq_true rfl) rfl ?_
  refine jq_aload_n dX4_isTorn_0 rfl rfl ?_
  refine xq_getL fX4_118 dX4_isTorn_1 (xs_lt (by decide) hn) (by decide) d3 ?_
  refine jq_aload_n dX4_isTorn_4 rfl rfl ?_
  refine xq_getL fX4_121 dX4_isTorn_5 (xs_lt (by decide) hn) (by decide) d5 ?_
  refine jq_land dX4_isTorn_8 ?_
  rw [wb_and (by omega) (by omega)]
  refine jq_lconst (v := 0) dX4_isTorn_9 (by decide) ?_
  refine jq_lcmp dX4_isTorn_10 ?_
  refine jq_if_eq (tgt := 18) dX4_isTorn_11 (by decide) (fun c11 => ?_) (fun c11 => ?_)
  · have d11 := (lN_eq0 (by omega)).mp c11
    refine jq_iconst (v := 0) dX4_isTorn_18 (by decide) ?_
    exact xq_ireturn dX4_isTorn_19 rfl rfl (⟨by simp [d11, tb_b], rfl⟩)
  · have d11 : ¬ D.2.1 &&& D.2.2 = 0 := fun q => c11 ((lN_eq0 (by omega)).mpr q)
    refine jq_iconst (v := 1) dX4_isTorn_14 (by decide) ?_
    refine jq_goto (tgt := 19) dX4_isTorn_15 (by decide) ?_
    exact xq_ireturn dX4_isTorn_19 rfl rfl (⟨by simp [d11, tb_b], rfl⟩)
set_option maxHeartbeats 4000000 in
theorem c_X4_firstRuleFor {l : Launch} {G : jq_G} {n : Nat} {ad : Nat → Nat} {X : xs_T} (hn : 21 ≤ n) {D : dv_Wt} (hD : dv_D D X) {e : Nat} (he : e < 40) : xs_Ct l G mX4_firstRuleFor 2 [.ref (ad 11), .int (nI (e))] n ad X (xs_pd (some (.int (dv_rl D e 7 1))) X) := by
  have loop : ∀ (k r : Nat), r + k = 8 → dv_rl D e k r = dv_rl D e 7 1 → jq_J l G mX4_firstRuleFor (jq_R 2 0 0) jq_E0 (xs_Ye G n ad (xs_pd (some (.int (dv_rl D e 7 1))) X)) 2 [some (.ref (ad 11)), some (.int (nI (e))), some (.int (nI (r)))] [] n ad (xs_mem G ad X) 0 0 := by
    intro k
    induction k with
    | zero =>
      intro r hk hres
      refine jq_iload_n dX4_firstRuleFor_2 rfl rfl ?_
      refine jq_bipush (v := (nI 7)) dX4_firstRuleFor_3 (by decide) ?_
      refine jq_gtN (tgt := 29) dX4_firstRuleFor_5 (by decide) ⟨by omega, by omega⟩ (fun c5 => ?_) (fun c5 => ?_)
      · refine jq_iconst (v := (-1)) dX4_firstRuleFor_29 (by decide) ?_
        exact xq_ireturn dX4_firstRuleFor_30 rfl rfl (⟨by rw [← hres]; rfl, rfl⟩)
      · exact absurd c5 (by omega)
    | succ k ih =>
      intro r hk hres
      have hi : vp_in (nI r) 8 := vp_inN (by omega) (by decide)
      obtain ⟨d1, d2⟩ := hD.1 r (by omega)
      rw [dv_rl] at hres
      refine jq_iload_n dX4_firstRuleFor_2 rfl rfl ?_
      refine jq_bipush (v := (nI 7)) dX4_firstRuleFor_3 (by decide) ?_
      refine jq_gtN (tgt := 29) dX4_firstRuleFor_5 (by decide) ⟨by omega, by omega⟩ (fun c5 => ?_) (fun c5 => ?_)
      · exact absurd c5 (by omega)
      · refine jq_aload_n dX4_firstRuleFor_8 rfl rfl ?_
        refine xq_getR 15 fX4_18 dX4_firstRuleFor_9 (xs_lt (by decide) hn) (by decide) ?_
        refine jq_iload_n dX4_firstRuleFor_12 rfl rfl ?_
        refine xq_laload dX4_firstRuleFor_13 (xs_lt (by decide) hn) rfl hi (xs_rdL d1 (by omega)) ?_
        refine jq_iload_n dX4_firstRuleFor_14 rfl rfl ?_
        refine xq_sI dX4_firstRuleFor_15 kX4_51 (c_X5_has (by omega) (by omega)) rfl rfl (Nat.le_of_ble_eq_true rfl) ⟨⟨by decide, by decide⟩, Nat.le_refl _, Nat.le_refl _⟩ ?_
        refine jq_if_eq (tgt := 23) dX4_firstRuleFor_18 (by decide) (fun c18 => ?_) (fun c18 => ?_)
        · have d18 := tb_b0.mp c18
          refine jq_iincN dX4_firstRuleFor_23 (by decide) rfl rfl rfl ?_
          refine jq_goto (tgt := 2) dX4_firstRuleFor_26 (by decide) ?_
          exact ih (r + 1) (by omega) (by rw [d18] at hres; exact hres)
        · have d18 := tb_b1.mp c18
          refine jq_iload_n dX4_firstRuleFor_21 rfl rfl ?_
          exact xq_ireturn dX4_firstRuleFor_22 rfl rfl (⟨by rw [← hres, if_pos d18], rfl⟩)
  refine xs_Ct_of (L := [some (.ref (ad 11)), some (.int (nI (e))), none]) rfl (Nat.le_of_ble_eq_true rfl) rfl ?_
  refine jq_iconst (v := (nI 1)) dX4_firstRuleFor_0 (by decide) ?_
  refine jq_istore_n dX4_firstRuleFor_1 rfl (by decide) rfl rfl ?_
  exact loop 7 1 (by omega) rfl
