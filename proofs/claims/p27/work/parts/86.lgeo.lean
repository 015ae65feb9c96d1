/-! the law's board: its numbers told as those of the specs -/
def lr_k (w h : Nat) : Prop := 1 ≤ w ∧ w ≤ 3 ∧ 1 ≤ h ∧ h ≤ 3
def lr_B (n w h : Nat) (X : xs_T) : Prop := (21 < n ∧ 21 ≤ 21 ∧ (X.1 21 0).toNatClampNeg = 2) ∧ X.2.2.1 21 (nI 0).toNatClampNeg = nI w ∧ X.2.2.1 21 (nI 1).toNatClampNeg = nI h ∧ lr_k w h
def lr_S (n w h q : Nat) (st : Nat → Nat) (X : xs_T) : Prop := (q < n ∧ 21 ≤ q ∧ (X.1 q 0).toNatClampNeg = 24) ∧ ∀ e, e < tb_ne w h → X.2.2.1 q (nI e).toNatClampNeg = nI (st e) ∧ st e ≤ 2
def lr_N (n w h : Nat) (num : Nat → Int32) (X : xs_T) : Prop := (22 < n ∧ 21 ≤ 22 ∧ (X.1 22 0).toNatClampNeg = 9) ∧ ∀ c, c < tb_nc w h → X.2.2.1 22 (nI c).toNatClampNeg = num c
theorem lr_W {w h : Nat} (k : lr_k w h) : tb_W w h := ⟨k.1, Nat.le_trans k.2.1 (by decide), k.2.2.1, Nat.le_trans k.2.2.2 (by decide)⟩
theorem lr_all {P : Nat → Nat → Prop} (H : ∀ w, w < 4 → ∀ h, h < 4 → ¬ (1 ≤ w ∧ 1 ≤ h) ∨ P w h) {w h : Nat} (k : lr_k w h) : P w h := (H w (Nat.lt_succ_of_le k.2.1) h (Nat.lt_succ_of_le k.2.2.2)).resolve_left (fun q => q ⟨k.1, k.2.2.1⟩)
theorem lr_sz {w h : Nat} (k : lr_k w h) : tb_nf w h ≤ 12 ∧ tb_ne w h ≤ 24 ∧ tb_nc w h ≤ 9 ∧ tb_np w h ≤ 16 ∧ 1 ≤ tb_nc w h ∧ 4 ≤ tb_ne w h ∧ (h + 1) * w ≤ 12 ∧ w * h ≤ 9 ∧ (h + 1) * w = tb_nf w h ∧ w * h = tb_nc w h :=
  lr_all (P := fun w h => tb_nf w h ≤ 12 ∧ tb_ne w h ≤ 24 ∧ tb_nc w h ≤ 9 ∧ tb_np w h ≤ 16 ∧ 1 ≤ tb_nc w h ∧ 4 ≤ tb_ne w h ∧ (h + 1) * w ≤ 12 ∧ w * h ≤ 9 ∧ (h + 1) * w = tb_nf w h ∧ w * h = tb_nc w h) (by decide +kernel) k
def lr_area (w h : Nat) (r c : Int32) : Int32 := if r < 0 ∨ c < 0 ∨ nI h ≤ r ∨ nI w ≤ c then nI (w * h) else r * nI w + c
def lr_eB (w h e : Nat) : Bool := decide (tb_row w h e ≤ 3) && (decide (tb_col w h e ≤ 3) && (decide (tb_one w h e < tb_np w h) && (decide (tb_oth w h e < tb_np w h) && (decide (tb_are w h e ≤ tb_nc w h) && (decide (tb_bes w h e ≤ tb_nc w h) &&
  ((!decide (e < tb_nf w h) || decide (lr_area w h (nI (tb_row w h e) - nI 1) (nI (tb_col w h e)) = nI (tb_are w h e))) && ((decide (e < tb_nf w h) || decide (lr_area w h (nI (tb_row w h e)) (nI (tb_col w h e) - nI 1) = nI (tb_are w h e))) && decide (lr_area w h (nI (tb_row w h e)) (nI (tb_col w h e)) = nI (tb_bes w h e)))))))))
theorem lr_edge {w h : Nat} (k : lr_k w h) (e : Nat) (h1 : e < 24) (h2 : e < tb_ne w h) : tb_row w h e ≤ 3 ∧ tb_col w h e ≤ 3 ∧ tb_one w h e < tb_np w h ∧ tb_oth w h e < tb_np w h ∧ tb_are w h e ≤ tb_nc w h ∧ tb_bes w h e ≤ tb_nc w h ∧
    (e < tb_nf w h → lr_area w h (nI (tb_row w h e) - nI 1) (nI (tb_col w h e)) = nI (tb_are w h e)) ∧ (¬ e < tb_nf w h → lr_area w h (nI (tb_row w h e)) (nI (tb_col w h e) - nI 1) = nI (tb_are w h e)) ∧ lr_area w h (nI (tb_row w h e)) (nI (tb_col w h e)) = nI (tb_bes w h e) := by
  have h3 := lr_all (P := fun w h => (List.range 24).all (fun e => !decide (e < tb_ne w h) || lr_eB w h e) = true) (by decide +kernel) k
  have h4 := List.all_eq_true.mp h3 e (List.mem_range.mpr h1)
  rw [decide_eq_true h2, Bool.not_true, Bool.false_or] at h4
  simp only [lr_eB, Bool.and_eq_true, Bool.or_eq_true, Bool.not_eq_true', decide_eq_true_eq, decide_eq_false_iff_not] at h4
  obtain ⟨a1, a2, a3, a4, a5, a6, a7, a8, a9⟩ := h4
  exact ⟨a1, a2, a3, a4, a5, a6, fun q => a7.resolve_left (fun z => z q), fun q => a8.resolve_left q, a9⟩
def lr_sB (w h c s : Nat) : Bool := decide (tb_sid w h c s < tb_ne w h) && ((!decide (s < 2) || (c / w + s) * w + c % w == tb_sid w h c s) && (!decide (2 ≤ s) || (decide (2 ≤ (h + 1) * w + c / w * (w + 1) + c % w + s) && (h + 1) * w + c / w * (w + 1) + c % w + s - 2 == tb_sid w h c s)))
theorem lr_sid {w h : Nat} (k : lr_k w h) (c : Nat) (h1 : c < 9) (s : Nat) (h2 : s < 4) (h3 : c < tb_nc w h) : tb_sid w h c s < tb_ne w h ∧ (s < 2 → (c / w + s) * w + c % w = tb_sid w h c s) ∧ (2 ≤ s → 2 ≤ (h + 1) * w + c / w * (w + 1) + c % w + s ∧ (h + 1) * w + c / w * (w + 1) + c % w + s - 2 = tb_sid w h c s) := by
  have h4 := lr_all (P := fun w h => (List.range 9).all (fun c => !decide (c < tb_nc w h) || (List.range 4).all (lr_sB w h c)) = true) (by decide +kernel) k
  have h5 := List.all_eq_true.mp h4 c (List.mem_range.mpr h1)
  rw [decide_eq_true h3, Bool.not_true, Bool.false_or] at h5
  have h6 := List.all_eq_true.mp h5 s (List.mem_range.mpr h2)
  simp only [lr_sB, Bool.and_eq_true, Bool.or_eq_true, Bool.not_eq_true', decide_eq_true_eq, decide_eq_false_iff_not, beq_iff_eq] at h6
  obtain ⟨a1, a2, a3⟩ := h6
  exact ⟨a1, fun q => a2.resolve_left (fun z => z q), fun q => a3.resolve_left (fun z => z q)⟩
set_option maxHeartbeats 4000000 in
theorem c_L_edges {l : Launch} {G : jq_G} {n : Nat} {ad : Nat → Nat} {X : xs_T} {w h : Nat} (hB : lr_B n w h X) : xs_Ct l G mL_edges 1 [.ref (ad 21)] n ad X (xs_pd (some (.int (nI (tb_ne w h)))) X) := by
  refine xs_Ct_of (L := [some (.ref (ad 21))]) rfl (Nat.le_of_ble_eq_true rfl) rfl ?_
  refine jq_aload_n dL_edges_0 rfl rfl ?_
  refine jq_iconst (v := (nI 1)) dL_edges_1 (by decide) ?_
  refine xq_iald dL_edges_2 hB.1 lr_v1 hB.2.2.1 ?_
  refine jq_iconst (v := (nI 1)) dL_edges_3 (by decide) ?_
  refine jq_iaddN dL_edges_4 ?_
  refine jq_aload_n dL_edges_5 rfl rfl ?_
  refine jq_iconst (v := (nI 0)) dL_edges_6 (by decide) ?_
  refine xq_iald dL_edges_7 hB.1 lr_v0 hB.2.1 ?_
  refine jq_imulN dL_edges_8 ?_
  refine jq_aload_n dL_edges_9 rfl rfl ?_
  refine jq_iconst (v := (nI 1)) dL_edges_10 (by decide) ?_
  refine xq_iald dL_edges_11 hB.1 lr_v1 hB.2.2.1 ?_
  refine jq_aload_n dL_edges_12 rfl rfl ?_
  refine jq_iconst (v := (nI 0)) dL_edges_13 (by decide) ?_
  refine xq_iald dL_edges_14 hB.1 lr_v0 hB.2.1 ?_
  refine jq_iconst (v := (nI 1)) dL_edges_15 (by decide) ?_
  refine jq_iaddN dL_edges_16 ?_
  refine jq_imulN dL_edges_17 ?_
  refine jq_iaddN dL_edges_18 ?_
  exact xq_ireturn dL_edges_19 rfl rfl (⟨rfl, rfl⟩)
set_option maxHeartbeats 4000000 in
theorem c_L_isFlat {l : Launch} {G : jq_G} {n : Nat} {ad : Nat → Nat} {X : xs_T} {w h : Nat} (hB : lr_B n w h X) {e : Nat} (he : e < tb_ne w h) : xs_Ct l G mL_isFlat 1 [.ref (ad 21), .int (nI (e))] n ad X (xs_pd (some (.int (tb_b (decide (e < tb_nf w h))))) X) := by
  have hz := lr_sz hB.2.2.2
  refine xs_Ct_of (L := [some (.ref (ad 21)), some (.int (nI (e)))]) rfl (Nat.le_of_ble_eq_true rfl) rfl ?_
  refine jq_iload_n dL_isFlat_0 rfl rfl ?_
  refine jq_aload_n dL_isFlat_1 rfl rfl ?_
  refine jq_iconst (v := (nI 1)) dL_isFlat_2 (by decide) ?_
  refine xq_iald dL_isFlat_3 hB.1 lr_v1 hB.2.2.1 ?_
  refine jq_iconst (v := (nI 1)) dL_isFlat_4 (by decide) ?_
  refine jq_iaddN dL_isFlat_5 ?_
  refine jq_aload_n dL_isFlat_6 rfl rfl ?_
  refine jq_iconst (v := (nI 0)) dL_isFlat_7 (by decide) ?_
  refine xq_iald dL_isFlat_8 hB.1 lr_v0 hB.2.1 ?_
  refine jq_imulN dL_isFlat_9 ?_
  refine jq_geN (tgt := 17) dL_isFlat_10 (by decide) ⟨by omega, by omega⟩ (fun c10 => ?_) (fun c10 => ?_)
  · have d10 : ¬ e < tb_nf w h := by omega
    refine jq_iconst (v := (nI 0)) dL_isFlat_17 (by decide) ?_
    exact xq_ireturn dL_isFlat_18 rfl rfl (⟨by first | exact tb_vt (decide_eq_true d10) | exact tb_vf (decide_eq_false d10), rfl⟩)
  · have d10 : e < tb_nf w h := by omega
    refine jq_iconst (v := (nI 1)) dL_isFlat_13 (by decide) ?_
    refine jq_goto (tgt := 18) dL_isFlat_14 (by decide) ?_
    exact xq_ireturn dL_isFlat_18 rfl rfl (⟨by first | exact tb_vt (decide_eq_true d10) | exact tb_vf (decide_eq_false d10), rfl⟩)
set_option maxHeartbeats 4000000 in
theorem c_L_row {l : Launch} {G : jq_G} {n : Nat} {ad : Nat → Nat} {X : xs_T} {w h : Nat} (hB : lr_B n w h X) {e : Nat} (he : e < tb_ne w h) : xs_Ct l G mL_row 2 [.ref (ad 21), .int (nI (e))] n ad X (xs_pd (some (.int (nI (tb_row w h e)))) X) := by
  have hz := lr_sz hB.2.2.2
  have hk := hB.2.2.2
  unfold lr_k at hk
  refine xs_Ct_of (L := [some (.ref (ad 21)), some (.int (nI (e)))]) rfl (Nat.le_of_ble_eq_true rfl) rfl ?_
  refine jq_aload_n dL_row_0 rfl rfl ?_
  refine jq_iload_n dL_row_1 rfl rfl ?_
  refine xq_sI dL_row_2 kL_9 (c_L_isFlat hB he) rfl rfl (Nat.le_of_ble_eq_true rfl) ⟨⟨by decide, by decide⟩, Nat.le_refl _, Nat.le_refl _⟩ ?_
  refine jq_if_eq (tgt := 16) dL_row_5 (by decide) (fun c5 => ?_) (fun c5 => ?_)
  · have d5 := of_decide_eq_false (tb_b0.mp c5)
    refine jq_iload_n dL_row_16 rfl rfl ?_
    refine jq_aload_n dL_row_17 rfl rfl ?_
    refine jq_iconst (v := (nI 1)) dL_row_18 (by decide) ?_
    refine xq_iald dL_row_19 hB.1 lr_v1 hB.2.2.1 ?_
    refine jq_iconst (v := (nI 1)) dL_row_20 (by decide) ?_
    refine jq_iaddN dL_row_21 ?_
    refine jq_aload_n dL_row_22 rfl rfl ?_
    refine jq_iconst (v := (nI 0)) dL_row_23 (by decide) ?_
    refine xq_iald dL_row_24 hB.1 lr_v0 hB.2.1 ?_
    refine jq_imulN dL_row_25 ?_
    refine jq_isubN dL_row_26 (by omega) ?_
    refine jq_aload_n dL_row_27 rfl rfl ?_
    refine jq_iconst (v := (nI 0)) dL_row_28 (by decide) ?_
    refine xq_iald dL_row_29 hB.1 lr_v0 hB.2.1 ?_
    refine jq_iconst (v := (nI 1)) dL_row_30 (by decide) ?_
    refine jq_iaddN dL_row_31 ?_
    refine jq_idivN dL_row_32 (⟨by omega, by omega, by omega⟩) ?_
    exact xq_ireturn dL_row_33 rfl rfl (⟨by rw [tb_row]; first | rw [if_pos d5] | (rw [if_neg d5]; rfl), rfl⟩)
  · have d5 := of_decide_eq_true (tb_b1.mp c5)
    refine jq_iload_n dL_row_8 rfl rfl ?_
    refine jq_aload_n dL_row_9 rfl rfl ?_
    refine jq_iconst (v := (nI 0)) dL_row_10 (by decide) ?_
    refine xq_iald dL_row_11 hB.1 lr_v0 hB.2.1 ?_
    refine jq_idivN dL_row_12 (⟨by omega, by omega, by omega⟩) ?_
    refine jq_goto (tgt := 33) dL_row_13 (by decide) ?_
    exact xq_ireturn dL_row_33 rfl rfl (⟨by rw [tb_row]; first | rw [if_pos d5] | (rw [if_neg d5]; rfl), rfl⟩)
set_option maxHeartbeats 4000000 in
theorem c_L_column {l : Launch} {G : jq_G} {n : Nat} {ad : Nat → Nat} {X : xs_T} {w h : Nat} (hB : lr_B n w h X) {e : Nat} (he : e < tb_ne w h) : xs_Ct l G mL_column 2 [.ref (ad 21), .int (nI (e))] n ad X (xs_pd (some (.int (nI (tb_col w h e)))) X) := by
  have hz := lr_sz hB.2.2.2
  have hk := hB.2.2.2
  unfold lr_k at hk
  refine xs_Ct_of (L := [some (.ref (ad 21)), some (.int (nI (e)))]) rfl (Nat.le_of_ble_eq_true rfl) rfl ?_
  refine jq_aload_n dL_column_0 rfl rfl ?_
  refine jq_iload_n dL_column_1 rfl rfl ?_
  refine xq_sI dL_column_2 kL_9 (c_L_isFlat hB he) rfl rfl (Nat.le_of_ble_eq_true rfl) ⟨⟨by decide, by decide⟩, Nat.le_refl _, Nat.le_refl _⟩ ?_
  refine jq_if_eq (tgt := 16) dL_column_5 (by decide) (fun c5 => ?_) (fun c5 => ?_)
  · have d5 := of_decide_eq_false (tb_b0.mp c5)
    refine jq_iload_n dL_column_16 rfl rfl ?_
    refine jq_aload_n dL_column_17 rfl rfl ?_
    refine jq_iconst (v := (nI 1)) dL_column_18 (by decide) ?_
    refine xq_iald dL_column_19 hB.1 lr_v1 hB.2.2.1 ?_
    refine jq_iconst (v := (nI 1)) dL_column_20 (by decide) ?_
    refine jq_iaddN dL_column_21 ?_
    refine jq_aload_n dL_column_22 rfl rfl ?_
    refine jq_iconst (v := (nI 0)) dL_column_23 (by decide) ?_
    refine xq_iald dL_column_24 hB.1 lr_v0 hB.2.1 ?_
    refine jq_imulN dL_column_25 ?_
    refine jq_isubN dL_column_26 (by omega) ?_
    refine jq_aload_n dL_column_27 rfl rfl ?_
    refine jq_iconst (v := (nI 0)) dL_column_28 (by decide) ?_
    refine xq_iald dL_column_29 hB.1 lr_v0 hB.2.1 ?_
    refine jq_iconst (v := (nI 1)) dL_column_30 (by decide) ?_
    refine jq_iaddN dL_column_31 ?_
    refine jq_iremN dL_column_32 (⟨by omega, by omega, by omega⟩) ?_
    exact xq_ireturn dL_column_33 rfl rfl (⟨by rw [tb_col]; first | rw [if_pos d5] | (rw [if_neg d5]; rfl), rfl⟩)
  · have d5 := of_decide_eq_true (tb_b1.mp c5)
    refine jq_iload_n dL_column_8 rfl rfl ?_
    refine jq_aload_n dL_column_9 rfl rfl ?_
    refine jq_iconst (v := (nI 0)) dL_column_10 (by decide) ?_
    refine xq_iald dL_column_11 hB.1 lr_v0 hB.2.1 ?_
    refine jq_iremN dL_column_12 (⟨by omega, by omega, by omega⟩) ?_
    refine jq_goto (tgt := 33) dL_column_13 (by decide) ?_
    exact xq_ireturn dL_column_33 rfl rfl (⟨by rw [tb_col]; first | rw [if_pos d5] | (rw [if_neg d5]; rfl), rfl⟩)
set_option maxHeartbeats 4000000 in
theorem c_L_from {l : Launch} {G : jq_G} {n : Nat} {ad : Nat → Nat} {X : xs_T} {w h : Nat} (hB : lr_B n w h X) {e : Nat} (he : e < tb_ne w h) : xs_Ct l G mL_from 3 [.ref (ad 21), .int (nI (e))] n ad X (xs_pd (some (.int (nI (tb_one w h e)))) X) := by
  refine xs_Ct_of (L := [some (.ref (ad 21)), some (.int (nI (e)))]) rfl (Nat.le_of_ble_eq_true rfl) rfl ?_
  refine jq_aload_n dL_from_0 rfl rfl ?_
  refine jq_iload_n dL_from_1 rfl rfl ?_
  refine xq_sI dL_from_2 kL_15 (c_L_row hB he) rfl rfl (Nat.le_of_ble_eq_true rfl) ⟨⟨by decide, by decide⟩, Nat.le_refl _, Nat.le_refl _⟩ ?_
  refine jq_aload_n dL_from_5 rfl rfl ?_
  refine jq_iconst (v := (nI 0)) dL_from_6 (by decide) ?_
  refine xq_iald dL_from_7 hB.1 lr_v0 hB.2.1 ?_
  refine jq_iconst (v := (nI 1)) dL_from_8 (by decide) ?_
  refine jq_iaddN dL_from_9 ?_
  refine jq_imulN dL_from_10 ?_
  refine jq_aload_n dL_from_11 rfl rfl ?_
  refine jq_iload_n dL_from_12 rfl rfl ?_
  refine xq_sI dL_from_13 kL_19 (c_L_column hB he) rfl rfl (Nat.le_of_ble_eq_true rfl) ⟨⟨by decide, by decide⟩, Nat.le_refl _, Nat.le_refl _⟩ ?_
  refine jq_iaddN dL_from_16 ?_
  exact xq_ireturn dL_from_17 rfl rfl (⟨rfl, rfl⟩)
set_option maxHeartbeats 4000000 in
theorem c_L_to {l : Launch} {G : jq_G} {n : Nat} {ad : Nat → Nat} {X : xs_T} {w h : Nat} (hB : lr_B n w h X) {e : Nat} (he : e < tb_ne w h) : xs_Ct l G mL_to 4 [.ref (ad 21), .int (nI (e))] n ad X (xs_pd (some (.int (nI (tb_oth w h e)))) X) := by
  refine xs_Ct_of (L := [some (.ref (ad 21)), some (.int (nI (e)))]) rfl (Nat.le_of_ble_eq_true rfl) rfl ?_
  refine jq_aload_n dL_to_0 rfl rfl ?_
  refine jq_iload_n dL_to_1 rfl rfl ?_
  refine xq_sI dL_to_2 kL_22 (c_L_from hB he) rfl rfl (Nat.le_of_ble_eq_true rfl) ⟨⟨by decide, by decide⟩, Nat.le_refl _, Nat.le_refl _⟩ ?_
  refine jq_aload_n dL_to_5 rfl rfl ?_
  refine jq_iload_n dL_to_6 rfl rfl ?_
  refine xq_sI dL_to_7 kL_9 (c_L_isFlat hB he) rfl rfl (Nat.le_of_ble_eq_true rfl) ⟨⟨by decide, by decide⟩, Nat.le_refl _, Nat.le_refl _⟩ ?_
  refine jq_if_eq (tgt := 17) dL_to_10 (by decide) (fun c10 => ?_) (fun c10 => ?_)
  · have d5 := of_decide_eq_false (tb_b0.mp c10)
    refine jq_aload_n dL_to_17 rfl rfl ?_
    refine jq_iconst (v := (nI 0)) dL_to_18 (by decide) ?_
    refine xq_iald dL_to_19 hB.1 lr_v0 hB.2.1 ?_
    refine jq_iconst (v := (nI 1)) dL_to_20 (by decide) ?_
    refine jq_iaddN dL_to_21 ?_
    refine jq_iaddN dL_to_22 ?_
    exact xq_ireturn dL_to_23 rfl rfl (⟨by rw [tb_oth]; first | rw [if_pos d5] | (rw [if_neg d5]; rfl), rfl⟩)
  · have d5 := of_decide_eq_true (tb_b1.mp c10)
    refine jq_iconst (v := (nI 1)) dL_to_13 (by decide) ?_
    refine jq_goto (tgt := 22) dL_to_14 (by decide) ?_
    refine jq_iaddN dL_to_22 ?_
    exact xq_ireturn dL_to_23 rfl rfl (⟨by rw [tb_oth]; first | rw [if_pos d5] | (rw [if_neg d5]; rfl), rfl⟩)
set_option maxHeartbeats 4000000 in
theorem c_L_areaAt {l : Launch} {G : jq_G} {n : Nat} {ad : Nat → Nat} {X : xs_T} {w h : Nat} (hB : lr_B n w h X) (r c : Int32) : xs_Ct l G mL_areaAt 1 [.ref (ad 21), .int (r), .int (c)] n ad X (xs_pd (some (.int (lr_area w h r c))) X) := by
  refine xs_Ct_of (L := [some (.ref (ad 21)), some (.int (r)), some (.int (c))]) rfl (Nat.le_of_ble_eq_true rfl) rfl ?_
  refine jq_iload_n dL_areaAt_0 rfl rfl ?_
  refine jq_if_lt (tgt := 22) dL_areaAt_1 (by decide) (fun c1 => ?_) (fun c1 => ?_)
  · refine jq_aload_n dL_areaAt_22 rfl rfl ?_
    refine jq_iconst (v := 0) dL_areaAt_23 (by decide) ?_
    refine xq_iald dL_areaAt_24 hB.1 lr_v0 hB.2.1 ?_
    refine jq_aload_n dL_areaAt_25 rfl rfl ?_
    refine jq_iconst (v := 1) dL_areaAt_26 (by decide) ?_
    refine xq_iald dL_areaAt_27 hB.1 lr_v1 hB.2.2.1 ?_
    refine jq_imulN dL_areaAt_28 ?_
    refine jq_goto (tgt := 39) dL_areaAt_29 (by decide) ?_
    exact xq_ireturn dL_areaAt_39 rfl rfl (⟨by unfold lr_area; first | rw [if_pos (Or.inl c1)] | rw [if_pos (Or.inr (Or.inl c5))] | rw [if_pos (Or.inr (Or.inr (Or.inl c12)))] | rw [if_pos (Or.inr (Or.inr (Or.inr (fa_of_nlt c19))))] | rw [if_neg (fun q => q.elim c1 (fun q => q.elim c5 (fun q => q.elim c12 (fun q => (fa_of_lt c19).2.1 q))))], rfl⟩)
  · refine jq_iload_n dL_areaAt_4 rfl rfl ?_
    refine jq_if_lt (tgt := 22) dL_areaAt_5 (by decide) (fun c5 => ?_) (fun c5 => ?_)
    · refine jq_aload_n dL_areaAt_22 rfl rfl ?_
      refine jq_iconst (v := 0) dL_areaAt_23 (by decide) ?_
      refine xq_iald dL_areaAt_24 hB.1 lr_v0 hB.2.1 ?_
      refine jq_aload_n dL_areaAt_25 rfl rfl ?_
      refine jq_iconst (v := 1) dL_areaAt_26 (by decide) ?_
      refine xq_iald dL_areaAt_27 hB.1 lr_v1 hB.2.2.1 ?_
      refine jq_imulN dL_areaAt_28 ?_
      refine jq_goto (tgt := 39) dL_areaAt_29 (by decide) ?_
      exact xq_ireturn dL_areaAt_39 rfl rfl (⟨by unfold lr_area; first | rw [if_pos (Or.inl c1)] | rw [if_pos (Or.inr (Or.inl c5))] | rw [if_pos (Or.inr (Or.inr (Or.inl c12)))] | rw [if_pos (Or.inr (Or.inr (Or.inr (fa_of_nlt c19))))] | rw [if_neg (fun q => q.elim c1 (fun q => q.elim c5 (fun q => q.elim c12 (fun q => (fa_of_lt c19).2.1 q))))], rfl⟩)
    · refine jq_iload_n dL_areaAt_8 rfl rfl ?_
      refine jq_aload_n dL_areaAt_9 rfl rfl ?_
      refine jq_iconst (v := 1) dL_areaAt_10 (by decide) ?_
      refine xq_iald dL_areaAt_11 hB.1 lr_v1 hB.2.2.1 ?_
      refine jq_icmp_ge (tgt := 22) dL_areaAt_12 (by decide) (fun c12 => ?_) (fun c12 => ?_)
      · refine jq_aload_n dL_areaAt_22 rfl rfl ?_
        refine jq_iconst (v := 0) dL_areaAt_23 (by decide) ?_
        refine xq_iald dL_areaAt_24 hB.1 lr_v0 hB.2.1 ?_
        refine jq_aload_n dL_areaAt_25 rfl rfl ?_
        refine jq_iconst (v := 1) dL_areaAt_26 (by decide) ?_
        refine xq_iald dL_areaAt_27 hB.1 lr_v1 hB.2.2.1 ?_
        refine jq_imulN dL_areaAt_28 ?_
        refine jq_goto (tgt := 39) dL_areaAt_29 (by decide) ?_
        exact xq_ireturn dL_areaAt_39 rfl rfl (⟨by unfold lr_area; first | rw [if_pos (Or.inl c1)] | rw [if_pos (Or.inr (Or.inl c5))] | rw [if_pos (Or.inr (Or.inr (Or.inl c12)))] | rw [if_pos (Or.inr (Or.inr (Or.inr (fa_of_nlt c19))))] | rw [if_neg (fun q => q.elim c1 (fun q => q.elim c5 (fun q => q.elim c12 (fun q => (fa_of_lt c19).2.1 q))))], rfl⟩)
      · have d12 : ¬ nI h ≤ r := c12
        refine jq_iload_n dL_areaAt_15 rfl rfl ?_
        refine jq_aload_n dL_areaAt_16 rfl rfl ?_
        refine jq_iconst (v := 0) dL_areaAt_17 (by decide) ?_
        refine xq_iald dL_areaAt_18 hB.1 lr_v0 hB.2.1 ?_
        refine jq_icmp_lt (tgt := 32) dL_areaAt_19 (by decide) (fun c19 => ?_) (fun c19 => ?_)
        · refine jq_iload_n dL_areaAt_32 rfl rfl ?_
          refine jq_aload_n dL_areaAt_33 rfl rfl ?_
          refine jq_iconst (v := 0) dL_areaAt_34 (by decide) ?_
          refine xq_iald dL_areaAt_35 hB.1 lr_v0 hB.2.1 ?_
          refine jq_imul dL_areaAt_36 ?_
          refine jq_iload_n dL_areaAt_37 rfl rfl ?_
          refine jq_iadd dL_areaAt_38 ?_
          exact xq_ireturn dL_areaAt_39 rfl rfl (⟨by unfold lr_area; first | rw [if_pos (Or.inl c1)] | rw [if_pos (Or.inr (Or.inl c5))] | rw [if_pos (Or.inr (Or.inr (Or.inl c12)))] | rw [if_pos (Or.inr (Or.inr (Or.inr (fa_of_nlt c19))))] | rw [if_neg (fun q => q.elim c1 (fun q => q.elim c5 (fun q => q.elim c12 (fun q => (fa_of_lt c19).2.1 q))))], rfl⟩)
        · refine jq_aload_n dL_areaAt_22 rfl rfl ?_
          refine jq_iconst (v := 0) dL_areaAt_23 (by decide) ?_
          refine xq_iald dL_areaAt_24 hB.1 lr_v0 hB.2.1 ?_
          refine jq_aload_n dL_areaAt_25 rfl rfl ?_
          refine jq_iconst (v := 1) dL_areaAt_26 (by decide) ?_
          refine xq_iald dL_areaAt_27 hB.1 lr_v1 hB.2.2.1 ?_
          refine jq_imulN dL_areaAt_28 ?_
          refine jq_goto (tgt := 39) dL_areaAt_29 (by decide) ?_
          exact xq_ireturn dL_areaAt_39 rfl rfl (⟨by unfold lr_area; first | rw [if_pos (Or.inl c1)] | rw [if_pos (Or.inr (Or.inl c5))] | rw [if_pos (Or.inr (Or.inr (Or.inl c12)))] | rw [if_pos (Or.inr (Or.inr (Or.inr (fa_of_nlt c19))))] | rw [if_neg (fun q => q.elim c1 (fun q => q.elim c5 (fun q => q.elim c12 (fun q => (fa_of_lt c19).2.1 q))))], rfl⟩)
set_option maxHeartbeats 4000000 in
theorem c_L_ahead {l : Launch} {G : jq_G} {n : Nat} {ad : Nat → Nat} {X : xs_T} {w h : Nat} (hB : lr_B n w h X) {e : Nat} (he : e < tb_ne w h) : xs_Ct l G mL_ahead 3 [.ref (ad 21), .int (nI (e))] n ad X (xs_pd (some (.int (nI (tb_are w h e)))) X) := by
  have hz := lr_sz hB.2.2.2
  have hq := (lr_edge hB.2.2.2 e (by omega) he).2.2.2.2.2.2
  refine xs_Ct_of (L := [some (.ref (ad 21)), some (.int (nI (e)))]) rfl (Nat.le_of_ble_eq_true rfl) rfl ?_
  refine jq_aload_n dL_ahead_0 rfl rfl ?_
  refine jq_iload_n dL_ahead_1 rfl rfl ?_
  refine xq_sI dL_ahead_2 kL_9 (c_L_isFlat hB he) rfl rfl (Nat.le_of_ble_eq_true rfl) ⟨⟨by decide, by decide⟩, Nat.le_refl _, Nat.le_refl _⟩ ?_
  refine jq_if_eq (tgt := 27) dL_ahead_5 (by decide) (fun c5 => ?_) (fun c5 => ?_)
  · have d5 := of_decide_eq_false (tb_b0.mp c5)
    refine jq_aload_n dL_ahead_27 rfl rfl ?_
    refine jq_aload_n dL_ahead_28 rfl rfl ?_
    refine jq_iload_n dL_ahead_29 rfl rfl ?_
    refine xq_sI dL_ahead_30 kL_15 (c_L_row hB he) rfl rfl (Nat.le_of_ble_eq_true rfl) ⟨⟨by decide, by decide⟩, Nat.le_refl _, Nat.le_refl _⟩ ?_
    refine jq_aload_n dL_ahead_33 rfl rfl ?_
    refine jq_iload_n dL_ahead_34 rfl rfl ?_
    refine xq_sI dL_ahead_35 kL_19 (c_L_column hB he) rfl rfl (Nat.le_of_ble_eq_true rfl) ⟨⟨by decide, by decide⟩, Nat.le_refl _, Nat.le_refl _⟩ ?_
    refine jq_iconst (v := (nI 1)) dL_ahead_38 (by decide) ?_
    refine jq_isub dL_ahead_39 ?_
    refine xq_sI dL_ahead_40 kL_25 (c_L_areaAt hB _ _) rfl rfl (Nat.le_of_ble_eq_true rfl) ⟨⟨by decide, by decide⟩, Nat.le_refl _, Nat.le_refl _⟩ ?_
    exact xq_ireturn dL_ahead_43 rfl rfl (⟨by first | rw [hq.1 d5] | rw [hq.2.1 d5], rfl⟩)
  · have d5 := of_decide_eq_true (tb_b1.mp c5)
    refine jq_aload_n dL_ahead_8 rfl rfl ?_
    refine jq_aload_n dL_ahead_9 rfl rfl ?_
    refine jq_iload_n dL_ahead_10 rfl rfl ?_
    refine xq_sI dL_ahead_11 kL_15 (c_L_row hB he) rfl rfl (Nat.le_of_ble_eq_true rfl) ⟨⟨by decide, by decide⟩, Nat.le_refl _, Nat.le_refl _⟩ ?_
    refine jq_iconst (v := (nI 1)) dL_ahead_14 (by decide) ?_
    refine jq_isub dL_ahead_15 ?_
    refine jq_aload_n dL_ahead_16 rfl rfl ?_
    refine jq_iload_n dL_ahead_17 rfl rfl ?_
    refine xq_sI dL_ahead_18 kL_19 (c_L_column hB he) rfl rfl (Nat.le_of_ble_eq_true rfl) ⟨⟨by decide, by decide⟩, Nat.le_refl _, Nat.le_refl _⟩ ?_
    refine xq_sI dL_ahead_21 kL_25 (c_L_areaAt hB _ _) rfl rfl (Nat.le_of_ble_eq_true rfl) ⟨⟨by decide, by decide⟩, Nat.le_refl _, Nat.le_refl _⟩ ?_
    refine jq_goto (tgt := 43) dL_ahead_24 (by decide) ?_
    exact xq_ireturn dL_ahead_43 rfl rfl (⟨by first | rw [hq.1 d5] | rw [hq.2.1 d5], rfl⟩)
set_option maxHeartbeats 4000000 in
theorem c_L_behind {l : Launch} {G : jq_G} {n : Nat} {ad : Nat → Nat} {X : xs_T} {w h : Nat} (hB : lr_B n w h X) {e : Nat} (he : e < tb_ne w h) : xs_Ct l G mL_behind 3 [.ref (ad 21), .int (nI (e))] n ad X (xs_pd (some (.int (nI (tb_bes w h e)))) X) := by
  have hz := lr_sz hB.2.2.2
  have hq := (lr_edge hB.2.2.2 e (by omega) he).2.2.2.2.2.2
  refine xs_Ct_of (L := [some (.ref (ad 21)), some (.int (nI (e)))]) rfl (Nat.le_of_ble_eq_true rfl) rfl ?_
  refine jq_aload_n dL_behind_0 rfl rfl ?_
  refine jq_aload_n dL_behind_1 rfl rfl ?_
  refine jq_iload_n dL_behind_2 rfl rfl ?_
  refine xq_sI dL_behind_3 kL_15 (c_L_row hB he) rfl rfl (Nat.le_of_ble_eq_true rfl) ⟨⟨by decide, by decide⟩, Nat.le_refl _, Nat.le_refl _⟩ ?_
  refine jq_aload_n dL_behind_6 rfl rfl ?_
  refine jq_iload_n dL_behind_7 rfl rfl ?_
  refine xq_sI dL_behind_8 kL_19 (c_L_column hB he) rfl rfl (Nat.le_of_ble_eq_true rfl) ⟨⟨by decide, by decide⟩, Nat.le_refl _, Nat.le_refl _⟩ ?_
  refine xq_sI dL_behind_11 kL_25 (c_L_areaAt hB _ _) rfl rfl (Nat.le_of_ble_eq_true rfl) ⟨⟨by decide, by decide⟩, Nat.le_refl _, Nat.le_refl _⟩ ?_
  exact xq_ireturn dL_behind_14 rfl rfl (⟨by rw [hq.2.2], rfl⟩)
set_option maxHeartbeats 4000000 in
theorem c_L_side {l : Launch} {G : jq_G} {n : Nat} {ad : Nat → Nat} {X : xs_T} {w h : Nat} (hB : lr_B n w h X) {c s : Nat} (hc : c < tb_nc w h) (hs : s < 4) : xs_Ct l G mL_side 1 [.ref (ad 21), .int (nI (c)), .int (nI (s))] n ad X (xs_pd (some (.int (nI (tb_sid w h c s)))) X) := by
  have hz := lr_sz hB.2.2.2
  have hk := hB.2.2.2
  have hq := lr_sid hk c (by omega) s hs hc
  unfold lr_k at hk
  refine xs_Ct_of (L := [some (.ref (ad 21)), some (.int (nI (c))), some (.int (nI (s))), none, none]) rfl (Nat.le_of_ble_eq_true rfl) rfl ?_
  refine jq_iload_n dL_side_0 rfl rfl ?_
  refine jq_aload_n dL_side_1 rfl rfl ?_
  refine jq_iconst (v := (nI 0)) dL_side_2 (by decide) ?_
  refine xq_iald dL_side_3 hB.1 lr_v0 hB.2.1 ?_
  refine jq_idivN dL_side_4 (⟨by omega, by omega, by omega⟩) ?_
  refine jq_istore_n dL_side_5 rfl (by decide) rfl rfl ?_
  refine jq_iload_n dL_side_6 rfl rfl ?_
  refine jq_aload_n dL_side_7 rfl rfl ?_
  refine jq_iconst (v := (nI 0)) dL_side_8 (by decide) ?_
  refine xq_iald dL_side_9 hB.1 lr_v0 hB.2.1 ?_
  refine jq_iremN dL_side_10 (⟨by omega, by omega, by omega⟩) ?_
  refine jq_istore dL_side_11 (by decide) rfl rfl ?_
  refine jq_iload_n dL_side_13 rfl rfl ?_
  refine jq_iconst (v := (nI 2)) dL_side_14 (by decide) ?_
  refine jq_geN (tgt := 31) dL_side_15 (by decide) ⟨by omega, by omega⟩ (fun c15 => ?_) (fun c15 => ?_)
  · refine jq_aload_n dL_side_31 rfl rfl ?_
    refine jq_iconst (v := (nI 1)) dL_side_32 (by decide) ?_
    refine xq_iald dL_side_33 hB.1 lr_v1 hB.2.2.1 ?_
    refine jq_iconst (v := (nI 1)) dL_side_34 (by decide) ?_
    refine jq_iaddN dL_side_35 ?_
    refine jq_aload_n dL_side_36 rfl rfl ?_
    refine jq_iconst (v := (nI 0)) dL_side_37 (by decide) ?_
    refine xq_iald dL_side_38 hB.1 lr_v0 hB.2.1 ?_
    refine jq_imulN dL_side_39 ?_
    refine jq_iload_n dL_side_40 rfl rfl ?_
    refine jq_aload_n dL_side_41 rfl rfl ?_
    refine jq_iconst (v := (nI 0)) dL_side_42 (by decide) ?_
    refine xq_iald dL_side_43 hB.1 lr_v0 hB.2.1 ?_
    refine jq_iconst (v := (nI 1)) dL_side_44 (by decide) ?_
    refine jq_iaddN dL_side_45 ?_
    refine jq_imulN dL_side_46 ?_
    refine jq_iaddN dL_side_47 ?_
    refine jq_iload dL_side_48 rfl ?_
    refine jq_iaddN dL_side_50 ?_
    refine jq_iload_n dL_side_51 rfl rfl ?_
    refine jq_iaddN dL_side_52 ?_
    refine jq_iconst (v := (nI 2)) dL_side_53 (by decide) ?_
    refine jq_isubN dL_side_54 ((hq.2.2 (by omega)).1) ?_
    exact xq_ireturn dL_side_55 rfl rfl (⟨by first | rw [hq.2.1 (by omega)] | rw [(hq.2.2 (by omega)).2], rfl⟩)
  · refine jq_iload_n dL_side_18 rfl rfl ?_
    refine jq_iload_n dL_side_19 rfl rfl ?_
    refine jq_iaddN dL_side_20 ?_
    refine jq_aload_n dL_side_21 rfl rfl ?_
    refine jq_iconst (v := (nI 0)) dL_side_22 (by decide) ?_
    refine xq_iald dL_side_23 hB.1 lr_v0 hB.2.1 ?_
    refine jq_imulN dL_side_24 ?_
    refine jq_iload dL_side_25 rfl ?_
    refine jq_iaddN dL_side_27 ?_
    refine jq_goto (tgt := 55) dL_side_28 (by decide) ?_
    exact xq_ireturn dL_side_55 rfl rfl (⟨by first | rw [hq.2.1 (by omega)] | rw [(hq.2.2 (by omega)).2], rfl⟩)
