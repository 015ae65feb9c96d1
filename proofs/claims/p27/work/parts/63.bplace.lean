set_option maxHeartbeats 4000000 in
theorem c_X0_placeCells {l : Launch} {G : jq_G} {n : Nat} {ad : Nat → Nat} {X : xs_T} (hn : 21 ≤ n) {w h : Nat} (hW : tb_W w h) (hF : dv_FF w h X) : xs_Ct l G mX0_placeCells 1 [.ref (ad 1)] n ad X (xs_pv (fun X' => xs_fr [9, 10] [] X X' ∧ ∀ c, c < tb_nc w h → X'.2.2.1 9 c = nI (dv_cor w c) ∧ X'.2.2.2 10 c = lN (dv_up w c))) := by
  have hz := tb_sizes hW
  have hW2 := hW
  obtain ⟨hw1, hw2, hh1, hh2⟩ := hW2
  have loop : ∀ (k r : Nat) (o2 o3 : Option Value) (Y : xs_T), r + k = h → xs_fr [9, 10] [] X Y → (∀ j, j < r * w → Y.2.2.1 9 j = nI (dv_cor w j) ∧ Y.2.2.2 10 j = lN (dv_up w j)) → jq_J l G mX0_placeCells (jq_R 1 0 0) jq_E0 (xs_Ye G n ad (xs_pv (fun X' => xs_fr [9, 10] [] X X' ∧ ∀ c, c < tb_nc w h → X'.2.2.1 9 c = nI (dv_cor w c) ∧ X'.2.2.2 10 c = lN (dv_up w c)))) 2 [some (.ref (ad 1)), some (.int (nI (r))), o2, o3] [] n ad (xs_mem G ad Y) 0 0 := by
    intro k
    induction k with
    | zero =>
      intro r o2 o3 Y hk hf hY
      have hF2 := dv_ffr hF hf
      have e1 : r = h := by omega
      subst e1
      refine jq_iload_n dX0_placeCells_2 rfl rfl ?_
      refine jq_aload_n dX0_placeCells_3 rfl rfl ?_
      refine xq_getI fX0_44 dX0_placeCells_4 (xs_lt (by decide) hn) (by decide) hF2.2.1 ?_
      refine jq_geN (tgt := 86) dX0_placeCells_7 (by decide) ⟨by omega, by omega⟩ (fun c7 => ?_) (fun c7 => ?_)
      · exact xq_return rfl dX0_placeCells_86 rfl (⟨rfl, hf, fun c hc => hY c (by rw [Nat.mul_comm]; exact hc)⟩)
      · exact absurd c7 (by omega)
    | succ k ih =>
      intro r o2 o3 Y hk hf hY
      have inner : ∀ (k2 c : Nat) (o3 : Option Value) (Y : xs_T), c + k2 = w → xs_fr [9, 10] [] X Y → (∀ j, j < r * w + c → Y.2.2.1 9 j = nI (dv_cor w j) ∧ Y.2.2.2 10 j = lN (dv_up w j)) → jq_J l G mX0_placeCells (jq_R 1 0 0) jq_E0 (xs_Ye G n ad (xs_pv (fun X' => xs_fr [9, 10] [] X X' ∧ ∀ c, c < tb_nc w h → X'.2.2.1 9 c = nI (dv_cor w c) ∧ X'.2.2.2 10 c = lN (dv_up w c)))) 12 [some (.ref (ad 1)), some (.int (nI (r))), some (.int (nI (c))), o3] [] n ad (xs_mem G ad Y) 0 0 := by
        intro k2
        induction k2 with
        | zero =>
          intro c o3 Y hk2 hf hY
          have hF2 := dv_ffr hF hf
          rw [show r * w + c = (r + 1) * w by rw [Nat.succ_mul]; omega] at hY
          refine jq_iload_n dX0_placeCells_12 rfl rfl ?_
          refine jq_aload_n dX0_placeCells_13 rfl rfl ?_
          refine xq_getI fX0_40 dX0_placeCells_14 (xs_lt (by decide) hn) (by decide) hF2.1 ?_
          refine jq_geN (tgt := 80) dX0_placeCells_17 (by decide) ⟨by omega, by omega⟩ (fun c17 => ?_) (fun c17 => ?_)
          · refine jq_iincN dX0_placeCells_80 (by decide) rfl rfl rfl ?_
            refine jq_goto (tgt := 2) dX0_placeCells_83 (by decide) ?_
            exact ih (r + 1) _ _ Y (by omega) hf hY
          · exact absurd c17 (by omega)
        | succ k2 ih2 =>
          intro c o3 Y hk2 hf hY
          have hF2 := dv_ffr hF hf
          have hlt : r * w + c < tb_nc w h := by
            have := tb_mul_lt (w := w) (c := c) (show r < h by omega) (by omega)
            rw [Nat.mul_comm h w] at this
            exact this
          have hcor : dv_cor w (r * w + c) = r * (w + 1) + c := by
            obtain ⟨d1, d2⟩ := tb_div (r := r) (show c < w by omega)
            unfold dv_cor
            rw [d1, d2]
          have hup := dv_up_s (r := r) (c := c) ⟨hw1, hw2⟩ (by omega) (by omega)
          have hge : 0 < r → w ≤ r * w + c := fun q => Nat.le_trans (Nat.le_mul_of_pos_left w q) (Nat.le_add_right _ _)
          generalize hCC : r * w + c = C at *
          have hi : vp_in (nI C) 16 := vp_inN (by omega) (by decide)
          have hpc : 2 ^ C < 2 ^ 16 := Nat.pow_lt_pow_right (by decide) (by omega)
          have h72 : ∀ x : Nat, x < 2 ^ 16 → x = (if 0 < r then dv_up w (C - w) else 0) → jq_J l G mX0_placeCells (jq_R 1 0 0) jq_E0 (xs_Ye G n ad (xs_pv (fun X' => xs_fr [9, 10] [] X X' ∧ ∀ c, c < tb_nc w h → X'.2.2.1 9 c = nI (dv_cor w c) ∧ X'.2.2.2 10 c = lN (dv_up w c)))) 72 [some (.ref (ad 1)), some (.int (nI (r))), some (.int (nI (c))), some (.int (nI (C)))] [.long (lN x), .long (lN (2 ^ C)), .int (nI (C)), .ref (ad 10)] n ad (xs_mem G ad (xs_ai Y 9 (upd (Y.2.2.1 9) (nI C).toNatClampNeg (nI (r * (w + 1) + c))))) 0 0 := by
            intro x hx2 hx
            rw [← hx] at hup
            refine jq_lor dX0_placeCells_72 ?_
            rw [wb_or (by omega) (by omega)]
            refine xq_lastore dX0_placeCells_73 (xs_lt (by decide) hn) rfl hi ?_
            refine jq_iincN dX0_placeCells_74 (by decide) rfl rfl rfl ?_
            refine jq_goto (tgt := 12) dX0_placeCells_77 (by decide) ?_
            refine ih2 (c + 1) _ _ (by omega) (xs_fr_al (xs_fr_ai hf (by decide)) (by decide)) (fun j hj => ?_)
            rw [xs_al_I, xs_ai_at, xs_al_at, xs_ai_L]
            rcases Nat.lt_or_ge j C with q | q
            · rw [xs_upd_ne (by omega) (by omega), xs_updL_ne (by omega) (by omega)]; exact hY j q
            · have e1 : j = C := by omega
              subst e1
              rw [xs_upd_at (by omega), xs_updL_at (by omega), hcor, hup]; exact ⟨rfl, rfl⟩
          refine jq_iload_n dX0_placeCells_12 rfl rfl ?_
          refine jq_aload_n dX0_placeCells_13 rfl rfl ?_
          refine xq_getI fX0_40 dX0_placeCells_14 (xs_lt (by decide) hn) (by decide) hF2.1 ?_
          refine jq_geN (tgt := 80) dX0_placeCells_17 (by decide) ⟨by omega, by omega⟩ (fun c17 => ?_) (fun c17 => ?_)
          · exact absurd c17 (by omega)
          · refine jq_iload_n dX0_placeCells_20 rfl rfl ?_
            refine jq_aload_n dX0_placeCells_21 rfl rfl ?_
            refine xq_getI fX0_40 dX0_placeCells_22 (xs_lt (by decide) hn) (by decide) hF2.1 ?_
            refine jq_imulN dX0_placeCells_25 ?_
            refine jq_iload_n dX0_placeCells_26 rfl rfl ?_
            refine jq_iaddN dX0_placeCells_27 ?_
            rw [hCC]
            refine jq_istore_n dX0_placeCells_28 rfl (by decide) rfl rfl ?_
            refine jq_aload_n dX0_placeCells_29 rfl rfl ?_
            refine xq_getR 9 fX0_34 dX0_placeCells_30 (xs_lt (by decide) hn) (by decide) ?_
            refine jq_iload_n dX0_placeCells_33 rfl rfl ?_
            refine jq_iload_n dX0_placeCells_34 rfl rfl ?_
            refine jq_aload_n dX0_placeCells_35 rfl rfl ?_
            refine xq_getI fX0_40 dX0_placeCells_36 (xs_lt (by decide) hn) (by decide) hF2.1 ?_
            refine jq_iconst (v := (nI 1)) dX0_placeCells_39 (by decide) ?_
            refine jq_iaddN dX0_placeCells_40 ?_
            refine jq_imulN dX0_placeCells_41 ?_
            refine jq_iload_n dX0_placeCells_42 rfl rfl ?_
            refine jq_iaddN dX0_placeCells_43 ?_
            refine xq_iastore dX0_placeCells_44 (xs_lt (by decide) hn) rfl hi ?_
            refine jq_aload_n dX0_placeCells_45 rfl rfl ?_
            refine xq_getR 10 fX0_37 dX0_placeCells_46 (xs_lt (by decide) hn) (by decide) ?_
            refine jq_iload_n dX0_placeCells_49 rfl rfl ?_
            refine jq_lconst (v := (lN 1)) dX0_placeCells_50 (by decide) ?_
            refine jq_iload_n dX0_placeCells_51 rfl rfl ?_
            refine jq_lshl dX0_placeCells_52 (wb_shl 1 (show C < 64 by omega)) ?_
            rw [Nat.one_mul]
            refine jq_iload_n dX0_placeCells_53 rfl rfl ?_
            refine jq_leZ (tgt := 71) dX0_placeCells_54 (by decide) (by omega) (fun c54 => ?_) (fun c54 => ?_)
            · refine jq_lconst (v := (lN 0)) dX0_placeCells_71 (by decide) ?_
              first
                | (have q : ¬ 0 < r := by omega
                   exact h72 0 (Nat.two_pow_pos 16) (if_neg q).symm)
                | (have q : 0 < r := by omega
                   exact h72 (dv_up w (C - w)) (dv_up_lt _ _) (if_pos q).symm)
            · refine jq_aload_n dX0_placeCells_57 rfl rfl ?_
              refine xq_getR 10 fX0_37 dX0_placeCells_58 (xs_lt (by decide) hn) (by decide) ?_
              refine jq_iload_n dX0_placeCells_61 rfl rfl ?_
              refine jq_aload_n dX0_placeCells_62 rfl rfl ?_
              refine xq_getI fX0_40 dX0_placeCells_63 (xs_lt (by decide) hn) (by decide) hF2.1 ?_
              refine jq_isubN dX0_placeCells_66 (hge (by omega)) ?_
              refine xq_laload dX0_placeCells_67 (xs_lt (by decide) hn) rfl (vp_inN (show C - w < 16 by omega) (by decide)) (xs_rdL (hY (C - w) (by omega)).2 (by omega)) ?_
              refine jq_goto (tgt := 72) dX0_placeCells_68 (by decide) ?_
              first
                | (have q : ¬ 0 < r := by omega
                   exact h72 0 (Nat.two_pow_pos 16) (if_neg q).symm)
                | (have q : 0 < r := by omega
                   exact h72 (dv_up w (C - w)) (dv_up_lt _ _) (if_pos q).symm)
      have hF2 := dv_ffr hF hf
      refine jq_iload_n dX0_placeCells_2 rfl rfl ?_
      refine jq_aload_n dX0_placeCells_3 rfl rfl ?_
      refine xq_getI fX0_44 dX0_placeCells_4 (xs_lt (by decide) hn) (by decide) hF2.2.1 ?_
      refine jq_geN (tgt := 86) dX0_placeCells_7 (by decide) ⟨by omega, by omega⟩ (fun c7 => ?_) (fun c7 => ?_)
      · exact absurd c7 (by omega)
      · refine jq_iconst (v := (nI 0)) dX0_placeCells_10 (by decide) ?_
        refine jq_istore_n dX0_placeCells_11 rfl (by decide) rfl rfl ?_
        exact inner w 0 _ Y (by omega) hf hY
  refine xs_Ct_of (L := [some (.ref (ad 1)), none, none, none]) rfl (Nat.le_of_ble_eq_true rfl) rfl ?_
  refine jq_iconst (v := (nI 0)) dX0_placeCells_0 (by decide) ?_
  refine jq_istore_n dX0_placeCells_1 rfl (by decide) rfl rfl ?_
  exact loop h 0 _ _ X (by omega) xs_fr_rf (fun j hj => absurd hj (by rw [Nat.zero_mul]; exact Nat.not_lt_zero j))
