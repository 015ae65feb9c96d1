theorem lN_sub1 {a : Nat} (h : 1 ≤ a) : lN a - lN 1 = lN (a - 1) := by
  apply wb_inj
  rw [Int64.toBitVec_sub, wb_tb, wb_tb, wb_tb]
  apply BitVec.eq_of_toNat_eq
  rw [BitVec.toNat_sub, BitVec.toNat_ofNat, BitVec.toNat_ofNat, BitVec.toNat_ofNat]
  omega
theorem xs_sl_I {X : xs_T} {q k : Nat} {v : Int64} : (xs_sl X q k v).1 = X.1 := rfl
theorem dv_up_s {w r c : Nat} (hw : 1 ≤ w ∧ w ≤ 4) (hr : r < 4) (hc : c < w) : dv_up w (r * w + c) = 2 ^ (r * w + c) ||| (if 0 < r then dv_up w (r * w + c - w) else 0) := by
  have H : ∀ w, w < 5 → 1 ≤ w → ∀ r, r < 4 → ∀ c, c < w → dv_up w (r * w + c) = 2 ^ (r * w + c) ||| (if 0 < r then dv_up w (r * w + c - w) else 0) := by decide +kernel
  exact H w (by omega) hw.1 r hr c hc
theorem dv_up_lt (w c : Nat) : dv_up w c < 2 ^ 16 := bm_lt _ _
set_option maxHeartbeats 4000000 in
theorem c_X0_edgeAt {l : Launch} {G : jq_G} {n : Nat} {ad : Nat → Nat} {X : xs_T} (hn : 21 ≤ n) {w h : Nat} (hT : dv_T w h X) {c s : Nat} (hc : c < tb_nc w h) (hs : s < 4) : xs_Ct l G mX0_edgeAt 1 [.ref (ad 1), .int (nI (c)), .int (nI (s))] n ad X (xs_pd (some (.int (nI (tb_sid w h c s)))) X) := by
  have hz := tb_sizes hT.1
  have hi : vp_in (nI c) 16 := vp_inN (by omega) (by decide)
  have hco := (hT.2.2.2.2.2 c hc).1
  have h28 : s = 0 → jq_J l G mX0_edgeAt (jq_R 1 0 0) jq_E0 (xs_Ye G n ad (xs_pd (some (.int (nI (tb_sid w h c s)))) X)) 28 [some (.ref (ad 1)), some (.int (nI (c))), some (.int (nI (s)))] [] n ad (xs_mem G ad X) 0 0 := by
    intro q
    refine jq_iload_n dX0_edgeAt_28 rfl rfl ?_
    exact xq_ireturn dX0_edgeAt_29 rfl rfl (⟨by rw [q]; rfl, rfl⟩)
  have h30 : s = 1 → jq_J l G mX0_edgeAt (jq_R 1 0 0) jq_E0 (xs_Ye G n ad (xs_pd (some (.int (nI (tb_sid w h c s)))) X)) 30 [some (.ref (ad 1)), some (.int (nI (c))), some (.int (nI (s)))] [] n ad (xs_mem G ad X) 0 0 := by
    intro q
    refine jq_iload_n dX0_edgeAt_30 rfl rfl ?_
    refine jq_aload_n dX0_edgeAt_31 rfl rfl ?_
    refine xq_getI fX0_40 dX0_edgeAt_32 (xs_lt (by decide) hn) (by decide) hT.2.1.1 ?_
    refine jq_iaddN dX0_edgeAt_35 ?_
    exact xq_ireturn dX0_edgeAt_36 rfl rfl (⟨by rw [q]; rfl, rfl⟩)
  have h37 : s = 2 → jq_J l G mX0_edgeAt (jq_R 1 0 0) jq_E0 (xs_Ye G n ad (xs_pd (some (.int (nI (tb_sid w h c s)))) X)) 37 [some (.ref (ad 1)), some (.int (nI (c))), some (.int (nI (s)))] [] n ad (xs_mem G ad X) 0 0 := by
    intro q
    refine jq_aload_n dX0_edgeAt_37 rfl rfl ?_
    refine xq_getI fX0_53 dX0_edgeAt_38 (xs_lt (by decide) hn) (by decide) hT.2.1.2.2.2.2.2.1 ?_
    refine jq_aload_n dX0_edgeAt_41 rfl rfl ?_
    refine xq_getR 9 fX0_34 dX0_edgeAt_42 (xs_lt (by decide) hn) (by decide) ?_
    refine jq_iload_n dX0_edgeAt_45 rfl rfl ?_
    refine xq_iaload dX0_edgeAt_46 (xs_lt (by decide) hn) rfl hi (xs_rd hco (by omega)) ?_
    refine jq_iaddN dX0_edgeAt_47 ?_
    exact xq_ireturn dX0_edgeAt_48 rfl rfl (⟨by rw [q]; rfl, rfl⟩)
  have h49 : s = 3 → jq_J l G mX0_edgeAt (jq_R 1 0 0) jq_E0 (xs_Ye G n ad (xs_pd (some (.int (nI (tb_sid w h c s)))) X)) 49 [some (.ref (ad 1)), some (.int (nI (c))), some (.int (nI (s)))] [] n ad (xs_mem G ad X) 0 0 := by
    intro q
    refine jq_aload_n dX0_edgeAt_49 rfl rfl ?_
    refine xq_getI fX0_53 dX0_edgeAt_50 (xs_lt (by decide) hn) (by decide) hT.2.1.2.2.2.2.2.1 ?_
    refine jq_aload_n dX0_edgeAt_53 rfl rfl ?_
    refine xq_getR 9 fX0_34 dX0_edgeAt_54 (xs_lt (by decide) hn) (by decide) ?_
    refine jq_iload_n dX0_edgeAt_57 rfl rfl ?_
    refine xq_iaload dX0_edgeAt_58 (xs_lt (by decide) hn) rfl hi (xs_rd hco (by omega)) ?_
    refine jq_iaddN dX0_edgeAt_59 ?_
    refine jq_iconst (v := (nI 1)) dX0_edgeAt_60 (by decide) ?_
    refine jq_iaddN dX0_edgeAt_61 ?_
    exact xq_ireturn dX0_edgeAt_62 rfl rfl (⟨by rw [q]; rfl, rfl⟩)
  refine xs_Ct_of (L := [some (.ref (ad 1)), some (.int (nI (c))), some (.int (nI (s)))]) rfl (Nat.le_of_ble_eq_true rfl) rfl ?_
  refine jq_iload_n dX0_edgeAt_0 rfl rfl ?_
  have h4 : s = 0 ∨ s = 1 ∨ s = 2 ∨ s = 3 := by omega
  rcases h4 with q | q | q | q
  · refine jq_tableIn (off := 27) (tgt := 28) dX0_edgeAt_1 (by rw [q]; decide) (by rw [q]; decide) (by rw [q]; rfl) rfl (h28 q)
  · refine jq_tableIn (off := 29) (tgt := 30) dX0_edgeAt_1 (by rw [q]; decide) (by rw [q]; decide) (by rw [q]; rfl) rfl (h30 q)
  · refine jq_tableIn (off := 36) (tgt := 37) dX0_edgeAt_1 (by rw [q]; decide) (by rw [q]; decide) (by rw [q]; rfl) rfl (h37 q)
  · refine jq_tableOut (tgt := 49) dX0_edgeAt_1 (by rw [q]; decide) rfl (h49 q)
set_option maxHeartbeats 4000000 in
theorem c_X0_placeCells {l : Launch} {G : jq_G} {n : Nat} {ad : Nat → Nat} {X : xs_T} (hn : 21 ≤ n) {w h : Nat} (hW : tb_W w h) (hF : dv_FF w h X) : xs_Ct l G mX0_placeCells 1 [.ref (ad 1)] n ad X (xs_pv (fun X' => xs_fr [9, 10] [] X X' ∧ ∀ c, c < tb_nc w h → X'.2.2.1 9 c = nI (dv_cor w c) ∧ X'.2.2.2 10 c = lN (dv_up w c))) := by
  have hz := tb_sizes hW
  have hW2 := hW
  obtain ⟨hw1, hw2, hh1, hh2⟩ := hW2
  have loop : ∀ (k r : Nat) (o2 o3 : Option Value) (Y : xs_T), r + k = h → xs_fr [9, 10] [] X Y → (∀ j, j < r * w → Y.2.2.1 9 j = nI (dv_cor w j) ∧ Y.2.2.2 10 j = lN (dv_up w j)) → jq_J l G mX0_placeCells (jq_R 1 0 0) jq_E0 (xs_Ye G n ad (xs_pv (fun X' => xs_fr [9, 10] [] X X' ∧ ∀ c, c < tb_nc w h → X'.2.2.1 9 c = nI (dv_cor w c) ∧ X'.2.2.2 10 c = lN (dv_up w c)))) 2 [some (.ref (ad 1)), some (.int (nI (r))), o2, o3] [] n ad (xs_mem G ad Y) 0 0 := by
    intro k
    induction k with
    | zero =>
      intro r o2 o3 Y hk hf hY
      have hF2 := dv_ffr hF hf
      have e1 : r = h := by omega
      subst e1
      refine jq_iload_n dX0_placeCells_2 rfl rfl ?_
      refine jq_aload_n dX0_placeCells_3 rfl rfl ?_
      refine xq_getI fX0_44 dX0_placeCells_4 (xs_lt (by decide) hn) (by decide) hF2.2.1 ?_
      refine jq_geN (tgt := 86) dX0_placeCells_7 (by decide) ⟨by omega, by omega⟩ (fun c7 => ?_) (fun c7 => ?_)
      · exact xq_return rfl dX0_placeCells_86 rfl (⟨rfl, hf, fun c hc => hY c (by rw [Nat.mul_comm]; exact hc)⟩)
      · exact absurd c7 (by omega)
    | succ k ih =>
      intro r o2 o3 Y hk hf hY
      have inner : ∀ (k2 c : Nat) (o3 : Option Value) (Y : xs_T), c + k2 = w → xs_fr [9, 10] [] X Y → (∀ j, j < r * w + c → Y.2.2.1 9 j = nI (dv_cor w j) ∧ Y.2.2.2 10 j = lN (dv_up w j)) → jq_J l G mX0_placeCells (jq_R 1 0 0) jq_E0 (xs_Ye G n ad (xs_pv (fun X' => xs_fr [9, 10] [] X X' ∧ ∀ c, c < tb_nc w h → X'.2.2.1 9 c = nI (dv_cor w c) ∧ X'.2.2.2 10 c = lN (dv_up w c)))) 12 [some (.ref (ad 1)), some (.int (nI (r))), some (.int (nI (c))), o3] [] n ad (xs_mem G ad Y) 0 0 := by
        intro k2
        induction k2 with
        | zero =>
          intro c o3 Y hk2 hf hY
          have hF2 := dv_ffr hF hf
          rw [show r * w + c = (r + 1) * w by rw [Nat.succ_mul]; omega] at hY
          refine jq_iload_n dX0_placeCells_12 rfl rfl ?_
          refine jq_aload_n dX0_placeCells_13 rfl rfl ?_
          refine xq_getI fX0_40 dX0_placeCells_14 (xs_lt (by decide) hn) (by decide) hF2.1 ?_
          refine jq_geN (tgt := 80) dX0_placeCells_17 (by decide) ⟨by omega, by omega⟩ (fun c17 => ?_) (fun c17 => ?_)
          · refine jq_iincN dX0_placeCells_80 (by decide) rfl rfl rfl ?_
            refine jq_goto (tgt := 2) dX0_placeCells_83 (by decide) ?_
            exact ih (r + 1) _ _ Y (by omega) hf hY
          · exact absurd c17 (by omega)
        | succ k2 ih2 =>
          intro c o3 Y hk2 hf hY
          have hF2 := dv_ffr hF hf
          have hlt : r * w + c < tb_nc w h := by
            have := tb_mul_lt (w := w) (c := c) (show r < h by omega) (by omega)
            rw [Nat.mul_comm h w] at this
            exact this
          have hcor : dv_cor w (r * w + c) = r * (w + 1) + c := by
            obtain ⟨d1, d2⟩ := tb_div (r := r) (show c < w by omega)
            unfold dv_cor
            rw [d1, d2]
          have hup := dv_up_s (r := r) (c := c) ⟨hw1, hw2⟩ (by omega) (by omega)
          have hge : 0 < r → w ≤ r * w + c := fun q => Nat.le_trans (Nat.le_mul_of_pos_left w q) (Nat.le_add_right _ _)
          generalize hCC : r * w + c = C at *
          have hi : vp_in (nI C) 16 := vp_inN (by omega) (by decide)
          have hpc : 2 ^ C < 2 ^ 16 := Nat.pow_lt_pow_right (by decide) (by omega)
          have h72 : ∀ x : Nat, x < 2 ^ 16 → x = (if 0 < r then dv_up w (C - w) else 0) → jq_J l G mX0_placeCells (jq_R 1 0 0) jq_E0 (xs_Ye G n ad (xs_pv (fun X' => xs_fr [9, 10] [] X X' ∧ ∀ c, c < tb_nc w h → X'.2.2.1 9 c = nI (dv_cor w c) ∧ X'.2.2.2 10 c = lN (dv_up w c)))) 72 [some (.ref (ad 1)), some (.int (nI (r))), some (.int (nI (c))), some (.int (nI (C)))] [.long (lN x), .long (lN (2 ^ C)), .int (nI (C)), .ref (ad 10)] n ad (xs_mem G ad (xs_ai Y 9 (upd (Y.2.2.1 9) (nI C).toNatClampNeg (nI (r * (w + 1) + c))))) 0 0 := by
            intro x hx2 hx
            rw [← hx] at hup
            refine jq_lor dX0_placeCells_72 ?_
            rw [wb_or (by omega) (by omega)]
            refine xq_lastore dX0_placeCells_73 (xs_lt (by decide) hn) rfl hi ?_
            refine jq_iincN dX0_placeCells_74 (by decide) rfl rfl rfl ?_
            refine jq_goto (tgt := 12) dX0_placeCells_77 (by decide) ?_
            refine ih2 (c + 1) _ _ (by omega) (xs_fr_al (xs_fr_ai hf (by decide)) (by decide)) (fun j hj => ?_)
            rw [xs_al_I, xs_ai_at, xs_al_at, xs_ai_L]
            rcases Nat.lt_or_ge j C with q | q
            · rw [xs_upd_ne (by omega) (by omega), xs_updL_ne (by omega) (by omega)]; exact hY j q
            · have e1 : j = C := by omega
              subst e1
              rw [xs_upd_at (by omega), xs_updL_at (by omega), hcor, hup]; exact ⟨rfl, rfl⟩
          refine jq_iload_n dX0_placeCells_12 rfl rfl ?_
          refine jq_aload_n dX0_placeCells_13 rfl rfl ?_
          refine xq_getI fX0_40 dX0_placeCells_14 (xs_lt (by decide) hn) (by decide) hF2.1 ?_
          refine jq_geN (tgt := 80) dX0_placeCells_17 (by decide) ⟨by omega, by omega⟩ (fun c17 => ?_) (fun c17 => ?_)
          · exact absurd c17 (by omega)
          · refine jq_iload_n dX0_placeCells_20 rfl rfl ?_
            refine jq_aload_n dX0_placeCells_21 rfl rfl ?_
            refine xq_getI fX0_40 dX0_placeCells_22 (xs_lt (by decide) hn) (by decide) hF2.1 ?_
            refine jq_imulN dX0_placeCells_25 ?_
            refine jq_iload_n dX0_placeCells_26 rfl rfl ?_
            refine jq_iaddN dX0_placeCells_27 ?_
            rw [hCC]
            refine jq_istore_n dX0_placeCells_28 rfl (by decide) rfl rfl ?_
            refine jq_aload_n dX0_placeCells_29 rfl rfl ?_
            refine xq_getR 9 fX0_34 dX0_placeCells_30 (xs_lt (by decide) hn) (by decide) ?_
            refine jq_iload_n dX0_placeCells_33 rfl rfl ?_
            refine jq_iload_n dX0_placeCells_34 rfl rfl ?_
            refine jq_aload_n dX0_placeCells_35 rfl rfl ?_
            refine xq_getI fX0_40 dX0_placeCells_36 (xs_lt (by decide) hn) (by decide) hF2.1 ?_
            refine jq_iconst (v := (nI 1)) dX0_placeCells_39 (by decide) ?_
            refine jq_iaddN dX0_placeCells_40 ?_
            refine jq_imulN dX0_placeCells_41 ?_
            refine jq_iload_n dX0_placeCells_42 rfl rfl ?_
            refine jq_iaddN dX0_placeCells_43 ?_
            refine xq_iastore dX0_placeCells_44 (xs_lt (by decide) hn) rfl hi ?_
            refine jq_aload_n dX0_placeCells_45 rfl rfl ?_
            refine xq_getR 10 fX0_37 dX0_placeCells_46 (xs_lt (by decide) hn) (by decide) ?_
            refine jq_iload_n dX0_placeCells_49 rfl rfl ?_
            refine jq_lconst (v := (lN 1)) dX0_placeCells_50 (by decide) ?_
            refine jq_iload_n dX0_placeCells_51 rfl rfl ?_
            refine jq_lshl dX0_placeCells_52 (wb_shl 1 (show C < 64 by omega)) ?_
            rw [Nat.one_mul]
            refine jq_iload_n dX0_placeCells_53 rfl rfl ?_
            refine jq_leZ (tgt := 71) dX0_placeCells_54 (by decide) (by omega) (fun c54 => ?_) (fun c54 => ?_)
            · refine jq_lconst (v := (lN 0)) dX0_placeCells_71 (by decide) ?_
              first
                | exact h72 _ (by decide) (if_neg (by omega)).symm
                | exact h72 _ (dv_up_lt _ _) (if_pos (by omega)).symm
            · refine jq_aload_n dX0_placeCells_57 rfl rfl ?_
              refine xq_getR 10 fX0_37 dX0_placeCells_58 (xs_lt (by decide) hn) (by decide) ?_
              refine jq_iload_n dX0_placeCells_61 rfl rfl ?_
              refine jq_aload_n dX0_placeCells_62 rfl rfl ?_
              refine xq_getI fX0_40 dX0_placeCells_63 (xs_lt (by decide) hn) (by decide) hF2.1 ?_
              refine jq_isubN dX0_placeCells_66 (hge (by omega)) ?_
              refine xq_laload dX0_placeCells_67 (xs_lt (by decide) hn) rfl (vp_inN (show C - w < 16 by omega) (by decide)) (xs_rdL (hY (C - w) (by omega)).2 (by omega)) ?_
              refine jq_goto (tgt := 72) dX0_placeCells_68 (by decide) ?_
              first
                | exact h72 _ (by decide) (if_neg (by omega)).symm
                | exact h72 _ (dv_up_lt _ _) (if_pos (by omega)).symm
      have hF2 := dv_ffr hF hf
      refine jq_iload_n dX0_placeCells_2 rfl rfl ?_
      refine jq_aload_n dX0_placeCells_3 rfl rfl ?_
      refine xq_getI fX0_44 dX0_placeCells_4 (xs_lt (by decide) hn) (by decide) hF2.2.1 ?_
      refine jq_geN (tgt := 86) dX0_placeCells_7 (by decide) ⟨by omega, by omega⟩ (fun c7 => ?_) (fun c7 => ?_)
      · exact absurd c7 (by omega)
      · refine jq_iconst (v := (nI 0)) dX0_placeCells_10 (by decide) ?_
        refine jq_istore_n dX0_placeCells_11 rfl (by decide) rfl rfl ?_
        exact inner w 0 _ Y (by omega) hf hY
  refine xs_Ct_of (L := [some (.ref (ad 1)), none, none, none]) rfl (Nat.le_of_ble_eq_true rfl) rfl ?_
  refine jq_iconst (v := (nI 0)) dX0_placeCells_0 (by decide) ?_
  refine jq_istore_n dX0_placeCells_1 rfl (by decide) rfl rfl ?_
  exact loop h 0 _ _ X (by omega) xs_fr_rf (fun j hj => absurd hj (by rw [Nat.zero_mul]; exact Nat.not_lt_zero j))
abbrev dv_SB : List Nat := [2, 3, 4, 5, 6, 7, 8, 9, 10]
abbrev dv_FB : List (Nat × Nat) := [(1, 9), (1, 10), (1, 11), (1, 12), (1, 13), (1, 14), (1, 15)]
set_option maxHeartbeats 8000000 in
theorem c_X0_build {l : Launch} {G : jq_G} {n : Nat} {ad : Nat → Nat} {X : xs_T} (hn : 21 ≤ n) {w h : Nat} (hW : tb_W w h) : xs_Ct l G mX0_build 3 [.ref (ad 1), .int (nI (w)), .int (nI (h))] n ad X (xs_pv (fun X' => xs_fr dv_SB dv_FB X X' ∧ dv_T w h X' ∧ dv_N w h (fun _ => -1) X')) := by
  have hz := tb_sizes hW
  have hp1 : 1 ≤ 2 ^ tb_ne w h := Nat.one_le_two_pow
  have h87 : ∀ Y : xs_T, xs_fr dv_SB dv_FB X Y → dv_FF w h Y → jq_J l G mX0_build (jq_R 3 0 0) jq_E0 (xs_Ye G n ad (xs_pv (fun X' => xs_fr dv_SB dv_FB X X' ∧ dv_T w h X' ∧ dv_N w h (fun _ => -1) X'))) 87 [some (.ref (ad 1)), some (.int (nI (w))), some (.int (nI (h)))] [] n ad (xs_mem G ad Y) 0 0 := by
    intro Y hf hF
    refine jq_aload_n dX0_build_87 rfl rfl ?_
    refine xq_getR 2 fX0_9 dX0_build_88 (xs_lt (by decide) hn) (by decide) ?_
    refine jq_iconst (v := (-1)) dX0_build_91 (by decide) ?_
    refine xq_rSV dX0_build_92 kX0_63 (c_fillI_2 hn (-1)) rfl rfl (Nat.le_of_ble_eq_true rfl) ⟨⟨by decide, by decide⟩, Nat.le_refl _, Nat.le_refl _⟩ (fun X92 h92 => ?_)
    have hF1 := dv_ffr hF h92.1
    refine jq_aload_n dX0_build_95 rfl rfl ?_
    refine xq_getR 3 fX0_15 dX0_build_96 (xs_lt (by decide) hn) (by decide) ?_
    refine jq_lconst (v := (lN 0)) dX0_build_99 (by decide) ?_
    refine xq_rSV dX0_build_100 kX0_69 (c_fillL_3 hn (lN 0)) rfl rfl (Nat.le_of_ble_eq_true rfl) ⟨⟨by decide, by decide⟩, Nat.le_refl _, Nat.le_refl _⟩ (fun X100 h100 => ?_)
    have hF2 := dv_ffr hF1 h100.1
    refine jq_aload_n dX0_build_103 rfl rfl ?_
    refine xq_getR 4 fX0_19 dX0_build_104 (xs_lt (by decide) hn) (by decide) ?_
    refine jq_lconst (v := (lN 0)) dX0_build_107 (by decide) ?_
    refine xq_rSV dX0_build_108 kX0_69 (c_fillL_4 hn (lN 0)) rfl rfl (Nat.le_of_ble_eq_true rfl) ⟨⟨by decide, by decide⟩, Nat.le_refl _, Nat.le_refl _⟩ (fun X108 h108 => ?_)
    have hF3 := dv_ffr hF2 h108.1
    refine jq_aload_n dX0_build_111 rfl rfl ?_
    refine xq_rV dX0_build_112 kX0_72 (c_X0_tieEdges hn hW hF3 ⟨fun e he => absurd he (Nat.not_lt_zero e), fun p hp => h108.2 p (by omega), fun a ha => by rw [xs_fb h108.1 3]; exact h100.2 a (by omega)⟩) (xs_lt (by decide) hn) ⟨rfl, rfl⟩ rfl rfl (Nat.le_of_ble_eq_true rfl) ⟨⟨by decide, by decide⟩, Nat.le_refl _, Nat.le_refl _⟩ (fun X112 h112 => ?_)
    have hF4 := dv_ffr hF3 h112.1
    refine jq_aload_n dX0_build_115 rfl rfl ?_
    refine xq_rV dX0_build_116 kX0_75 (c_X0_placeCells hn hW hF4) (xs_lt (by decide) hn) ⟨rfl, rfl⟩ rfl rfl (Nat.le_of_ble_eq_true rfl) ⟨⟨by decide, by decide⟩, Nat.le_refl _, Nat.le_refl _⟩ (fun X116 h116 => ?_)
    have hF5 := dv_ffr hF4 h116.1
    refine xq_return rfl dX0_build_119 rfl ⟨rfl, ?_, ⟨hW, hF5, fun e he => ?_, fun a ha => ?_, fun p hp => ?_, h116.2⟩, fun c hc => ?_⟩
    · exact xs_fr_tr hf (xs_fr_tr (xs_fr_mo h92.1 (by decide)) (xs_fr_tr (xs_fr_mo h100.1 (by decide)) (xs_fr_tr (xs_fr_mo h108.1 (by decide)) (xs_fr_tr (xs_fr_mo h112.1 (by decide)) (xs_fr_mo h116.1 (by decide))))))
    · rw [xs_fa h116.1 5, xs_fa h116.1 6, xs_fa h116.1 7, xs_fa h116.1 8]; exact h112.2.1 e he
    · rw [xs_fb h116.1 3]; exact h112.2.2.2 a ha
    · rw [xs_fb h116.1 4]; exact h112.2.2.1 p hp
    · rw [xs_fa h116.1 2, xs_fa h112.1 2, xs_fa h108.1 2, xs_fa h100.1 2]; exact h92.2 c (by omega)
  refine xs_Ct_of (L := [some (.ref (ad 1)), some (.int (nI (w))), some (.int (nI (h)))]) rfl (Nat.le_of_ble_eq_true rfl) rfl ?_
  refine jq_aload_n dX0_build_0 rfl rfl ?_
  refine jq_iload_n dX0_build_1 rfl rfl ?_
  refine xq_putI pX0_40 dX0_build_2 (xs_lt (by decide) hn) (by decide) rfl rfl ?_
  refine jq_aload_n dX0_build_5 rfl rfl ?_
  refine jq_iload_n dX0_build_6 rfl rfl ?_
  refine xq_putI pX0_44 dX0_build_7 (xs_lt (by decide) hn) (by decide) rfl rfl ?_
  refine jq_aload_n dX0_build_10 rfl rfl ?_
  refine jq_aload_n dX0_build_11 rfl rfl ?_
  refine xq_getI fX0_40 dX0_build_12 (xs_lt (by decide) hn) (by decide) ((xs_si_ne (by decide)).trans xs_si_at) ?_
  refine jq_aload_n dX0_build_15 rfl rfl ?_
  refine xq_getI fX0_44 dX0_build_16 (xs_lt (by decide) hn) (by decide) xs_si_at ?_
  refine jq_imulN dX0_build_19 ?_
  refine xq_putI pX0_47 dX0_build_20 (xs_lt (by decide) hn) (by decide) rfl rfl ?_
  refine jq_aload_n dX0_build_23 rfl rfl ?_
  refine jq_aload_n dX0_build_24 rfl rfl ?_
  refine xq_getI fX0_40 dX0_build_25 (xs_lt (by decide) hn) (by decide) ((xs_si_ne (by decide)).trans ((xs_si_ne (by decide)).trans xs_si_at)) ?_
  refine jq_iconst (v := (nI 1)) dX0_build_28 (by decide) ?_
  refine jq_iaddN dX0_build_29 ?_
  refine jq_aload_n dX0_build_30 rfl rfl ?_
  refine xq_getI fX0_44 dX0_build_31 (xs_lt (by decide) hn) (by decide) ((xs_si_ne (by decide)).trans xs_si_at) ?_
  refine jq_iconst (v := (nI 1)) dX0_build_34 (by decide) ?_
  refine jq_iaddN dX0_build_35 ?_
  refine jq_imulN dX0_build_36 ?_
  refine xq_putI pX0_50 dX0_build_37 (xs_lt (by decide) hn) (by decide) rfl rfl ?_
  refine jq_aload_n dX0_build_40 rfl rfl ?_
  refine jq_aload_n dX0_build_41 rfl rfl ?_
  refine xq_getI fX0_40 dX0_build_42 (xs_lt (by decide) hn) (by decide) ((xs_si_ne (by decide)).trans ((xs_si_ne (by decide)).trans ((xs_si_ne (by decide)).trans xs_si_at))) ?_
  refine jq_aload_n dX0_build_45 rfl rfl ?_
  refine xq_getI fX0_44 dX0_build_46 (xs_lt (by decide) hn) (by decide) ((xs_si_ne (by decide)).trans ((xs_si_ne (by decide)).trans xs_si_at)) ?_
  refine jq_iconst (v := (nI 1)) dX0_build_49 (by decide) ?_
  refine jq_iaddN dX0_build_50 ?_
  refine jq_imulN dX0_build_51 ?_
  rw [show w * (h + 1) = tb_nf w h from Nat.mul_comm _ _]
  refine xq_putI pX0_53 dX0_build_52 (xs_lt (by decide) hn) (by decide) rfl rfl ?_
  refine jq_aload_n dX0_build_55 rfl rfl ?_
  refine jq_aload_n dX0_build_56 rfl rfl ?_
  refine xq_getI fX0_53 dX0_build_57 (xs_lt (by decide) hn) (by decide) xs_si_at ?_
  refine jq_aload_n dX0_build_60 rfl rfl ?_
  refine xq_getI fX0_40 dX0_build_61 (xs_lt (by decide) hn) (by decide) ((xs_si_ne (by decide)).trans ((xs_si_ne (by decide)).trans ((xs_si_ne (by decide)).trans ((xs_si_ne (by decide)).trans xs_si_at)))) ?_
  refine jq_iconst (v := (nI 1)) dX0_build_64 (by decide) ?_
  refine jq_iaddN dX0_build_65 ?_
  refine jq_aload_n dX0_build_66 rfl rfl ?_
  refine xq_getI fX0_44 dX0_build_67 (xs_lt (by decide) hn) (by decide) ((xs_si_ne (by decide)).trans ((xs_si_ne (by decide)).trans ((xs_si_ne (by decide)).trans xs_si_at))) ?_
  refine jq_imulN dX0_build_70 ?_
  refine jq_iaddN dX0_build_71 ?_
  rw [show tb_nf w h + (w + 1) * h = tb_ne w h from by rw [Nat.mul_comm (w + 1) h]; rfl]
  refine xq_putI pX0_56 dX0_build_72 (xs_lt (by decide) hn) (by decide) rfl rfl ?_
  refine jq_aload_n dX0_build_75 rfl rfl ?_
  refine jq_lconst (v := (lN 1)) dX0_build_76 (by decide) ?_
  refine jq_aload_n dX0_build_77 rfl rfl ?_
  refine xq_getI fX0_56 dX0_build_78 (xs_lt (by decide) hn) (by decide) xs_si_at ?_
  refine jq_lshl dX0_build_81 (wb_shl 1 (show tb_ne w h < 64 by omega)) ?_
  rw [Nat.one_mul]
  refine jq_lconst (v := (lN 1)) dX0_build_82 (by decide) ?_
  refine jq_lsub dX0_build_83 ?_
  rw [lN_sub1 hp1]
  refine xq_putL pX0_59 dX0_build_84 (xs_lt (by decide) hn) (by decide) ?_
  refine h87 _ (xs_fr_sl (xs_fr_si (xs_fr_si (xs_fr_si (xs_fr_si (xs_fr_si (xs_fr_si xs_fr_rf (by decide)) (by decide)) (by decide)) (by decide)) (by decide)) (by decide)) (by decide)) ⟨?_, ?_, ?_, ?_, ?_, ?_, xs_sl_at⟩
  · rw [xs_sl_I]; exact (xs_si_ne (by decide)).trans ((xs_si_ne (by decide)).trans ((xs_si_ne (by decide)).trans ((xs_si_ne (by decide)).trans ((xs_si_ne (by decide)).trans xs_si_at))))
  · rw [xs_sl_I]; exact (xs_si_ne (by decide)).trans ((xs_si_ne (by decide)).trans ((xs_si_ne (by decide)).trans ((xs_si_ne (by decide)).trans xs_si_at)))
  · rw [xs_sl_I]; exact (xs_si_ne (by decide)).trans ((xs_si_ne (by decide)).trans ((xs_si_ne (by decide)).trans xs_si_at))
  · rw [xs_sl_I]; exact (xs_si_ne (by decide)).trans ((xs_si_ne (by decide)).trans xs_si_at)
  · rw [xs_sl_I]; exact xs_si_at
  · rw [xs_sl_I]; exact (xs_si_ne (by decide)).trans xs_si_at
