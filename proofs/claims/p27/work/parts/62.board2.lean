theorem xs_al_I {X : xs_T} {q : Nat} {f : Nat → Int64} : (xs_al X q f).2.2.1 = X.2.2.1 := rfl
theorem xs_ai_L {X : xs_T} {q : Nat} {f : Nat → Int32} : (xs_ai X q f).2.2.2 = X.2.2.2 := rfl
theorem bm_step (p : Nat → Bool) (e : Nat) : bm p (e + 1) = if p e = true then bm p e ||| 2 ^ e else bm p e := by
  apply bm_ext
  intro k
  rw [bm_bit]
  by_cases q : p e = true
  · rw [if_pos q, fb_bit_set, bm_bit]
    by_cases z : k = e
    · subst z; rw [q]; simp
    · rw [decide_eq_false z, Bool.or_false]
      by_cases y : k < e
      · rw [decide_eq_true y, decide_eq_true (Nat.lt_succ_of_lt y)]
      · rw [decide_eq_false y, decide_eq_false (by omega)]
  · rw [if_neg q, bm_bit]
    by_cases z : k = e
    · subst z; rw [Bool.eq_false_iff.mpr q]; simp
    · by_cases y : k < e
      · rw [decide_eq_true y, decide_eq_true (Nat.lt_succ_of_lt y)]
      · rw [decide_eq_false y, decide_eq_false (by omega)]
theorem tb_div {w r c : Nat} (hc : c < w) : (r * w + c) / w = r ∧ (r * w + c) % w = c := by
  constructor
  · rw [Nat.mul_comm, Nat.mul_add_div (by omega), Nat.div_eq_of_lt hc, Nat.add_zero]
  · rw [Nat.mul_comm, Nat.mul_add_mod, Nat.mod_eq_of_lt hc]
theorem tb_mul_lt {w r c H : Nat} (hr : r < H) (hc : c < w) : r * w + c < H * w := by
  have h1 : (r + 1) * w ≤ H * w := Nat.mul_le_mul_right w hr
  rw [Nat.succ_mul] at h1
  omega
theorem tb_E1 {w h r c : Nat} (hr : r ≤ h) (hc : c < w) : r * w + c < tb_nf w h ∧ tb_one w h (r * w + c) = r * (w + 1) + c ∧ tb_oth w h (r * w + c) = r * (w + 1) + c + 1 ∧ tb_are w h (r * w + c) = (if 0 < r then (r - 1) * w + c else tb_nc w h) ∧ tb_bes w h (r * w + c) = (if r < h then r * w + c else tb_nc w h) := by
  have hlt : r * w + c < tb_nf w h := tb_mul_lt (Nat.lt_succ_of_le hr) hc
  obtain ⟨d1, d2⟩ := tb_div (r := r) hc
  have e1 : tb_one w h (r * w + c) = r * (w + 1) + c := by unfold tb_one; rw [tb_row_t hlt, tb_col_t hlt, d1, d2]
  refine ⟨hlt, e1, ?_, ?_, ?_⟩
  · unfold tb_oth; rw [if_pos hlt, e1]
  · unfold tb_are; rw [if_pos hlt, tb_row_t hlt, tb_col_t hlt, d1, d2]
  · unfold tb_bes; rw [if_pos hlt, tb_row_t hlt, tb_col_t hlt, d1, d2]
theorem tb_E2 {w h r c : Nat} (hr : r < h) (hc : c ≤ w) : tb_nf w h + (r * (w + 1) + c) < tb_ne w h ∧ tb_one w h (tb_nf w h + (r * (w + 1) + c)) = r * (w + 1) + c ∧ tb_oth w h (tb_nf w h + (r * (w + 1) + c)) = r * (w + 1) + c + w + 1 ∧ tb_are w h (tb_nf w h + (r * (w + 1) + c)) = (if 0 < c then r * w + (c - 1) else tb_nc w h) ∧ tb_bes w h (tb_nf w h + (r * (w + 1) + c)) = (if c < w then r * w + c else tb_nc w h) := by
  have hge : tb_nf w h ≤ tb_nf w h + (r * (w + 1) + c) := Nat.le_add_right _ _
  have hn : ¬ tb_nf w h + (r * (w + 1) + c) < tb_nf w h := by omega
  have hs : tb_nf w h + (r * (w + 1) + c) - tb_nf w h = r * (w + 1) + c := by omega
  obtain ⟨d1, d2⟩ := tb_div (r := r) (show c < w + 1 by omega)
  have e1 : tb_one w h (tb_nf w h + (r * (w + 1) + c)) = r * (w + 1) + c := by unfold tb_one; rw [tb_row_f hge, tb_col_f hge, hs, d1, d2]
  have hlt := tb_mul_lt hr (show c < w + 1 by omega)
  refine ⟨by show _ < (h + 1) * w + h * (w + 1); unfold tb_nf; omega, e1, ?_, ?_, ?_⟩
  · unfold tb_oth; rw [if_neg hn, e1]
  · unfold tb_are; rw [if_neg hn, tb_row_f hge, tb_col_f hge, hs, d1, d2]
  · unfold tb_bes; rw [if_neg hn, tb_row_f hge, tb_col_f hge, hs, d1, d2]
theorem tb_apart2 {w h : Nat} (hW : tb_W w h) : ∀ e, e < tb_ne w h → tb_are w h e ≠ tb_bes w h e :=
  tb_all (P := fun w h => ∀ e, e < tb_ne w h → tb_are w h e ≠ tb_bes w h e) (by decide +kernel) hW
def dv_tied (r1 r2 m e a b ma mb : Nat) (X X' : xs_T) : Prop := (X'.2.2.1 r1 e = nI a ∧ X'.2.2.1 r2 e = nI b ∧ X'.2.2.2 m a = lN (ma ||| 2 ^ e) ∧ X'.2.2.2 m b = lN (mb ||| 2 ^ e)) ∧ (∀ j, j ≠ e → X'.2.2.1 r1 j = X.2.2.1 r1 j ∧ X'.2.2.1 r2 j = X.2.2.1 r2 j) ∧ ∀ p, p ≠ a → p ≠ b → X'.2.2.2 m p = X.2.2.2 m p
set_option maxHeartbeats 4000000 in
theorem c_X0_tiePoints {l : Launch} {G : jq_G} {n : Nat} {ad : Nat → Nat} {X : xs_T} (hn : 21 ≤ n) {e a b ma mb : Nat} (he : e < 40) (ha : a < 25) (hb : b < 25) (hab : a ≠ b) (hma : X.2.2.2 4 a = lN ma ∧ ma < 2 ^ 40) (hmb : X.2.2.2 4 b = lN mb ∧ mb < 2 ^ 40) : xs_Ct l G mX0_tiePoints 1 [.ref (ad 1), .int (nI (e)), .int (nI (a)), .int (nI (b))] n ad X (xs_pv (fun X' => xs_fr [4, 5, 6] [] X X' ∧ dv_tied 5 6 4 e a b ma mb X X')) := by
  have hi : vp_in (nI e) 40 := vp_inN he (by decide)
  have hia : vp_in (nI a) 25 := vp_inN ha (by decide)
  have hib : vp_in (nI b) 25 := vp_inN hb (by decide)
  have hpe : 2 ^ e < 2 ^ 40 := Nat.pow_lt_pow_right (by decide) he
  obtain ⟨ha1, ha2⟩ := hma
  obtain ⟨hb1, hb2⟩ := hmb
  refine xs_Ct_of (L := [some (.ref (ad 1)), some (.int (nI (e))), some (.int (nI (a))), some (.int (nI (b)))]) rfl (Nat.le_of_ble_eq_true rfl) rfl ?_
  refine jq_aload_n dX0_tiePoints_0 rfl rfl ?_
  refine xq_getR 5 fX0_22 dX0_tiePoints_1 (xs_lt (by decide) hn) (by decide) ?_
  refine jq_iload_n dX0_tiePoints_4 rfl rfl ?_
  refine jq_iload_n dX0_tiePoints_5 rfl rfl ?_
  refine xq_iastore dX0_tiePoints_6 (xs_lt (by decide) hn) rfl hi ?_
  refine jq_aload_n dX0_tiePoints_7 rfl rfl ?_
  refine xq_getR 6 fX0_25 dX0_tiePoints_8 (xs_lt (by decide) hn) (by decide) ?_
  refine jq_iload_n dX0_tiePoints_11 rfl rfl ?_
  refine jq_iload_n dX0_tiePoints_12 rfl rfl ?_
  refine xq_iastore dX0_tiePoints_13 (xs_lt (by decide) hn) rfl hi ?_
  refine jq_aload_n dX0_tiePoints_14 rfl rfl ?_
  refine xq_getR 4 fX0_19 dX0_tiePoints_15 (xs_lt (by decide) hn) (by decide) ?_
  refine jq_iload_n dX0_tiePoints_18 rfl rfl ?_
  refine jq_dup2 dX0_tiePoints_19 rfl rfl ?_
  refine xq_laload dX0_tiePoints_20 (xs_lt (by decide) hn) rfl hia (xs_rdL ha1 (by omega)) ?_
  refine jq_lconst (v := (lN 1)) dX0_tiePoints_21 (by decide) ?_
  refine jq_iload_n dX0_tiePoints_22 rfl rfl ?_
  refine jq_lshl dX0_tiePoints_23 (wb_shl 1 (show e < 64 by omega)) ?_
  rw [Nat.one_mul]
  refine jq_lor dX0_tiePoints_24 ?_
  rw [wb_or (by omega) (by omega)]
  refine xq_lastore dX0_tiePoints_25 (xs_lt (by decide) hn) rfl hia ?_
  refine jq_aload_n dX0_tiePoints_26 rfl rfl ?_
  refine xq_getR 4 fX0_19 dX0_tiePoints_27 (xs_lt (by decide) hn) (by decide) ?_
  refine jq_iload_n dX0_tiePoints_30 rfl rfl ?_
  refine jq_dup2 dX0_tiePoints_31 rfl rfl ?_
  refine xq_laload (v := lN mb) dX0_tiePoints_32 (xs_lt (by decide) hn) rfl hib (xs_rdL (by rw [xs_al_at, xs_updL_ne (by omega) (Ne.symm hab)]; exact hb1) (by omega)) ?_
  refine jq_lconst (v := (lN 1)) dX0_tiePoints_33 (by decide) ?_
  refine jq_iload_n dX0_tiePoints_34 rfl rfl ?_
  refine jq_lshl dX0_tiePoints_35 (wb_shl 1 (show e < 64 by omega)) ?_
  rw [Nat.one_mul]
  refine jq_lor dX0_tiePoints_36 ?_
  rw [wb_or (by omega) (by omega)]
  refine xq_lastore dX0_tiePoints_37 (xs_lt (by decide) hn) rfl hib ?_
  refine xq_return rfl dX0_tiePoints_38 rfl ⟨rfl, xs_fr_al (xs_fr_al (xs_fr_ai (xs_fr_ai xs_fr_rf (by decide)) (by decide)) (by decide)) (by decide), ⟨?_, ?_, ?_, ?_⟩, fun j hj => ⟨?_, ?_⟩, fun p hp1 hp2 => ?_⟩
  · rw [xs_al_I, xs_al_I, xs_ai_ne (by decide), xs_ai_at, xs_upd_at (by omega)]
  · rw [xs_al_I, xs_al_I, xs_ai_at, xs_upd_at (by omega)]
  · rw [xs_al_at, xs_updL_ne (by omega) hab, xs_al_at, xs_updL_at (by omega)]
  · rw [xs_al_at, xs_updL_at (by omega)]
  · rw [xs_al_I, xs_al_I, xs_ai_ne (by decide), xs_ai_at, xs_upd_ne (by omega) hj]
  · rw [xs_al_I, xs_al_I, xs_ai_at, xs_upd_ne (by omega) hj, xs_ai_ne (by decide)]
  · rw [xs_al_at, xs_updL_ne (by omega) hp2, xs_al_at, xs_updL_ne (by omega) hp1]
    rfl
set_option maxHeartbeats 4000000 in
theorem c_X0_tieAreas {l : Launch} {G : jq_G} {n : Nat} {ad : Nat → Nat} {X : xs_T} (hn : 21 ≤ n) {e a b ma mb : Nat} (he : e < 40) (ha : a < 17) (hb : b < 17) (hab : a ≠ b) (hma : X.2.2.2 3 a = lN ma ∧ ma < 2 ^ 40) (hmb : X.2.2.2 3 b = lN mb ∧ mb < 2 ^ 40) : xs_Ct l G mX0_tieAreas 1 [.ref (ad 1), .int (nI (e)), .int (nI (a)), .int (nI (b))] n ad X (xs_pv (fun X' => xs_fr [3, 7, 8] [] X X' ∧ dv_tied 7 8 3 e a b ma mb X X')) := by
  have hi : vp_in (nI e) 40 := vp_inN he (by decide)
  have hia : vp_in (nI a) 17 := vp_inN ha (by decide)
  have hib : vp_in (nI b) 17 := vp_inN hb (by decide)
  have hpe : 2 ^ e < 2 ^ 40 := Nat.pow_lt_pow_right (by decide) he
  obtain ⟨ha1, ha2⟩ := hma
  obtain ⟨hb1, hb2⟩ := hmb
  refine xs_Ct_of (L := [some (.ref (ad 1)), some (.int (nI (e))), some (.int (nI (a))), some (.int (nI (b)))]) rfl (Nat.le_of_ble_eq_true rfl) rfl ?_
  refine jq_aload_n dX0_tieAreas_0 rfl rfl ?_
  refine xq_getR 7 fX0_28 dX0_tieAreas_1 (xs_lt (by decide) hn) (by decide) ?_
  refine jq_iload_n dX0_tieAreas_4 rfl rfl ?_
  refine jq_iload_n dX0_tieAreas_5 rfl rfl ?_
  refine xq_iastore dX0_tieAreas_6 (xs_lt (by decide) hn) rfl hi ?_
  refine jq_aload_n dX0_tieAreas_7 rfl rfl ?_
  refine xq_getR 8 fX0_31 dX0_tieAreas_8 (xs_lt (by decide) hn) (by decide) ?_
  refine jq_iload_n dX0_tieAreas_11 rfl rfl ?_
  refine jq_iload_n dX0_tieAreas_12 rfl rfl ?_
  refine xq_iastore dX0_tieAreas_13 (xs_lt (by decide) hn) rfl hi ?_
  refine jq_aload_n dX0_tieAreas_14 rfl rfl ?_
  refine xq_getR 3 fX0_15 dX0_tieAreas_15 (xs_lt (by decide) hn) (by decide) ?_
  refine jq_iload_n dX0_tieAreas_18 rfl rfl ?_
  refine jq_dup2 dX0_tieAreas_19 rfl rfl ?_
  refine xq_laload dX0_tieAreas_20 (xs_lt (by decide) hn) rfl hia (xs_rdL ha1 (by omega)) ?_
  refine jq_lconst (v := (lN 1)) dX0_tieAreas_21 (by decide) ?_
  refine jq_iload_n dX0_tieAreas_22 rfl rfl ?_
  refine jq_lshl dX0_tieAreas_23 (wb_shl 1 (show e < 64 by omega)) ?_
  rw [Nat.one_mul]
  refine jq_lor dX0_tieAreas_24 ?_
  rw [wb_or (by omega) (by omega)]
  refine xq_lastore dX0_tieAreas_25 (xs_lt (by decide) hn) rfl hia ?_
  refine jq_aload_n dX0_tieAreas_26 rfl rfl ?_
  refine xq_getR 3 fX0_15 dX0_tieAreas_27 (xs_lt (by decide) hn) (by decide) ?_
  refine jq_iload_n dX0_tieAreas_30 rfl rfl ?_
  refine jq_dup2 dX0_tieAreas_31 rfl rfl ?_
  refine xq_laload (v := lN mb) dX0_tieAreas_32 (xs_lt (by decide) hn) rfl hib (xs_rdL (by rw [xs_al_at, xs_updL_ne (by omega) (Ne.symm hab)]; exact hb1) (by omega)) ?_
  refine jq_lconst (v := (lN 1)) dX0_tieAreas_33 (by decide) ?_
  refine jq_iload_n dX0_tieAreas_34 rfl rfl ?_
  refine jq_lshl dX0_tieAreas_35 (wb_shl 1 (show e < 64 by omega)) ?_
  rw [Nat.one_mul]
  refine jq_lor dX0_tieAreas_36 ?_
  rw [wb_or (by omega) (by omega)]
  refine xq_lastore dX0_tieAreas_37 (xs_lt (by decide) hn) rfl hib ?_
  refine xq_return rfl dX0_tieAreas_38 rfl ⟨rfl, xs_fr_al (xs_fr_al (xs_fr_ai (xs_fr_ai xs_fr_rf (by decide)) (by decide)) (by decide)) (by decide), ⟨?_, ?_, ?_, ?_⟩, fun j hj => ⟨?_, ?_⟩, fun p hp1 hp2 => ?_⟩
  · rw [xs_al_I, xs_al_I, xs_ai_ne (by decide), xs_ai_at, xs_upd_at (by omega)]
  · rw [xs_al_I, xs_al_I, xs_ai_at, xs_upd_at (by omega)]
  · rw [xs_al_at, xs_updL_ne (by omega) hab, xs_al_at, xs_updL_at (by omega)]
  · rw [xs_al_at, xs_updL_at (by omega)]
  · rw [xs_al_I, xs_al_I, xs_ai_ne (by decide), xs_ai_at, xs_upd_ne (by omega) hj]
  · rw [xs_al_I, xs_al_I, xs_ai_at, xs_upd_ne (by omega) hj, xs_ai_ne (by decide)]
  · rw [xs_al_at, xs_updL_ne (by omega) hp2, xs_al_at, xs_updL_ne (by omega) hp1]
    rfl
set_option maxHeartbeats 4000000 in
theorem c_X0_areaAt {l : Launch} {G : jq_G} {n : Nat} {ad : Nat → Nat} {X : xs_T} (hn : 21 ≤ n) {w h : Nat} (hw : X.1 1 9 = nI w ∧ X.1 1 10 = nI h ∧ X.1 1 11 = nI (tb_nc w h)) (hb : w < 5 ∧ h < 5) (x y : Int32) (v : Nat) (hv : (∃ r c, x = nI r ∧ y = nI c ∧ r < h ∧ c < w ∧ v = r * w + c) ∨ ((x < 0 ∨ nI h ≤ x ∨ y < 0 ∨ nI w ≤ y) ∧ v = tb_nc w h)) : xs_Ct l G mX0_areaAt 1 [.ref (ad 1), .int (x), .int (y)] n ad X (xs_pd (some (.int (nI v))) X) := by
  refine xs_Ct_of (L := [some (.ref (ad 1)), some (.int (x)), some (.int (y)), none]) rfl (Nat.le_of_ble_eq_true rfl) rfl ?_
  rcases hv with ⟨r, c, rfl, rfl, hr, hc, rfl⟩ | ⟨ho, rfl⟩
  · skip
    refine jq_iload_n dX0_areaAt_0 rfl rfl ?_
    refine jq_if_lt (tgt := 28) dX0_areaAt_1 (by decide) (fun c1 => ?_) (fun c1 => ?_)
    · exact absurd c1 (nI_pos (by omega))
    · refine jq_iload_n dX0_areaAt_4 rfl rfl ?_
      refine jq_aload_n dX0_areaAt_5 rfl rfl ?_
      refine xq_getI fX0_44 dX0_areaAt_6 (xs_lt (by decide) hn) (by decide) hw.2.1 ?_
      refine jq_icmp_ge (tgt := 28) dX0_areaAt_9 (by decide) (fun c9 => ?_) (fun c9 => ?_)
      · exact absurd c9 (nI_ge hr (by omega))
      · refine jq_iload_n dX0_areaAt_12 rfl rfl ?_
        refine jq_if_lt (tgt := 28) dX0_areaAt_13 (by decide) (fun c13 => ?_) (fun c13 => ?_)
        · exact absurd c13 (nI_pos (by omega))
        · refine jq_iload_n dX0_areaAt_16 rfl rfl ?_
          refine jq_aload_n dX0_areaAt_17 rfl rfl ?_
          refine xq_getI fX0_40 dX0_areaAt_18 (xs_lt (by decide) hn) (by decide) hw.1 ?_
          refine jq_icmp_ge (tgt := 28) dX0_areaAt_21 (by decide) (fun c21 => ?_) (fun c21 => ?_)
          · exact absurd c21 (nI_ge hc (by omega))
          · refine jq_iconst (v := 1) dX0_areaAt_24 (by decide) ?_
            refine jq_goto (tgt := 29) dX0_areaAt_25 (by decide) ?_
            refine jq_istore_n dX0_areaAt_29 rfl (by decide) rfl rfl ?_
            refine jq_iload_n dX0_areaAt_30 rfl rfl ?_
            refine jq_if_eq (tgt := 45) dX0_areaAt_31 (by decide) (fun c31 => ?_) (fun c31 => ?_)
            · exact absurd c31 (by decide)
            · refine jq_iload_n dX0_areaAt_34 rfl rfl ?_
              refine jq_aload_n dX0_areaAt_35 rfl rfl ?_
              refine xq_getI fX0_40 dX0_areaAt_36 (xs_lt (by decide) hn) (by decide) hw.1 ?_
              refine jq_imulN dX0_areaAt_39 ?_
              refine jq_iload_n dX0_areaAt_40 rfl rfl ?_
              refine jq_iaddN dX0_areaAt_41 ?_
              refine jq_goto (tgt := 49) dX0_areaAt_42 (by decide) ?_
              exact xq_ireturn dX0_areaAt_49 rfl rfl (⟨rfl, rfl⟩)
  · skip
    refine jq_iload_n dX0_areaAt_0 rfl rfl ?_
    refine jq_if_lt (tgt := 28) dX0_areaAt_1 (by decide) (fun c1 => ?_) (fun c1 => ?_)
    · refine jq_iconst (v := 0) dX0_areaAt_28 (by decide) ?_
      refine jq_istore_n dX0_areaAt_29 rfl (by decide) rfl rfl ?_
      refine jq_iload_n dX0_areaAt_30 rfl rfl ?_
      refine jq_if_eq (tgt := 45) dX0_areaAt_31 (by decide) (fun c31 => ?_) (fun c31 => ?_)
      · refine jq_aload_n dX0_areaAt_45 rfl rfl ?_
        refine xq_getI fX0_47 dX0_areaAt_46 (xs_lt (by decide) hn) (by decide) hw.2.2 ?_
        exact xq_ireturn dX0_areaAt_49 rfl rfl (⟨rfl, rfl⟩)
      · exact absurd rfl c31
    · refine jq_iload_n dX0_areaAt_4 rfl rfl ?_
      refine jq_aload_n dX0_areaAt_5 rfl rfl ?_
      refine xq_getI fX0_44 dX0_areaAt_6 (xs_lt (by decide) hn) (by decide) hw.2.1 ?_
      refine jq_icmp_ge (tgt := 28) dX0_areaAt_9 (by decide) (fun c9 => ?_) (fun c9 => ?_)
      · refine jq_iconst (v := 0) dX0_areaAt_28 (by decide) ?_
        refine jq_istore_n dX0_areaAt_29 rfl (by decide) rfl rfl ?_
        refine jq_iload_n dX0_areaAt_30 rfl rfl ?_
        refine jq_if_eq (tgt := 45) dX0_areaAt_31 (by decide) (fun c31 => ?_) (fun c31 => ?_)
        · refine jq_aload_n dX0_areaAt_45 rfl rfl ?_
          refine xq_getI fX0_47 dX0_areaAt_46 (xs_lt (by decide) hn) (by decide) hw.2.2 ?_
          exact xq_ireturn dX0_areaAt_49 rfl rfl (⟨rfl, rfl⟩)
        · exact absurd rfl c31
      · refine jq_iload_n dX0_areaAt_12 rfl rfl ?_
        refine jq_if_lt (tgt := 28) dX0_areaAt_13 (by decide) (fun c13 => ?_) (fun c13 => ?_)
        · refine jq_iconst (v := 0) dX0_areaAt_28 (by decide) ?_
          refine jq_istore_n dX0_areaAt_29 rfl (by decide) rfl rfl ?_
          refine jq_iload_n dX0_areaAt_30 rfl rfl ?_
          refine jq_if_eq (tgt := 45) dX0_areaAt_31 (by decide) (fun c31 => ?_) (fun c31 => ?_)
          · refine jq_aload_n dX0_areaAt_45 rfl rfl ?_
            refine xq_getI fX0_47 dX0_areaAt_46 (xs_lt (by decide) hn) (by decide) hw.2.2 ?_
            exact xq_ireturn dX0_areaAt_49 rfl rfl (⟨rfl, rfl⟩)
          · exact absurd rfl c31
        · refine jq_iload_n dX0_areaAt_16 rfl rfl ?_
          refine jq_aload_n dX0_areaAt_17 rfl rfl ?_
          refine xq_getI fX0_40 dX0_areaAt_18 (xs_lt (by decide) hn) (by decide) hw.1 ?_
          refine jq_icmp_ge (tgt := 28) dX0_areaAt_21 (by decide) (fun c21 => ?_) (fun c21 => ?_)
          · refine jq_iconst (v := 0) dX0_areaAt_28 (by decide) ?_
            refine jq_istore_n dX0_areaAt_29 rfl (by decide) rfl rfl ?_
            refine jq_iload_n dX0_areaAt_30 rfl rfl ?_
            refine jq_if_eq (tgt := 45) dX0_areaAt_31 (by decide) (fun c31 => ?_) (fun c31 => ?_)
            · refine jq_aload_n dX0_areaAt_45 rfl rfl ?_
              refine xq_getI fX0_47 dX0_areaAt_46 (xs_lt (by decide) hn) (by decide) hw.2.2 ?_
              exact xq_ireturn dX0_areaAt_49 rfl rfl (⟨rfl, rfl⟩)
            · exact absurd rfl c31
          · exact absurd ho (by rintro (q | q | q | q); exact c1 q; exact c9 q; exact c13 q; exact c21 q)
def dv_FF (w h : Nat) (X : xs_T) : Prop := X.1 1 9 = nI w ∧ X.1 1 10 = nI h ∧ X.1 1 11 = nI (tb_nc w h) ∧ X.1 1 12 = nI (tb_np w h) ∧ X.1 1 13 = nI (tb_ne w h) ∧ X.1 1 14 = nI (tb_nf w h) ∧ X.2.1 1 15 = lN (2 ^ tb_ne w h - 1)
theorem dv_ffr {w h : Nat} {S : List Nat} {F : List (Nat × Nat)} {X Y : xs_T} (hT : dv_FF w h X) (hf : xs_fr S F X Y) (hq : (([(1, 9), (1, 10), (1, 11), (1, 12), (1, 13), (1, 14), (1, 15)] : List (Nat × Nat)).all (fun q => !decide (q ∈ F))) = true := by decide) : dv_FF w h Y := by
  simp only [List.all_cons, List.all_nil, Bool.and_true, Bool.and_eq_true, Bool.not_eq_true', decide_eq_false_iff_not] at hq
  obtain ⟨b1, b2, b3, b4, b5, b6, b7⟩ := hq
  obtain ⟨h1, h2, h3, h4, h5, h6, h7⟩ := hT
  exact ⟨(hf.1 _ _ b1).1.trans h1, (hf.1 _ _ b2).1.trans h2, (hf.1 _ _ b3).1.trans h3, (hf.1 _ _ b4).1.trans h4, (hf.1 _ _ b5).1.trans h5, (hf.1 _ _ b6).1.trans h6, (hf.1 _ _ b7).2.trans h7⟩
/-- the board behind its first k edges -/
def dv_tie (w h k : Nat) (X : xs_T) : Prop := (∀ e, e < k → X.2.2.1 5 e = nI (tb_one w h e) ∧ X.2.2.1 6 e = nI (tb_oth w h e) ∧ X.2.2.1 7 e = nI (tb_are w h e) ∧ X.2.2.1 8 e = nI (tb_bes w h e)) ∧
  (∀ p, p < tb_np w h → X.2.2.2 4 p = lN (bm (dv_inc w h p) k)) ∧ ∀ a, a ≤ tb_nc w h → X.2.2.2 3 a = lN (bm (dv_inA w h a) k)
theorem dv_tie_s {w h : Nat} (hW : tb_W w h) {e : Nat} (he : e < tb_ne w h) {Y Z U : xs_T} (hY : dv_tie w h e Y) (hf1 : xs_fr [4, 5, 6] [] Y Z) (h1 : dv_tied 5 6 4 e (tb_one w h e) (tb_oth w h e) (bm (dv_inc w h (tb_one w h e)) e) (bm (dv_inc w h (tb_oth w h e)) e) Y Z) (hf2 : xs_fr [3, 7, 8] [] Z U) (h2 : dv_tied 7 8 3 e (tb_are w h e) (tb_bes w h e) (bm (dv_inA w h (tb_are w h e)) e) (bm (dv_inA w h (tb_bes w h e)) e) Z U) : dv_tie w h (e + 1) U := by
  obtain ⟨⟨a1, a2, a3, a4⟩, a5, a6⟩ := h1
  obtain ⟨⟨b1, b2, b3, b4⟩, b5, b6⟩ := h2
  have f5 := xs_fa hf2 5
  have f6 := xs_fa hf2 6
  have g7 := xs_fa hf1 7
  have g8 := xs_fa hf1 8
  have f4 := xs_fb hf2 4
  have g3 := xs_fb hf1 3
  refine ⟨fun j hj => ?_, fun p hp => ?_, fun a ha => ?_⟩
  · rw [f5, f6]
    by_cases q : j = e
    · subst q; exact ⟨a1, a2, b1, b2⟩
    · obtain ⟨y1, y2, y3, y4⟩ := hY.1 j (by omega)
      rw [(a5 j q).1, (a5 j q).2, (b5 j q).1, (b5 j q).2, g7, g8]
      exact ⟨y1, y2, y3, y4⟩
  · rw [f4, bm_step]
    by_cases q1 : p = tb_one w h e
    · rw [q1, if_pos (dv_inc_y.mpr (Or.inl rfl))]; exact a3
    · by_cases q2 : p = tb_oth w h e
      · rw [q2, if_pos (dv_inc_y.mpr (Or.inr rfl))]; exact a4
      · rw [if_neg (fun z => by rcases dv_inc_y.mp z with y | y; exact q1 y.symm; exact q2 y.symm), a6 p q1 q2]
        exact hY.2.1 p hp
  · have hA : ∀ x, dv_inA w h x e = true ↔ tb_are w h e = x ∨ tb_bes w h e = x := by
      intro x
      unfold dv_inA
      rw [Bool.or_eq_true, beq_iff_eq, beq_iff_eq]
    rw [bm_step]
    by_cases q1 : a = tb_are w h e
    · rw [q1, if_pos ((hA _).mpr (Or.inl rfl))]; exact b3
    · by_cases q2 : a = tb_bes w h e
      · rw [q2, if_pos ((hA _).mpr (Or.inr rfl))]; exact b4
      · rw [if_neg (fun z => by rcases (hA _).mp z with y | y; exact q1 y.symm; exact q2 y.symm), b6 a q1 q2, g3]
        exact hY.2.2 a ha
theorem bm_lt40 {p : Nat → Bool} {e : Nat} (he : e < 40) : bm p e < 2 ^ 40 := Nat.lt_of_lt_of_le (bm_lt _ _) (Nat.pow_le_pow_right (by decide) (by omega))
abbrev dv_ST : List Nat := [3, 4, 5, 6, 7, 8]
set_option maxHeartbeats 8000000 in
theorem c_X0_tieEdges {l : Launch} {G : jq_G} {n : Nat} {ad : Nat → Nat} {X : xs_T} (hn : 21 ≤ n) {w h : Nat} (hW : tb_W w h) (hF : dv_FF w h X) (h0 : dv_tie w h 0 X) : xs_Ct l G mX0_tieEdges 2 [.ref (ad 1)] n ad X (xs_pv (fun X' => xs_fr dv_ST [] X X' ∧ dv_tie w h (tb_ne w h) X')) := by
  have hz := tb_sizes hW
  have hW2 := hW
  obtain ⟨hw1, hw2, hh1, hh2⟩ := hW2
  have step : ∀ (e : Nat) (Y Z U : xs_T), e < tb_ne w h → xs_fr dv_ST [] X Y → dv_tie w h e Y → xs_fr [4, 5, 6] [] Y Z → dv_tied 5 6 4 e (tb_one w h e) (tb_oth w h e) (bm (dv_inc w h (tb_one w h e)) e) (bm (dv_inc w h (tb_oth w h e)) e) Y Z → xs_fr [3, 7, 8] [] Z U → dv_tied 7 8 3 e (tb_are w h e) (tb_bes w h e) (bm (dv_inA w h (tb_are w h e)) e) (bm (dv_inA w h (tb_bes w h e)) e) Z U → xs_fr dv_ST [] X U ∧ dv_tie w h (e + 1) U := by
    intro e Y Z U he hf hY f1 t1 f2 t2
    exact ⟨xs_fr_tr (xs_fr_tr hf (xs_fr_mo f1 (by decide))) (xs_fr_mo f2 (by decide)), dv_tie_s hW he hY f1 t1 f2 t2⟩
  have loop2 : ∀ (k r : Nat) (o2 o3 o4 : Option Value) (Y : xs_T), r + k = h → xs_fr dv_ST [] X Y → dv_tie w h (tb_nf w h + r * (w + 1)) Y → jq_J l G mX0_tieEdges (jq_R 2 0 0) jq_E0 (xs_Ye G n ad (xs_pv (fun X' => xs_fr dv_ST [] X X' ∧ dv_tie w h (tb_ne w h) X'))) 85 [some (.ref (ad 1)), some (.int (nI (r))), o2, o3, o4] [] n ad (xs_mem G ad Y) 0 0 := by
    intro k
    induction k with
    | zero =>
      intro r o2 o3 o4 Y hk hf hY
      have hF2 := dv_ffr hF hf
      have : tb_nf w h + r * (w + 1) = tb_ne w h := by rw [show r = h by omega]; rfl
      rw [this] at hY
      refine jq_iload_n dX0_tieEdges_85 rfl rfl ?_
      refine jq_aload_n dX0_tieEdges_86 rfl rfl ?_
      refine xq_getI fX0_44 dX0_tieEdges_87 (xs_lt (by decide) hn) (by decide) hF2.2.1 ?_
      refine jq_geN (tgt := 169) dX0_tieEdges_90 (by decide) ⟨by omega, by omega⟩ (fun c90 => ?_) (fun c90 => ?_)
      · exact xq_return rfl dX0_tieEdges_169 rfl (⟨rfl, hf, hY⟩)
      · exact absurd c90 (by omega)
    | succ k ih =>
      intro r o2 o3 o4 Y hk hf hY
      have inner : ∀ (k2 c : Nat) (o3 o4 : Option Value) (Y : xs_T), c + k2 = w + 1 → xs_fr dv_ST [] X Y → dv_tie w h (tb_nf w h + (r * (w + 1) + c)) Y → jq_J l G mX0_tieEdges (jq_R 2 0 0) jq_E0 (xs_Ye G n ad (xs_pv (fun X' => xs_fr dv_ST [] X X' ∧ dv_tie w h (tb_ne w h) X'))) 95 [some (.ref (ad 1)), some (.int (nI (r))), some (.int (nI (c))), o3, o4] [] n ad (xs_mem G ad Y) 0 0 := by
        intro k2
        induction k2 with
        | zero =>
          intro c o3 o4 Y hk2 hf hY
          have hF2 := dv_ffr hF hf
          refine jq_iload_n dX0_tieEdges_95 rfl rfl ?_
          refine jq_aload_n dX0_tieEdges_96 rfl rfl ?_
          refine xq_getI fX0_40 dX0_tieEdges_97 (xs_lt (by decide) hn) (by decide) hF2.1 ?_
          refine jq_gtN (tgt := 163) dX0_tieEdges_100 (by decide) ⟨by omega, by omega⟩ (fun c100 => ?_) (fun c100 => ?_)
          · refine jq_iincN dX0_tieEdges_163 (by decide) rfl rfl rfl ?_
            refine jq_goto (tgt := 85) dX0_tieEdges_166 (by decide) ?_
            exact ih (r + 1) _ _ _ Y (by omega) hf (by rw [Nat.succ_mul, ← show c = w + 1 by omega]; rw [show c = w + 1 by omega] at hY ⊢; exact hY)
          · exact absurd c100 (by omega)
        | succ k2 ih2 =>
          intro c o3 o4 Y hk2 hf hY
          have hF2 := dv_ffr hF hf
          obtain ⟨e1, e2, e3, e4, e5⟩ := tb_E2 (w := w) (h := h) (show r < h by omega) (show c ≤ w by omega)
          have hb := tb_ends hW _ e1
          have hab := tb_apart2 hW _ e1
          have he40 : tb_nf w h + (r * (w + 1) + c) < 40 := by omega
          have p1 := hY.2.1 _ hb.1
          have p2 := hY.2.1 _ hb.2.1
          have a1 := hY.2.2 _ hb.2.2.2.1
          have a2 := hY.2.2 _ hb.2.2.2.2
          have hst := step (tb_nf w h + (r * (w + 1) + c)) Y
          have hare : (∃ r' c', nI r = nI r' ∧ nI c - nI 1 = nI c' ∧ r' < h ∧ c' < w ∧ tb_are w h (tb_nf w h + (r * (w + 1) + c)) = r' * w + c') ∨ ((nI r < 0 ∨ nI h ≤ nI r ∨ nI c - nI 1 < 0 ∨ nI w ≤ nI c - nI 1) ∧ tb_are w h (tb_nf w h + (r * (w + 1) + c)) = tb_nc w h) := by
            rw [e4]
            by_cases q2 : 0 < c
            · rw [if_pos q2]; exact Or.inl ⟨_, c - 1, rfl, pk_sub q2, by omega, by omega, rfl⟩
            · rw [if_neg q2]; exact Or.inr ⟨Or.inr (Or.inr (Or.inl (by rw [show c = 0 by omega]; exact tb_m1))), rfl⟩
          have hbes : (∃ r' c', nI r = nI r' ∧ nI c = nI c' ∧ r' < h ∧ c' < w ∧ tb_bes w h (tb_nf w h + (r * (w + 1) + c)) = r' * w + c') ∨ ((nI r < 0 ∨ nI h ≤ nI r ∨ nI c < 0 ∨ nI w ≤ nI c) ∧ tb_bes w h (tb_nf w h + (r * (w + 1) + c)) = tb_nc w h) := by
            rw [e5]
            by_cases q2 : c < w
            · rw [if_pos q2]; exact Or.inl ⟨_, _, rfl, rfl, by omega, q2, rfl⟩
            · rw [if_neg q2]; exact Or.inr ⟨Or.inr (Or.inr (Or.inr (nI_le (by omega) (by omega)))), rfl⟩
          rw [e2] at p1 hb
          rw [e3] at p2 hb
          rw [e2, e3] at hst
          generalize hEE : tb_nf w h + (r * (w + 1) + c) = E at *
          refine jq_iload_n dX0_tieEdges_95 rfl rfl ?_
          refine jq_aload_n dX0_tieEdges_96 rfl rfl ?_
          refine xq_getI fX0_40 dX0_tieEdges_97 (xs_lt (by decide) hn) (by decide) hF2.1 ?_
          refine jq_gtN (tgt := 163) dX0_tieEdges_100 (by decide) ⟨by omega, by omega⟩ (fun c100 => ?_) (fun c100 => ?_)
          · exact absurd c100 (by omega)
          · refine jq_iload_n dX0_tieEdges_103 rfl rfl ?_
            refine jq_aload_n dX0_tieEdges_104 rfl rfl ?_
            refine xq_getI fX0_40 dX0_tieEdges_105 (xs_lt (by decide) hn) (by decide) hF2.1 ?_
            refine jq_iconst (v := (nI 1)) dX0_tieEdges_108 (by decide) ?_
            refine jq_iaddN dX0_tieEdges_109 ?_
            refine jq_imulN dX0_tieEdges_110 ?_
            refine jq_iload_n dX0_tieEdges_111 rfl rfl ?_
            refine jq_iaddN dX0_tieEdges_112 ?_
            refine jq_istore_n dX0_tieEdges_113 rfl (by decide) rfl rfl ?_
            refine jq_aload_n dX0_tieEdges_114 rfl rfl ?_
            refine xq_getI fX0_53 dX0_tieEdges_115 (xs_lt (by decide) hn) (by decide) hF2.2.2.2.2.2.1 ?_
            refine jq_iload_n dX0_tieEdges_118 rfl rfl ?_
            refine jq_iaddN dX0_tieEdges_119 ?_
            rw [hEE]
            refine jq_istore dX0_tieEdges_120 (by decide) rfl rfl ?_
            refine jq_aload_n dX0_tieEdges_122 rfl rfl ?_
            refine jq_iload dX0_tieEdges_123 rfl ?_
            refine jq_iload_n dX0_tieEdges_125 rfl rfl ?_
            refine jq_iload_n dX0_tieEdges_126 rfl rfl ?_
            refine jq_aload_n dX0_tieEdges_127 rfl rfl ?_
            refine xq_getI fX0_40 dX0_tieEdges_128 (xs_lt (by decide) hn) (by decide) hF2.1 ?_
            refine jq_iaddN dX0_tieEdges_131 ?_
            refine jq_iconst (v := (nI 1)) dX0_tieEdges_132 (by decide) ?_
            refine jq_iaddN dX0_tieEdges_133 ?_
            refine xq_rV dX0_tieEdges_134 kX0_78 (c_X0_tiePoints hn he40 (by omega) (by omega) hb.2.2.1 ⟨p1, bm_lt40 he40⟩ ⟨p2, bm_lt40 he40⟩) (xs_lt (by decide) hn) ⟨rfl, rfl⟩ rfl rfl (Nat.le_of_ble_eq_true rfl) ⟨⟨by decide, by decide⟩, Nat.le_refl _, Nat.le_refl _⟩ (fun X134 h134 => ?_)
            have hF3 := dv_ffr hF2 h134.1
            refine jq_aload_n dX0_tieEdges_137 rfl rfl ?_
            refine jq_iload dX0_tieEdges_138 rfl ?_
            refine jq_aload_n dX0_tieEdges_140 rfl rfl ?_
            refine jq_iload_n dX0_tieEdges_141 rfl rfl ?_
            refine jq_iload_n dX0_tieEdges_142 rfl rfl ?_
            refine jq_iconst (v := (nI 1)) dX0_tieEdges_143 (by decide) ?_
            refine jq_isub dX0_tieEdges_144 ?_
            refine xq_vI dX0_tieEdges_145 kX0_82 (c_X0_areaAt hn ⟨hF3.1, hF3.2.1, hF3.2.2.1⟩ ⟨by omega, by omega⟩ _ _ _ hare) (xs_lt (by decide) hn) ⟨rfl, rfl⟩ rfl rfl (Nat.le_of_ble_eq_true rfl) ⟨⟨by decide, by decide⟩, Nat.le_refl _, Nat.le_refl _⟩ ?_
            refine jq_aload_n dX0_tieEdges_148 rfl rfl ?_
            refine jq_iload_n dX0_tieEdges_149 rfl rfl ?_
            refine jq_iload_n dX0_tieEdges_150 rfl rfl ?_
            refine xq_vI dX0_tieEdges_151 kX0_82 (c_X0_areaAt hn ⟨hF3.1, hF3.2.1, hF3.2.2.1⟩ ⟨by omega, by omega⟩ _ _ _ hbes) (xs_lt (by decide) hn) ⟨rfl, rfl⟩ rfl rfl (Nat.le_of_ble_eq_true rfl) ⟨⟨by decide, by decide⟩, Nat.le_refl _, Nat.le_refl _⟩ ?_
            refine xq_rV dX0_tieEdges_154 kX0_86 (c_X0_tieAreas hn he40 (by omega) (by omega) hab ⟨by rw [xs_fb h134.1 3]; exact a1, bm_lt40 he40⟩ ⟨by rw [xs_fb h134.1 3]; exact a2, bm_lt40 he40⟩) (xs_lt (by decide) hn) ⟨rfl, rfl⟩ rfl rfl (Nat.le_of_ble_eq_true rfl) ⟨⟨by decide, by decide⟩, Nat.le_refl _, Nat.le_refl _⟩ (fun X154 h154 => ?_)
            refine jq_iincN dX0_tieEdges_157 (by decide) rfl rfl rfl ?_
            refine jq_goto (tgt := 95) dX0_tieEdges_160 (by decide) ?_
            obtain ⟨z1, z2⟩ := hst _ _ e1 hf hY h134.1 h134.2 h154.1 h154.2
            exact ih2 (c + 1) _ _ _ (by omega) z1 (by rw [← Nat.add_assoc (r * (w + 1)), ← Nat.add_assoc, hEE]; exact z2)
      have hF2 := dv_ffr hF hf
      refine jq_iload_n dX0_tieEdges_85 rfl rfl ?_
      refine jq_aload_n dX0_tieEdges_86 rfl rfl ?_
      refine xq_getI fX0_44 dX0_tieEdges_87 (xs_lt (by decide) hn) (by decide) hF2.2.1 ?_
      refine jq_geN (tgt := 169) dX0_tieEdges_90 (by decide) ⟨by omega, by omega⟩ (fun c90 => ?_) (fun c90 => ?_)
      · exact absurd c90 (by omega)
      · refine jq_iconst (v := (nI 0)) dX0_tieEdges_93 (by decide) ?_
        refine jq_istore_n dX0_tieEdges_94 rfl (by decide) rfl rfl ?_
        exact inner (w + 1) 0 _ _ Y (by omega) hf hY
  have loop1 : ∀ (k r : Nat) (o2 o3 o4 : Option Value) (Y : xs_T), r + k = h + 1 → xs_fr dv_ST [] X Y → dv_tie w h (r * w) Y → jq_J l G mX0_tieEdges (jq_R 2 0 0) jq_E0 (xs_Ye G n ad (xs_pv (fun X' => xs_fr dv_ST [] X X' ∧ dv_tie w h (tb_ne w h) X'))) 2 [some (.ref (ad 1)), some (.int (nI (r))), o2, o3, o4] [] n ad (xs_mem G ad Y) 0 0 := by
    intro k
    induction k with
    | zero =>
      intro r o2 o3 o4 Y hk hf hY
      have hF2 := dv_ffr hF hf
      rw [show r * w = tb_nf w h + 0 * (w + 1) by rw [show r = h + 1 by omega, Nat.zero_mul]; rfl] at hY
      refine jq_iload_n dX0_tieEdges_2 rfl rfl ?_
      refine jq_aload_n dX0_tieEdges_3 rfl rfl ?_
      refine xq_getI fX0_44 dX0_tieEdges_4 (xs_lt (by decide) hn) (by decide) hF2.2.1 ?_
      refine jq_gtN (tgt := 83) dX0_tieEdges_7 (by decide) ⟨by omega, by omega⟩ (fun c7 => ?_) (fun c7 => ?_)
      · refine jq_iconst (v := (nI 0)) dX0_tieEdges_83 (by decide) ?_
        refine jq_istore_n dX0_tieEdges_84 rfl (by decide) rfl rfl ?_
        exact loop2 h 0 _ _ _ Y (by omega) hf hY
      · exact absurd c7 (by omega)
    | succ k ih =>
      intro r o2 o3 o4 Y hk hf hY
      have inner : ∀ (k2 c : Nat) (o3 o4 : Option Value) (Y : xs_T), c + k2 = w → xs_fr dv_ST [] X Y → dv_tie w h (r * w + c) Y → jq_J l G mX0_tieEdges (jq_R 2 0 0) jq_E0 (xs_Ye G n ad (xs_pv (fun X' => xs_fr dv_ST [] X X' ∧ dv_tie w h (tb_ne w h) X'))) 12 [some (.ref (ad 1)), some (.int (nI (r))), some (.int (nI (c))), o3, o4] [] n ad (xs_mem G ad Y) 0 0 := by
        intro k2
        induction k2 with
        | zero =>
          intro c o3 o4 Y hk2 hf hY
          have hF2 := dv_ffr hF hf
          rw [show r * w + c = (r + 1) * w by rw [Nat.succ_mul]; omega] at hY
          refine jq_iload_n dX0_tieEdges_12 rfl rfl ?_
          refine jq_aload_n dX0_tieEdges_13 rfl rfl ?_
          refine xq_getI fX0_40 dX0_tieEdges_14 (xs_lt (by decide) hn) (by decide) hF2.1 ?_
          refine jq_geN (tgt := 77) dX0_tieEdges_17 (by decide) ⟨by omega, by omega⟩ (fun c17 => ?_) (fun c17 => ?_)
          · refine jq_iincN dX0_tieEdges_77 (by decide) rfl rfl rfl ?_
            refine jq_goto (tgt := 2) dX0_tieEdges_80 (by decide) ?_
            exact ih (r + 1) _ _ _ Y (by omega) hf hY
          · exact absurd c17 (by omega)
        | succ k2 ih2 =>
          intro c o3 o4 Y hk2 hf hY
          have hF2 := dv_ffr hF hf
          obtain ⟨e1, e2, e3, e4, e5⟩ := tb_E1 (w := w) (h := h) (show r ≤ h by omega) (show c < w by omega)
          have e1 : r * w + c < tb_ne w h := by omega
          have hb := tb_ends hW _ e1
          have hab := tb_apart2 hW _ e1
          have he40 : r * w + c < 40 := by omega
          have p1 := hY.2.1 _ hb.1
          have p2 := hY.2.1 _ hb.2.1
          have a1 := hY.2.2 _ hb.2.2.2.1
          have a2 := hY.2.2 _ hb.2.2.2.2
          have hst := step (r * w + c) Y
          have hare : (∃ r' c', nI r - nI 1 = nI r' ∧ nI c = nI c' ∧ r' < h ∧ c' < w ∧ tb_are w h (r * w + c) = r' * w + c') ∨ ((nI r - nI 1 < 0 ∨ nI h ≤ nI r - nI 1 ∨ nI c < 0 ∨ nI w ≤ nI c) ∧ tb_are w h (r * w + c) = tb_nc w h) := by
            rw [e4]
            by_cases q2 : 0 < r
            · rw [if_pos q2]; exact Or.inl ⟨r - 1, _, pk_sub q2, rfl, by omega, by omega, rfl⟩
            · rw [if_neg q2]; exact Or.inr ⟨Or.inl (by rw [show r = 0 by omega]; exact tb_m1), rfl⟩
          have hbes : (∃ r' c', nI r = nI r' ∧ nI c = nI c' ∧ r' < h ∧ c' < w ∧ tb_bes w h (r * w + c) = r' * w + c') ∨ ((nI r < 0 ∨ nI h ≤ nI r ∨ nI c < 0 ∨ nI w ≤ nI c) ∧ tb_bes w h (r * w + c) = tb_nc w h) := by
            rw [e5]
            by_cases q2 : r < h
            · rw [if_pos q2]; exact Or.inl ⟨_, _, rfl, rfl, q2, by omega, rfl⟩
            · rw [if_neg q2]; exact Or.inr ⟨Or.inr (Or.inl (nI_le (by omega) (by omega))), rfl⟩
          rw [e2] at p1 hb
          rw [e3] at p2 hb
          rw [e2, e3] at hst
          generalize hEE : r * w + c = E at *
          refine jq_iload_n dX0_tieEdges_12 rfl rfl ?_
          refine jq_aload_n dX0_tieEdges_13 rfl rfl ?_
          refine xq_getI fX0_40 dX0_tieEdges_14 (xs_lt (by decide) hn) (by decide) hF2.1 ?_
          refine jq_geN (tgt := 77) dX0_tieEdges_17 (by decide) ⟨by omega, by omega⟩ (fun c17 => ?_) (fun c17 => ?_)
          · exact absurd c17 (by omega)
          · refine jq_iload_n dX0_tieEdges_20 rfl rfl ?_
            refine jq_aload_n dX0_tieEdges_21 rfl rfl ?_
            refine xq_getI fX0_40 dX0_tieEdges_22 (xs_lt (by decide) hn) (by decide) hF2.1 ?_
            refine jq_iconst (v := (nI 1)) dX0_tieEdges_25 (by decide) ?_
            refine jq_iaddN dX0_tieEdges_26 ?_
            refine jq_imulN dX0_tieEdges_27 ?_
            refine jq_iload_n dX0_tieEdges_28 rfl rfl ?_
            refine jq_iaddN dX0_tieEdges_29 ?_
            refine jq_istore_n dX0_tieEdges_30 rfl (by decide) rfl rfl ?_
            refine jq_iload_n dX0_tieEdges_31 rfl rfl ?_
            refine jq_aload_n dX0_tieEdges_32 rfl rfl ?_
            refine xq_getI fX0_40 dX0_tieEdges_33 (xs_lt (by decide) hn) (by decide) hF2.1 ?_
            refine jq_imulN dX0_tieEdges_36 ?_
            refine jq_iload_n dX0_tieEdges_37 rfl rfl ?_
            refine jq_iaddN dX0_tieEdges_38 ?_
            rw [hEE]
            refine jq_istore dX0_tieEdges_39 (by decide) rfl rfl ?_
            refine jq_aload_n dX0_tieEdges_41 rfl rfl ?_
            refine jq_iload dX0_tieEdges_42 rfl ?_
            refine jq_iload_n dX0_tieEdges_44 rfl rfl ?_
            refine jq_iload_n dX0_tieEdges_45 rfl rfl ?_
            refine jq_iconst (v := (nI 1)) dX0_tieEdges_46 (by decide) ?_
            refine jq_iaddN dX0_tieEdges_47 ?_
            refine xq_rV dX0_tieEdges_48 kX0_78 (c_X0_tiePoints hn he40 (by omega) (by omega) hb.2.2.1 ⟨p1, bm_lt40 he40⟩ ⟨p2, bm_lt40 he40⟩) (xs_lt (by decide) hn) ⟨rfl, rfl⟩ rfl rfl (Nat.le_of_ble_eq_true rfl) ⟨⟨by decide, by decide⟩, Nat.le_refl _, Nat.le_refl _⟩ (fun X48 h48 => ?_)
            have hF3 := dv_ffr hF2 h48.1
            refine jq_aload_n dX0_tieEdges_51 rfl rfl ?_
            refine jq_iload dX0_tieEdges_52 rfl ?_
            refine jq_aload_n dX0_tieEdges_54 rfl rfl ?_
            refine jq_iload_n dX0_tieEdges_55 rfl rfl ?_
            refine jq_iconst (v := (nI 1)) dX0_tieEdges_56 (by decide) ?_
            refine jq_isub dX0_tieEdges_57 ?_
            refine jq_iload_n dX0_tieEdges_58 rfl rfl ?_
            refine xq_vI dX0_tieEdges_59 kX0_82 (c_X0_areaAt hn ⟨hF3.1, hF3.2.1, hF3.2.2.1⟩ ⟨by omega, by omega⟩ _ _ _ hare) (xs_lt (by decide) hn) ⟨rfl, rfl⟩ rfl rfl (Nat.le_of_ble_eq_true rfl) ⟨⟨by decide, by decide⟩, Nat.le_refl _, Nat.le_refl _⟩ ?_
            refine jq_aload_n dX0_tieEdges_62 rfl rfl ?_
            refine jq_iload_n dX0_tieEdges_63 rfl rfl ?_
            refine jq_iload_n dX0_tieEdges_64 rfl rfl ?_
            refine xq_vI dX0_tieEdges_65 kX0_82 (c_X0_areaAt hn ⟨hF3.1, hF3.2.1, hF3.2.2.1⟩ ⟨by omega, by omega⟩ _ _ _ hbes) (xs_lt (by decide) hn) ⟨rfl, rfl⟩ rfl rfl (Nat.le_of_ble_eq_true rfl) ⟨⟨by decide, by decide⟩, Nat.le_refl _, Nat.le_refl _⟩ ?_
            refine xq_rV dX0_tieEdges_68 kX0_86 (c_X0_tieAreas hn he40 (by omega) (by omega) hab ⟨by rw [xs_fb h48.1 3]; exact a1, bm_lt40 he40⟩ ⟨by rw [xs_fb h48.1 3]; exact a2, bm_lt40 he40⟩) (xs_lt (by decide) hn) ⟨rfl, rfl⟩ rfl rfl (Nat.le_of_ble_eq_true rfl) ⟨⟨by decide, by decide⟩, Nat.le_refl _, Nat.le_refl _⟩ (fun X68 h68 => ?_)
            refine jq_iincN dX0_tieEdges_71 (by decide) rfl rfl rfl ?_
            refine jq_goto (tgt := 12) dX0_tieEdges_74 (by decide) ?_
            obtain ⟨z1, z2⟩ := hst _ _ e1 hf hY h48.1 h48.2 h68.1 h68.2
            exact ih2 (c + 1) _ _ _ (by omega) z1 (by rw [← Nat.add_assoc, hEE]; exact z2)
      have hF2 := dv_ffr hF hf
      refine jq_iload_n dX0_tieEdges_2 rfl rfl ?_
      refine jq_aload_n dX0_tieEdges_3 rfl rfl ?_
      refine xq_getI fX0_44 dX0_tieEdges_4 (xs_lt (by decide) hn) (by decide) hF2.2.1 ?_
      refine jq_gtN (tgt := 83) dX0_tieEdges_7 (by decide) ⟨by omega, by omega⟩ (fun c7 => ?_) (fun c7 => ?_)
      · exact absurd c7 (by omega)
      · refine jq_iconst (v := (nI 0)) dX0_tieEdges_10 (by decide) ?_
        refine jq_istore_n dX0_tieEdges_11 rfl (by decide) rfl rfl ?_
        exact inner w 0 _ _ Y (by omega) hf hY
  refine xs_Ct_of (L := [some (.ref (ad 1)), none, none, none, none]) rfl (Nat.le_of_ble_eq_true rfl) rfl ?_
  refine jq_iconst (v := (nI 0)) dX0_tieEdges_0 (by decide) ?_
  refine jq_istore_n dX0_tieEdges_1 rfl (by decide) rfl rfl ?_
  exact loop1 (h + 1) 0 _ _ _ X (by omega) xs_fr_rf (by rw [Nat.zero_mul]; exact h0)
