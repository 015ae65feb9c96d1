/-! the class between calls -/
def dv_A (w h : Nat) (num : Nat → Int32) (mk : Nat → Nat) (X : xs_T) : Prop := dv_T w h X ∧ dv_N w h num X ∧ (X.2.1 0 4 = lN (dv_S w h mk 1) ∧ X.2.1 0 5 = lN (dv_S w h mk 2)) ∧ ∀ e, e < tb_ne w h → mk e ≤ 2
theorem dv_afr {w h : Nat} {num : Nat → Int32} {mk : Nat → Nat} {S : List Nat} {F : List (Nat × Nat)} {X Y : xs_T} (hA : dv_A w h num mk X) (hf : xs_fr S F X Y) (hq : (([3, 4, 5, 6, 7, 8, 9, 10] : List Nat).all (fun q => !decide (q ∈ S)) && ([(1, 9), (1, 10), (1, 11), (1, 12), (1, 13), (1, 14), (1, 15)] : List (Nat × Nat)).all (fun q => !decide (q ∈ F))) = true := by decide) (h2 : decide (2 ∈ S) = false := by decide) (h4 : decide ((0, 4) ∈ F) = false := by decide) (h5 : decide ((0, 5) ∈ F) = false := by decide) : dv_A w h num mk Y :=
  ⟨dv_fr hA.1 hf hq, dv_nfr hA.2.1 hf h2, ⟨xs_fl hf 0 4 hA.2.2.1.1 h4, xs_fl hf 0 5 hA.2.2.1.2 h5⟩, hA.2.2.2⟩
theorem dv_pcS {w h : Nat} (hW : tb_W w h) (st : Nat → Nat) (how : Nat) : pc_n (dv_S w h st how) = tb_cnt w h st how := by
  unfold dv_S tb_cnt
  exact pc_bm _ (by have := tb_sizes hW; omega)
theorem dv_or_bm {w h : Nat} {st : Nat → Nat} (hst : ∀ e, e < tb_ne w h → st e ≤ 2) : dv_S w h st 1 ||| dv_S w h st 2 = bm (fun e => !(st e == 0)) (tb_ne w h) := by
  apply bm_ext
  intro e
  rw [Nat.testBit_or, bm_bit]
  rcases Nat.lt_or_ge e (tb_ne w h) with he | he
  · rw [dv_S_bit he, dv_S_bit he, decide_eq_true he, Bool.true_and]
    have := hst e he
    have : st e = 0 ∨ st e = 1 ∨ st e = 2 := by omega
    rcases this with z | z | z <;> rw [z] <;> rfl
  · rw [bm_hi dv_S_lt2 he, bm_hi dv_S_lt2 he, decide_eq_false (by omega)]; rfl
theorem tb_ext_go {w h : Nat} {num : Nat → Int32} {mk : Nat → Nat} : ∀ (k : Nat) (st : Nat → Nat) (rd rl : Nat → Int32) (c : Nat), (∀ e, mk e ≠ 0 → st e = mk e) → ∀ e, mk e ≠ 0 → (tb_go w h num k st rd rl c).1 e = mk e
  | 0, st, rd, rl, c, H => H
  | k + 1, st, rd, rl, c, H => by
    rw [tb_go]
    split
    · exact H
    · split
      · exact H
      · split
        · refine tb_ext_go k _ _ _ _ (fun e he => ?_)
          have hs := H e he
          unfold tb_dec
          rw [if_pos (tb_wok_all (w := w) (h := h) (num := num) (st := st) e (by rw [hs]; exact he))]
          exact hs
        · exact H
theorem tb_ext {w h : Nat} {num : Nat → Int32} {mk : Nat → Nat} : ∀ e, mk e ≠ 0 → (tb_follow w h num mk).1 e = mk e := tb_ext_go 41 mk _ _ _ (fun _ _ => rfl)
theorem tb_end_go {w h : Nat} {num : Nat → Int32} : ∀ (k : Nat) (st : Nat → Nat) (rd rl : Nat → Int32) (c : Nat), (tb_go w h num k st rd rl c).2.2.2.2 < 6
  | 0, st, rd, rl, c => show (0 : Nat) < 6 by decide
  | k + 1, st, rd, rl, c => by
    rw [tb_go]
    split
    · have := tb_broken_le w h num st
      dsimp only
      omega
    · split
      · dsimp only; omega
      · split
        · exact tb_end_go k _ _ _ _
        · dsimp only; omega
theorem tb_end_lt (w h : Nat) (num : Nat → Int32) (mk : Nat → Nat) : (tb_follow w h num mk).2.2.2.2 < 6 := tb_end_go 41 _ _ _ _
theorem tb_became_eq {w h : Nat} {mk st : Nat → Nat} (H : ∀ e, mk e ≠ 0 → st e = mk e) : fb_ct (fun e => !(st e == 0)) (tb_ne w h) = fb_ct (fun e => !(mk e == 0)) (tb_ne w h) + tb_became w h mk st := by
  unfold tb_became
  rw [← fb_ct_or (fun e _ ⟨a, b⟩ => by
    have h1 : mk e ≠ 0 := by simpa using a
    have h2 : mk e ≠ st e := by simpa using b
    exact h2 (H e h1).symm)]
  apply fb_ct_cong
  intro e _
  by_cases z : mk e = 0
  · rw [z]
    cases st e <;> rfl
  · rw [H e z]; simp
set_option maxHeartbeats 4000000 in
theorem c_X5_cells {l : Launch} {G : jq_G} {n : Nat} {ad : Nat → Nat} {X : xs_T} (hn : 21 ≤ n) {w h : Nat} (hT : dv_T w h X) : xs_Ct l G mX5_cells 1 [.ref (ad 0)] n ad X (xs_pd (some (.int (nI (tb_nc w h)))) X) := by
  refine xs_Ct_of (L := [some (.ref (ad 0))]) rfl (Nat.le_of_ble_eq_true rfl) rfl ?_
  refine jq_aload_n dX5_cells_0 rfl rfl ?_
  refine xq_getR 1 fX5_10 dX5_cells_1 (xs_lt (by decide) hn) (by decide) ?_
  refine xq_getI fX5_58 dX5_cells_4 (xs_lt (by decide) hn) (by decide) hT.2.1.2.2.1 ?_
  exact xq_ireturn dX5_cells_7 rfl rfl (⟨rfl, rfl⟩)
set_option maxHeartbeats 4000000 in
theorem c_X5_edges {l : Launch} {G : jq_G} {n : Nat} {ad : Nat → Nat} {X : xs_T} (hn : 21 ≤ n) {w h : Nat} (hT : dv_T w h X) : xs_Ct l G mX5_edges 1 [.ref (ad 0)] n ad X (xs_pd (some (.int (nI (tb_ne w h)))) X) := by
  refine xs_Ct_of (L := [some (.ref (ad 0))]) rfl (Nat.le_of_ble_eq_true rfl) rfl ?_
  refine jq_aload_n dX5_edges_0 rfl rfl ?_
  refine xq_getR 1 fX5_10 dX5_edges_1 (xs_lt (by decide) hn) (by decide) ?_
  refine xq_getI fX5_62 dX5_edges_4 (xs_lt (by decide) hn) (by decide) hT.2.1.2.2.2.2.1 ?_
  exact xq_ireturn dX5_edges_7 rfl rfl (⟨rfl, rfl⟩)
set_option maxHeartbeats 4000000 in
theorem c_X5_unmark {l : Launch} {G : jq_G} {n : Nat} {ad : Nat → Nat} {X : xs_T} (hn : 21 ≤ n) : xs_Ct l G mX5_unmark 1 [.ref (ad 0)] n ad X (xs_pv (fun X' => xs_fr [] [(0, 4), (0, 5)] X X' ∧ X'.2.1 0 4 = lN 0 ∧ X'.2.1 0 5 = lN 0)) := by
  refine xs_Ct_of (L := [some (.ref (ad 0))]) rfl (Nat.le_of_ble_eq_true rfl) rfl ?_
  refine jq_aload_n dX5_unmark_0 rfl rfl ?_
  refine jq_lconst (v := (lN 0)) dX5_unmark_1 (by decide) ?_
  refine xq_putL pX5_80 dX5_unmark_2 (xs_lt (by decide) hn) (by decide) ?_
  refine jq_aload_n dX5_unmark_5 rfl rfl ?_
  refine jq_lconst (v := (lN 0)) dX5_unmark_6 (by decide) ?_
  refine xq_putL pX5_84 dX5_unmark_7 (xs_lt (by decide) hn) (by decide) ?_
  exact xq_return rfl dX5_unmark_10 rfl (⟨rfl, xs_fr_sl (xs_fr_sl xs_fr_rf (by decide)) (by decide), (xs_sl_ne (by decide)).trans xs_sl_at, xs_sl_at⟩)
set_option maxHeartbeats 4000000 in
theorem c_X5_wipe {l : Launch} {G : jq_G} {n : Nat} {ad : Nat → Nat} {X : xs_T} (hn : 21 ≤ n) : xs_Ct l G mX5_wipe 2 [.ref (ad 0)] n ad X (xs_pv (fun X' => xs_fr [] [(0, 4), (0, 5)] X X' ∧ X'.2.1 0 4 = lN 0 ∧ X'.2.1 0 5 = lN 0)) := by
  refine xs_Ct_of (L := [some (.ref (ad 0))]) rfl (Nat.le_of_ble_eq_true rfl) rfl ?_
  refine jq_aload_n dX5_wipe_0 rfl rfl ?_
  refine xq_rV dX5_wipe_1 kX5_55 (c_X5_unmark hn) (xs_lt (by decide) hn) ⟨rfl, rfl⟩ rfl rfl (Nat.le_of_ble_eq_true rfl) ⟨⟨by decide, by decide⟩, Nat.le_refl _, Nat.le_refl _⟩ (fun X1 h1 => ?_)
  exact xq_return rfl dX5_wipe_4 rfl (⟨rfl, h1⟩)
set_option maxHeartbeats 4000000 in
theorem c_X5_lines {l : Launch} {G : jq_G} {n : Nat} {ad : Nat → Nat} {X : xs_T} (hn : 21 ≤ n) {w h : Nat} {num : Nat → Int32} {mk : Nat → Nat} (hA : dv_A w h num mk X) : xs_Ct l G mX5_lines 2 [.ref (ad 0)] n ad X (xs_pd (some (.int (nI (tb_cnt w h mk 1)))) X) := by
  have hL := dv_S_lt hA.1.1 mk 1
  refine xs_Ct_of (L := [some (.ref (ad 0))]) rfl (Nat.le_of_ble_eq_true rfl) rfl ?_
  refine jq_aload_n dX5_lines_0 rfl rfl ?_
  refine xq_getL fX5_80 dX5_lines_1 (xs_lt (by decide) hn) (by decide) hA.2.2.1.1 ?_
  refine xq_sI dX5_lines_4 kX5_100 (c_bitCount (Nat.lt_trans hL (by decide))) rfl rfl (Nat.le_of_ble_eq_true rfl) ⟨⟨by decide, by decide⟩, Nat.le_refl _, Nat.le_refl _⟩ ?_
  rw [dv_pcS hA.1.1]
  exact xq_ireturn dX5_lines_7 rfl rfl (⟨rfl, rfl⟩)
set_option maxHeartbeats 4000000 in
theorem c_X5_ways {l : Launch} {G : jq_G} {n : Nat} {ad : Nat → Nat} {X : xs_T} (hn : 21 ≤ n) {w h : Nat} {num : Nat → Int32} {mk : Nat → Nat} (hA : dv_A w h num mk X) : xs_Ct l G mX5_ways 2 [.ref (ad 0)] n ad X (xs_pd (some (.int (nI (tb_ways w h mk)))) X) := by
  have hL := dv_S_lt hA.1.1 mk 1
  have loop : ∀ (k m c R : Nat), m + k = 40 → R < 2 ^ 40 → c + dv_wc w h k R = tb_ways w h mk → jq_J l G mX5_ways (jq_R 2 0 0) jq_E0 (xs_Ye G n ad (xs_pd (some (.int (nI (tb_ways w h mk)))) X)) 10 [some (.ref (ad 0)), some (.int (nI (c))), some (.long (lN R)), none, some (.int (nI (m)))] [] n ad (xs_mem G ad X) 0 0 := by
    intro k
    induction k with
    | zero =>
      intro m c R hk hR hres
      refine jq_iload dX5_ways_10 rfl ?_
      refine jq_bipush (v := (nI 40)) dX5_ways_12 (by decide) ?_
      refine jq_geN (tgt := 47) dX5_ways_14 (by decide) ⟨by omega, by omega⟩ (fun c14 => ?_) (fun c14 => ?_)
      · refine jq_iload_n dX5_ways_47 rfl rfl ?_
        exact xq_ireturn dX5_ways_48 rfl rfl (⟨by rw [← hres]; rfl, rfl⟩)
      · exact absurd c14 (by omega)
    | succ k ih =>
      intro m c R hk hR hres
      have hfw := dv_fw_lt (w := w) (h := h) hR
      have hnot := dv_not hR hfw
      rw [dv_wc] at hres
      refine jq_iload dX5_ways_10 rfl ?_
      refine jq_bipush (v := (nI 40)) dX5_ways_12 (by decide) ?_
      refine jq_geN (tgt := 47) dX5_ways_14 (by decide) ⟨by omega, by omega⟩ (fun c14 => ?_) (fun c14 => ?_)
      · exact absurd c14 (by omega)
      · refine jq_lload_n dX5_ways_17 rfl rfl ?_
        refine jq_lconst (v := 0) dX5_ways_18 (by decide) ?_
        refine jq_lcmp dX5_ways_19 ?_
        refine jq_if_eq (tgt := 47) dX5_ways_20 (by decide) (fun c20 => ?_) (fun c20 => ?_)
        · have d20 := (lN_eq0 (by omega)).mp c20
          refine jq_iload_n dX5_ways_47 rfl rfl ?_
          exact xq_ireturn dX5_ways_48 rfl rfl (⟨by rw [if_pos d20] at hres; rw [← hres]; rfl, rfl⟩)
        · have d20 : R ≠ 0 := fun q => c20 ((lN_eq0 (by omega)).mpr q)
          refine jq_lload_n dX5_ways_23 rfl rfl ?_
          refine jq_aload_n dX5_ways_24 rfl rfl ?_
          refine xq_getR 1 fX5_10 dX5_ways_25 (xs_lt (by decide) hn) (by decide) ?_
          refine jq_lload_n dX5_ways_28 rfl rfl ?_
          refine xq_vL dX5_ways_29 kX5_117 (c_X0_firstWay hn hA.1 hR) (xs_lt (by decide) hn) ⟨rfl, rfl⟩ rfl rfl (Nat.le_of_ble_eq_true rfl) ⟨⟨by decide, by decide⟩, Nat.le_refl _, Nat.le_refl _⟩ ?_
          refine jq_ldc2 dX5_ways_32 vX5_91 ?_
          refine jq_lxor dX5_ways_35 ?_
          refine jq_land dX5_ways_36 ?_
          rw [hnot]
          refine jq_lstore_n dX5_ways_37 rfl (by decide) rfl rfl ?_
          refine jq_iincN dX5_ways_38 (by decide) rfl rfl rfl ?_
          refine jq_iincN dX5_ways_41 (by decide) rfl rfl rfl ?_
          refine jq_goto (tgt := 10) dX5_ways_44 (by decide) ?_
          rw [if_neg d20] at hres
          exact ih (m + 1) (c + 1) (dv_minus R (dv_fw w h R)) (by omega) (dv_minus_lt _ _) (by omega)
  have hw : dv_wc w h 40 (dv_S w h mk 1) = tb_ways w h mk := by
    have hs := dv_same_S w h mk
    rw [← dv_same_wn hs, ← dv_wc_eq hA.1.1 40 (fun _ => true) (Nat.le_trans (dv_wn_le hA.1.1 _) (by decide)), dv_sub_all hs.1]
  refine xs_Ct_of (L := [some (.ref (ad 0)), none, none, none, none]) rfl (Nat.le_of_ble_eq_true rfl) rfl ?_
  refine jq_iconst (v := (nI 0)) dX5_ways_0 (by decide) ?_
  refine jq_istore_n dX5_ways_1 rfl (by decide) rfl rfl ?_
  refine jq_aload_n dX5_ways_2 rfl rfl ?_
  refine xq_getL fX5_80 dX5_ways_3 (xs_lt (by decide) hn) (by decide) hA.2.2.1.1 ?_
  refine jq_lstore_n dX5_ways_6 rfl (by decide) rfl rfl ?_
  refine jq_iconst (v := (nI 0)) dX5_ways_7 (by decide) ?_
  refine jq_istore dX5_ways_8 (by decide) rfl rfl ?_
  exact loop 40 0 0 _ (by omega) hL (by omega)
set_option maxHeartbeats 4000000 in
theorem c_X5_broken {l : Launch} {G : jq_G} {n : Nat} {ad : Nat → Nat} {X : xs_T} (hn : 21 ≤ n) {w h : Nat} {num : Nat → Int32} {mk : Nat → Nat} (hA : dv_A w h num mk X) : xs_Ct l G mX5_broken 5 [.ref (ad 0)] n ad X (xs_pi (fun v X' => v = nI (tb_broken w h num mk) ∧ xs_fr dv_SC dv_FC X X')) := by
  refine xs_Ct_of (L := [some (.ref (ad 0))]) rfl (Nat.le_of_ble_eq_true rfl) rfl ?_
  refine jq_aload_n dX5_broken_0 rfl rfl ?_
  refine xq_getR 11 fX5_21 dX5_broken_1 (xs_lt (by decide) hn) (by decide) ?_
  refine jq_aload_n dX5_broken_4 rfl rfl ?_
  refine xq_getL fX5_80 dX5_broken_5 (xs_lt (by decide) hn) (by decide) hA.2.2.1.1 ?_
  refine jq_aload_n dX5_broken_8 rfl rfl ?_
  refine xq_getL fX5_84 dX5_broken_9 (xs_lt (by decide) hn) (by decide) hA.2.2.1.2 ?_
  refine xq_rV dX5_broken_12 kX5_121 (c_X4_look hn hA.1 hA.2.2.2) (xs_lt (by decide) hn) ⟨rfl, rfl⟩ rfl rfl (Nat.le_of_ble_eq_true rfl) ⟨⟨by decide, by decide⟩, Nat.le_refl _, Nat.le_refl _⟩ (fun X12 h12 => ?_)
  obtain ⟨hf1, hK1, hC1⟩ := h12
  refine jq_aload_n dX5_broken_15 rfl rfl ?_
  refine xq_getR 11 fX5_21 dX5_broken_16 (xs_lt (by decide) hn) (by decide) ?_
  refine xq_vI dX5_broken_19 kX5_124 (c_X4_reason hn (dv_fr hA.1 hf1) hK1 (dv_nfr hA.2.1 hf1) hC1) (xs_lt (by decide) hn) ⟨rfl, rfl⟩ rfl rfl (Nat.le_of_ble_eq_true rfl) ⟨⟨by decide, by decide⟩, Nat.le_refl _, Nat.le_refl _⟩ ?_
  rw [dv_broken_eq hA.1.1]
  exact xq_ireturn dX5_broken_22 rfl rfl (⟨_, rfl, rfl, xs_fr_mo hf1 (by decide)⟩)
set_option maxHeartbeats 4000000 in
theorem c_X5_isAnswer {l : Launch} {G : jq_G} {n : Nat} {ad : Nat → Nat} {X : xs_T} (hn : 21 ≤ n) {w h : Nat} {num : Nat → Int32} {mk : Nat → Nat} (hA : dv_A w h num mk X) : xs_Ct l G mX5_isAnswer 3 [.ref (ad 0)] n ad X (xs_pd (some (.int (tb_b (tb_isLoop w h mk && tb_right w h num mk)))) X) := by
  have hL := dv_S_lt hA.1.1 mk 1
  have hs := dv_same_S w h mk
  refine xs_Ct_of (L := [some (.ref (ad 0))]) rfl (Nat.le_of_ble_eq_true rfl) rfl ?_
  refine jq_aload_n dX5_isAnswer_0 rfl rfl ?_
  refine xq_getR 1 fX5_10 dX5_isAnswer_1 (xs_lt (by decide) hn) (by decide) ?_
  refine jq_aload_n dX5_isAnswer_4 rfl rfl ?_
  refine xq_getL fX5_80 dX5_isAnswer_5 (xs_lt (by decide) hn) (by decide) hA.2.2.1.1 ?_
  refine xq_vI dX5_isAnswer_8 kX5_128 (c_X0_isLoop hn hA.1 hL) (xs_lt (by decide) hn) ⟨rfl, rfl⟩ rfl rfl (Nat.le_of_ble_eq_true rfl) ⟨⟨by decide, by decide⟩, Nat.le_refl _, Nat.le_refl _⟩ ?_
  rw [dv_same_loop hA.1.1 hs]
  refine jq_if_eq (tgt := 33) dX5_isAnswer_11 (by decide) (fun c11 => ?_) (fun c11 => ?_)
  · have d11 := tb_b0.mp c11
    refine jq_iconst (v := 0) dX5_isAnswer_33 (by decide) ?_
    exact xq_ireturn dX5_isAnswer_34 rfl rfl (⟨by rw [d11]; first | rfl | (rw [d26]; rfl), rfl⟩)
  · have d11 := tb_b1.mp c11
    refine jq_aload_n dX5_isAnswer_14 rfl rfl ?_
    refine xq_getR 1 fX5_10 dX5_isAnswer_15 (xs_lt (by decide) hn) (by decide) ?_
    refine jq_aload_n dX5_isAnswer_18 rfl rfl ?_
    refine xq_getL fX5_80 dX5_isAnswer_19 (xs_lt (by decide) hn) (by decide) hA.2.2.1.1 ?_
    refine jq_iconst (v := (-1)) dX5_isAnswer_22 (by decide) ?_
    refine xq_vI dX5_isAnswer_23 kX5_132 (c_X0_numbersAreRight hn hA.1 hA.2.1 hL (-1)) (xs_lt (by decide) hn) ⟨rfl, rfl⟩ rfl rfl (Nat.le_of_ble_eq_true rfl) ⟨⟨by decide, by decide⟩, Nat.le_refl _, Nat.le_refl _⟩ ?_
    rw [dv_same_right hA.1.1 hs]
    refine jq_if_eq (tgt := 33) dX5_isAnswer_26 (by decide) (fun c26 => ?_) (fun c26 => ?_)
    · have d26 := tb_b0.mp c26
      refine jq_iconst (v := 0) dX5_isAnswer_33 (by decide) ?_
      exact xq_ireturn dX5_isAnswer_34 rfl rfl (⟨by rw [d11]; first | rfl | (rw [d26]; rfl), rfl⟩)
    · have d26 := tb_b1.mp c26
      refine jq_iconst (v := 1) dX5_isAnswer_29 (by decide) ?_
      refine jq_goto (tgt := 34) dX5_isAnswer_30 (by decide) ?_
      exact xq_ireturn dX5_isAnswer_34 rfl rfl (⟨by rw [d11]; first | rfl | (rw [d26]; rfl), rfl⟩)
set_option maxHeartbeats 4000000 in
theorem c_X5_rounds {l : Launch} {G : jq_G} {n : Nat} {ad : Nat → Nat} {X : xs_T} (hn : 21 ≤ n) {w h : Nat} {num : Nat → Int32} {mk : Nat → Nat} (hA : dv_A w h num mk X) : xs_Ct l G mX5_rounds 7 [.ref (ad 0)] n ad X (xs_pi (fun v X' => v = nI (tb_follow w h num mk).2.2.2.1 ∧ xs_fr dv_SC dv_FC X X')) := by
  refine xs_Ct_of (L := [some (.ref (ad 0))]) rfl (Nat.le_of_ble_eq_true rfl) rfl ?_
  refine jq_aload_n dX5_rounds_0 rfl rfl ?_
  refine xq_getR 16 fX5_30 dX5_rounds_1 (xs_lt (by decide) hn) (by decide) ?_
  refine jq_aload_n dX5_rounds_4 rfl rfl ?_
  refine xq_getL fX5_80 dX5_rounds_5 (xs_lt (by decide) hn) (by decide) hA.2.2.1.1 ?_
  refine jq_aload_n dX5_rounds_8 rfl rfl ?_
  refine xq_getL fX5_84 dX5_rounds_9 (xs_lt (by decide) hn) (by decide) hA.2.2.1.2 ?_
  refine xq_rV dX5_rounds_12 kX5_93 (c_X2_run hn hA.1 hA.2.1 hA.2.2.2) (xs_lt (by decide) hn) ⟨rfl, rfl⟩ rfl rfl (Nat.le_of_ble_eq_true rfl) ⟨⟨by decide, by decide⟩, Nat.le_refl _, Nat.le_refl _⟩ (fun X12 h12 => ?_)
  refine jq_aload_n dX5_rounds_15 rfl rfl ?_
  refine xq_getR 16 fX5_30 dX5_rounds_16 (xs_lt (by decide) hn) (by decide) ?_
  refine xq_getI fX5_142 dX5_rounds_19 (xs_lt (by decide) hn) (by decide) h12.2.1.1.1.2.2 ?_
  exact xq_ireturn dX5_rounds_22 rfl rfl (⟨_, rfl, rfl, h12.1⟩)
set_option maxHeartbeats 4000000 in
theorem c_X5_end {l : Launch} {G : jq_G} {n : Nat} {ad : Nat → Nat} {X : xs_T} (hn : 21 ≤ n) {w h : Nat} {num : Nat → Int32} {mk : Nat → Nat} (hA : dv_A w h num mk X) : xs_Ct l G mX5_end 7 [.ref (ad 0)] n ad X (xs_pi (fun v X' => v = nI (tb_follow w h num mk).2.2.2.2 ∧ xs_fr dv_SC dv_FC X X')) := by
  refine xs_Ct_of (L := [some (.ref (ad 0))]) rfl (Nat.le_of_ble_eq_true rfl) rfl ?_
  refine jq_aload_n dX5_end_0 rfl rfl ?_
  refine xq_getR 16 fX5_30 dX5_end_1 (xs_lt (by decide) hn) (by decide) ?_
  refine jq_aload_n dX5_end_4 rfl rfl ?_
  refine xq_getL fX5_80 dX5_end_5 (xs_lt (by decide) hn) (by decide) hA.2.2.1.1 ?_
  refine jq_aload_n dX5_end_8 rfl rfl ?_
  refine xq_getL fX5_84 dX5_end_9 (xs_lt (by decide) hn) (by decide) hA.2.2.1.2 ?_
  refine xq_rV dX5_end_12 kX5_93 (c_X2_run hn hA.1 hA.2.1 hA.2.2.2) (xs_lt (by decide) hn) ⟨rfl, rfl⟩ rfl rfl (Nat.le_of_ble_eq_true rfl) ⟨⟨by decide, by decide⟩, Nat.le_refl _, Nat.le_refl _⟩ (fun X12 h12 => ?_)
  refine jq_aload_n dX5_end_15 rfl rfl ?_
  refine xq_getR 16 fX5_30 dX5_end_16 (xs_lt (by decide) hn) (by decide) ?_
  refine xq_getI fX5_97 dX5_end_19 (xs_lt (by decide) hn) (by decide) h12.2.1.2 ?_
  exact xq_ireturn dX5_end_22 rfl rfl (⟨_, rfl, rfl, h12.1⟩)
set_option maxHeartbeats 4000000 in
theorem c_X5_hint {l : Launch} {G : jq_G} {n : Nat} {ad : Nat → Nat} {X : xs_T} (hn : 21 ≤ n) {w h : Nat} {num : Nat → Int32} {mk : Nat → Nat} (hA : dv_A w h num mk X) : xs_Ct l G mX5_hint 5 [.ref (ad 0)] n ad X (xs_pi (fun v X' => v = tb_hint w h num mk ∧ xs_fr dv_SC dv_FC X X')) := by
  have hb4 := tb_broken_le w h num mk
  have hz := tb_sizes hA.1.1
  obtain ⟨hd1, hd2⟩ := dv_dlt hA.1.1 num mk
  have ho : (dv_asks w h num mk).2.1 ||| (dv_asks w h num mk).2.2 < 2 ^ 40 := Nat.or_lt_two_pow hd1 hd2
  have loop : tb_broken w h num mk = 0 → ∀ (k e : Nat) (Y : xs_T), e + k = tb_ne w h → xs_fr dv_SC dv_FC X Y → (∀ j, j < e → (tb_asks w h num mk).1 j = 0) → jq_J l G mX5_hint (jq_R 5 0 0) jq_E0 (xs_Ye G n ad (xs_pi (fun v X' => v = tb_hint w h num mk ∧ xs_fr dv_SC dv_FC X X'))) 52 [some (.ref (ad 0)), some (.long (lN ((dv_asks w h num mk).2.1 ||| (dv_asks w h num mk).2.2))), none, some (.int (nI (e)))] [] n ad (xs_mem G ad Y) 0 0 := by
    intro hb0 k
    induction k with
    | zero =>
      intro e Y hk hf hno
      have hT2 := dv_fr hA.1 hf
      have e1 : e = tb_ne w h := by omega
      subst e1
      refine jq_iload_n dX5_hint_52 rfl rfl ?_
      refine jq_aload_n dX5_hint_53 rfl rfl ?_
      refine xq_getR 1 fX5_10 dX5_hint_54 (xs_lt (by decide) hn) (by decide) ?_
      refine xq_getI fX5_62 dX5_hint_57 (xs_lt (by decide) hn) (by decide) hT2.2.1.2.2.2.2.1 ?_
      refine jq_geN (tgt := 79) dX5_hint_60 (by decide) ⟨by omega, by omega⟩ (fun c60 => ?_) (fun c60 => ?_)
      · refine jq_iconst (v := (-1)) dX5_hint_79 (by decide) ?_
        refine xq_ireturn dX5_hint_80 rfl rfl ⟨_, rfl, ?_, hf⟩
        unfold tb_hint
        rw [if_neg (fun q => q hb0), if_neg]
        intro q
        have := fa_first_yes (fun e => !((tb_asks w h num mk).1 e == 0)) _ q
        rw [hno _ q] at this
        cases this
      · exact absurd c60 (by omega)
    | succ k ih =>
      intro e Y hk hf hno
      have hT2 := dv_fr hA.1 hf
      have he : e < tb_ne w h := by omega
      refine jq_iload_n dX5_hint_52 rfl rfl ?_
      refine jq_aload_n dX5_hint_53 rfl rfl ?_
      refine xq_getR 1 fX5_10 dX5_hint_54 (xs_lt (by decide) hn) (by decide) ?_
      refine xq_getI fX5_62 dX5_hint_57 (xs_lt (by decide) hn) (by decide) hT2.2.1.2.2.2.2.1 ?_
      refine jq_geN (tgt := 79) dX5_hint_60 (by decide) ⟨by omega, by omega⟩ (fun c60 => ?_) (fun c60 => ?_)
      · exact absurd c60 (by omega)
      · refine jq_lload_n dX5_hint_63 rfl rfl ?_
        refine jq_iload_n dX5_hint_64 rfl rfl ?_
        refine xq_sI dX5_hint_65 kX5_154 (c_X5_has (by omega) (by omega)) rfl rfl (Nat.le_of_ble_eq_true rfl) ⟨⟨by decide, by decide⟩, Nat.le_refl _, Nat.le_refl _⟩ ?_
        rw [dv_has hA.1.1 num mk he]
        refine jq_if_eq (tgt := 73) dX5_hint_68 (by decide) (fun c68 => ?_) (fun c68 => ?_)
        · have d68 : (tb_asks w h num mk).1 e = 0 := by simpa using tb_b0.mp c68
          refine jq_iincN dX5_hint_73 (by decide) rfl rfl rfl ?_
          refine jq_goto (tgt := 52) dX5_hint_76 (by decide) ?_
          refine ih (e + 1) Y (by omega) hf (fun j hj => ?_)
          rcases Nat.lt_or_ge j e with q | q
          · exact hno j q
          · rw [show j = e by omega]; exact d68
        · have d68 : (tb_asks w h num mk).1 e ≠ 0 := by simpa using tb_b1.mp c68
          refine jq_iload_n dX5_hint_71 rfl rfl ?_
          refine xq_ireturn dX5_hint_72 rfl rfl ⟨_, rfl, ?_, hf⟩
          have hfst : fa_first (fun e => !((tb_asks w h num mk).1 e == 0)) (tb_ne w h) = e := by
            rcases Nat.lt_trichotomy (fa_first (fun e => !((tb_asks w h num mk).1 e == 0)) (tb_ne w h)) e with q | q | q
            · have := fa_first_yes (fun e => !((tb_asks w h num mk).1 e == 0)) (tb_ne w h) (by omega)
              rw [hno _ q] at this
              cases this
            · exact q
            · have := fa_first_no (fun e => !((tb_asks w h num mk).1 e == 0)) (tb_ne w h) e q
              rw [beq_eq_false_iff_ne.mpr d68] at this
              cases this
          unfold tb_hint
          rw [if_neg (fun q => q hb0), hfst, if_pos he]
  refine xs_Ct_of (L := [some (.ref (ad 0)), none, none, none]) rfl (Nat.le_of_ble_eq_true rfl) rfl ?_
  refine jq_aload_n dX5_hint_0 rfl rfl ?_
  refine xq_getR 11 fX5_21 dX5_hint_1 (xs_lt (by decide) hn) (by decide) ?_
  refine jq_aload_n dX5_hint_4 rfl rfl ?_
  refine xq_getL fX5_80 dX5_hint_5 (xs_lt (by decide) hn) (by decide) hA.2.2.1.1 ?_
  refine jq_aload_n dX5_hint_8 rfl rfl ?_
  refine xq_getL fX5_84 dX5_hint_9 (xs_lt (by decide) hn) (by decide) hA.2.2.1.2 ?_
  refine xq_rV dX5_hint_12 kX5_121 (c_X4_look hn hA.1 hA.2.2.2) (xs_lt (by decide) hn) ⟨rfl, rfl⟩ rfl rfl (Nat.le_of_ble_eq_true rfl) ⟨⟨by decide, by decide⟩, Nat.le_refl _, Nat.le_refl _⟩ (fun X12 h12 => ?_)
  obtain ⟨hf1, hK1, hC1⟩ := h12
  refine jq_aload_n dX5_hint_15 rfl rfl ?_
  refine xq_getR 11 fX5_21 dX5_hint_16 (xs_lt (by decide) hn) (by decide) ?_
  refine xq_vI dX5_hint_19 kX5_124 (c_X4_reason hn (dv_fr hA.1 hf1) hK1 (dv_nfr hA.2.1 hf1) hC1) (xs_lt (by decide) hn) ⟨rfl, rfl⟩ rfl rfl (Nat.le_of_ble_eq_true rfl) ⟨⟨by decide, by decide⟩, Nat.le_refl _, Nat.le_refl _⟩ ?_
  rw [dv_broken_eq hA.1.1]
  refine jq_eqZ (tgt := 27) dX5_hint_22 (by decide) (by omega) (fun c22 => ?_) (fun c22 => ?_)
  · refine jq_aload_n dX5_hint_27 rfl rfl ?_
    refine xq_getR 11 fX5_21 dX5_hint_28 (xs_lt (by decide) hn) (by decide) ?_
    refine xq_rV dX5_hint_31 kX5_145 (c_X4_askRules hn (dv_fr hA.1 hf1) hK1 (dv_nfr hA.2.1 hf1) hC1) (xs_lt (by decide) hn) ⟨rfl, rfl⟩ rfl rfl (Nat.le_of_ble_eq_true rfl) ⟨⟨by decide, by decide⟩, Nat.le_refl _, Nat.le_refl _⟩ (fun X31 h31 => ?_)
    refine jq_aload_n dX5_hint_34 rfl rfl ?_
    refine xq_getR 11 fX5_21 dX5_hint_35 (xs_lt (by decide) hn) (by decide) ?_
    refine xq_getL fX5_148 dX5_hint_38 (xs_lt (by decide) hn) (by decide) h31.2.2.1.1 ?_
    refine jq_aload_n dX5_hint_41 rfl rfl ?_
    refine xq_getR 11 fX5_21 dX5_hint_42 (xs_lt (by decide) hn) (by decide) ?_
    refine xq_getL fX5_151 dX5_hint_45 (xs_lt (by decide) hn) (by decide) h31.2.2.2.1 ?_
    refine jq_lor dX5_hint_48 ?_
    rw [wb_or (by omega) (by omega)]
    refine jq_lstore_n dX5_hint_49 rfl (by decide) rfl rfl ?_
    refine jq_iconst (v := (nI 0)) dX5_hint_50 (by decide) ?_
    refine jq_istore_n dX5_hint_51 rfl (by decide) rfl rfl ?_
    exact loop c22 (tb_ne w h) 0 _ (by omega) (xs_fr_tr (xs_fr_mo hf1 (by decide)) (xs_fr_mo h31.1 (by decide))) (fun j hj => absurd hj (Nat.not_lt_zero j))
  · refine jq_iconst (v := (-1)) dX5_hint_25 (by decide) ?_
    exact xq_ireturn dX5_hint_26 rfl rfl (⟨_, rfl, by unfold tb_hint; rw [if_pos c22], xs_fr_mo hf1 (by decide)⟩)
set_option maxHeartbeats 4000000 in
theorem c_X5_markAll {l : Launch} {G : jq_G} {n : Nat} {ad : Nat → Nat} {X : xs_T} (hn : 21 ≤ n) {w h : Nat} {num : Nat → Int32} {mk : Nat → Nat} (hA : dv_A w h num mk X) : xs_Ct l G mX5_markAll 7 [.ref (ad 0)] n ad X (xs_pi (fun v X' => v = (if (tb_follow w h num mk).2.2.2.2 = 0 then nI (tb_became w h mk (tb_follow w h num mk).1) else 0) ∧ xs_fr dv_SC ((0, 4) :: (0, 5) :: dv_FC) X X' ∧ dv_A w h num (if (tb_follow w h num mk).2.2.2.2 = 0 then (tb_follow w h num mk).1 else mk) X')) := by
  have hz := tb_sizes hA.1.1
  have hL := dv_S_lt hA.1.1 mk 1
  have hC := dv_S_lt hA.1.1 mk 2
  have hL2 := dv_S_lt hA.1.1 (tb_follow w h num mk).1 1
  have hC2 := dv_S_lt hA.1.1 (tb_follow w h num mk).1 2
  have ho : dv_S w h mk 1 ||| dv_S w h mk 2 < 2 ^ 40 := Nat.or_lt_two_pow hL hC
  have ho2 : dv_S w h (tb_follow w h num mk).1 1 ||| dv_S w h (tb_follow w h num mk).1 2 < 2 ^ 40 := Nat.or_lt_two_pow hL2 hC2
  have hbc := tb_became_eq (w := w) (h := h) (tb_ext (w := w) (h := h) (num := num) (mk := mk))
  have he5 : (tb_follow w h num mk).2.2.2.2 < 6 := tb_end_lt w h num mk
  refine xs_Ct_of (L := [some (.ref (ad 0)), none]) rfl (Nat.le_of_ble_eq_true rfl) rfl ?_
  refine jq_aload_n dX5_markAll_0 rfl rfl ?_
  refine xq_getR 16 fX5_30 dX5_markAll_1 (xs_lt (by decide) hn) (by decide) ?_
  refine jq_aload_n dX5_markAll_4 rfl rfl ?_
  refine xq_getL fX5_80 dX5_markAll_5 (xs_lt (by decide) hn) (by decide) hA.2.2.1.1 ?_
  refine jq_aload_n dX5_markAll_8 rfl rfl ?_
  refine xq_getL fX5_84 dX5_markAll_9 (xs_lt (by decide) hn) (by decide) hA.2.2.1.2 ?_
  refine xq_rV dX5_markAll_12 kX5_93 (c_X2_run hn hA.1 hA.2.1 hA.2.2.2) (xs_lt (by decide) hn) ⟨rfl, rfl⟩ rfl rfl (Nat.le_of_ble_eq_true rfl) ⟨⟨by decide, by decide⟩, Nat.le_refl _, Nat.le_refl _⟩ (fun X12 h12 => ?_)
  obtain ⟨hf1, hR1, hle1⟩ := h12
  have hA1 := dv_afr hA hf1
  refine jq_aload_n dX5_markAll_15 rfl rfl ?_
  refine xq_getR 16 fX5_30 dX5_markAll_16 (xs_lt (by decide) hn) (by decide) ?_
  refine xq_getI fX5_97 dX5_markAll_19 (xs_lt (by decide) hn) (by decide) hR1.2 ?_
  refine jq_eqZ (tgt := 27) dX5_markAll_22 (by decide) (by omega) (fun c22 => ?_) (fun c22 => ?_)
  · refine jq_aload_n dX5_markAll_27 rfl rfl ?_
    refine xq_getL fX5_80 dX5_markAll_28 (xs_lt (by decide) hn) (by decide) hA1.2.2.1.1 ?_
    refine jq_aload_n dX5_markAll_31 rfl rfl ?_
    refine xq_getL fX5_84 dX5_markAll_32 (xs_lt (by decide) hn) (by decide) hA1.2.2.1.2 ?_
    refine jq_lor dX5_markAll_35 ?_
    rw [wb_or (by omega) (by omega)]
    refine xq_sI dX5_markAll_36 kX5_100 (c_bitCount (Nat.lt_trans ho (by decide))) rfl rfl (Nat.le_of_ble_eq_true rfl) ⟨⟨by decide, by decide⟩, Nat.le_refl _, Nat.le_refl _⟩ ?_
    rw [dv_or_bm hA.2.2.2, pc_bm _ (by omega)]
    refine jq_istore_n dX5_markAll_39 rfl (by decide) rfl rfl ?_
    refine jq_aload_n dX5_markAll_40 rfl rfl ?_
    refine jq_aload_n dX5_markAll_41 rfl rfl ?_
    refine xq_getR 16 fX5_30 dX5_markAll_42 (xs_lt (by decide) hn) (by decide) ?_
    refine xq_getL fX5_106 dX5_markAll_45 (xs_lt (by decide) hn) (by decide) hR1.1.1.1 ?_
    refine xq_putL pX5_80 dX5_markAll_48 (xs_lt (by decide) hn) (by decide) ?_
    refine jq_aload_n dX5_markAll_51 rfl rfl ?_
    refine jq_aload_n dX5_markAll_52 rfl rfl ?_
    refine xq_getR 16 fX5_30 dX5_markAll_53 (xs_lt (by decide) hn) (by decide) ?_
    refine xq_getL fX5_107 dX5_markAll_56 (xs_lt (by decide) hn) (by decide) ((xs_sl_ne (by decide)).trans hR1.1.1.2.1) ?_
    refine xq_putL pX5_84 dX5_markAll_59 (xs_lt (by decide) hn) (by decide) ?_
    refine jq_aload_n dX5_markAll_62 rfl rfl ?_
    refine xq_getL fX5_80 dX5_markAll_63 (xs_lt (by decide) hn) (by decide) ((xs_sl_ne (by decide)).trans xs_sl_at) ?_
    refine jq_aload_n dX5_markAll_66 rfl rfl ?_
    refine xq_getL fX5_84 dX5_markAll_67 (xs_lt (by decide) hn) (by decide) xs_sl_at ?_
    refine jq_lor dX5_markAll_70 ?_
    rw [wb_or (by omega) (by omega)]
    refine xq_sI dX5_markAll_71 kX5_100 (c_bitCount (Nat.lt_trans ho2 (by decide))) rfl rfl (Nat.le_of_ble_eq_true rfl) ⟨⟨by decide, by decide⟩, Nat.le_refl _, Nat.le_refl _⟩ ?_
    rw [dv_or_bm hle1, pc_bm _ (by omega), hbc]
    refine jq_iload_n dX5_markAll_74 rfl rfl ?_
    refine jq_isubN dX5_markAll_75 (Nat.le_add_right _ _) ?_
    refine xq_ireturn dX5_markAll_76 rfl rfl ⟨_, rfl, ?_, xs_fr_sl (xs_fr_sl (xs_fr_mo hf1 (by decide)) (by decide)) (by decide), ?_⟩
    · rw [if_pos c22, Nat.add_sub_cancel_left]
    · rw [if_pos c22]
      have hfE : xs_fr [] [(0, 4), (0, 5)] X12 (xs_sl (xs_sl X12 0 4 (lN (dv_S w h (tb_follow w h num mk).1 1))) 0 5 (lN (dv_S w h (tb_follow w h num mk).1 2))) := xs_fr_sl (xs_fr_sl xs_fr_rf (by decide)) (by decide)
      exact ⟨dv_fr hA1.1 hfE, dv_nfr hA1.2.1 hfE, ⟨(xs_sl_ne (by decide)).trans xs_sl_at, xs_sl_at⟩, hle1⟩
  · refine jq_iconst (v := 0) dX5_markAll_25 (by decide) ?_
    exact xq_ireturn dX5_markAll_26 rfl rfl (⟨_, rfl, (if_neg c22).symm, xs_fr_mo hf1 (by decide), by rw [if_neg c22]; exact hA1⟩)
