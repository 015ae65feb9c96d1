set_option maxHeartbeats 4000000 in
theorem c_X1_clear {l : Launch} {G : jq_G} {n : Nat} {ad : Nat → Nat} {X : xs_T} (hn : 21 ≤ n) {w h : Nat} (hW : tb_W w h) (st : Nat → Nat) : xs_Ct l G mX1_clear 1 [.ref (ad 12), .int (nI (tb_nc w h + 1))] n ad X (xs_pv (fun X' => xs_fr [13, 14] [(12, 2), (12, 3)] X X' ∧ dv_C w h st 0 X')) := by
  have hz := tb_sizes hW
  have loop : ∀ (k p : Nat) (Y : xs_T), p + k = tb_nc w h + 1 → xs_fr [13, 14] [(12, 2), (12, 3)] X Y → (Y.1 12 2 = nI (tb_nc w h + 1) ∧ Y.1 12 3 = 0) → (∀ a, a < p → Y.2.2.1 13 a = nI a ∧ Y.2.2.1 14 a = 0) → jq_J l G mX1_clear (jq_R 1 0 0) jq_E0 (xs_Ye G n ad (xs_pv (fun X' => xs_fr [13, 14] [(12, 2), (12, 3)] X X' ∧ dv_C w h st 0 X'))) 12 [some (.ref (ad 12)), some (.int (nI (tb_nc w h + 1))), some (.int (nI (p)))] [] n ad (xs_mem G ad Y) 0 0 := by
    intro k
    induction k with
    | zero =>
      intro p Y hk hf hF hY
      refine jq_iload_n dX1_clear_12 rfl rfl ?_
      refine jq_aload_n dX1_clear_13 rfl rfl ?_
      refine xq_getI fX1_18 dX1_clear_14 (xs_lt (by decide) hn) (by decide) hF.1 ?_
      refine jq_geN (tgt := 40) dX1_clear_17 (by decide) ⟨by omega, by omega⟩ (fun c17 => ?_) (fun c17 => ?_)
      · exact xq_return rfl dX1_clear_40 rfl (⟨rfl, hf, ⟨fun a ha => hY a (by omega), hF.1, hF.2⟩⟩)
      · exact absurd c17 (by omega)
    | succ k ih =>
      intro p Y hk hf hF hY
      have hi : vp_in (nI p) 17 := vp_inN (by omega) (by decide)
      refine jq_iload_n dX1_clear_12 rfl rfl ?_
      refine jq_aload_n dX1_clear_13 rfl rfl ?_
      refine xq_getI fX1_18 dX1_clear_14 (xs_lt (by decide) hn) (by decide) hF.1 ?_
      refine jq_geN (tgt := 40) dX1_clear_17 (by decide) ⟨by omega, by omega⟩ (fun c17 => ?_) (fun c17 => ?_)
      · exact absurd c17 (by omega)
      · refine jq_aload_n dX1_clear_20 rfl rfl ?_
        refine xq_getR 13 fX1_9 dX1_clear_21 (xs_lt (by decide) hn) (by decide) ?_
        refine jq_iload_n dX1_clear_24 rfl rfl ?_
        refine jq_iload_n dX1_clear_25 rfl rfl ?_
        refine xq_iastore dX1_clear_26 (xs_lt (by decide) hn) rfl hi ?_
        refine jq_aload_n dX1_clear_27 rfl rfl ?_
        refine xq_getR 14 fX1_15 dX1_clear_28 (xs_lt (by decide) hn) (by decide) ?_
        refine jq_iload_n dX1_clear_31 rfl rfl ?_
        refine jq_iconst (v := (nI 0)) dX1_clear_32 (by decide) ?_
        refine xq_iastore dX1_clear_33 (xs_lt (by decide) hn) rfl hi ?_
        refine jq_iincN dX1_clear_34 (by decide) rfl rfl rfl ?_
        refine jq_goto (tgt := 12) dX1_clear_37 (by decide) ?_
        refine ih (p + 1) _ (by omega) (xs_fr_ai (xs_fr_ai hf (by decide)) (by decide)) hF (fun j hj => ?_)
        rw [xs_ai_at, xs_ai_ne (by decide), xs_ai_at]
        rcases Nat.lt_or_ge j p with q | q
        · rw [xs_upd_ne (by omega) (by omega), xs_upd_ne (by omega) (by omega)]; exact hY j q
        · rw [show j = p by omega, xs_upd_at (by omega), xs_upd_at (by omega)]; exact ⟨rfl, rfl⟩
  refine xs_Ct_of (L := [some (.ref (ad 12)), some (.int (nI (tb_nc w h + 1))), none]) rfl (Nat.le_of_ble_eq_true rfl) rfl ?_
  refine jq_aload_n dX1_clear_0 rfl rfl ?_
  refine jq_iload_n dX1_clear_1 rfl rfl ?_
  refine xq_putI pX1_18 dX1_clear_2 (xs_lt (by decide) hn) (by decide) rfl rfl ?_
  refine jq_aload_n dX1_clear_5 rfl rfl ?_
  refine jq_iconst (v := 0) dX1_clear_6 (by decide) ?_
  refine xq_putI pX1_22 dX1_clear_7 (xs_lt (by decide) hn) (by decide) rfl rfl ?_
  refine jq_iconst (v := (nI 0)) dX1_clear_10 (by decide) ?_
  refine jq_istore_n dX1_clear_11 rfl (by decide) rfl rfl ?_
  exact loop (tb_nc w h + 1) 0 _ (by omega) (xs_fr_si (xs_fr_si xs_fr_rf (by decide)) (by decide)) ⟨by rw [xs_si_ne (by decide), xs_si_at], xs_si_at⟩ (fun j hj => absurd hj (Nat.not_lt_zero j))
set_option maxHeartbeats 4000000 in
theorem c_X1_areJoined {l : Launch} {G : jq_G} {n : Nat} {ad : Nat → Nat} {X : xs_T} (hn : 21 ≤ n) {w h : Nat} (hW : tb_W w h) {st : Nat → Nat} {k : Nat} (hk : k ≤ tb_ne w h) (hC : dv_C w h st k X) {a b : Nat} (ha : a ≤ tb_nc w h) (hb : b ≤ tb_nc w h) : xs_Ct l G mX1_areJoined 1 [.ref (ad 12), .int (nI (a)), .int (nI (b))] n ad X (xs_pd (some (.int (tb_b ((tb_ch w h st k).1 a == (tb_ch w h st k).1 b)))) X) := by
  have hz := tb_sizes hW
  have hia : vp_in (nI a) 17 := vp_inN (by omega) (by decide)
  have hib : vp_in (nI b) 17 := vp_inN (by omega) (by decide)
  have hla := tb_ch_le hW st k hk a ha
  have hlb := tb_ch_le hW st k hk b hb
  refine xs_Ct_of (L := [some (.ref (ad 12)), some (.int (nI (a))), some (.int (nI (b)))]) rfl (Nat.le_of_ble_eq_true rfl) rfl ?_
  refine jq_aload_n dX1_areJoined_0 rfl rfl ?_
  refine xq_getR 13 fX1_9 dX1_areJoined_1 (xs_lt (by decide) hn) (by decide) ?_
  refine jq_iload_n dX1_areJoined_4 rfl rfl ?_
  refine xq_iaload dX1_areJoined_5 (xs_lt (by decide) hn) rfl hia (xs_rd (hC.1 a ha).1 (by omega)) ?_
  refine jq_aload_n dX1_areJoined_6 rfl rfl ?_
  refine xq_getR 13 fX1_9 dX1_areJoined_7 (xs_lt (by decide) hn) (by decide) ?_
  refine jq_iload_n dX1_areJoined_10 rfl rfl ?_
  refine xq_iaload dX1_areJoined_11 (xs_lt (by decide) hn) rfl hib (xs_rd (hC.1 b hb).1 (by omega)) ?_
  refine jq_neN (tgt := 19) dX1_areJoined_12 (by decide) ⟨by omega, by omega⟩ (fun c12 => ?_) (fun c12 => ?_)
  · refine jq_iconst (v := 0) dX1_areJoined_19 (by decide) ?_
    exact xq_ireturn dX1_areJoined_20 rfl rfl (⟨by simp [c12, tb_b], rfl⟩)
  · refine jq_iconst (v := 1) dX1_areJoined_15 (by decide) ?_
    refine jq_goto (tgt := 20) dX1_areJoined_16 (by decide) ?_
    exact xq_ireturn dX1_areJoined_20 rfl rfl (⟨by simp [c12, tb_b], rfl⟩)
set_option maxHeartbeats 4000000 in
theorem c_X1_differ {l : Launch} {G : jq_G} {n : Nat} {ad : Nat → Nat} {X : xs_T} (hn : 21 ≤ n) {w h : Nat} (hW : tb_W w h) {st : Nat → Nat} {k : Nat} (hC : dv_C w h st k X) {a b : Nat} (ha : a ≤ tb_nc w h) (hb : b ≤ tb_nc w h) : xs_Ct l G mX1_differ 1 [.ref (ad 12), .int (nI (a)), .int (nI (b))] n ad X (xs_pd (some (.int (tb_b ((tb_ch w h st k).2.1 a != (tb_ch w h st k).2.1 b)))) X) := by
  have hz := tb_sizes hW
  have hia : vp_in (nI a) 17 := vp_inN (by omega) (by decide)
  have hib : vp_in (nI b) 17 := vp_inN (by omega) (by decide)
  refine xs_Ct_of (L := [some (.ref (ad 12)), some (.int (nI (a))), some (.int (nI (b)))]) rfl (Nat.le_of_ble_eq_true rfl) rfl ?_
  refine jq_aload_n dX1_differ_0 rfl rfl ?_
  refine xq_getR 14 fX1_15 dX1_differ_1 (xs_lt (by decide) hn) (by decide) ?_
  refine jq_iload_n dX1_differ_4 rfl rfl ?_
  refine xq_iaload dX1_differ_5 (xs_lt (by decide) hn) rfl hia (xs_rd (hC.1 a ha).2 (by omega)) ?_
  refine jq_aload_n dX1_differ_6 rfl rfl ?_
  refine xq_getR 14 fX1_15 dX1_differ_7 (xs_lt (by decide) hn) (by decide) ?_
  refine jq_iload_n dX1_differ_10 rfl rfl ?_
  refine xq_iaload dX1_differ_11 (xs_lt (by decide) hn) rfl hib (xs_rd (hC.1 b hb).2 (by omega)) ?_
  refine jq_icmp_eq (tgt := 19) dX1_differ_12 (by decide) (fun c12 => ?_) (fun c12 => ?_)
  · refine jq_iconst (v := 0) dX1_differ_19 (by decide) ?_
    exact xq_ireturn dX1_differ_20 rfl rfl (⟨by simp only [tb_b_eq] at c12; simp [c12, tb_b], rfl⟩)
  · refine jq_iconst (v := 1) dX1_differ_15 (by decide) ?_
    refine jq_goto (tgt := 20) dX1_differ_16 (by decide) ?_
    exact xq_ireturn dX1_differ_20 rfl rfl (⟨by simp only [tb_b_eq] at c12; simp [c12, tb_b], rfl⟩)
set_option maxHeartbeats 4000000 in
theorem c_X1_join {l : Launch} {G : jq_G} {n : Nat} {ad : Nat → Nat} {X : xs_T} (hn : 21 ≤ n) {w h : Nat} (hW : tb_W w h) {st : Nat → Nat} {e : Nat} (he : e < tb_ne w h) (h0 : st e ≠ 0) (hC : dv_C w h st e X) : xs_Ct l G mX1_join 2 [.ref (ad 12), .int (nI (tb_are w h e)), .int (nI (tb_bes w h e)), .int (tb_b (st e == 1))] n ad X (xs_pv (fun X' => xs_fr [13, 14] [(12, 2), (12, 3)] X X' ∧ dv_C w h st (e + 1) X')) := by
  have hz := tb_sizes hW
  have hb := tb_ends hW e he
  have ha1 := hb.2.2.2.1
  have ha2 := hb.2.2.2.2
  have hle := tb_ch_le hW st e (by omega)
  have hla := hle _ ha1
  have hlb := hle _ ha2
  have hia : vp_in (nI (tb_are w h e)) 17 := vp_inN (by omega) (by decide)
  have hib : vp_in (nI (tb_bes w h e)) 17 := vp_inN (by omega) (by decide)
  have h32 : (tb_ch w h st e).1 (tb_are w h e) = (tb_ch w h st e).1 (tb_bes w h e) → ∀ b : Bool, b = !((tb_ch w h st e).2.2 && (((tb_ch w h st e).2.1 (tb_are w h e) != (tb_ch w h st e).2.1 (tb_bes w h e)) == (st e == 1))) → jq_J l G mX1_join (jq_R 2 0 0) jq_E0 (xs_Ye G n ad (xs_pv (fun X' => xs_fr [13, 14] [(12, 2), (12, 3)] X X' ∧ dv_C w h st (e + 1) X'))) 32 [some (.ref (ad 12)), some (.int (nI (tb_are w h e))), some (.int (nI (tb_bes w h e))), some (.int (tb_b (st e == 1))), none, none, none] [.int (tb_b b), .ref (ad 12)] n ad (xs_mem G ad X) 0 0 := by
    intro hsm b hbb
    refine xq_putI pX1_22 dX1_join_32 (xs_lt (by decide) hn) (by decide) (tb_narrow _) (tb_fits _) ?_
    exact xq_return rfl dX1_join_35 rfl (⟨rfl, xs_fr_si xs_fr_rf (by decide), ⟨fun a ha => by rw [tb_ch_s h0 hsm]; exact hC.1 a ha, by rw [xs_si_ne (by decide)]; exact hC.2.1, by rw [xs_si_at, hbb, tb_ch_s h0 hsm]⟩⟩)
  have h51 : (tb_ch w h st e).1 (tb_are w h e) ≠ (tb_ch w h st e).1 (tb_bes w h e) → ∀ t : Bool, t = (((tb_ch w h st e).2.1 (tb_are w h e) != (tb_ch w h st e).2.1 (tb_bes w h e)) != (st e == 1)) → jq_J l G mX1_join (jq_R 2 0 0) jq_E0 (xs_Ye G n ad (xs_pv (fun X' => xs_fr [13, 14] [(12, 2), (12, 3)] X X' ∧ dv_C w h st (e + 1) X'))) 51 [some (.ref (ad 12)), some (.int (nI (tb_are w h e))), some (.int (nI (tb_bes w h e))), some (.int (tb_b (st e == 1))), none, none, none] [.int (tb_b t)] n ad (xs_mem G ad X) 0 0 := by
    intro hdf t ht
    have loop : ∀ (k p : Nat) (Z : xs_T), p + k = tb_nc w h + 1 → xs_fr [13, 14] [(12, 2), (12, 3)] X Z → (Z.1 12 2 = nI (tb_nc w h + 1) ∧ Z.1 12 3 = tb_b (!(tb_ch w h st e).2.2)) → (∀ a, a < p → Z.2.2.1 13 a = nI ((tb_ch w h st (e + 1)).1 a) ∧ Z.2.2.1 14 a = tb_b ((tb_ch w h st (e + 1)).2.1 a)) → (∀ a, p ≤ a → a ≤ tb_nc w h → Z.2.2.1 13 a = nI ((tb_ch w h st e).1 a) ∧ Z.2.2.1 14 a = tb_b ((tb_ch w h st e).2.1 a)) → jq_J l G mX1_join (jq_R 2 0 0) jq_E0 (xs_Ye G n ad (xs_pv (fun X' => xs_fr [13, 14] [(12, 2), (12, 3)] X X' ∧ dv_C w h st (e + 1) X'))) 64 [some (.ref (ad 12)), some (.int (nI (tb_are w h e))), some (.int (nI (tb_bes w h e))), some (.int (tb_b (st e == 1))), some (.int (tb_b t)), some (.int (nI ((tb_ch w h st e).1 (tb_bes w h e)))), some (.int (nI (p)))] [] n ad (xs_mem G ad Z) 0 0 := by
      intro k
      induction k with
      | zero =>
        intro p Z hk hfZ hFZ hZ1 hZ2
        refine jq_iload dX1_join_64 rfl ?_
        refine jq_aload_n dX1_join_66 rfl rfl ?_
        refine xq_getI fX1_18 dX1_join_67 (xs_lt (by decide) hn) (by decide) hFZ.1 ?_
        refine jq_geN (tgt := 116) dX1_join_70 (by decide) ⟨by omega, by omega⟩ (fun c70 => ?_) (fun c70 => ?_)
        · exact xq_return rfl dX1_join_116 rfl (⟨rfl, hfZ, ⟨fun a ha => hZ1 a (by omega), hFZ.1, by rw [hFZ.2, tb_ch_d h0 hdf]⟩⟩)
        · exact absurd c70 (by omega)
      | succ k ih =>
        intro p Z hk hfZ hFZ hZ1 hZ2
        have hp := hZ2 p (Nat.le_refl p) (by omega)
        have hpl := hle p (by omega)
        have hip : vp_in (nI p) 17 := vp_inN (by omega) (by decide)
        have hnext : ∀ (Z2 : xs_T), xs_fr [13, 14] [] Z Z2 → (∀ a, a ≠ p → Z2.2.2.1 13 a = Z.2.2.1 13 a ∧ Z2.2.2.1 14 a = Z.2.2.1 14 a) → (Z2.2.2.1 13 p = nI ((tb_ch w h st (e + 1)).1 p) ∧ Z2.2.2.1 14 p = tb_b ((tb_ch w h st (e + 1)).2.1 p)) → jq_J l G mX1_join (jq_R 2 0 0) jq_E0 (xs_Ye G n ad (xs_pv (fun X' => xs_fr [13, 14] [(12, 2), (12, 3)] X X' ∧ dv_C w h st (e + 1) X'))) 110 [some (.ref (ad 12)), some (.int (nI (tb_are w h e))), some (.int (nI (tb_bes w h e))), some (.int (tb_b (st e == 1))), some (.int (tb_b t)), some (.int (nI ((tb_ch w h st e).1 (tb_bes w h e)))), some (.int (nI (p)))] [] n ad (xs_mem G ad Z2) 0 0 := by
          intro Z2 hf2 ho hv
          refine jq_iincN dX1_join_110 (by decide) rfl rfl rfl ?_
          refine jq_goto (tgt := 64) dX1_join_113 (by decide) ?_
          refine ih (p + 1) Z2 (by omega) (xs_fr_tr hfZ (xs_fr_mo hf2 (by decide))) ⟨xs_fi hf2 12 2 hFZ.1, xs_fi hf2 12 3 hFZ.2⟩ (fun a ha => ?_) (fun a ha ha2 => ?_)
          · rcases Nat.lt_or_ge a p with q | q
            · rw [(ho a (by omega)).1, (ho a (by omega)).2]; exact hZ1 a q
            · rw [show a = p by omega]; exact hv
          · rw [(ho a (by omega)).1, (ho a (by omega)).2]; exact hZ2 a (by omega) ha2
        have hca : Z.2.2.1 13 (tb_are w h e) = nI ((tb_ch w h st e).1 (tb_are w h e)) := by
          rcases Nat.lt_or_ge (tb_are w h e) p with q | q
          · rw [(hZ1 _ q).1, tb_ch_d h0 hdf]
            show nI (if _ then _ else _) = _
            rw [if_neg hdf]
          · exact (hZ2 _ q ha1).1
        refine jq_iload dX1_join_64 rfl ?_
        refine jq_aload_n dX1_join_66 rfl rfl ?_
        refine xq_getI fX1_18 dX1_join_67 (xs_lt (by decide) hn) (by decide) hFZ.1 ?_
        refine jq_geN (tgt := 116) dX1_join_70 (by decide) ⟨by omega, by omega⟩ (fun c70 => ?_) (fun c70 => ?_)
        · exact absurd c70 (by omega)
        · refine jq_aload_n dX1_join_73 rfl rfl ?_
          refine xq_getR 13 fX1_9 dX1_join_74 (xs_lt (by decide) hn) (by decide) ?_
          refine jq_iload dX1_join_77 rfl ?_
          refine xq_iaload dX1_join_79 (xs_lt (by decide) hn) rfl hip (xs_rd hp.1 (by omega)) ?_
          refine jq_iload dX1_join_80 rfl ?_
          refine jq_neN (tgt := 110) dX1_join_82 (by decide) ⟨by omega, by omega⟩ (fun c82 => ?_) (fun c82 => ?_)
          · exact hnext Z xs_fr_rf (fun a _ => ⟨rfl, rfl⟩) ⟨by rw [hp.1, tb_ch_d h0 hdf]; show _ = nI (if _ then _ else _); rw [if_neg c82], by rw [hp.2, tb_ch_d h0 hdf]; show _ = tb_b (if _ then _ else _); rw [if_neg c82]⟩
          · refine jq_aload_n dX1_join_85 rfl rfl ?_
            refine xq_getR 13 fX1_9 dX1_join_86 (xs_lt (by decide) hn) (by decide) ?_
            refine jq_iload dX1_join_89 rfl ?_
            refine jq_aload_n dX1_join_91 rfl rfl ?_
            refine xq_getR 13 fX1_9 dX1_join_92 (xs_lt (by decide) hn) (by decide) ?_
            refine jq_iload_n dX1_join_95 rfl rfl ?_
            refine xq_iaload dX1_join_96 (xs_lt (by decide) hn) rfl hia (xs_rd hca (by omega)) ?_
            refine xq_iastore dX1_join_97 (xs_lt (by decide) hn) rfl hip ?_
            refine jq_aload_n dX1_join_98 rfl rfl ?_
            refine xq_getR 14 fX1_15 dX1_join_99 (xs_lt (by decide) hn) (by decide) ?_
            refine jq_iload dX1_join_102 rfl ?_
            refine jq_dup2 dX1_join_104 rfl rfl ?_
            refine xq_iaload dX1_join_105 (xs_lt (by decide) hn) rfl hip (xs_rd (show (xs_ai Z 13 _).2.2.1 14 p = _ from hp.2) (by omega)) ?_
            refine jq_iload dX1_join_106 rfl ?_
            refine jq_ixor dX1_join_108 ?_
            rw [tb_bx]
            refine xq_iastore dX1_join_109 (xs_lt (by decide) hn) rfl hip ?_
            refine hnext _ (xs_fr_ai (xs_fr_ai xs_fr_rf (by decide)) (by decide)) (fun a ha => ⟨?_, ?_⟩) ⟨?_, ?_⟩
            · rw [xs_ai_ne (by decide), xs_ai_at, xs_upd_ne (by omega) ha]
            · rw [xs_ai_at, xs_upd_ne (by omega) ha, xs_ai_ne (by decide)]
            · rw [xs_ai_ne (by decide), xs_ai_at, xs_upd_at (by omega), tb_ch_d h0 hdf]
              show _ = nI (if _ then _ else _)
              rw [if_pos c82]
            · rw [xs_ai_at, xs_upd_at (by omega), tb_ch_d h0 hdf]
              show _ = tb_b (if _ then _ else _)
              rw [if_pos c82, ← ht]
    refine jq_istore dX1_join_51 (by decide) rfl rfl ?_
    refine jq_aload_n dX1_join_53 rfl rfl ?_
    refine xq_getR 13 fX1_9 dX1_join_54 (xs_lt (by decide) hn) (by decide) ?_
    refine jq_iload_n dX1_join_57 rfl rfl ?_
    refine xq_iaload dX1_join_58 (xs_lt (by decide) hn) rfl hib (xs_rd (hC.1 _ ha2).1 (by omega)) ?_
    refine jq_istore dX1_join_59 (by decide) rfl rfl ?_
    refine jq_iconst (v := (nI 0)) dX1_join_61 (by decide) ?_
    refine jq_istore dX1_join_62 (by decide) rfl rfl ?_
    exact loop (tb_nc w h + 1) 0 X (by omega) xs_fr_rf ⟨hC.2.1, hC.2.2⟩ (fun a ha => absurd ha (Nat.not_lt_zero a)) (fun a _ ha => hC.1 a ha)
  refine xs_Ct_of (L := [some (.ref (ad 12)), some (.int (nI (tb_are w h e))), some (.int (nI (tb_bes w h e))), some (.int (tb_b (st e == 1))), none, none, none]) rfl (Nat.le_of_ble_eq_true rfl) rfl ?_
  refine jq_aload_n dX1_join_0 rfl rfl ?_
  refine jq_iload_n dX1_join_1 rfl rfl ?_
  refine jq_iload_n dX1_join_2 rfl rfl ?_
  refine xq_vI dX1_join_3 kX1_26 (c_X1_areJoined hn hW (by omega) hC ha1 ha2) (xs_lt (by decide) hn) ⟨rfl, rfl⟩ rfl rfl (Nat.le_of_ble_eq_true rfl) ⟨⟨by decide, by decide⟩, Nat.le_refl _, Nat.le_refl _⟩ ?_
  refine jq_if_eq (tgt := 36) dX1_join_6 (by decide) (fun c6 => ?_) (fun c6 => ?_)
  · have d6 : (tb_ch w h st e).1 (tb_are w h e) ≠ (tb_ch w h st e).1 (tb_bes w h e) := by have := tb_b0.mp c6; simpa using this
    refine jq_aload_n dX1_join_36 rfl rfl ?_
    refine jq_iload_n dX1_join_37 rfl rfl ?_
    refine jq_iload_n dX1_join_38 rfl rfl ?_
    refine xq_vI dX1_join_39 kX1_30 (c_X1_differ hn hW hC ha1 ha2) (xs_lt (by decide) hn) ⟨rfl, rfl⟩ rfl rfl (Nat.le_of_ble_eq_true rfl) ⟨⟨by decide, by decide⟩, Nat.le_refl _, Nat.le_refl _⟩ ?_
    refine jq_iload_n dX1_join_42 rfl rfl ?_
    refine jq_icmp_ne (tgt := 50) dX1_join_43 (by decide) (fun c43 => ?_) (fun c43 => ?_)
    · refine jq_iconst (v := 1) dX1_join_50 (by decide) ?_
      first
        | exact xs_nm tb_b0e (h51 d6 false (tb_ne_f (tb_b_eq.mp c43)))
        | exact xs_nm tb_b1e (h51 d6 true (tb_ne_t (fun q => c43 (tb_b_eq.mpr q))))
    · refine jq_iconst (v := 0) dX1_join_46 (by decide) ?_
      refine jq_goto (tgt := 51) dX1_join_47 (by decide) ?_
      first
        | exact xs_nm tb_b0e (h51 d6 false (tb_ne_f (tb_b_eq.mp c43)))
        | exact xs_nm tb_b1e (h51 d6 true (tb_ne_t (fun q => c43 (tb_b_eq.mpr q))))
  · have d6 : (tb_ch w h st e).1 (tb_are w h e) = (tb_ch w h st e).1 (tb_bes w h e) := by have := tb_b1.mp c6; simpa using this
    refine jq_aload_n dX1_join_9 rfl rfl ?_
    refine jq_aload_n dX1_join_10 rfl rfl ?_
    refine xq_getI fX1_22 dX1_join_11 (xs_lt (by decide) hn) (by decide) hC.2.2 ?_
    refine jq_if_ne (tgt := 27) dX1_join_14 (by decide) (fun c14 => ?_) (fun c14 => ?_)
    · have d14 := tb_b1.mp c14
      refine jq_iconst (v := 1) dX1_join_27 (by decide) ?_
      refine jq_goto (tgt := 32) dX1_join_28 (by decide) ?_
      first
        | exact xs_nm tb_b1e (h32 d6 true (by simp at d14; rw [d14]; rfl))
        | exact xs_nm tb_b0e (h32 d6 false (by simp at d14; simp only [tb_b_eq] at c24; rw [d14, c24]; simp))
        | exact xs_nm tb_b1e (h32 d6 true (by simp at d14; simp only [tb_b_eq] at c24; rw [d14]; simp [c24]))
    · have d14 := tb_b0.mp c14
      refine jq_aload_n dX1_join_17 rfl rfl ?_
      refine jq_iload_n dX1_join_18 rfl rfl ?_
      refine jq_iload_n dX1_join_19 rfl rfl ?_
      refine xq_vI dX1_join_20 kX1_30 (c_X1_differ hn hW hC ha1 ha2) (xs_lt (by decide) hn) ⟨rfl, rfl⟩ rfl rfl (Nat.le_of_ble_eq_true rfl) ⟨⟨by decide, by decide⟩, Nat.le_refl _, Nat.le_refl _⟩ ?_
      refine jq_iload_n dX1_join_23 rfl rfl ?_
      refine jq_icmp_eq (tgt := 31) dX1_join_24 (by decide) (fun c24 => ?_) (fun c24 => ?_)
      · refine jq_iconst (v := 0) dX1_join_31 (by decide) ?_
        first
          | exact xs_nm tb_b1e (h32 d6 true (by simp at d14; rw [d14]; rfl))
          | exact xs_nm tb_b0e (h32 d6 false (by simp at d14; simp only [tb_b_eq] at c24; rw [d14, c24]; simp))
          | exact xs_nm tb_b1e (h32 d6 true (by simp at d14; simp only [tb_b_eq] at c24; rw [d14]; simp [c24]))
      · refine jq_iconst (v := 1) dX1_join_27 (by decide) ?_
        refine jq_goto (tgt := 32) dX1_join_28 (by decide) ?_
        first
          | exact xs_nm tb_b1e (h32 d6 true (by simp at d14; rw [d14]; rfl))
          | exact xs_nm tb_b0e (h32 d6 false (by simp at d14; simp only [tb_b_eq] at c24; rw [d14, c24]; simp))
          | exact xs_nm tb_b1e (h32 d6 true (by simp at d14; simp only [tb_b_eq] at c24; rw [d14]; simp [c24]))
